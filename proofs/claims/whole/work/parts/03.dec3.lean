theorem dX9_compares_64 : decode cX9_compares 64 = .ok (.aload_n 0, 1) := by decide +kernel
theorem dX9_compares_65 : decode cX9_compares 65 = .ok (.getfield 187, 3) := by decide +kernel
theorem dX9_compares_68 : decode cX9_compares 68 = .ok (.iadd, 1) := by decide +kernel
theorem dX9_compares_69 : decode cX9_compares 69 = .ok (.aload_n 0, 1) := by decide +kernel
theorem dX9_compares_70 : decode cX9_compares 70 = .ok (.getfield 190, 3) := by decide +kernel
theorem dX9_compares_73 : decode cX9_compares 73 = .ok (.iastore, 1) := by decide +kernel
theorem dX9_compares_74 : decode cX9_compares 74 = .ok (.aload_n 0, 1) := by decide +kernel
theorem dX9_compares_75 : decode cX9_compares 75 = .ok (.iload_n 1, 1) := by decide +kernel
theorem dX9_compares_76 : decode cX9_compares 76 = .ok (.iload 4, 2) := by decide +kernel
theorem dX9_compares_78 : decode cX9_compares 78 = .ok (.iconst 1, 1) := by decide +kernel
theorem dX9_compares_79 : decode cX9_compares 79 = .ok (.iadd, 1) := by decide +kernel
theorem dX9_compares_80 : decode cX9_compares 80 = .ok (.iload_n 2, 1) := by decide +kernel
theorem dX9_compares_81 : decode cX9_compares 81 = .ok (.aload_n 0, 1) := by decide +kernel
theorem dX9_compares_82 : decode cX9_compares 82 = .ok (.getfield 56, 3) := by decide +kernel
theorem dX9_compares_85 : decode cX9_compares 85 = .ok (.iload_n 2, 1) := by decide +kernel
theorem dX9_compares_86 : decode cX9_compares 86 = .ok (.iaload, 1) := by decide +kernel
theorem dX9_compares_87 : decode cX9_compares 87 = .ok (.invokevirtual 202, 3) := by decide +kernel
theorem dX9_compares_90 : decode cX9_compares 90 = .ok (.iinc 4 1, 3) := by decide +kernel
theorem dX9_compares_93 : decode cX9_compares 93 = .ok (.goto (-57), 3) := by decide +kernel
theorem dX9_compares_96 : decode cX9_compares 96 = .ok (.return_, 1) := by decide +kernel
theorem dX9_parted_0 : decode cX9_parted 0 = .ok (.aload_n 0, 1) := by decide +kernel
theorem dX9_parted_1 : decode cX9_parted 1 = .ok (.iload_n 1, 1) := by decide +kernel
theorem dX9_parted_2 : decode cX9_parted 2 = .ok (.invokevirtual 104, 3) := by decide +kernel
theorem dX9_parted_5 : decode cX9_parted 5 = .ok (.ifCond .eq 32, 3) := by decide +kernel
theorem dX9_parted_8 : decode cX9_parted 8 = .ok (.aload_n 0, 1) := by decide +kernel
theorem dX9_parted_9 : decode cX9_parted 9 = .ok (.iload_n 2, 1) := by decide +kernel
theorem dX9_parted_10 : decode cX9_parted 10 = .ok (.invokevirtual 104, 3) := by decide +kernel
theorem dX9_parted_13 : decode cX9_parted 13 = .ok (.ifCond .eq 24, 3) := by decide +kernel
theorem dX9_parted_16 : decode cX9_parted 16 = .ok (.aload_n 0, 1) := by decide +kernel
theorem dX9_parted_17 : decode cX9_parted 17 = .ok (.iload_n 3, 1) := by decide +kernel
theorem dX9_parted_18 : decode cX9_parted 18 = .ok (.invokevirtual 96, 3) := by decide +kernel
theorem dX9_parted_21 : decode cX9_parted 21 = .ok (.ifCond .eq 16, 3) := by decide +kernel
theorem dX9_parted_24 : decode cX9_parted 24 = .ok (.aload_n 0, 1) := by decide +kernel
theorem dX9_parted_25 : decode cX9_parted 25 = .ok (.iload 4, 2) := by decide +kernel
theorem dX9_parted_27 : decode cX9_parted 27 = .ok (.invokevirtual 96, 3) := by decide +kernel
theorem dX9_parted_30 : decode cX9_parted 30 = .ok (.ifCond .eq 7, 3) := by decide +kernel
theorem dX9_parted_33 : decode cX9_parted 33 = .ok (.iconst 1, 1) := by decide +kernel
theorem dX9_parted_34 : decode cX9_parted 34 = .ok (.goto 4, 3) := by decide +kernel
theorem dX9_parted_37 : decode cX9_parted 37 = .ok (.iconst 0, 1) := by decide +kernel
theorem dX9_parted_38 : decode cX9_parted 38 = .ok (.istore 6, 2) := by decide +kernel
theorem dX9_parted_40 : decode cX9_parted 40 = .ok (.iload 6, 2) := by decide +kernel
theorem dX9_parted_42 : decode cX9_parted 42 = .ok (.ifCond .ne 7, 3) := by decide +kernel
theorem dX9_parted_45 : decode cX9_parted 45 = .ok (.iconst (-1), 1) := by decide +kernel
theorem dX9_parted_46 : decode cX9_parted 46 = .ok (.goto 54, 3) := by decide +kernel
theorem dX9_parted_49 : decode cX9_parted 49 = .ok (.aload_n 0, 1) := by decide +kernel
theorem dX9_parted_50 : decode cX9_parted 50 = .ok (.getfield 50, 3) := by decide +kernel
theorem dX9_parted_53 : decode cX9_parted 53 = .ok (.iload_n 3, 1) := by decide +kernel
theorem dX9_parted_54 : decode cX9_parted 54 = .ok (.iaload, 1) := by decide +kernel
theorem dX9_parted_55 : decode cX9_parted 55 = .ok (.iconst 2, 1) := by decide +kernel
theorem dX9_parted_56 : decode cX9_parted 56 = .ok (.if_icmp .eq 14, 3) := by decide +kernel
theorem dX9_parted_59 : decode cX9_parted 59 = .ok (.aload_n 0, 1) := by decide +kernel
theorem dX9_parted_60 : decode cX9_parted 60 = .ok (.getfield 50, 3) := by decide +kernel
theorem dX9_parted_63 : decode cX9_parted 63 = .ok (.iload 4, 2) := by decide +kernel
theorem dX9_parted_65 : decode cX9_parted 65 = .ok (.iaload, 1) := by decide +kernel
theorem dX9_parted_66 : decode cX9_parted 66 = .ok (.iconst 2, 1) := by decide +kernel
theorem dX9_parted_67 : decode cX9_parted 67 = .ok (.if_icmp .ne 8, 3) := by decide +kernel
theorem dX9_parted_70 : decode cX9_parted 70 = .ok (.bipush (-2), 2) := by decide +kernel
theorem dX9_parted_72 : decode cX9_parted 72 = .ok (.goto 28, 3) := by decide +kernel
theorem dX9_parted_75 : decode cX9_parted 75 = .ok (.aload_n 0, 1) := by decide +kernel
theorem dX9_parted_76 : decode cX9_parted 76 = .ok (.getfield 50, 3) := by decide +kernel
theorem dX9_parted_79 : decode cX9_parted 79 = .ok (.iload_n 3, 1) := by decide +kernel
theorem dX9_parted_80 : decode cX9_parted 80 = .ok (.iaload, 1) := by decide +kernel
theorem dX9_parted_81 : decode cX9_parted 81 = .ok (.ifCond .eq 13, 3) := by decide +kernel
theorem dX9_parted_84 : decode cX9_parted 84 = .ok (.aload_n 0, 1) := by decide +kernel
theorem dX9_parted_85 : decode cX9_parted 85 = .ok (.getfield 50, 3) := by decide +kernel
theorem dX9_parted_88 : decode cX9_parted 88 = .ok (.iload 4, 2) := by decide +kernel
theorem dX9_parted_90 : decode cX9_parted 90 = .ok (.iaload, 1) := by decide +kernel
theorem dX9_parted_91 : decode cX9_parted 91 = .ok (.ifCond .ne 8, 3) := by decide +kernel
theorem dX9_parted_94 : decode cX9_parted 94 = .ok (.bipush (-3), 2) := by decide +kernel
theorem dX9_parted_96 : decode cX9_parted 96 = .ok (.goto 4, 3) := by decide +kernel
theorem dX9_parted_99 : decode cX9_parted 99 = .ok (.iconst 0, 1) := by decide +kernel
theorem dX9_parted_100 : decode cX9_parted 100 = .ok (.istore 7, 2) := by decide +kernel
theorem dX9_parted_102 : decode cX9_parted 102 = .ok (.iload 7, 2) := by decide +kernel
theorem dX9_parted_104 : decode cX9_parted 104 = .ok (.ifCond .ne 79, 3) := by decide +kernel
theorem dX9_parted_107 : decode cX9_parted 107 = .ok (.iload_n 1, 1) := by decide +kernel
theorem dX9_parted_108 : decode cX9_parted 108 = .ok (.iload_n 2, 1) := by decide +kernel
theorem dX9_parted_109 : decode cX9_parted 109 = .ok (.if_icmp .eq 70, 3) := by decide +kernel
theorem dX9_parted_112 : decode cX9_parted 112 = .ok (.iload 5, 2) := by decide +kernel
theorem dX9_parted_114 : decode cX9_parted 114 = .ok (.iconst 1, 1) := by decide +kernel
theorem dX9_parted_115 : decode cX9_parted 115 = .ok (.if_icmp .lt 64, 3) := by decide +kernel
theorem dX9_parted_118 : decode cX9_parted 118 = .ok (.iload 5, 2) := by decide +kernel
theorem dX9_parted_120 : decode cX9_parted 120 = .ok (.sipush 200, 3) := by decide +kernel
theorem dX9_parted_123 : decode cX9_parted 123 = .ok (.if_icmp .gt 56, 3) := by decide +kernel
theorem dX9_parted_126 : decode cX9_parted 126 = .ok (.aload_n 0, 1) := by decide +kernel
theorem dX9_parted_127 : decode cX9_parted 127 = .ok (.getfield 56, 3) := by decide +kernel
theorem dX9_parted_130 : decode cX9_parted 130 = .ok (.iload_n 3, 1) := by decide +kernel
theorem dX9_parted_131 : decode cX9_parted 131 = .ok (.iaload, 1) := by decide +kernel
theorem dX9_parted_132 : decode cX9_parted 132 = .ok (.bipush 40, 2) := by decide +kernel
theorem dX9_parted_134 : decode cX9_parted 134 = .ok (.if_icmp .gt 45, 3) := by decide +kernel
theorem dX9_parted_137 : decode cX9_parted 137 = .ok (.aload_n 0, 1) := by decide +kernel
theorem dX9_parted_138 : decode cX9_parted 138 = .ok (.getfield 56, 3) := by decide +kernel
theorem dX9_parted_141 : decode cX9_parted 141 = .ok (.iload 4, 2) := by decide +kernel
theorem dX9_parted_143 : decode cX9_parted 143 = .ok (.iaload, 1) := by decide +kernel
theorem dX9_parted_144 : decode cX9_parted 144 = .ok (.bipush 40, 2) := by decide +kernel
theorem dX9_parted_146 : decode cX9_parted 146 = .ok (.if_icmp .gt 33, 3) := by decide +kernel
theorem dX9_parted_149 : decode cX9_parted 149 = .ok (.aload_n 0, 1) := by decide +kernel
theorem dX9_parted_150 : decode cX9_parted 150 = .ok (.iload_n 3, 1) := by decide +kernel
theorem dX9_parted_151 : decode cX9_parted 151 = .ok (.aload_n 0, 1) := by decide +kernel
theorem dX9_parted_152 : decode cX9_parted 152 = .ok (.getfield 56, 3) := by decide +kernel
theorem dX9_parted_155 : decode cX9_parted 155 = .ok (.iload_n 3, 1) := by decide +kernel
theorem dX9_parted_156 : decode cX9_parted 156 = .ok (.iaload, 1) := by decide +kernel
theorem dX9_parted_157 : decode cX9_parted 157 = .ok (.invokevirtual 209, 3) := by decide +kernel
theorem dX9_parted_160 : decode cX9_parted 160 = .ok (.ifCond .eq 19, 3) := by decide +kernel
theorem dX9_parted_163 : decode cX9_parted 163 = .ok (.aload_n 0, 1) := by decide +kernel
theorem dX9_parted_164 : decode cX9_parted 164 = .ok (.iload 4, 2) := by decide +kernel
theorem dX9_parted_166 : decode cX9_parted 166 = .ok (.aload_n 0, 1) := by decide +kernel
theorem dX9_parted_167 : decode cX9_parted 167 = .ok (.getfield 56, 3) := by decide +kernel
theorem dX9_parted_170 : decode cX9_parted 170 = .ok (.iload 4, 2) := by decide +kernel
theorem dX9_parted_172 : decode cX9_parted 172 = .ok (.iaload, 1) := by decide +kernel
theorem dX9_parted_173 : decode cX9_parted 173 = .ok (.invokevirtual 209, 3) := by decide +kernel
theorem dX9_parted_176 : decode cX9_parted 176 = .ok (.ifCond .ne 7, 3) := by decide +kernel
theorem dX9_parted_179 : decode cX9_parted 179 = .ok (.bipush (-6), 2) := by decide +kernel
theorem dX9_parted_181 : decode cX9_parted 181 = .ok (.istore 7, 2) := by decide +kernel
theorem dX9_parted_183 : decode cX9_parted 183 = .ok (.iload 7, 2) := by decide +kernel
theorem dX9_parted_185 : decode cX9_parted 185 = .ok (.ifCond .eq 10, 3) := by decide +kernel
theorem dX9_parted_188 : decode cX9_parted 188 = .ok (.aload_n 0, 1) := by decide +kernel
theorem dX9_parted_189 : decode cX9_parted 189 = .ok (.iload 7, 2) := by decide +kernel
theorem dX9_parted_191 : decode cX9_parted 191 = .ok (.invokevirtual 212, 3) := by decide +kernel
theorem dX9_parted_194 : decode cX9_parted 194 = .ok (.ireturn, 1) := by decide +kernel
theorem dX9_parted_195 : decode cX9_parted 195 = .ok (.aload_n 0, 1) := by decide +kernel
theorem dX9_parted_196 : decode cX9_parted 196 = .ok (.iload_n 1, 1) := by decide +kernel
theorem dX9_parted_197 : decode cX9_parted 197 = .ok (.iload_n 3, 1) := by decide +kernel
theorem dX9_parted_198 : decode cX9_parted 198 = .ok (.iconst 0, 1) := by decide +kernel
theorem dX9_parted_199 : decode cX9_parted 199 = .ok (.invokevirtual 254, 3) := by decide +kernel
theorem dX9_parted_202 : decode cX9_parted 202 = .ok (.aload_n 0, 1) := by decide +kernel
theorem dX9_parted_203 : decode cX9_parted 203 = .ok (.iload_n 2, 1) := by decide +kernel
theorem dX9_parted_204 : decode cX9_parted 204 = .ok (.iload 4, 2) := by decide +kernel
theorem dX9_parted_206 : decode cX9_parted 206 = .ok (.sipush 201, 3) := by decide +kernel
theorem dX9_parted_209 : decode cX9_parted 209 = .ok (.invokevirtual 254, 3) := by decide +kernel
theorem dX9_parted_212 : decode cX9_parted 212 = .ok (.iload 5, 2) := by decide +kernel
theorem dX9_parted_214 : decode cX9_parted 214 = .ok (.istore 8, 2) := by decide +kernel
theorem dX9_parted_216 : decode cX9_parted 216 = .ok (.iload 8, 2) := by decide +kernel
theorem dX9_parted_218 : decode cX9_parted 218 = .ok (.aload_n 0, 1) := by decide +kernel
theorem dX9_parted_219 : decode cX9_parted 219 = .ok (.getfield 7, 3) := by decide +kernel
theorem dX9_parted_222 : decode cX9_parted 222 = .ok (.if_icmp .gt 37, 3) := by decide +kernel
theorem dX9_parted_225 : decode cX9_parted 225 = .ok (.aload_n 0, 1) := by decide +kernel
theorem dX9_parted_226 : decode cX9_parted 226 = .ok (.getfield 87, 3) := by decide +kernel
theorem dX9_parted_229 : decode cX9_parted 229 = .ok (.iload 8, 2) := by decide +kernel
theorem dX9_parted_231 : decode cX9_parted 231 = .ok (.iaload, 1) := by decide +kernel
theorem dX9_parted_232 : decode cX9_parted 232 = .ok (.aload_n 0, 1) := by decide +kernel
theorem dX9_parted_233 : decode cX9_parted 233 = .ok (.getfield 87, 3) := by decide +kernel
theorem dX9_parted_236 : decode cX9_parted 236 = .ok (.sipush 201, 3) := by decide +kernel
theorem dX9_parted_239 : decode cX9_parted 239 = .ok (.iload 8, 2) := by decide +kernel
theorem dX9_parted_241 : decode cX9_parted 241 = .ok (.iadd, 1) := by decide +kernel
theorem dX9_parted_242 : decode cX9_parted 242 = .ok (.iaload, 1) := by decide +kernel
theorem dX9_parted_243 : decode cX9_parted 243 = .ok (.if_icmp .eq 6, 3) := by decide +kernel
theorem dX9_parted_246 : decode cX9_parted 246 = .ok (.iload 8, 2) := by decide +kernel
theorem dX9_parted_248 : decode cX9_parted 248 = .ok (.ireturn, 1) := by decide +kernel
theorem dX9_parted_249 : decode cX9_parted 249 = .ok (.iload 8, 2) := by decide +kernel
theorem dX9_parted_251 : decode cX9_parted 251 = .ok (.iload 5, 2) := by decide +kernel
theorem dX9_parted_253 : decode cX9_parted 253 = .ok (.iadd, 1) := by decide +kernel
theorem dX9_parted_254 : decode cX9_parted 254 = .ok (.istore 8, 2) := by decide +kernel
theorem dX9_parted_256 : decode cX9_parted 256 = .ok (.goto (-40), 3) := by decide +kernel
theorem dX9_parted_259 : decode cX9_parted 259 = .ok (.iconst (-1), 1) := by decide +kernel
theorem dX9_parted_260 : decode cX9_parted 260 = .ok (.ireturn, 1) := by decide +kernel
theorem dX9_tally_0 : decode cX9_tally 0 = .ok (.iload_n 1, 1) := by decide +kernel
theorem dX9_tally_1 : decode cX9_tally 1 = .ok (.ifCond .lt 10, 3) := by decide +kernel
theorem dX9_tally_4 : decode cX9_tally 4 = .ok (.iload_n 1, 1) := by decide +kernel
theorem dX9_tally_5 : decode cX9_tally 5 = .ok (.sipush 9999, 3) := by decide +kernel
theorem dX9_tally_8 : decode cX9_tally 8 = .ok (.if_icmp .le 10, 3) := by decide +kernel
theorem dX9_tally_11 : decode cX9_tally 11 = .ok (.aload_n 0, 1) := by decide +kernel
theorem dX9_tally_12 : decode cX9_tally 12 = .ok (.bipush (-6), 2) := by decide +kernel
theorem dX9_tally_14 : decode cX9_tally 14 = .ok (.invokevirtual 100, 3) := by decide +kernel
theorem dX9_tally_17 : decode cX9_tally 17 = .ok (.ireturn, 1) := by decide +kernel
theorem dX9_tally_18 : decode cX9_tally 18 = .ok (.aload_n 0, 1) := by decide +kernel
theorem dX9_tally_19 : decode cX9_tally 19 = .ok (.getfield 150, 3) := by decide +kernel
theorem dX9_tally_22 : decode cX9_tally 22 = .ok (.bipush 8, 2) := by decide +kernel
theorem dX9_tally_24 : decode cX9_tally 24 = .ok (.if_icmp .ne 10, 3) := by decide +kernel
theorem dX9_tally_27 : decode cX9_tally 27 = .ok (.aload_n 0, 1) := by decide +kernel
theorem dX9_tally_28 : decode cX9_tally 28 = .ok (.bipush (-7), 2) := by decide +kernel
theorem dX9_tally_30 : decode cX9_tally 30 = .ok (.invokevirtual 100, 3) := by decide +kernel
theorem dX9_tally_33 : decode cX9_tally 33 = .ok (.ireturn, 1) := by decide +kernel
theorem dX9_tally_34 : decode cX9_tally 34 = .ok (.aload_n 0, 1) := by decide +kernel
theorem dX9_tally_35 : decode cX9_tally 35 = .ok (.getfield 47, 3) := by decide +kernel
theorem dX9_tally_38 : decode cX9_tally 38 = .ok (.aload_n 0, 1) := by decide +kernel
theorem dX9_tally_39 : decode cX9_tally 39 = .ok (.getfield 150, 3) := by decide +kernel
theorem dX9_tally_42 : decode cX9_tally 42 = .ok (.iload_n 1, 1) := by decide +kernel
theorem dX9_tally_43 : decode cX9_tally 43 = .ok (.iastore, 1) := by decide +kernel
theorem dX9_tally_44 : decode cX9_tally 44 = .ok (.aload_n 0, 1) := by decide +kernel
theorem dX9_tally_45 : decode cX9_tally 45 = .ok (.dup, 1) := by decide +kernel
theorem dX9_tally_46 : decode cX9_tally 46 = .ok (.getfield 150, 3) := by decide +kernel
theorem dX9_tally_49 : decode cX9_tally 49 = .ok (.iconst 1, 1) := by decide +kernel
theorem dX9_tally_50 : decode cX9_tally 50 = .ok (.iadd, 1) := by decide +kernel
theorem dX9_tally_51 : decode cX9_tally 51 = .ok (.putfield 150, 3) := by decide +kernel
theorem dX9_tally_54 : decode cX9_tally 54 = .ok (.aload_n 0, 1) := by decide +kernel
theorem dX9_tally_55 : decode cX9_tally 55 = .ok (.getfield 150, 3) := by decide +kernel
theorem dX9_tally_58 : decode cX9_tally 58 = .ok (.ireturn, 1) := by decide +kernel
theorem dX9_haveIt_0 : decode cX9_haveIt 0 = .ok (.iconst 0, 1) := by decide +kernel
theorem dX9_haveIt_1 : decode cX9_haveIt 1 = .ok (.istore_n 2, 1) := by decide +kernel
theorem dX9_haveIt_2 : decode cX9_haveIt 2 = .ok (.iconst 0, 1) := by decide +kernel
theorem dX9_haveIt_3 : decode cX9_haveIt 3 = .ok (.istore_n 3, 1) := by decide +kernel
theorem dX9_haveIt_4 : decode cX9_haveIt 4 = .ok (.iload_n 3, 1) := by decide +kernel
theorem dX9_haveIt_5 : decode cX9_haveIt 5 = .ok (.aload_n 0, 1) := by decide +kernel
theorem dX9_haveIt_6 : decode cX9_haveIt 6 = .ok (.getfield 150, 3) := by decide +kernel
theorem dX9_haveIt_9 : decode cX9_haveIt 9 = .ok (.if_icmp .ge 22, 3) := by decide +kernel
theorem dX9_haveIt_12 : decode cX9_haveIt 12 = .ok (.aload_n 0, 1) := by decide +kernel
theorem dX9_haveIt_13 : decode cX9_haveIt 13 = .ok (.getfield 47, 3) := by decide +kernel
theorem dX9_haveIt_16 : decode cX9_haveIt 16 = .ok (.iload_n 3, 1) := by decide +kernel
theorem dX9_haveIt_17 : decode cX9_haveIt 17 = .ok (.iaload, 1) := by decide +kernel
theorem dX9_haveIt_18 : decode cX9_haveIt 18 = .ok (.iload_n 1, 1) := by decide +kernel
theorem dX9_haveIt_19 : decode cX9_haveIt 19 = .ok (.if_icmp .ne 6, 3) := by decide +kernel
theorem dX9_haveIt_22 : decode cX9_haveIt 22 = .ok (.iinc 2 1, 3) := by decide +kernel
theorem dX9_haveIt_25 : decode cX9_haveIt 25 = .ok (.iinc 3 1, 3) := by decide +kernel
theorem dX9_haveIt_28 : decode cX9_haveIt 28 = .ok (.goto (-24), 3) := by decide +kernel
theorem dX9_haveIt_31 : decode cX9_haveIt 31 = .ok (.iload_n 2, 1) := by decide +kernel
theorem dX9_haveIt_32 : decode cX9_haveIt 32 = .ok (.ireturn, 1) := by decide +kernel
theorem dX9_truth_0 : decode cX9_truth 0 = .ok (.iconst (-1), 1) := by decide +kernel
theorem dX9_truth_1 : decode cX9_truth 1 = .ok (.istore_n 1, 1) := by decide +kernel
theorem dX9_truth_2 : decode cX9_truth 2 = .ok (.iconst 0, 1) := by decide +kernel
theorem dX9_truth_3 : decode cX9_truth 3 = .ok (.istore_n 2, 1) := by decide +kernel
theorem dX9_truth_4 : decode cX9_truth 4 = .ok (.iload_n 2, 1) := by decide +kernel
theorem dX9_truth_5 : decode cX9_truth 5 = .ok (.aload_n 0, 1) := by decide +kernel
theorem dX9_truth_6 : decode cX9_truth 6 = .ok (.getfield 150, 3) := by decide +kernel
theorem dX9_truth_9 : decode cX9_truth 9 = .ok (.if_icmp .ge 53, 3) := by decide +kernel
theorem dX9_truth_12 : decode cX9_truth 12 = .ok (.aload_n 0, 1) := by decide +kernel
theorem dX9_truth_13 : decode cX9_truth 13 = .ok (.aload_n 0, 1) := by decide +kernel
theorem dX9_truth_14 : decode cX9_truth 14 = .ok (.getfield 47, 3) := by decide +kernel
theorem dX9_truth_17 : decode cX9_truth 17 = .ok (.iload_n 2, 1) := by decide +kernel
theorem dX9_truth_18 : decode cX9_truth 18 = .ok (.iaload, 1) := by decide +kernel
theorem dX9_truth_19 : decode cX9_truth 19 = .ok (.invokevirtual 258, 3) := by decide +kernel
theorem dX9_truth_22 : decode cX9_truth 22 = .ok (.aload_n 0, 1) := by decide +kernel
theorem dX9_truth_23 : decode cX9_truth 23 = .ok (.getfield 150, 3) := by decide +kernel
theorem dX9_truth_26 : decode cX9_truth 26 = .ok (.iconst 1, 1) := by decide +kernel
theorem dX9_truth_27 : decode cX9_truth 27 = .ok (.isub, 1) := by decide +kernel
theorem dX9_truth_28 : decode cX9_truth 28 = .ok (.if_icmp .ge 6, 3) := by decide +kernel
theorem dX9_truth_31 : decode cX9_truth 31 = .ok (.goto 25, 3) := by decide +kernel
theorem dX9_truth_34 : decode cX9_truth 34 = .ok (.iload_n 1, 1) := by decide +kernel
theorem dX9_truth_35 : decode cX9_truth 35 = .ok (.iconst (-1), 1) := by decide +kernel
theorem dX9_truth_36 : decode cX9_truth 36 = .ok (.if_icmp .eq 13, 3) := by decide +kernel
theorem dX9_truth_39 : decode cX9_truth 39 = .ok (.aload_n 0, 1) := by decide +kernel
theorem dX9_truth_40 : decode cX9_truth 40 = .ok (.getfield 47, 3) := by decide +kernel
theorem dX9_truth_43 : decode cX9_truth 43 = .ok (.iload_n 2, 1) := by decide +kernel
theorem dX9_truth_44 : decode cX9_truth 44 = .ok (.iaload, 1) := by decide +kernel
theorem dX9_truth_45 : decode cX9_truth 45 = .ok (.iload_n 1, 1) := by decide +kernel
theorem dX9_truth_46 : decode cX9_truth 46 = .ok (.if_icmp .ge 10, 3) := by decide +kernel
theorem dX9_truth_49 : decode cX9_truth 49 = .ok (.aload_n 0, 1) := by decide +kernel
theorem dX9_truth_50 : decode cX9_truth 50 = .ok (.getfield 47, 3) := by decide +kernel
theorem dX9_truth_53 : decode cX9_truth 53 = .ok (.iload_n 2, 1) := by decide +kernel
theorem dX9_truth_54 : decode cX9_truth 54 = .ok (.iaload, 1) := by decide +kernel
theorem dX9_truth_55 : decode cX9_truth 55 = .ok (.istore_n 1, 1) := by decide +kernel
theorem dX9_truth_56 : decode cX9_truth 56 = .ok (.iinc 2 1, 3) := by decide +kernel
theorem dX9_truth_59 : decode cX9_truth 59 = .ok (.goto (-55), 3) := by decide +kernel
theorem dX9_truth_62 : decode cX9_truth 62 = .ok (.iload_n 1, 1) := by decide +kernel
theorem dX9_truth_63 : decode cX9_truth 63 = .ok (.ireturn, 1) := by decide +kernel
theorem dX9_liar_0 : decode cX9_liar 0 = .ok (.iconst 0, 1) := by decide +kernel
theorem dX9_liar_1 : decode cX9_liar 1 = .ok (.istore_n 1, 1) := by decide +kernel
theorem dX9_liar_2 : decode cX9_liar 2 = .ok (.iload_n 1, 1) := by decide +kernel
theorem dX9_liar_3 : decode cX9_liar 3 = .ok (.aload_n 0, 1) := by decide +kernel
theorem dX9_liar_4 : decode cX9_liar 4 = .ok (.getfield 150, 3) := by decide +kernel
theorem dX9_liar_7 : decode cX9_liar 7 = .ok (.if_icmp .ge 58, 3) := by decide +kernel
theorem dX9_liar_10 : decode cX9_liar 10 = .ok (.aload_n 0, 1) := by decide +kernel
theorem dX9_liar_11 : decode cX9_liar 11 = .ok (.getfield 150, 3) := by decide +kernel
theorem dX9_liar_14 : decode cX9_liar 14 = .ok (.iconst 2, 1) := by decide +kernel
theorem dX9_liar_15 : decode cX9_liar 15 = .ok (.if_icmp .le 50, 3) := by decide +kernel
theorem dX9_liar_18 : decode cX9_liar 18 = .ok (.aload_n 0, 1) := by decide +kernel
theorem dX9_liar_19 : decode cX9_liar 19 = .ok (.getfield 47, 3) := by decide +kernel
theorem dX9_liar_22 : decode cX9_liar 22 = .ok (.iload_n 1, 1) := by decide +kernel
theorem dX9_liar_23 : decode cX9_liar 23 = .ok (.ifCond .ne 7, 3) := by decide +kernel
theorem dX9_liar_26 : decode cX9_liar 26 = .ok (.iconst 1, 1) := by decide +kernel
theorem dX9_liar_27 : decode cX9_liar 27 = .ok (.goto 4, 3) := by decide +kernel
theorem dX9_liar_30 : decode cX9_liar 30 = .ok (.iconst 0, 1) := by decide +kernel
theorem dX9_liar_31 : decode cX9_liar 31 = .ok (.iaload, 1) := by decide +kernel
theorem dX9_liar_32 : decode cX9_liar 32 = .ok (.istore_n 2, 1) := by decide +kernel
theorem dX9_liar_33 : decode cX9_liar 33 = .ok (.iload_n 2, 1) := by decide +kernel
theorem dX9_liar_34 : decode cX9_liar 34 = .ok (.aload_n 0, 1) := by decide +kernel
theorem dX9_liar_35 : decode cX9_liar 35 = .ok (.getfield 47, 3) := by decide +kernel
theorem dX9_liar_38 : decode cX9_liar 38 = .ok (.iload_n 1, 1) := by decide +kernel
theorem dX9_liar_39 : decode cX9_liar 39 = .ok (.iaload, 1) := by decide +kernel
theorem dX9_liar_40 : decode cX9_liar 40 = .ok (.if_icmp .eq 19, 3) := by decide +kernel
theorem dX9_liar_43 : decode cX9_liar 43 = .ok (.aload_n 0, 1) := by decide +kernel
theorem dX9_liar_44 : decode cX9_liar 44 = .ok (.iload_n 2, 1) := by decide +kernel
theorem dX9_liar_45 : decode cX9_liar 45 = .ok (.invokevirtual 258, 3) := by decide +kernel
theorem dX9_liar_48 : decode cX9_liar 48 = .ok (.aload_n 0, 1) := by decide +kernel
theorem dX9_liar_49 : decode cX9_liar 49 = .ok (.getfield 150, 3) := by decide +kernel
theorem dX9_liar_52 : decode cX9_liar 52 = .ok (.iconst 1, 1) := by decide +kernel
theorem dX9_liar_53 : decode cX9_liar 53 = .ok (.isub, 1) := by decide +kernel
theorem dX9_liar_54 : decode cX9_liar 54 = .ok (.if_icmp .ne 5, 3) := by decide +kernel
theorem dX9_liar_57 : decode cX9_liar 57 = .ok (.iload_n 1, 1) := by decide +kernel
theorem dX9_liar_58 : decode cX9_liar 58 = .ok (.ireturn, 1) := by decide +kernel
theorem dX9_liar_59 : decode cX9_liar 59 = .ok (.iinc 1 1, 3) := by decide +kernel
theorem dX9_liar_62 : decode cX9_liar 62 = .ok (.goto (-60), 3) := by decide +kernel
theorem dX9_liar_65 : decode cX9_liar 65 = .ok (.iconst (-1), 1) := by decide +kernel
theorem dX9_liar_66 : decode cX9_liar 66 = .ok (.ireturn, 1) := by decide +kernel
theorem dX9_spread_0 : decode cX9_spread 0 = .ok (.sipush 10000, 3) := by decide +kernel
theorem dX9_spread_3 : decode cX9_spread 3 = .ok (.istore_n 1, 1) := by decide +kernel
theorem dX9_spread_4 : decode cX9_spread 4 = .ok (.iconst (-1), 1) := by decide +kernel
theorem dX9_spread_5 : decode cX9_spread 5 = .ok (.istore_n 2, 1) := by decide +kernel
theorem dX9_spread_6 : decode cX9_spread 6 = .ok (.iconst 0, 1) := by decide +kernel
theorem dX9_spread_7 : decode cX9_spread 7 = .ok (.istore_n 3, 1) := by decide +kernel
theorem dX9_spread_8 : decode cX9_spread 8 = .ok (.iload_n 3, 1) := by decide +kernel
theorem dX9_spread_9 : decode cX9_spread 9 = .ok (.aload_n 0, 1) := by decide +kernel
theorem dX9_spread_10 : decode cX9_spread 10 = .ok (.getfield 150, 3) := by decide +kernel
theorem dX9_spread_13 : decode cX9_spread 13 = .ok (.if_icmp .ge 51, 3) := by decide +kernel
theorem dX9_spread_16 : decode cX9_spread 16 = .ok (.aload_n 0, 1) := by decide +kernel
theorem dX9_spread_17 : decode cX9_spread 17 = .ok (.getfield 47, 3) := by decide +kernel
theorem dX9_spread_20 : decode cX9_spread 20 = .ok (.iload_n 3, 1) := by decide +kernel
theorem dX9_spread_21 : decode cX9_spread 21 = .ok (.iaload, 1) := by decide +kernel
theorem dX9_spread_22 : decode cX9_spread 22 = .ok (.iload_n 1, 1) := by decide +kernel
theorem dX9_spread_23 : decode cX9_spread 23 = .ok (.if_icmp .ge 12, 3) := by decide +kernel
theorem dX9_spread_26 : decode cX9_spread 26 = .ok (.aload_n 0, 1) := by decide +kernel
theorem dX9_spread_27 : decode cX9_spread 27 = .ok (.getfield 47, 3) := by decide +kernel
theorem dX9_spread_30 : decode cX9_spread 30 = .ok (.iload_n 3, 1) := by decide +kernel
theorem dX9_spread_31 : decode cX9_spread 31 = .ok (.iaload, 1) := by decide +kernel
theorem dX9_spread_32 : decode cX9_spread 32 = .ok (.goto 4, 3) := by decide +kernel
theorem dX9_spread_35 : decode cX9_spread 35 = .ok (.iload_n 1, 1) := by decide +kernel
theorem dX9_spread_36 : decode cX9_spread 36 = .ok (.istore_n 1, 1) := by decide +kernel
theorem dX9_spread_37 : decode cX9_spread 37 = .ok (.aload_n 0, 1) := by decide +kernel
theorem dX9_spread_38 : decode cX9_spread 38 = .ok (.getfield 47, 3) := by decide +kernel
theorem dX9_spread_41 : decode cX9_spread 41 = .ok (.iload_n 3, 1) := by decide +kernel
theorem dX9_spread_42 : decode cX9_spread 42 = .ok (.iaload, 1) := by decide +kernel
theorem dX9_spread_43 : decode cX9_spread 43 = .ok (.iload_n 2, 1) := by decide +kernel
theorem dX9_spread_44 : decode cX9_spread 44 = .ok (.if_icmp .le 12, 3) := by decide +kernel
theorem dX9_spread_47 : decode cX9_spread 47 = .ok (.aload_n 0, 1) := by decide +kernel
theorem dX9_spread_48 : decode cX9_spread 48 = .ok (.getfield 47, 3) := by decide +kernel
theorem dX9_spread_51 : decode cX9_spread 51 = .ok (.iload_n 3, 1) := by decide +kernel
theorem dX9_spread_52 : decode cX9_spread 52 = .ok (.iaload, 1) := by decide +kernel
theorem dX9_spread_53 : decode cX9_spread 53 = .ok (.goto 4, 3) := by decide +kernel
theorem dX9_spread_56 : decode cX9_spread 56 = .ok (.iload_n 2, 1) := by decide +kernel
theorem dX9_spread_57 : decode cX9_spread 57 = .ok (.istore_n 2, 1) := by decide +kernel
theorem dX9_spread_58 : decode cX9_spread 58 = .ok (.iinc 3 1, 3) := by decide +kernel
theorem dX9_spread_61 : decode cX9_spread 61 = .ok (.goto (-53), 3) := by decide +kernel
theorem dX9_spread_64 : decode cX9_spread 64 = .ok (.aload_n 0, 1) := by decide +kernel
theorem dX9_spread_65 : decode cX9_spread 65 = .ok (.getfield 150, 3) := by decide +kernel
theorem dX9_spread_68 : decode cX9_spread 68 = .ok (.ifCond .ne 7, 3) := by decide +kernel
theorem dX9_spread_71 : decode cX9_spread 71 = .ok (.iconst 0, 1) := by decide +kernel
theorem dX9_spread_72 : decode cX9_spread 72 = .ok (.goto 6, 3) := by decide +kernel
theorem dX9_spread_75 : decode cX9_spread 75 = .ok (.iload_n 2, 1) := by decide +kernel
theorem dX9_spread_76 : decode cX9_spread 76 = .ok (.iload_n 1, 1) := by decide +kernel
theorem dX9_spread_77 : decode cX9_spread 77 = .ok (.isub, 1) := by decide +kernel
theorem dX9_spread_78 : decode cX9_spread 78 = .ok (.ireturn, 1) := by decide +kernel
theorem dX9_tallies_0 : decode cX9_tallies 0 = .ok (.iload_n 1, 1) := by decide +kernel
theorem dX9_tallies_1 : decode cX9_tallies 1 = .ok (.bipush 10, 2) := by decide +kernel
theorem dX9_tallies_3 : decode cX9_tallies 3 = .ok (.if_icmp .lt 24, 3) := by decide +kernel
theorem dX9_tallies_6 : decode cX9_tallies 6 = .ok (.iload_n 1, 1) := by decide +kernel
theorem dX9_tallies_7 : decode cX9_tallies 7 = .ok (.bipush 10, 2) := by decide +kernel
theorem dX9_tallies_9 : decode cX9_tallies 9 = .ok (.aload_n 0, 1) := by decide +kernel
theorem dX9_tallies_10 : decode cX9_tallies 10 = .ok (.getfield 150, 3) := by decide +kernel
theorem dX9_tallies_13 : decode cX9_tallies 13 = .ok (.iadd, 1) := by decide +kernel
theorem dX9_tallies_14 : decode cX9_tallies 14 = .ok (.if_icmp .ge 13, 3) := by decide +kernel
theorem dX9_tallies_17 : decode cX9_tallies 17 = .ok (.aload_n 0, 1) := by decide +kernel
theorem dX9_tallies_18 : decode cX9_tallies 18 = .ok (.getfield 47, 3) := by decide +kernel
theorem dX9_tallies_21 : decode cX9_tallies 21 = .ok (.iload_n 1, 1) := by decide +kernel
theorem dX9_tallies_22 : decode cX9_tallies 22 = .ok (.bipush 10, 2) := by decide +kernel
theorem dX9_tallies_24 : decode cX9_tallies 24 = .ok (.isub, 1) := by decide +kernel
theorem dX9_tallies_25 : decode cX9_tallies 25 = .ok (.iaload, 1) := by decide +kernel
theorem dX9_tallies_26 : decode cX9_tallies 26 = .ok (.ireturn, 1) := by decide +kernel
theorem dX9_tallies_27 : decode cX9_tallies 27 = .ok (.iload_n 1, 1) := by decide +kernel
theorem dX9_tallies_28 : decode cX9_tallies 28 = .ok (.tableswitch 52 0 3 #[32, 37, 42, 47], 32) := by decide +kernel
theorem dX9_tallies_60 : decode cX9_tallies 60 = .ok (.aload_n 0, 1) := by decide +kernel
theorem dX9_tallies_61 : decode cX9_tallies 61 = .ok (.invokevirtual 261, 3) := by decide +kernel
theorem dX9_tallies_64 : decode cX9_tallies 64 = .ok (.ireturn, 1) := by decide +kernel
theorem dX9_tallies_65 : decode cX9_tallies 65 = .ok (.aload_n 0, 1) := by decide +kernel
theorem dX9_tallies_66 : decode cX9_tallies 66 = .ok (.invokevirtual 264, 3) := by decide +kernel
theorem dX9_tallies_69 : decode cX9_tallies 69 = .ok (.ireturn, 1) := by decide +kernel
theorem dX9_tallies_70 : decode cX9_tallies 70 = .ok (.aload_n 0, 1) := by decide +kernel
theorem dX9_tallies_71 : decode cX9_tallies 71 = .ok (.invokevirtual 267, 3) := by decide +kernel
theorem dX9_tallies_74 : decode cX9_tallies 74 = .ok (.ireturn, 1) := by decide +kernel
theorem dX9_tallies_75 : decode cX9_tallies 75 = .ok (.aload_n 0, 1) := by decide +kernel
theorem dX9_tallies_76 : decode cX9_tallies 76 = .ok (.getfield 150, 3) := by decide +kernel
theorem dX9_tallies_79 : decode cX9_tallies 79 = .ok (.ireturn, 1) := by decide +kernel
theorem dX9_tallies_80 : decode cX9_tallies 80 = .ok (.aload_n 0, 1) := by decide +kernel
theorem dX9_tallies_81 : decode cX9_tallies 81 = .ok (.bipush (-5), 2) := by decide +kernel
theorem dX9_tallies_83 : decode cX9_tallies 83 = .ok (.invokevirtual 212, 3) := by decide +kernel
theorem dX9_tallies_86 : decode cX9_tallies 86 = .ok (.ireturn, 1) := by decide +kernel
theorem dX9_forget_0 : decode cX9_forget 0 = .ok (.aload_n 0, 1) := by decide +kernel
theorem dX9_forget_1 : decode cX9_forget 1 = .ok (.getfield 150, 3) := by decide +kernel
theorem dX9_forget_4 : decode cX9_forget 4 = .ok (.istore_n 1, 1) := by decide +kernel
theorem dX9_forget_5 : decode cX9_forget 5 = .ok (.aload_n 0, 1) := by decide +kernel
theorem dX9_forget_6 : decode cX9_forget 6 = .ok (.iconst 0, 1) := by decide +kernel
theorem dX9_forget_7 : decode cX9_forget 7 = .ok (.putfield 150, 3) := by decide +kernel
theorem dX9_forget_10 : decode cX9_forget 10 = .ok (.iload_n 1, 1) := by decide +kernel
theorem dX9_forget_11 : decode cX9_forget 11 = .ok (.ireturn, 1) := by decide +kernel
theorem dX9_counts_0 : decode cX9_counts 0 = .ok (.aload_n 0, 1) := by decide +kernel
theorem dX9_counts_1 : decode cX9_counts 1 = .ok (.getfield 38, 3) := by decide +kernel
theorem dX9_counts_4 : decode cX9_counts 4 = .ok (.iload_n 1, 1) := by decide +kernel
theorem dX9_counts_5 : decode cX9_counts 5 = .ok (.dup2, 1) := by decide +kernel
theorem dX9_counts_6 : decode cX9_counts 6 = .ok (.iaload, 1) := by decide +kernel
theorem dX9_counts_7 : decode cX9_counts 7 = .ok (.iconst 1, 1) := by decide +kernel
theorem dX9_counts_8 : decode cX9_counts 8 = .ok (.iadd, 1) := by decide +kernel
theorem dX9_counts_9 : decode cX9_counts 9 = .ok (.iastore, 1) := by decide +kernel
theorem dX9_counts_10 : decode cX9_counts 10 = .ok (.aload_n 0, 1) := by decide +kernel
theorem dX9_counts_11 : decode cX9_counts 11 = .ok (.getfield 38, 3) := by decide +kernel
theorem dX9_counts_14 : decode cX9_counts 14 = .ok (.iload_n 1, 1) := by decide +kernel
theorem dX9_counts_15 : decode cX9_counts 15 = .ok (.iaload, 1) := by decide +kernel
theorem dX9_counts_16 : decode cX9_counts 16 = .ok (.aload_n 0, 1) := by decide +kernel
theorem dX9_counts_17 : decode cX9_counts 17 = .ok (.getfield 7, 3) := by decide +kernel
theorem dX9_counts_20 : decode cX9_counts 20 = .ok (.if_icmp .ne 13, 3) := by decide +kernel
theorem dX9_counts_23 : decode cX9_counts 23 = .ok (.aload_n 0, 1) := by decide +kernel
theorem dX9_counts_24 : decode cX9_counts 24 = .ok (.dup, 1) := by decide +kernel
theorem dX9_counts_25 : decode cX9_counts 25 = .ok (.getfield 173, 3) := by decide +kernel
theorem dX9_counts_28 : decode cX9_counts 28 = .ok (.iconst 1, 1) := by decide +kernel
theorem dX9_counts_29 : decode cX9_counts 29 = .ok (.iadd, 1) := by decide +kernel
theorem dX9_counts_30 : decode cX9_counts 30 = .ok (.putfield 173, 3) := by decide +kernel
theorem dX9_counts_33 : decode cX9_counts 33 = .ok (.return_, 1) := by decide +kernel
theorem dX9_knits_0 : decode cX9_knits 0 = .ok (.aload_n 0, 1) := by decide +kernel
theorem dX9_knits_1 : decode cX9_knits 1 = .ok (.iload_n 1, 1) := by decide +kernel
theorem dX9_knits_2 : decode cX9_knits 2 = .ok (.invokevirtual 104, 3) := by decide +kernel
theorem dX9_knits_5 : decode cX9_knits 5 = .ok (.ifCond .ne 9, 3) := by decide +kernel
theorem dX9_knits_8 : decode cX9_knits 8 = .ok (.aload_n 0, 1) := by decide +kernel
theorem dX9_knits_9 : decode cX9_knits 9 = .ok (.iconst (-1), 1) := by decide +kernel
theorem dX9_knits_10 : decode cX9_knits 10 = .ok (.invokevirtual 100, 3) := by decide +kernel
theorem dX9_knits_13 : decode cX9_knits 13 = .ok (.ireturn, 1) := by decide +kernel
theorem dX9_knits_14 : decode cX9_knits 14 = .ok (.iload_n 2, 1) := by decide +kernel
theorem dX9_knits_15 : decode cX9_knits 15 = .ok (.iconst 1, 1) := by decide +kernel
theorem dX9_knits_16 : decode cX9_knits 16 = .ok (.if_icmp .lt 9, 3) := by decide +kernel
theorem dX9_knits_19 : decode cX9_knits 19 = .ok (.iload_n 2, 1) := by decide +kernel
theorem dX9_knits_20 : decode cX9_knits 20 = .ok (.bipush 100, 2) := by decide +kernel
theorem dX9_knits_22 : decode cX9_knits 22 = .ok (.if_icmp .le 10, 3) := by decide +kernel
theorem dX9_knits_25 : decode cX9_knits 25 = .ok (.aload_n 0, 1) := by decide +kernel
theorem dX9_knits_26 : decode cX9_knits 26 = .ok (.bipush (-6), 2) := by decide +kernel
theorem dX9_knits_28 : decode cX9_knits 28 = .ok (.invokevirtual 100, 3) := by decide +kernel
theorem dX9_knits_31 : decode cX9_knits 31 = .ok (.ireturn, 1) := by decide +kernel
theorem dX9_knits_32 : decode cX9_knits 32 = .ok (.iconst 0, 1) := by decide +kernel
theorem dX9_knits_33 : decode cX9_knits 33 = .ok (.istore_n 3, 1) := by decide +kernel
theorem dX9_knits_34 : decode cX9_knits 34 = .ok (.iload_n 3, 1) := by decide +kernel
theorem dX9_knits_35 : decode cX9_knits 35 = .ok (.iload_n 2, 1) := by decide +kernel
theorem dX9_knits_36 : decode cX9_knits 36 = .ok (.if_icmp .ge 27, 3) := by decide +kernel
theorem dX9_knits_39 : decode cX9_knits 39 = .ok (.aload_n 0, 1) := by decide +kernel
theorem dX9_knits_40 : decode cX9_knits 40 = .ok (.getfield 38, 3) := by decide +kernel
theorem dX9_knits_43 : decode cX9_knits 43 = .ok (.iload_n 1, 1) := by decide +kernel
theorem dX9_knits_44 : decode cX9_knits 44 = .ok (.iaload, 1) := by decide +kernel
theorem dX9_knits_45 : decode cX9_knits 45 = .ok (.aload_n 0, 1) := by decide +kernel
theorem dX9_knits_46 : decode cX9_knits 46 = .ok (.getfield 7, 3) := by decide +kernel
theorem dX9_knits_49 : decode cX9_knits 49 = .ok (.if_icmp .ge 14, 3) := by decide +kernel
theorem dX9_knits_52 : decode cX9_knits 52 = .ok (.aload_n 0, 1) := by decide +kernel
theorem dX9_knits_53 : decode cX9_knits 53 = .ok (.iload_n 1, 1) := by decide +kernel
theorem dX9_knits_54 : decode cX9_knits 54 = .ok (.invokevirtual 270, 3) := by decide +kernel
theorem dX9_knits_57 : decode cX9_knits 57 = .ok (.iinc 3 1, 3) := by decide +kernel
theorem dX9_knits_60 : decode cX9_knits 60 = .ok (.goto (-26), 3) := by decide +kernel
theorem dX9_knits_63 : decode cX9_knits 63 = .ok (.aload_n 0, 1) := by decide +kernel
theorem dX9_knits_64 : decode cX9_knits 64 = .ok (.getfield 38, 3) := by decide +kernel
theorem dX9_knits_67 : decode cX9_knits 67 = .ok (.iload_n 1, 1) := by decide +kernel
theorem dX9_knits_68 : decode cX9_knits 68 = .ok (.iaload, 1) := by decide +kernel
theorem dX9_knits_69 : decode cX9_knits 69 = .ok (.ireturn, 1) := by decide +kernel
theorem dX9_asks_0 : decode cX9_asks 0 = .ok (.aload_n 0, 1) := by decide +kernel
theorem dX9_asks_1 : decode cX9_asks 1 = .ok (.iload_n 1, 1) := by decide +kernel
theorem dX9_asks_2 : decode cX9_asks 2 = .ok (.invokevirtual 104, 3) := by decide +kernel
theorem dX9_asks_5 : decode cX9_asks 5 = .ok (.ifCond .ne 9, 3) := by decide +kernel
theorem dX9_asks_8 : decode cX9_asks 8 = .ok (.aload_n 0, 1) := by decide +kernel
theorem dX9_asks_9 : decode cX9_asks 9 = .ok (.iconst (-1), 1) := by decide +kernel
theorem dX9_asks_10 : decode cX9_asks 10 = .ok (.invokevirtual 100, 3) := by decide +kernel
theorem dX9_asks_13 : decode cX9_asks 13 = .ok (.ireturn, 1) := by decide +kernel
theorem dX9_asks_14 : decode cX9_asks 14 = .ok (.aload_n 0, 1) := by decide +kernel
theorem dX9_asks_15 : decode cX9_asks 15 = .ok (.getfield 38, 3) := by decide +kernel
theorem dX9_asks_18 : decode cX9_asks 18 = .ok (.iload_n 1, 1) := by decide +kernel
theorem dX9_asks_19 : decode cX9_asks 19 = .ok (.iaload, 1) := by decide +kernel
theorem dX9_asks_20 : decode cX9_asks 20 = .ok (.aload_n 0, 1) := by decide +kernel
theorem dX9_asks_21 : decode cX9_asks 21 = .ok (.getfield 7, 3) := by decide +kernel
theorem dX9_asks_24 : decode cX9_asks 24 = .ok (.if_icmp .ne 10, 3) := by decide +kernel
theorem dX9_asks_27 : decode cX9_asks 27 = .ok (.aload_n 0, 1) := by decide +kernel
theorem dX9_asks_28 : decode cX9_asks 28 = .ok (.bipush (-6), 2) := by decide +kernel
theorem dX9_asks_30 : decode cX9_asks 30 = .ok (.invokevirtual 100, 3) := by decide +kernel
theorem dX9_asks_33 : decode cX9_asks 33 = .ok (.ireturn, 1) := by decide +kernel
theorem dX9_asks_34 : decode cX9_asks 34 = .ok (.aload_n 0, 1) := by decide +kernel
theorem dX9_asks_35 : decode cX9_asks 35 = .ok (.iload_n 1, 1) := by decide +kernel
theorem dX9_asks_36 : decode cX9_asks 36 = .ok (.invokevirtual 163, 3) := by decide +kernel
theorem dX9_asks_39 : decode cX9_asks 39 = .ok (.aload_n 0, 1) := by decide +kernel
theorem dX9_asks_40 : decode cX9_asks 40 = .ok (.getfield 38, 3) := by decide +kernel
theorem dX9_asks_43 : decode cX9_asks 43 = .ok (.iload_n 1, 1) := by decide +kernel
theorem dX9_asks_44 : decode cX9_asks 44 = .ok (.iaload, 1) := by decide +kernel
theorem dX9_asks_45 : decode cX9_asks 45 = .ok (.ireturn, 1) := by decide +kernel
theorem dX9_anew_0 : decode cX9_anew 0 = .ok (.aload_n 0, 1) := by decide +kernel
theorem dX9_anew_1 : decode cX9_anew 1 = .ok (.getfield 38, 3) := by decide +kernel
theorem dX9_anew_4 : decode cX9_anew 4 = .ok (.iload_n 1, 1) := by decide +kernel
theorem dX9_anew_5 : decode cX9_anew 5 = .ok (.iaload, 1) := by decide +kernel
theorem dX9_anew_6 : decode cX9_anew 6 = .ok (.istore_n 2, 1) := by decide +kernel
theorem dX9_anew_7 : decode cX9_anew 7 = .ok (.aload_n 0, 1) := by decide +kernel
theorem dX9_anew_8 : decode cX9_anew 8 = .ok (.getfield 38, 3) := by decide +kernel
theorem dX9_anew_11 : decode cX9_anew 11 = .ok (.iload_n 1, 1) := by decide +kernel
theorem dX9_anew_12 : decode cX9_anew 12 = .ok (.iconst 0, 1) := by decide +kernel
theorem dX9_anew_13 : decode cX9_anew 13 = .ok (.iastore, 1) := by decide +kernel
theorem dX9_anew_14 : decode cX9_anew 14 = .ok (.aload_n 0, 1) := by decide +kernel
theorem dX9_anew_15 : decode cX9_anew 15 = .ok (.getfield 41, 3) := by decide +kernel
theorem dX9_anew_18 : decode cX9_anew 18 = .ok (.iload_n 1, 1) := by decide +kernel
theorem dX9_anew_19 : decode cX9_anew 19 = .ok (.iconst 0, 1) := by decide +kernel
theorem dX9_anew_20 : decode cX9_anew 20 = .ok (.iastore, 1) := by decide +kernel
theorem dX9_anew_21 : decode cX9_anew 21 = .ok (.aload_n 0, 1) := by decide +kernel
theorem dX9_anew_22 : decode cX9_anew 22 = .ok (.getfield 44, 3) := by decide +kernel
theorem dX9_anew_25 : decode cX9_anew 25 = .ok (.iload_n 1, 1) := by decide +kernel
theorem dX9_anew_26 : decode cX9_anew 26 = .ok (.iconst 0, 1) := by decide +kernel
theorem dX9_anew_27 : decode cX9_anew 27 = .ok (.iastore, 1) := by decide +kernel
theorem dX9_anew_28 : decode cX9_anew 28 = .ok (.iload_n 2, 1) := by decide +kernel
theorem dX9_anew_29 : decode cX9_anew 29 = .ok (.ireturn, 1) := by decide +kernel
theorem dX9_again_0 : decode cX9_again 0 = .ok (.aload_n 0, 1) := by decide +kernel
theorem dX9_again_1 : decode cX9_again 1 = .ok (.iload_n 1, 1) := by decide +kernel
theorem dX9_again_2 : decode cX9_again 2 = .ok (.invokevirtual 104, 3) := by decide +kernel
theorem dX9_again_5 : decode cX9_again 5 = .ok (.ifCond .eq 11, 3) := by decide +kernel
theorem dX9_again_8 : decode cX9_again 8 = .ok (.aload_n 0, 1) := by decide +kernel
theorem dX9_again_9 : decode cX9_again 9 = .ok (.iload_n 1, 1) := by decide +kernel
theorem dX9_again_10 : decode cX9_again 10 = .ok (.invokevirtual 273, 3) := by decide +kernel
theorem dX9_again_13 : decode cX9_again 13 = .ok (.goto 8, 3) := by decide +kernel
theorem dX9_again_16 : decode cX9_again 16 = .ok (.aload_n 0, 1) := by decide +kernel
theorem dX9_again_17 : decode cX9_again 17 = .ok (.iconst (-1), 1) := by decide +kernel
theorem dX9_again_18 : decode cX9_again 18 = .ok (.invokevirtual 100, 3) := by decide +kernel
theorem dX9_again_21 : decode cX9_again 21 = .ok (.ireturn, 1) := by decide +kernel
theorem dX9_draw_0 : decode cX9_draw 0 = .ok (.aload_n 0, 1) := by decide +kernel
theorem dX9_draw_1 : decode cX9_draw 1 = .ok (.aload_n 0, 1) := by decide +kernel
theorem dX9_draw_2 : decode cX9_draw 2 = .ok (.getfield 22, 3) := by decide +kernel
theorem dX9_draw_5 : decode cX9_draw 5 = .ok (.ldc_w 276, 3) := by decide +kernel
theorem dX9_draw_8 : decode cX9_draw 8 = .ok (.imul, 1) := by decide +kernel
theorem dX9_draw_9 : decode cX9_draw 9 = .ok (.sipush 12345, 3) := by decide +kernel
theorem dX9_draw_12 : decode cX9_draw 12 = .ok (.iadd, 1) := by decide +kernel
theorem dX9_draw_13 : decode cX9_draw 13 = .ok (.putfield 22, 3) := by decide +kernel
theorem dX9_draw_16 : decode cX9_draw 16 = .ok (.aload_n 0, 1) := by decide +kernel
theorem dX9_draw_17 : decode cX9_draw 17 = .ok (.getfield 22, 3) := by decide +kernel
theorem dX9_draw_20 : decode cX9_draw 20 = .ok (.bipush 16, 2) := by decide +kernel
theorem dX9_draw_22 : decode cX9_draw 22 = .ok (.iushr, 1) := by decide +kernel
theorem dX9_draw_23 : decode cX9_draw 23 = .ok (.iload_n 1, 1) := by decide +kernel
theorem dX9_draw_24 : decode cX9_draw 24 = .ok (.irem, 1) := by decide +kernel
theorem dX9_draw_25 : decode cX9_draw 25 = .ok (.ireturn, 1) := by decide +kernel
theorem dX9_areThrough_0 : decode cX9_areThrough 0 = .ok (.iconst 0, 1) := by decide +kernel
theorem dX9_areThrough_1 : decode cX9_areThrough 1 = .ok (.istore_n 1, 1) := by decide +kernel
theorem dX9_areThrough_2 : decode cX9_areThrough 2 = .ok (.iload_n 1, 1) := by decide +kernel
theorem dX9_areThrough_3 : decode cX9_areThrough 3 = .ok (.aload_n 0, 1) := by decide +kernel
theorem dX9_areThrough_4 : decode cX9_areThrough 4 = .ok (.getfield 93, 3) := by decide +kernel
theorem dX9_areThrough_7 : decode cX9_areThrough 7 = .ok (.if_icmp .ge 24, 3) := by decide +kernel
theorem dX9_areThrough_10 : decode cX9_areThrough 10 = .ok (.aload_n 0, 1) := by decide +kernel
theorem dX9_areThrough_11 : decode cX9_areThrough 11 = .ok (.getfield 38, 3) := by decide +kernel
theorem dX9_areThrough_14 : decode cX9_areThrough 14 = .ok (.iload_n 1, 1) := by decide +kernel
theorem dX9_areThrough_15 : decode cX9_areThrough 15 = .ok (.iaload, 1) := by decide +kernel
theorem dX9_areThrough_16 : decode cX9_areThrough 16 = .ok (.aload_n 0, 1) := by decide +kernel
theorem dX9_areThrough_17 : decode cX9_areThrough 17 = .ok (.getfield 7, 3) := by decide +kernel
theorem dX9_areThrough_20 : decode cX9_areThrough 20 = .ok (.if_icmp .ge 5, 3) := by decide +kernel
theorem dX9_areThrough_23 : decode cX9_areThrough 23 = .ok (.iconst 0, 1) := by decide +kernel
theorem dX9_areThrough_24 : decode cX9_areThrough 24 = .ok (.ireturn, 1) := by decide +kernel
theorem dX9_areThrough_25 : decode cX9_areThrough 25 = .ok (.iinc 1 1, 3) := by decide +kernel
theorem dX9_areThrough_28 : decode cX9_areThrough 28 = .ok (.goto (-26), 3) := by decide +kernel
theorem dX9_areThrough_31 : decode cX9_areThrough 31 = .ok (.iconst 1, 1) := by decide +kernel
theorem dX9_areThrough_32 : decode cX9_areThrough 32 = .ok (.ireturn, 1) := by decide +kernel
theorem dX9_evenings_0 : decode cX9_evenings 0 = .ok (.aload_n 0, 1) := by decide +kernel
theorem dX9_evenings_1 : decode cX9_evenings 1 = .ok (.getfield 93, 3) := by decide +kernel
theorem dX9_evenings_4 : decode cX9_evenings 4 = .ok (.ifCond .ne 10, 3) := by decide +kernel
theorem dX9_evenings_7 : decode cX9_evenings 7 = .ok (.aload_n 0, 1) := by decide +kernel
theorem dX9_evenings_8 : decode cX9_evenings 8 = .ok (.bipush (-5), 2) := by decide +kernel
theorem dX9_evenings_10 : decode cX9_evenings 10 = .ok (.invokevirtual 100, 3) := by decide +kernel
theorem dX9_evenings_13 : decode cX9_evenings 13 = .ok (.ireturn, 1) := by decide +kernel
theorem dX9_evenings_14 : decode cX9_evenings 14 = .ok (.iload_n 1, 1) := by decide +kernel
theorem dX9_evenings_15 : decode cX9_evenings 15 = .ok (.iconst 1, 1) := by decide +kernel
theorem dX9_evenings_16 : decode cX9_evenings 16 = .ok (.if_icmp .lt 8, 3) := by decide +kernel
theorem dX9_evenings_19 : decode cX9_evenings 19 = .ok (.iload_n 1, 1) := by decide +kernel
theorem dX9_evenings_20 : decode cX9_evenings 20 = .ok (.iconst 5, 1) := by decide +kernel
theorem dX9_evenings_21 : decode cX9_evenings 21 = .ok (.if_icmp .le 10, 3) := by decide +kernel
theorem dX9_evenings_24 : decode cX9_evenings 24 = .ok (.aload_n 0, 1) := by decide +kernel
theorem dX9_evenings_25 : decode cX9_evenings 25 = .ok (.bipush (-6), 2) := by decide +kernel
theorem dX9_evenings_27 : decode cX9_evenings 27 = .ok (.invokevirtual 100, 3) := by decide +kernel
theorem dX9_evenings_30 : decode cX9_evenings 30 = .ok (.ireturn, 1) := by decide +kernel
theorem dX9_evenings_31 : decode cX9_evenings 31 = .ok (.aload_n 0, 1) := by decide +kernel
theorem dX9_evenings_32 : decode cX9_evenings 32 = .ok (.getfield 173, 3) := by decide +kernel
theorem dX9_evenings_35 : decode cX9_evenings 35 = .ok (.istore_n 2, 1) := by decide +kernel
theorem dX9_evenings_36 : decode cX9_evenings 36 = .ok (.iconst 0, 1) := by decide +kernel
theorem dX9_evenings_37 : decode cX9_evenings 37 = .ok (.istore_n 3, 1) := by decide +kernel
theorem dX9_evenings_38 : decode cX9_evenings 38 = .ok (.iload_n 3, 1) := by decide +kernel
theorem dX9_evenings_39 : decode cX9_evenings 39 = .ok (.iload_n 1, 1) := by decide +kernel
theorem dX9_evenings_40 : decode cX9_evenings 40 = .ok (.if_icmp .ge 121, 3) := by decide +kernel
theorem dX9_evenings_43 : decode cX9_evenings 43 = .ok (.iconst 0, 1) := by decide +kernel
theorem dX9_evenings_44 : decode cX9_evenings 44 = .ok (.istore 4, 2) := by decide +kernel
theorem dX9_evenings_46 : decode cX9_evenings 46 = .ok (.iload 4, 2) := by decide +kernel
theorem dX9_evenings_48 : decode cX9_evenings 48 = .ok (.aload_n 0, 1) := by decide +kernel
theorem dX9_evenings_49 : decode cX9_evenings 49 = .ok (.getfield 93, 3) := by decide +kernel
theorem dX9_evenings_52 : decode cX9_evenings 52 = .ok (.if_icmp .ge 16, 3) := by decide +kernel
theorem dX9_evenings_55 : decode cX9_evenings 55 = .ok (.aload_n 0, 1) := by decide +kernel
theorem dX9_evenings_56 : decode cX9_evenings 56 = .ok (.iload 4, 2) := by decide +kernel
theorem dX9_evenings_58 : decode cX9_evenings 58 = .ok (.invokevirtual 273, 3) := by decide +kernel
theorem dX9_evenings_61 : decode cX9_evenings 61 = .ok (.pop, 1) := by decide +kernel
theorem dX9_evenings_62 : decode cX9_evenings 62 = .ok (.iinc 4 1, 3) := by decide +kernel
theorem dX9_evenings_65 : decode cX9_evenings 65 = .ok (.goto (-19), 3) := by decide +kernel
theorem dX9_evenings_68 : decode cX9_evenings 68 = .ok (.iconst 0, 1) := by decide +kernel
theorem dX9_evenings_69 : decode cX9_evenings 69 = .ok (.istore 4, 2) := by decide +kernel
theorem dX9_evenings_71 : decode cX9_evenings 71 = .ok (.iload 4, 2) := by decide +kernel
theorem dX9_evenings_73 : decode cX9_evenings 73 = .ok (.bipush 60, 2) := by decide +kernel
theorem dX9_evenings_75 : decode cX9_evenings 75 = .ok (.if_icmp .ge 80, 3) := by decide +kernel
theorem dX9_evenings_78 : decode cX9_evenings 78 = .ok (.aload_n 0, 1) := by decide +kernel
theorem dX9_evenings_79 : decode cX9_evenings 79 = .ok (.invokevirtual 277, 3) := by decide +kernel
theorem dX9_evenings_82 : decode cX9_evenings 82 = .ok (.ifCond .ne 73, 3) := by decide +kernel
theorem dX9_evenings_85 : decode cX9_evenings 85 = .ok (.iconst 0, 1) := by decide +kernel
theorem dX9_evenings_86 : decode cX9_evenings 86 = .ok (.istore 5, 2) := by decide +kernel
theorem dX9_evenings_88 : decode cX9_evenings 88 = .ok (.iload 5, 2) := by decide +kernel
theorem dX9_evenings_90 : decode cX9_evenings 90 = .ok (.aload_n 0, 1) := by decide +kernel
theorem dX9_evenings_91 : decode cX9_evenings 91 = .ok (.getfield 93, 3) := by decide +kernel
theorem dX9_evenings_94 : decode cX9_evenings 94 = .ok (.if_icmp .ge 55, 3) := by decide +kernel
theorem dX9_evenings_97 : decode cX9_evenings 97 = .ok (.aload_n 0, 1) := by decide +kernel
theorem dX9_evenings_98 : decode cX9_evenings 98 = .ok (.getfield 38, 3) := by decide +kernel
theorem dX9_evenings_101 : decode cX9_evenings 101 = .ok (.iload 5, 2) := by decide +kernel
theorem dX9_evenings_103 : decode cX9_evenings 103 = .ok (.iaload, 1) := by decide +kernel
theorem dX9_evenings_104 : decode cX9_evenings 104 = .ok (.aload_n 0, 1) := by decide +kernel
theorem dX9_evenings_105 : decode cX9_evenings 105 = .ok (.getfield 7, 3) := by decide +kernel
theorem dX9_evenings_108 : decode cX9_evenings 108 = .ok (.if_icmp .ne 6, 3) := by decide +kernel
theorem dX9_evenings_111 : decode cX9_evenings 111 = .ok (.goto 32, 3) := by decide +kernel
theorem dX9_evenings_114 : decode cX9_evenings 114 = .ok (.aload_n 0, 1) := by decide +kernel
theorem dX9_evenings_115 : decode cX9_evenings 115 = .ok (.sipush 1000, 3) := by decide +kernel
theorem dX9_evenings_118 : decode cX9_evenings 118 = .ok (.invokevirtual 280, 3) := by decide +kernel
theorem dX9_evenings_121 : decode cX9_evenings 121 = .ok (.aload_n 0, 1) := by decide +kernel
theorem dX9_evenings_122 : decode cX9_evenings 122 = .ok (.getfield 16, 3) := by decide +kernel
theorem dX9_evenings_125 : decode cX9_evenings 125 = .ok (.if_icmp .ge 12, 3) := by decide +kernel
theorem dX9_evenings_128 : decode cX9_evenings 128 = .ok (.aload_n 0, 1) := by decide +kernel
theorem dX9_evenings_129 : decode cX9_evenings 129 = .ok (.iload 5, 2) := by decide +kernel
theorem dX9_evenings_131 : decode cX9_evenings 131 = .ok (.invokevirtual 163, 3) := by decide +kernel
theorem dX9_evenings_134 : decode cX9_evenings 134 = .ok (.goto 9, 3) := by decide +kernel
theorem dX9_evenings_137 : decode cX9_evenings 137 = .ok (.aload_n 0, 1) := by decide +kernel
theorem dX9_evenings_138 : decode cX9_evenings 138 = .ok (.iload 5, 2) := by decide +kernel
theorem dX9_evenings_140 : decode cX9_evenings 140 = .ok (.invokevirtual 270, 3) := by decide +kernel
theorem dX9_evenings_143 : decode cX9_evenings 143 = .ok (.iinc 5 1, 3) := by decide +kernel
theorem dX9_evenings_146 : decode cX9_evenings 146 = .ok (.goto (-58), 3) := by decide +kernel
theorem dX9_evenings_149 : decode cX9_evenings 149 = .ok (.iinc 4 1, 3) := by decide +kernel
theorem dX9_evenings_152 : decode cX9_evenings 152 = .ok (.goto (-81), 3) := by decide +kernel
theorem dX9_evenings_155 : decode cX9_evenings 155 = .ok (.iinc 3 1, 3) := by decide +kernel
theorem dX9_evenings_158 : decode cX9_evenings 158 = .ok (.goto (-120), 3) := by decide +kernel
theorem dX9_evenings_161 : decode cX9_evenings 161 = .ok (.aload_n 0, 1) := by decide +kernel
theorem dX9_evenings_162 : decode cX9_evenings 162 = .ok (.getfield 173, 3) := by decide +kernel
theorem dX9_evenings_165 : decode cX9_evenings 165 = .ok (.iload_n 2, 1) := by decide +kernel
theorem dX9_evenings_166 : decode cX9_evenings 166 = .ok (.isub, 1) := by decide +kernel
theorem dX9_evenings_167 : decode cX9_evenings 167 = .ok (.ireturn, 1) := by decide +kernel
theorem dX9_seed_0 : decode cX9_seed 0 = .ok (.aload_n 0, 1) := by decide +kernel
theorem dX9_seed_1 : decode cX9_seed 1 = .ok (.getfield 22, 3) := by decide +kernel
theorem dX9_seed_4 : decode cX9_seed 4 = .ok (.istore_n 2, 1) := by decide +kernel
theorem dX9_seed_5 : decode cX9_seed 5 = .ok (.aload_n 0, 1) := by decide +kernel
theorem dX9_seed_6 : decode cX9_seed 6 = .ok (.iload_n 1, 1) := by decide +kernel
theorem dX9_seed_7 : decode cX9_seed 7 = .ok (.putfield 22, 3) := by decide +kernel
theorem dX9_seed_10 : decode cX9_seed 10 = .ok (.iload_n 2, 1) := by decide +kernel
theorem dX9_seed_11 : decode cX9_seed 11 = .ok (.ireturn, 1) := by decide +kernel
theorem dX9_body_0 : decode cX9_body 0 = .ok (.aload_n 0, 1) := by decide +kernel
theorem dX9_body_1 : decode cX9_body 1 = .ok (.getfield 283, 3) := by decide +kernel
theorem dX9_body_4 : decode cX9_body 4 = .ok (.bipush 20, 2) := by decide +kernel
theorem dX9_body_6 : decode cX9_body 6 = .ok (.if_icmp .ge 13, 3) := by decide +kernel
theorem dX9_body_9 : decode cX9_body 9 = .ok (.aload_n 0, 1) := by decide +kernel
theorem dX9_body_10 : decode cX9_body 10 = .ok (.getfield 90, 3) := by decide +kernel
theorem dX9_body_13 : decode cX9_body 13 = .ok (.aload_n 0, 1) := by decide +kernel
theorem dX9_body_14 : decode cX9_body 14 = .ok (.getfield 283, 3) := by decide +kernel
theorem dX9_body_17 : decode cX9_body 17 = .ok (.iload_n 1, 1) := by decide +kernel
theorem dX9_body_18 : decode cX9_body 18 = .ok (.iastore, 1) := by decide +kernel
theorem dX9_body_19 : decode cX9_body 19 = .ok (.aload_n 0, 1) := by decide +kernel
theorem dX9_body_20 : decode cX9_body 20 = .ok (.dup, 1) := by decide +kernel
theorem dX9_body_21 : decode cX9_body 21 = .ok (.getfield 283, 3) := by decide +kernel
theorem dX9_body_24 : decode cX9_body 24 = .ok (.iconst 1, 1) := by decide +kernel
theorem dX9_body_25 : decode cX9_body 25 = .ok (.iadd, 1) := by decide +kernel
theorem dX9_body_26 : decode cX9_body 26 = .ok (.putfield 283, 3) := by decide +kernel
theorem dX9_body_29 : decode cX9_body 29 = .ok (.return_, 1) := by decide +kernel
theorem dX9_counting_0 : decode cX9_counting 0 = .ok (.aload_n 0, 1) := by decide +kernel
theorem dX9_counting_1 : decode cX9_counting 1 = .ok (.getfield 32, 3) := by decide +kernel
theorem dX9_counting_4 : decode cX9_counting 4 = .ok (.iload_n 1, 1) := by decide +kernel
theorem dX9_counting_5 : decode cX9_counting 5 = .ok (.iaload, 1) := by decide +kernel
theorem dX9_counting_6 : decode cX9_counting 6 = .ok (.istore_n 3, 1) := by decide +kernel
theorem dX9_counting_7 : decode cX9_counting 7 = .ok (.iload_n 3, 1) := by decide +kernel
theorem dX9_counting_8 : decode cX9_counting 8 = .ok (.bipush 6, 2) := by decide +kernel
theorem dX9_counting_10 : decode cX9_counting 10 = .ok (.if_icmp .ne 9, 3) := by decide +kernel
theorem dX9_counting_13 : decode cX9_counting 13 = .ok (.aload_n 0, 1) := by decide +kernel
theorem dX9_counting_14 : decode cX9_counting 14 = .ok (.bipush 70, 2) := by decide +kernel
theorem dX9_counting_16 : decode cX9_counting 16 = .ok (.invokevirtual 286, 3) := by decide +kernel
theorem dX9_counting_19 : decode cX9_counting 19 = .ok (.iload_n 3, 1) := by decide +kernel
theorem dX9_counting_20 : decode cX9_counting 20 = .ok (.iconst 4, 1) := by decide +kernel
theorem dX9_counting_21 : decode cX9_counting 21 = .ok (.if_icmp .eq 9, 3) := by decide +kernel
theorem dX9_counting_24 : decode cX9_counting 24 = .ok (.iload_n 3, 1) := by decide +kernel
theorem dX9_counting_25 : decode cX9_counting 25 = .ok (.bipush 6, 2) := by decide +kernel
theorem dX9_counting_27 : decode cX9_counting 27 = .ok (.if_icmp .ne 9, 3) := by decide +kernel
theorem dX9_counting_30 : decode cX9_counting 30 = .ok (.aload_n 0, 1) := by decide +kernel
theorem dX9_counting_31 : decode cX9_counting 31 = .ok (.bipush 51, 2) := by decide +kernel
theorem dX9_counting_33 : decode cX9_counting 33 = .ok (.invokevirtual 286, 3) := by decide +kernel
theorem dX9_counting_36 : decode cX9_counting 36 = .ok (.iload_n 3, 1) := by decide +kernel
theorem dX9_counting_37 : decode cX9_counting 37 = .ok (.iconst 1, 1) := by decide +kernel
theorem dX9_counting_38 : decode cX9_counting 38 = .ok (.if_icmp .eq 8, 3) := by decide +kernel
theorem dX9_counting_41 : decode cX9_counting 41 = .ok (.iload_n 3, 1) := by decide +kernel
theorem dX9_counting_42 : decode cX9_counting 42 = .ok (.iconst 5, 1) := by decide +kernel
theorem dX9_counting_43 : decode cX9_counting 43 = .ok (.if_icmp .ne 9, 3) := by decide +kernel
theorem dX9_counting_46 : decode cX9_counting 46 = .ok (.aload_n 0, 1) := by decide +kernel
theorem dX9_counting_47 : decode cX9_counting 47 = .ok (.bipush 20, 2) := by decide +kernel
theorem dX9_counting_49 : decode cX9_counting 49 = .ok (.invokevirtual 286, 3) := by decide +kernel
theorem dX9_counting_52 : decode cX9_counting 52 = .ok (.aload_n 0, 1) := by decide +kernel
theorem dX9_counting_53 : decode cX9_counting 53 = .ok (.bipush 10, 2) := by decide +kernel
theorem dX9_counting_55 : decode cX9_counting 55 = .ok (.invokevirtual 286, 3) := by decide +kernel
theorem dX9_counting_58 : decode cX9_counting 58 = .ok (.iload_n 2, 1) := by decide +kernel
theorem dX9_counting_59 : decode cX9_counting 59 = .ok (.iload_n 1, 1) := by decide +kernel
theorem dX9_counting_60 : decode cX9_counting 60 = .ok (.iadd, 1) := by decide +kernel
theorem dX9_counting_61 : decode cX9_counting 61 = .ok (.istore 4, 2) := by decide +kernel
theorem dX9_counting_63 : decode cX9_counting 63 = .ok (.iload_n 3, 1) := by decide +kernel
theorem dX9_counting_64 : decode cX9_counting 64 = .ok (.iconst 1, 1) := by decide +kernel
theorem dX9_counting_65 : decode cX9_counting 65 = .ok (.if_icmp .eq 8, 3) := by decide +kernel
theorem dX9_counting_68 : decode cX9_counting 68 = .ok (.iload_n 3, 1) := by decide +kernel
theorem dX9_counting_69 : decode cX9_counting 69 = .ok (.iconst 5, 1) := by decide +kernel
theorem dX9_counting_70 : decode cX9_counting 70 = .ok (.if_icmp .ne 14, 3) := by decide +kernel
theorem dX9_counting_73 : decode cX9_counting 73 = .ok (.iload 4, 2) := by decide +kernel
theorem dX9_counting_75 : decode cX9_counting 75 = .ok (.aload_n 0, 1) := by decide +kernel
theorem dX9_counting_76 : decode cX9_counting 76 = .ok (.getfield 35, 3) := by decide +kernel
theorem dX9_counting_79 : decode cX9_counting 79 = .ok (.iload_n 1, 1) := by decide +kernel
theorem dX9_counting_80 : decode cX9_counting 80 = .ok (.iaload, 1) := by decide +kernel
theorem dX9_counting_81 : decode cX9_counting 81 = .ok (.iadd, 1) := by decide +kernel
theorem dX9_counting_82 : decode cX9_counting 82 = .ok (.istore 4, 2) := by decide +kernel
theorem dX9_counting_84 : decode cX9_counting 84 = .ok (.iload_n 3, 1) := by decide +kernel
theorem dX9_counting_85 : decode cX9_counting 85 = .ok (.iconst 4, 1) := by decide +kernel
theorem dX9_counting_86 : decode cX9_counting 86 = .ok (.if_icmp .eq 9, 3) := by decide +kernel
theorem dX9_counting_89 : decode cX9_counting 89 = .ok (.iload_n 3, 1) := by decide +kernel
theorem dX9_counting_90 : decode cX9_counting 90 = .ok (.bipush 6, 2) := by decide +kernel
theorem dX9_counting_92 : decode cX9_counting 92 = .ok (.if_icmp .ne 9, 3) := by decide +kernel
theorem dX9_counting_95 : decode cX9_counting 95 = .ok (.iload 4, 2) := by decide +kernel
theorem dX9_counting_97 : decode cX9_counting 97 = .ok (.iload_n 1, 1) := by decide +kernel
theorem dX9_counting_98 : decode cX9_counting 98 = .ok (.isub, 1) := by decide +kernel
theorem dX9_counting_99 : decode cX9_counting 99 = .ok (.istore 4, 2) := by decide +kernel
theorem dX9_counting_101 : decode cX9_counting 101 = .ok (.iload_n 3, 1) := by decide +kernel
theorem dX9_counting_102 : decode cX9_counting 102 = .ok (.bipush 6, 2) := by decide +kernel
theorem dX9_counting_104 : decode cX9_counting 104 = .ok (.if_icmp .ne 10, 3) := by decide +kernel
theorem dX9_counting_107 : decode cX9_counting 107 = .ok (.iload 4, 2) := by decide +kernel
theorem dX9_counting_109 : decode cX9_counting 109 = .ok (.iconst 2, 1) := by decide +kernel
theorem dX9_counting_110 : decode cX9_counting 110 = .ok (.imul, 1) := by decide +kernel
theorem dX9_counting_111 : decode cX9_counting 111 = .ok (.goto 5, 3) := by decide +kernel
theorem dX9_counting_114 : decode cX9_counting 114 = .ok (.iload 4, 2) := by decide +kernel
theorem dX9_counting_116 : decode cX9_counting 116 = .ok (.ireturn, 1) := by decide +kernel
theorem dX9_asking_0 : decode cX9_asking 0 = .ok (.aload_n 0, 1) := by decide +kernel
theorem dX9_asking_1 : decode cX9_asking 1 = .ok (.getfield 32, 3) := by decide +kernel
theorem dX9_asking_4 : decode cX9_asking 4 = .ok (.iload_n 1, 1) := by decide +kernel
theorem dX9_asking_5 : decode cX9_asking 5 = .ok (.iaload, 1) := by decide +kernel
theorem dX9_asking_6 : decode cX9_asking 6 = .ok (.istore_n 3, 1) := by decide +kernel
theorem dX9_asking_7 : decode cX9_asking 7 = .ok (.iload_n 2, 1) := by decide +kernel
theorem dX9_asking_8 : decode cX9_asking 8 = .ok (.istore 4, 2) := by decide +kernel
theorem dX9_asking_10 : decode cX9_asking 10 = .ok (.iload_n 3, 1) := by decide +kernel
theorem dX9_asking_11 : decode cX9_asking 11 = .ok (.bipush 6, 2) := by decide +kernel
theorem dX9_asking_13 : decode cX9_asking 13 = .ok (.if_icmp .ne 19, 3) := by decide +kernel
theorem dX9_asking_16 : decode cX9_asking 16 = .ok (.aload_n 0, 1) := by decide +kernel
theorem dX9_asking_17 : decode cX9_asking 17 = .ok (.bipush 71, 2) := by decide +kernel
theorem dX9_asking_19 : decode cX9_asking 19 = .ok (.invokevirtual 286, 3) := by decide +kernel
theorem dX9_asking_22 : decode cX9_asking 22 = .ok (.iload_n 2, 1) := by decide +kernel
theorem dX9_asking_23 : decode cX9_asking 23 = .ok (.aload_n 0, 1) := by decide +kernel
theorem dX9_asking_24 : decode cX9_asking 24 = .ok (.getfield 35, 3) := by decide +kernel
theorem dX9_asking_27 : decode cX9_asking 27 = .ok (.iload_n 1, 1) := by decide +kernel
theorem dX9_asking_28 : decode cX9_asking 28 = .ok (.iaload, 1) := by decide +kernel
theorem dX9_asking_29 : decode cX9_asking 29 = .ok (.isub, 1) := by decide +kernel
theorem dX9_asking_30 : decode cX9_asking 30 = .ok (.istore 4, 2) := by decide +kernel
theorem dX9_asking_32 : decode cX9_asking 32 = .ok (.iload_n 3, 1) := by decide +kernel
theorem dX9_asking_33 : decode cX9_asking 33 = .ok (.iconst 3, 1) := by decide +kernel
theorem dX9_asking_34 : decode cX9_asking 34 = .ok (.if_icmp .ne 14, 3) := by decide +kernel
theorem dX9_asking_37 : decode cX9_asking 37 = .ok (.aload_n 0, 1) := by decide +kernel
theorem dX9_asking_38 : decode cX9_asking 38 = .ok (.bipush 40, 2) := by decide +kernel
theorem dX9_asking_40 : decode cX9_asking 40 = .ok (.invokevirtual 286, 3) := by decide +kernel
theorem dX9_asking_43 : decode cX9_asking 43 = .ok (.iload_n 2, 1) := by decide +kernel
theorem dX9_asking_44 : decode cX9_asking 44 = .ok (.iconst 1, 1) := by decide +kernel
theorem dX9_asking_45 : decode cX9_asking 45 = .ok (.iadd, 1) := by decide +kernel
theorem dX9_asking_46 : decode cX9_asking 46 = .ok (.istore 4, 2) := by decide +kernel
theorem dX9_asking_48 : decode cX9_asking 48 = .ok (.iload_n 3, 1) := by decide +kernel
theorem dX9_asking_49 : decode cX9_asking 49 = .ok (.iconst 2, 1) := by decide +kernel
theorem dX9_asking_50 : decode cX9_asking 50 = .ok (.if_icmp .eq 8, 3) := by decide +kernel
theorem dX9_asking_53 : decode cX9_asking 53 = .ok (.iload_n 3, 1) := by decide +kernel
theorem dX9_asking_54 : decode cX9_asking 54 = .ok (.iconst 3, 1) := by decide +kernel
theorem dX9_asking_55 : decode cX9_asking 55 = .ok (.if_icmp .ne 7, 3) := by decide +kernel
theorem dX9_asking_58 : decode cX9_asking 58 = .ok (.iconst 1, 1) := by decide +kernel
theorem dX9_asking_59 : decode cX9_asking 59 = .ok (.goto 4, 3) := by decide +kernel
theorem dX9_asking_62 : decode cX9_asking 62 = .ok (.iconst 0, 1) := by decide +kernel
theorem dX9_asking_63 : decode cX9_asking 63 = .ok (.istore 5, 2) := by decide +kernel
theorem dX9_asking_65 : decode cX9_asking 65 = .ok (.iload 5, 2) := by decide +kernel
theorem dX9_asking_67 : decode cX9_asking 67 = .ok (.ifCond .eq 9, 3) := by decide +kernel
theorem dX9_asking_70 : decode cX9_asking 70 = .ok (.aload_n 0, 1) := by decide +kernel
theorem dX9_asking_71 : decode cX9_asking 71 = .ok (.bipush 30, 2) := by decide +kernel
theorem dX9_asking_73 : decode cX9_asking 73 = .ok (.invokevirtual 286, 3) := by decide +kernel
theorem dX9_asking_76 : decode cX9_asking 76 = .ok (.aload_n 0, 1) := by decide +kernel
theorem dX9_asking_77 : decode cX9_asking 77 = .ok (.bipush 11, 2) := by decide +kernel
theorem dX9_asking_79 : decode cX9_asking 79 = .ok (.invokevirtual 286, 3) := by decide +kernel
theorem dX9_asking_82 : decode cX9_asking 82 = .ok (.aload_n 0, 1) := by decide +kernel
theorem dX9_asking_83 : decode cX9_asking 83 = .ok (.iload_n 1, 1) := by decide +kernel
theorem dX9_asking_84 : decode cX9_asking 84 = .ok (.iload 4, 2) := by decide +kernel
theorem dX9_asking_86 : decode cX9_asking 86 = .ok (.invokevirtual 289, 3) := by decide +kernel
theorem dX9_asking_89 : decode cX9_asking 89 = .ok (.iconst 2, 1) := by decide +kernel
theorem dX9_asking_90 : decode cX9_asking 90 = .ok (.imul, 1) := by decide +kernel
theorem dX9_asking_91 : decode cX9_asking 91 = .ok (.istore 6, 2) := by decide +kernel
theorem dX9_asking_93 : decode cX9_asking 93 = .ok (.iload 5, 2) := by decide +kernel
theorem dX9_asking_95 : decode cX9_asking 95 = .ok (.ifCond .eq 10, 3) := by decide +kernel
theorem dX9_asking_98 : decode cX9_asking 98 = .ok (.iload 6, 2) := by decide +kernel
theorem dX9_asking_100 : decode cX9_asking 100 = .ok (.iconst 3, 1) := by decide +kernel
theorem dX9_asking_101 : decode cX9_asking 101 = .ok (.imul, 1) := by decide +kernel
theorem dX9_asking_102 : decode cX9_asking 102 = .ok (.goto 5, 3) := by decide +kernel
theorem dX9_asking_105 : decode cX9_asking 105 = .ok (.iload 6, 2) := by decide +kernel
theorem dX9_asking_107 : decode cX9_asking 107 = .ok (.ireturn, 1) := by decide +kernel
theorem dX9_ending_0 : decode cX9_ending 0 = .ok (.aload_n 0, 1) := by decide +kernel
theorem dX9_ending_1 : decode cX9_ending 1 = .ok (.getfield 32, 3) := by decide +kernel
theorem dX9_ending_4 : decode cX9_ending 4 = .ok (.iload_n 1, 1) := by decide +kernel
theorem dX9_ending_5 : decode cX9_ending 5 = .ok (.iaload, 1) := by decide +kernel
theorem dX9_ending_6 : decode cX9_ending 6 = .ok (.istore_n 3, 1) := by decide +kernel
theorem dX9_ending_7 : decode cX9_ending 7 = .ok (.iload_n 3, 1) := by decide +kernel
theorem dX9_ending_8 : decode cX9_ending 8 = .ok (.iconst 4, 1) := by decide +kernel
theorem dX9_ending_9 : decode cX9_ending 9 = .ok (.if_icmp .eq 9, 3) := by decide +kernel
theorem dX9_ending_12 : decode cX9_ending 12 = .ok (.iload_n 3, 1) := by decide +kernel
theorem dX9_ending_13 : decode cX9_ending 13 = .ok (.bipush 6, 2) := by decide +kernel
theorem dX9_ending_15 : decode cX9_ending 15 = .ok (.if_icmp .ne 9, 3) := by decide +kernel
theorem dX9_ending_18 : decode cX9_ending 18 = .ok (.aload_n 0, 1) := by decide +kernel
theorem dX9_ending_19 : decode cX9_ending 19 = .ok (.bipush 50, 2) := by decide +kernel
theorem dX9_ending_21 : decode cX9_ending 21 = .ok (.invokevirtual 286, 3) := by decide +kernel
theorem dX9_ending_24 : decode cX9_ending 24 = .ok (.iload_n 3, 1) := by decide +kernel
theorem dX9_ending_25 : decode cX9_ending 25 = .ok (.iconst 5, 1) := by decide +kernel
theorem dX9_ending_26 : decode cX9_ending 26 = .ok (.if_icmp .ne 9, 3) := by decide +kernel
theorem dX9_ending_29 : decode cX9_ending 29 = .ok (.aload_n 0, 1) := by decide +kernel
theorem dX9_ending_30 : decode cX9_ending 30 = .ok (.bipush 60, 2) := by decide +kernel
theorem dX9_ending_32 : decode cX9_ending 32 = .ok (.invokevirtual 286, 3) := by decide +kernel
theorem dX9_ending_35 : decode cX9_ending 35 = .ok (.aload_n 0, 1) := by decide +kernel
theorem dX9_ending_36 : decode cX9_ending 36 = .ok (.bipush 12, 2) := by decide +kernel
theorem dX9_ending_38 : decode cX9_ending 38 = .ok (.invokevirtual 286, 3) := by decide +kernel
theorem dX9_ending_41 : decode cX9_ending 41 = .ok (.aload_n 0, 1) := by decide +kernel
theorem dX9_ending_42 : decode cX9_ending 42 = .ok (.iload_n 1, 1) := by decide +kernel
theorem dX9_ending_43 : decode cX9_ending 43 = .ok (.iload_n 2, 1) := by decide +kernel
theorem dX9_ending_44 : decode cX9_ending 44 = .ok (.invokevirtual 292, 3) := by decide +kernel
theorem dX9_ending_47 : decode cX9_ending 47 = .ok (.istore 4, 2) := by decide +kernel
theorem dX9_ending_49 : decode cX9_ending 49 = .ok (.iload 4, 2) := by decide +kernel
theorem dX9_ending_51 : decode cX9_ending 51 = .ok (.aload_n 0, 1) := by decide +kernel
theorem dX9_ending_52 : decode cX9_ending 52 = .ok (.iload_n 1, 1) := by decide +kernel
theorem dX9_ending_53 : decode cX9_ending 53 = .ok (.iload_n 2, 1) := by decide +kernel
theorem dX9_ending_54 : decode cX9_ending 54 = .ok (.aload_n 0, 1) := by decide +kernel
theorem dX9_ending_55 : decode cX9_ending 55 = .ok (.getfield 35, 3) := by decide +kernel
theorem dX9_ending_58 : decode cX9_ending 58 = .ok (.iload_n 1, 1) := by decide +kernel
theorem dX9_ending_59 : decode cX9_ending 59 = .ok (.iaload, 1) := by decide +kernel
theorem dX9_ending_60 : decode cX9_ending 60 = .ok (.isub, 1) := by decide +kernel
theorem dX9_ending_61 : decode cX9_ending 61 = .ok (.invokevirtual 289, 3) := by decide +kernel
theorem dX9_ending_64 : decode cX9_ending 64 = .ok (.ixor, 1) := by decide +kernel
theorem dX9_ending_65 : decode cX9_ending 65 = .ok (.istore 4, 2) := by decide +kernel
theorem dX9_ending_67 : decode cX9_ending 67 = .ok (.iload_n 3, 1) := by decide +kernel
theorem dX9_ending_68 : decode cX9_ending 68 = .ok (.iconst 4, 1) := by decide +kernel
theorem dX9_ending_69 : decode cX9_ending 69 = .ok (.if_icmp .eq 9, 3) := by decide +kernel
theorem dX9_ending_72 : decode cX9_ending 72 = .ok (.iload_n 3, 1) := by decide +kernel
theorem dX9_ending_73 : decode cX9_ending 73 = .ok (.bipush 6, 2) := by decide +kernel
theorem dX9_ending_75 : decode cX9_ending 75 = .ok (.if_icmp .ne 9, 3) := by decide +kernel
theorem dX9_ending_78 : decode cX9_ending 78 = .ok (.iload 4, 2) := by decide +kernel
theorem dX9_ending_80 : decode cX9_ending 80 = .ok (.ineg, 1) := by decide +kernel
theorem dX9_ending_81 : decode cX9_ending 81 = .ok (.goto 17, 3) := by decide +kernel
theorem dX9_ending_84 : decode cX9_ending 84 = .ok (.iload_n 3, 1) := by decide +kernel
theorem dX9_ending_85 : decode cX9_ending 85 = .ok (.iconst 5, 1) := by decide +kernel
theorem dX9_ending_86 : decode cX9_ending 86 = .ok (.if_icmp .ne 10, 3) := by decide +kernel
theorem dX9_ending_89 : decode cX9_ending 89 = .ok (.iload 4, 2) := by decide +kernel
theorem dX9_ending_91 : decode cX9_ending 91 = .ok (.iconst 5, 1) := by decide +kernel
theorem dX9_ending_92 : decode cX9_ending 92 = .ok (.ixor, 1) := by decide +kernel
theorem dX9_ending_93 : decode cX9_ending 93 = .ok (.goto 5, 3) := by decide +kernel
theorem dX9_ending_96 : decode cX9_ending 96 = .ok (.iload 4, 2) := by decide +kernel
theorem dX9_ending_98 : decode cX9_ending 98 = .ok (.ireturn, 1) := by decide +kernel
theorem dX9_act_0 : decode cX9_act 0 = .ok (.aload_n 0, 1) := by decide +kernel
theorem dX9_act_1 : decode cX9_act 1 = .ok (.iconst 0, 1) := by decide +kernel
theorem dX9_act_2 : decode cX9_act 2 = .ok (.putfield 283, 3) := by decide +kernel
theorem dX9_act_5 : decode cX9_act 5 = .ok (.aload_n 0, 1) := by decide +kernel
theorem dX9_act_6 : decode cX9_act 6 = .ok (.iload_n 1, 1) := by decide +kernel
theorem dX9_act_7 : decode cX9_act 7 = .ok (.invokevirtual 104, 3) := by decide +kernel
theorem dX9_act_10 : decode cX9_act 10 = .ok (.ifCond .eq 12, 3) := by decide +kernel
theorem dX9_act_13 : decode cX9_act 13 = .ok (.iload_n 2, 1) := by decide +kernel
theorem dX9_act_14 : decode cX9_act 14 = .ok (.ifCond .lt 8, 3) := by decide +kernel
theorem dX9_act_17 : decode cX9_act 17 = .ok (.iload_n 2, 1) := by decide +kernel
theorem dX9_act_18 : decode cX9_act 18 = .ok (.iconst 2, 1) := by decide +kernel
theorem dX9_act_19 : decode cX9_act 19 = .ok (.if_icmp .le 5, 3) := by decide +kernel
theorem dX9_act_22 : decode cX9_act 22 = .ok (.iconst 0, 1) := by decide +kernel
theorem dX9_act_23 : decode cX9_act 23 = .ok (.ireturn, 1) := by decide +kernel
theorem dX9_act_24 : decode cX9_act 24 = .ok (.iload_n 2, 1) := by decide +kernel
theorem dX9_act_25 : decode cX9_act 25 = .ok (.ifCond .ne 12, 3) := by decide +kernel
theorem dX9_act_28 : decode cX9_act 28 = .ok (.aload_n 0, 1) := by decide +kernel
theorem dX9_act_29 : decode cX9_act 29 = .ok (.iload_n 1, 1) := by decide +kernel
theorem dX9_act_30 : decode cX9_act 30 = .ok (.iload_n 3, 1) := by decide +kernel
theorem dX9_act_31 : decode cX9_act 31 = .ok (.invokevirtual 289, 3) := by decide +kernel
theorem dX9_act_34 : decode cX9_act 34 = .ok (.goto 23, 3) := by decide +kernel
theorem dX9_act_37 : decode cX9_act 37 = .ok (.iload_n 2, 1) := by decide +kernel
theorem dX9_act_38 : decode cX9_act 38 = .ok (.iconst 1, 1) := by decide +kernel
theorem dX9_act_39 : decode cX9_act 39 = .ok (.if_icmp .ne 12, 3) := by decide +kernel
theorem dX9_act_42 : decode cX9_act 42 = .ok (.aload_n 0, 1) := by decide +kernel
theorem dX9_act_43 : decode cX9_act 43 = .ok (.iload_n 1, 1) := by decide +kernel
theorem dX9_act_44 : decode cX9_act 44 = .ok (.iload_n 3, 1) := by decide +kernel
theorem dX9_act_45 : decode cX9_act 45 = .ok (.invokevirtual 292, 3) := by decide +kernel
theorem dX9_act_48 : decode cX9_act 48 = .ok (.goto 9, 3) := by decide +kernel
theorem dX9_act_51 : decode cX9_act 51 = .ok (.aload_n 0, 1) := by decide +kernel
theorem dX9_act_52 : decode cX9_act 52 = .ok (.iload_n 1, 1) := by decide +kernel
theorem dX9_act_53 : decode cX9_act 53 = .ok (.iload_n 3, 1) := by decide +kernel
theorem dX9_act_54 : decode cX9_act 54 = .ok (.invokevirtual 295, 3) := by decide +kernel
theorem dX9_act_57 : decode cX9_act 57 = .ok (.ireturn, 1) := by decide +kernel
theorem dX9_trace_0 : decode cX9_trace 0 = .ok (.iload_n 1, 1) := by decide +kernel
theorem dX9_trace_1 : decode cX9_trace 1 = .ok (.ifCond .lt 26, 3) := by decide +kernel
theorem dX9_trace_4 : decode cX9_trace 4 = .ok (.iload_n 1, 1) := by decide +kernel
theorem dX9_trace_5 : decode cX9_trace 5 = .ok (.bipush 20, 2) := by decide +kernel
theorem dX9_trace_7 : decode cX9_trace 7 = .ok (.if_icmp .ge 20, 3) := by decide +kernel
theorem dX9_trace_10 : decode cX9_trace 10 = .ok (.iload_n 1, 1) := by decide +kernel
theorem dX9_trace_11 : decode cX9_trace 11 = .ok (.aload_n 0, 1) := by decide +kernel
theorem dX9_trace_12 : decode cX9_trace 12 = .ok (.getfield 283, 3) := by decide +kernel
theorem dX9_trace_15 : decode cX9_trace 15 = .ok (.if_icmp .ge 12, 3) := by decide +kernel
theorem dX9_trace_18 : decode cX9_trace 18 = .ok (.aload_n 0, 1) := by decide +kernel
theorem dX9_trace_19 : decode cX9_trace 19 = .ok (.getfield 90, 3) := by decide +kernel
theorem dX9_trace_22 : decode cX9_trace 22 = .ok (.iload_n 1, 1) := by decide +kernel
theorem dX9_trace_23 : decode cX9_trace 23 = .ok (.iaload, 1) := by decide +kernel
theorem dX9_trace_24 : decode cX9_trace 24 = .ok (.goto 4, 3) := by decide +kernel
theorem dX9_trace_27 : decode cX9_trace 27 = .ok (.iconst (-1), 1) := by decide +kernel
theorem dX9_trace_28 : decode cX9_trace 28 = .ok (.ireturn, 1) := by decide +kernel
theorem dX9_image_0 : decode cX9_image 0 = .ok (.aload_n 0, 1) := by decide +kernel
theorem dX9_image_1 : decode cX9_image 1 = .ok (.iconst 1, 1) := by decide +kernel
theorem dX9_image_2 : decode cX9_image 2 = .ok (.putfield 298, 3) := by decide +kernel
theorem dX9_image_5 : decode cX9_image 5 = .ok (.aload_n 0, 1) := by decide +kernel
theorem dX9_image_6 : decode cX9_image 6 = .ok (.aload_n 0, 1) := by decide +kernel
theorem dX9_image_7 : decode cX9_image 7 = .ok (.getfield 78, 3) := by decide +kernel
theorem dX9_image_10 : decode cX9_image 10 = .ok (.iconst 0, 1) := by decide +kernel
theorem dX9_image_11 : decode cX9_image 11 = .ok (.invokevirtual 176, 3) := by decide +kernel
theorem dX9_image_14 : decode cX9_image 14 = .ok (.aload_n 0, 1) := by decide +kernel
theorem dX9_image_15 : decode cX9_image 15 = .ok (.getfield 93, 3) := by decide +kernel
theorem dX9_image_18 : decode cX9_image 18 = .ok (.ireturn, 1) := by decide +kernel
theorem dX9_restore_0 : decode cX9_restore 0 = .ok (.aload_n 0, 1) := by decide +kernel
theorem dX9_restore_1 : decode cX9_restore 1 = .ok (.getfield 298, 3) := by decide +kernel
theorem dX9_restore_4 : decode cX9_restore 4 = .ok (.ifCond .ne 10, 3) := by decide +kernel
theorem dX9_restore_7 : decode cX9_restore 7 = .ok (.aload_n 0, 1) := by decide +kernel
theorem dX9_restore_8 : decode cX9_restore 8 = .ok (.bipush (-6), 2) := by decide +kernel
theorem dX9_restore_10 : decode cX9_restore 10 = .ok (.invokevirtual 100, 3) := by decide +kernel
theorem dX9_restore_13 : decode cX9_restore 13 = .ok (.ireturn, 1) := by decide +kernel
theorem dX9_restore_14 : decode cX9_restore 14 = .ok (.aload_n 0, 1) := by decide +kernel
theorem dX9_restore_15 : decode cX9_restore 15 = .ok (.aload_n 0, 1) := by decide +kernel
theorem dX9_restore_16 : decode cX9_restore 16 = .ok (.getfield 78, 3) := by decide +kernel
theorem dX9_restore_19 : decode cX9_restore 19 = .ok (.iconst 1, 1) := by decide +kernel
theorem dX9_restore_20 : decode cX9_restore 20 = .ok (.invokevirtual 176, 3) := by decide +kernel
theorem dX9_restore_23 : decode cX9_restore 23 = .ok (.iconst 0, 1) := by decide +kernel
theorem dX9_restore_24 : decode cX9_restore 24 = .ok (.istore_n 1, 1) := by decide +kernel
theorem dX9_restore_25 : decode cX9_restore 25 = .ok (.iload_n 1, 1) := by decide +kernel
theorem dX9_restore_26 : decode cX9_restore 26 = .ok (.bipush 8, 2) := by decide +kernel
theorem dX9_restore_28 : decode cX9_restore 28 = .ok (.if_icmp .ge 39, 3) := by decide +kernel
theorem dX9_restore_31 : decode cX9_restore 31 = .ok (.aload_n 0, 1) := by decide +kernel
theorem dX9_restore_32 : decode cX9_restore 32 = .ok (.getfield 50, 3) := by decide +kernel
theorem dX9_restore_35 : decode cX9_restore 35 = .ok (.iload_n 1, 1) := by decide +kernel
theorem dX9_restore_36 : decode cX9_restore 36 = .ok (.iaload, 1) := by decide +kernel
theorem dX9_restore_37 : decode cX9_restore 37 = .ok (.iconst 2, 1) := by decide +kernel
theorem dX9_restore_38 : decode cX9_restore 38 = .ok (.if_icmp .ne 23, 3) := by decide +kernel
theorem dX9_restore_41 : decode cX9_restore 41 = .ok (.aload_n 0, 1) := by decide +kernel
theorem dX9_restore_42 : decode cX9_restore 42 = .ok (.getfield 59, 3) := by decide +kernel
theorem dX9_restore_45 : decode cX9_restore 45 = .ok (.iload_n 1, 1) := by decide +kernel
theorem dX9_restore_46 : decode cX9_restore 46 = .ok (.iaload, 1) := by decide +kernel
theorem dX9_restore_47 : decode cX9_restore 47 = .ok (.aload_n 0, 1) := by decide +kernel
theorem dX9_restore_48 : decode cX9_restore 48 = .ok (.getfield 93, 3) := by decide +kernel
theorem dX9_restore_51 : decode cX9_restore 51 = .ok (.if_icmp .lt 10, 3) := by decide +kernel
theorem dX9_restore_54 : decode cX9_restore 54 = .ok (.aload_n 0, 1) := by decide +kernel
theorem dX9_restore_55 : decode cX9_restore 55 = .ok (.getfield 50, 3) := by decide +kernel
theorem dX9_restore_58 : decode cX9_restore 58 = .ok (.iload_n 1, 1) := by decide +kernel
theorem dX9_restore_59 : decode cX9_restore 59 = .ok (.iconst 0, 1) := by decide +kernel
theorem dX9_restore_60 : decode cX9_restore 60 = .ok (.iastore, 1) := by decide +kernel
theorem dX9_restore_61 : decode cX9_restore 61 = .ok (.iinc 1 1, 3) := by decide +kernel
theorem dX9_restore_64 : decode cX9_restore 64 = .ok (.goto (-39), 3) := by decide +kernel
theorem dX9_restore_67 : decode cX9_restore 67 = .ok (.aload_n 0, 1) := by decide +kernel
theorem dX9_restore_68 : decode cX9_restore 68 = .ok (.getfield 93, 3) := by decide +kernel
theorem dX9_restore_71 : decode cX9_restore 71 = .ok (.ireturn, 1) := by decide +kernel
theorem dX9_status_0 : decode cX9_status 0 = .ok (.iload_n 1, 1) := by decide +kernel
theorem dX9_status_1 : decode cX9_status 1 = .ok (.bipush 11, 2) := by decide +kernel
theorem dX9_status_3 : decode cX9_status 3 = .ok (.if_icmp .lt 19, 3) := by decide +kernel
theorem dX9_status_6 : decode cX9_status 6 = .ok (.iload_n 1, 1) := by decide +kernel
theorem dX9_status_7 : decode cX9_status 7 = .ok (.bipush 17, 2) := by decide +kernel
theorem dX9_status_9 : decode cX9_status 9 = .ok (.if_icmp .gt 13, 3) := by decide +kernel
theorem dX9_status_12 : decode cX9_status 12 = .ok (.aload_n 0, 1) := by decide +kernel
theorem dX9_status_13 : decode cX9_status 13 = .ok (.getfield 28, 3) := by decide +kernel
theorem dX9_status_16 : decode cX9_status 16 = .ok (.iload_n 1, 1) := by decide +kernel
theorem dX9_status_17 : decode cX9_status 17 = .ok (.bipush 10, 2) := by decide +kernel
theorem dX9_status_19 : decode cX9_status 19 = .ok (.isub, 1) := by decide +kernel
theorem dX9_status_20 : decode cX9_status 20 = .ok (.iaload, 1) := by decide +kernel
theorem dX9_status_21 : decode cX9_status 21 = .ok (.ireturn, 1) := by decide +kernel
theorem dX9_status_22 : decode cX9_status 22 = .ok (.iconst 0, 1) := by decide +kernel
theorem dX9_status_23 : decode cX9_status 23 = .ok (.istore_n 2, 1) := by decide +kernel
theorem dX9_status_24 : decode cX9_status 24 = .ok (.iload_n 1, 1) := by decide +kernel
theorem dX9_status_25 : decode cX9_status 25 = .ok (.tableswitch 125 0 8 #[51, 56, 90, 95, 100, 105, 110, 115, 120], 51) := by decide +kernel
theorem dX9_status_76 : decode cX9_status 76 = .ok (.aload_n 0, 1) := by decide +kernel
theorem dX9_status_77 : decode cX9_status 77 = .ok (.getfield 93, 3) := by decide +kernel
theorem dX9_status_80 : decode cX9_status 80 = .ok (.ireturn, 1) := by decide +kernel
theorem dX9_status_81 : decode cX9_status 81 = .ok (.iconst 0, 1) := by decide +kernel
theorem dX9_status_82 : decode cX9_status 82 = .ok (.istore_n 3, 1) := by decide +kernel
theorem dX9_status_83 : decode cX9_status 83 = .ok (.iload_n 3, 1) := by decide +kernel
theorem dX9_status_84 : decode cX9_status 84 = .ok (.aload_n 0, 1) := by decide +kernel
theorem dX9_status_85 : decode cX9_status 85 = .ok (.getfield 93, 3) := by decide +kernel
theorem dX9_status_88 : decode cX9_status 88 = .ok (.if_icmp .ge 25, 3) := by decide +kernel
theorem dX9_status_91 : decode cX9_status 91 = .ok (.aload_n 0, 1) := by decide +kernel
theorem dX9_status_92 : decode cX9_status 92 = .ok (.getfield 38, 3) := by decide +kernel
theorem dX9_status_95 : decode cX9_status 95 = .ok (.iload_n 3, 1) := by decide +kernel
theorem dX9_status_96 : decode cX9_status 96 = .ok (.iaload, 1) := by decide +kernel
theorem dX9_status_97 : decode cX9_status 97 = .ok (.aload_n 0, 1) := by decide +kernel
theorem dX9_status_98 : decode cX9_status 98 = .ok (.getfield 7, 3) := by decide +kernel
theorem dX9_status_101 : decode cX9_status 101 = .ok (.if_icmp .ne 6, 3) := by decide +kernel
theorem dX9_status_104 : decode cX9_status 104 = .ok (.iinc 2 1, 3) := by decide +kernel
theorem dX9_status_107 : decode cX9_status 107 = .ok (.iinc 3 1, 3) := by decide +kernel
theorem dX9_status_110 : decode cX9_status 110 = .ok (.goto (-27), 3) := by decide +kernel
theorem dX9_status_113 : decode cX9_status 113 = .ok (.iload_n 2, 1) := by decide +kernel
theorem dX9_status_114 : decode cX9_status 114 = .ok (.ireturn, 1) := by decide +kernel
theorem dX9_status_115 : decode cX9_status 115 = .ok (.aload_n 0, 1) := by decide +kernel
theorem dX9_status_116 : decode cX9_status 116 = .ok (.getfield 7, 3) := by decide +kernel
theorem dX9_status_119 : decode cX9_status 119 = .ok (.ireturn, 1) := by decide +kernel
theorem dX9_status_120 : decode cX9_status 120 = .ok (.aload_n 0, 1) := by decide +kernel
theorem dX9_status_121 : decode cX9_status 121 = .ok (.getfield 13, 3) := by decide +kernel
theorem dX9_status_124 : decode cX9_status 124 = .ok (.ireturn, 1) := by decide +kernel
theorem dX9_status_125 : decode cX9_status 125 = .ok (.aload_n 0, 1) := by decide +kernel
theorem dX9_status_126 : decode cX9_status 126 = .ok (.getfield 16, 3) := by decide +kernel
theorem dX9_status_129 : decode cX9_status 129 = .ok (.ireturn, 1) := by decide +kernel
theorem dX9_status_130 : decode cX9_status 130 = .ok (.aload_n 0, 1) := by decide +kernel
theorem dX9_status_131 : decode cX9_status 131 = .ok (.getfield 19, 3) := by decide +kernel
theorem dX9_status_134 : decode cX9_status 134 = .ok (.ireturn, 1) := by decide +kernel
theorem dX9_status_135 : decode cX9_status 135 = .ok (.aload_n 0, 1) := by decide +kernel
theorem dX9_status_136 : decode cX9_status 136 = .ok (.getfield 173, 3) := by decide +kernel
theorem dX9_status_139 : decode cX9_status 139 = .ok (.ireturn, 1) := by decide +kernel
theorem dX9_status_140 : decode cX9_status 140 = .ok (.aload_n 0, 1) := by decide +kernel
theorem dX9_status_141 : decode cX9_status 141 = .ok (.getfield 22, 3) := by decide +kernel
theorem dX9_status_144 : decode cX9_status 144 = .ok (.ireturn, 1) := by decide +kernel
theorem dX9_status_145 : decode cX9_status 145 = .ok (.aload_n 0, 1) := by decide +kernel
theorem dX9_status_146 : decode cX9_status 146 = .ok (.getfield 283, 3) := by decide +kernel
theorem dX9_status_149 : decode cX9_status 149 = .ok (.ireturn, 1) := by decide +kernel
theorem dX9_status_150 : decode cX9_status 150 = .ok (.iconst (-1), 1) := by decide +kernel
theorem dX9_status_151 : decode cX9_status 151 = .ok (.ireturn, 1) := by decide +kernel
theorem dJ9_max_7cf53_0 : decode cJ9_max_7cf53 0 = .ok (.iload_n 0, 1) := by decide +kernel
theorem dJ9_max_7cf53_1 : decode cJ9_max_7cf53 1 = .ok (.iload_n 1, 1) := by decide +kernel
theorem dJ9_max_7cf53_2 : decode cJ9_max_7cf53 2 = .ok (.if_icmp .lt 7, 3) := by decide +kernel
theorem dJ9_max_7cf53_5 : decode cJ9_max_7cf53 5 = .ok (.iload_n 0, 1) := by decide +kernel
theorem dJ9_max_7cf53_6 : decode cJ9_max_7cf53 6 = .ok (.goto 4, 3) := by decide +kernel
theorem dJ9_max_7cf53_9 : decode cJ9_max_7cf53 9 = .ok (.iload_n 1, 1) := by decide +kernel
theorem dJ9_max_7cf53_10 : decode cJ9_max_7cf53 10 = .ok (.ireturn, 1) := by decide +kernel
theorem dJ9_min_7cf53_0 : decode cJ9_min_7cf53 0 = .ok (.iload_n 0, 1) := by decide +kernel
theorem dJ9_min_7cf53_1 : decode cJ9_min_7cf53 1 = .ok (.iload_n 1, 1) := by decide +kernel
theorem dJ9_min_7cf53_2 : decode cJ9_min_7cf53 2 = .ok (.if_icmp .gt 7, 3) := by decide +kernel
theorem dJ9_min_7cf53_5 : decode cJ9_min_7cf53 5 = .ok (.iload_n 0, 1) := by decide +kernel
theorem dJ9_min_7cf53_6 : decode cJ9_min_7cf53 6 = .ok (.goto 4, 3) := by decide +kernel
theorem dJ9_min_7cf53_9 : decode cJ9_min_7cf53 9 = .ok (.iload_n 1, 1) := by decide +kernel
theorem dJ9_min_7cf53_10 : decode cJ9_min_7cf53 10 = .ok (.ireturn, 1) := by decide +kernel
theorem dJ0_length_8abf5_0 : decode cJ0_length_8abf5 0 = .ok (.aload_n 0, 1) := by decide +kernel
theorem dJ0_length_8abf5_1 : decode cJ0_length_8abf5 1 = .ok (.getfield 9, 3) := by decide +kernel
theorem dJ0_length_8abf5_4 : decode cJ0_length_8abf5 4 = .ok (.arraylength, 1) := by decide +kernel
theorem dJ0_length_8abf5_5 : decode cJ0_length_8abf5 5 = .ok (.aload_n 0, 1) := by decide +kernel
theorem dJ0_length_8abf5_6 : decode cJ0_length_8abf5 6 = .ok (.invokevirtual 335, 3) := by decide +kernel
theorem dJ0_length_8abf5_9 : decode cJ0_length_8abf5 9 = .ok (.ishr, 1) := by decide +kernel
theorem dJ0_length_8abf5_10 : decode cJ0_length_8abf5 10 = .ok (.ireturn, 1) := by decide +kernel
theorem dJ0_charAt_5068e_0 : decode cJ0_charAt_5068e 0 = .ok (.aload_n 0, 1) := by decide +kernel
theorem dJ0_charAt_5068e_1 : decode cJ0_charAt_5068e 1 = .ok (.invokevirtual 492, 3) := by decide +kernel
theorem dJ0_charAt_5068e_4 : decode cJ0_charAt_5068e 4 = .ok (.ifCond .eq 12, 3) := by decide +kernel
theorem dJ0_charAt_5068e_7 : decode cJ0_charAt_5068e 7 = .ok (.aload_n 0, 1) := by decide +kernel
theorem dJ0_charAt_5068e_8 : decode cJ0_charAt_5068e 8 = .ok (.getfield 9, 3) := by decide +kernel
theorem dJ0_charAt_5068e_11 : decode cJ0_charAt_5068e 11 = .ok (.iload_n 1, 1) := by decide +kernel
theorem dJ0_charAt_5068e_12 : decode cJ0_charAt_5068e 12 = .ok (.invokestatic 495, 3) := by decide +kernel
theorem dJ0_charAt_5068e_15 : decode cJ0_charAt_5068e 15 = .ok (.ireturn, 1) := by decide +kernel
theorem dJ0_charAt_5068e_16 : decode cJ0_charAt_5068e 16 = .ok (.aload_n 0, 1) := by decide +kernel
theorem dJ0_charAt_5068e_17 : decode cJ0_charAt_5068e 17 = .ok (.getfield 9, 3) := by decide +kernel
theorem dJ0_charAt_5068e_20 : decode cJ0_charAt_5068e 20 = .ok (.iload_n 1, 1) := by decide +kernel
theorem dJ0_charAt_5068e_21 : decode cJ0_charAt_5068e 21 = .ok (.invokestatic 498, 3) := by decide +kernel
theorem dJ0_charAt_5068e_24 : decode cJ0_charAt_5068e 24 = .ok (.ireturn, 1) := by decide +kernel
theorem dJ0_coder_7d493_0 : decode cJ0_coder_7d493 0 = .ok (.getstatic 38, 3) := by decide +kernel
theorem dJ0_coder_7d493_3 : decode cJ0_coder_7d493 3 = .ok (.ifCond .eq 10, 3) := by decide +kernel
theorem dJ0_coder_7d493_6 : decode cJ0_coder_7d493 6 = .ok (.aload_n 0, 1) := by decide +kernel
theorem dJ0_coder_7d493_7 : decode cJ0_coder_7d493 7 = .ok (.getfield 15, 3) := by decide +kernel
theorem dJ0_coder_7d493_10 : decode cJ0_coder_7d493 10 = .ok (.goto 4, 3) := by decide +kernel
theorem dJ0_coder_7d493_13 : decode cJ0_coder_7d493 13 = .ok (.iconst 1, 1) := by decide +kernel
theorem dJ0_coder_7d493_14 : decode cJ0_coder_7d493 14 = .ok (.ireturn, 1) := by decide +kernel
theorem dJ0_isLatin1_aae02_0 : decode cJ0_isLatin1_aae02 0 = .ok (.getstatic 38, 3) := by decide +kernel
theorem dJ0_isLatin1_aae02_3 : decode cJ0_isLatin1_aae02 3 = .ok (.ifCond .eq 14, 3) := by decide +kernel
theorem dJ0_isLatin1_aae02_6 : decode cJ0_isLatin1_aae02 6 = .ok (.aload_n 0, 1) := by decide +kernel
theorem dJ0_isLatin1_aae02_7 : decode cJ0_isLatin1_aae02 7 = .ok (.getfield 15, 3) := by decide +kernel
theorem dJ0_isLatin1_aae02_10 : decode cJ0_isLatin1_aae02 10 = .ok (.ifCond .ne 7, 3) := by decide +kernel
theorem dJ0_isLatin1_aae02_13 : decode cJ0_isLatin1_aae02 13 = .ok (.iconst 1, 1) := by decide +kernel
theorem dJ0_isLatin1_aae02_14 : decode cJ0_isLatin1_aae02 14 = .ok (.goto 4, 3) := by decide +kernel
theorem dJ0_isLatin1_aae02_17 : decode cJ0_isLatin1_aae02 17 = .ok (.iconst 0, 1) := by decide +kernel
theorem dJ0_isLatin1_aae02_18 : decode cJ0_isLatin1_aae02 18 = .ok (.ireturn, 1) := by decide +kernel
theorem dJ0_checkIndex_df160_0 : decode cJ0_checkIndex_df160 0 = .ok (.iload_n 0, 1) := by decide +kernel
theorem dJ0_checkIndex_df160_1 : decode cJ0_checkIndex_df160 1 = .ok (.iload_n 1, 1) := by decide +kernel
theorem dJ0_checkIndex_df160_2 : decode cJ0_checkIndex_df160 2 = .ok (.getstatic 1053, 3) := by decide +kernel
theorem dJ0_checkIndex_df160_5 : decode cJ0_checkIndex_df160 5 = .ok (.invokestatic 1059, 3) := by decide +kernel
theorem dJ0_checkIndex_df160_8 : decode cJ0_checkIndex_df160 8 = .ok (.pop, 1) := by decide +kernel
theorem dJ0_checkIndex_df160_9 : decode cJ0_checkIndex_df160 9 = .ok (.return_, 1) := by decide +kernel
theorem dJ1_charAt_3b067_0 : decode cJ1_charAt_3b067 0 = .ok (.iload_n 1, 1) := by decide +kernel
theorem dJ1_charAt_3b067_1 : decode cJ1_charAt_3b067 1 = .ok (.aload_n 0, 1) := by decide +kernel
theorem dJ1_charAt_3b067_2 : decode cJ1_charAt_3b067 2 = .ok (.arraylength, 1) := by decide +kernel
theorem dJ1_charAt_3b067_3 : decode cJ1_charAt_3b067 3 = .ok (.invokestatic 9, 3) := by decide +kernel
theorem dJ1_charAt_3b067_6 : decode cJ1_charAt_3b067 6 = .ok (.aload_n 0, 1) := by decide +kernel
theorem dJ1_charAt_3b067_7 : decode cJ1_charAt_3b067 7 = .ok (.iload_n 1, 1) := by decide +kernel
theorem dJ1_charAt_3b067_8 : decode cJ1_charAt_3b067 8 = .ok (.baload, 1) := by decide +kernel
theorem dJ1_charAt_3b067_9 : decode cJ1_charAt_3b067 9 = .ok (.sipush 255, 3) := by decide +kernel
theorem dJ1_charAt_3b067_12 : decode cJ1_charAt_3b067 12 = .ok (.iand, 1) := by decide +kernel
theorem dJ1_charAt_3b067_13 : decode cJ1_charAt_3b067 13 = .ok (.i2c, 1) := by decide +kernel
theorem dJ1_charAt_3b067_14 : decode cJ1_charAt_3b067 14 = .ok (.ireturn, 1) := by decide +kernel
theorem dJ2_getChar_3b067_0 : decode cJ2_getChar_3b067 0 = .ok (.getstatic 44, 3) := by decide +kernel
theorem dJ2_getChar_3b067_3 : decode cJ2_getChar_3b067 3 = .ok (.ifCond .ne 25, 3) := by decide +kernel
theorem dJ2_getChar_3b067_6 : decode cJ2_getChar_3b067 6 = .ok (.iload_n 1, 1) := by decide +kernel
theorem dJ2_getChar_3b067_7 : decode cJ2_getChar_3b067 7 = .ok (.ifCond .lt 11, 3) := by decide +kernel
theorem dJ2_getChar_3b067_10 : decode cJ2_getChar_3b067 10 = .ok (.iload_n 1, 1) := by decide +kernel
theorem dJ2_getChar_3b067_11 : decode cJ2_getChar_3b067 11 = .ok (.aload_n 0, 1) := by decide +kernel
theorem dJ2_getChar_3b067_12 : decode cJ2_getChar_3b067 12 = .ok (.invokestatic 48, 3) := by decide +kernel
theorem dJ2_getChar_3b067_15 : decode cJ2_getChar_3b067 15 = .ok (.if_icmp .lt 13, 3) := by decide +kernel
theorem dJ2_getChar_3b067_18 : decode cJ2_getChar_3b067 18 = .ok (.new 52, 3) := by decide +kernel
theorem dJ2_getChar_3b067_21 : decode cJ2_getChar_3b067 21 = .ok (.dup, 1) := by decide +kernel
theorem dJ2_getChar_3b067_22 : decode cJ2_getChar_3b067 22 = .ok (.ldc 54, 2) := by decide +kernel
theorem dJ2_getChar_3b067_24 : decode cJ2_getChar_3b067 24 = .ok (.invokespecial 56, 3) := by decide +kernel
theorem dJ2_getChar_3b067_27 : decode cJ2_getChar_3b067 27 = .ok (.athrow, 1) := by decide +kernel
theorem dJ2_getChar_3b067_28 : decode cJ2_getChar_3b067 28 = .ok (.iload_n 1, 1) := by decide +kernel
theorem dJ2_getChar_3b067_29 : decode cJ2_getChar_3b067 29 = .ok (.iconst 1, 1) := by decide +kernel
theorem dJ2_getChar_3b067_30 : decode cJ2_getChar_3b067 30 = .ok (.ishl, 1) := by decide +kernel
theorem dJ2_getChar_3b067_31 : decode cJ2_getChar_3b067 31 = .ok (.istore_n 1, 1) := by decide +kernel
theorem dJ2_getChar_3b067_32 : decode cJ2_getChar_3b067 32 = .ok (.aload_n 0, 1) := by decide +kernel
theorem dJ2_getChar_3b067_33 : decode cJ2_getChar_3b067 33 = .ok (.iload_n 1, 1) := by decide +kernel
theorem dJ2_getChar_3b067_34 : decode cJ2_getChar_3b067 34 = .ok (.iinc 1 1, 3) := by decide +kernel
theorem dJ2_getChar_3b067_37 : decode cJ2_getChar_3b067 37 = .ok (.baload, 1) := by decide +kernel
theorem dJ2_getChar_3b067_38 : decode cJ2_getChar_3b067 38 = .ok (.sipush 255, 3) := by decide +kernel
theorem dJ2_getChar_3b067_41 : decode cJ2_getChar_3b067 41 = .ok (.iand, 1) := by decide +kernel
theorem dJ2_getChar_3b067_42 : decode cJ2_getChar_3b067 42 = .ok (.getstatic 59, 3) := by decide +kernel
theorem dJ2_getChar_3b067_45 : decode cJ2_getChar_3b067 45 = .ok (.ishl, 1) := by decide +kernel
theorem dJ2_getChar_3b067_46 : decode cJ2_getChar_3b067 46 = .ok (.aload_n 0, 1) := by decide +kernel
theorem dJ2_getChar_3b067_47 : decode cJ2_getChar_3b067 47 = .ok (.iload_n 1, 1) := by decide +kernel
theorem dJ2_getChar_3b067_48 : decode cJ2_getChar_3b067 48 = .ok (.baload, 1) := by decide +kernel
theorem dJ2_getChar_3b067_49 : decode cJ2_getChar_3b067 49 = .ok (.sipush 255, 3) := by decide +kernel
theorem dJ2_getChar_3b067_52 : decode cJ2_getChar_3b067 52 = .ok (.iand, 1) := by decide +kernel
theorem dJ2_getChar_3b067_53 : decode cJ2_getChar_3b067 53 = .ok (.getstatic 63, 3) := by decide +kernel
theorem dJ2_getChar_3b067_56 : decode cJ2_getChar_3b067 56 = .ok (.ishl, 1) := by decide +kernel
theorem dJ2_getChar_3b067_57 : decode cJ2_getChar_3b067 57 = .ok (.ior, 1) := by decide +kernel
theorem dJ2_getChar_3b067_58 : decode cJ2_getChar_3b067 58 = .ok (.i2c, 1) := by decide +kernel
theorem dJ2_getChar_3b067_59 : decode cJ2_getChar_3b067 59 = .ok (.ireturn, 1) := by decide +kernel
theorem dJ2_length_9d52b_0 : decode cJ2_length_9d52b 0 = .ok (.aload_n 0, 1) := by decide +kernel
theorem dJ2_length_9d52b_1 : decode cJ2_length_9d52b 1 = .ok (.arraylength, 1) := by decide +kernel
theorem dJ2_length_9d52b_2 : decode cJ2_length_9d52b 2 = .ok (.iconst 1, 1) := by decide +kernel
theorem dJ2_length_9d52b_3 : decode cJ2_length_9d52b 3 = .ok (.ishr, 1) := by decide +kernel
theorem dJ2_length_9d52b_4 : decode cJ2_length_9d52b 4 = .ok (.ireturn, 1) := by decide +kernel
theorem dJ2_charAt_3b067_0 : decode cJ2_charAt_3b067 0 = .ok (.iload_n 1, 1) := by decide +kernel
theorem dJ2_charAt_3b067_1 : decode cJ2_charAt_3b067 1 = .ok (.aload_n 0, 1) := by decide +kernel
theorem dJ2_charAt_3b067_2 : decode cJ2_charAt_3b067 2 = .ok (.invokestatic 67, 3) := by decide +kernel
theorem dJ2_charAt_3b067_5 : decode cJ2_charAt_3b067 5 = .ok (.aload_n 0, 1) := by decide +kernel
theorem dJ2_charAt_3b067_6 : decode cJ2_charAt_3b067 6 = .ok (.iload_n 1, 1) := by decide +kernel
theorem dJ2_charAt_3b067_7 : decode cJ2_charAt_3b067 7 = .ok (.invokestatic 71, 3) := by decide +kernel
theorem dJ2_charAt_3b067_10 : decode cJ2_charAt_3b067 10 = .ok (.ireturn, 1) := by decide +kernel
theorem dJ2_checkIndex_2214a_0 : decode cJ2_checkIndex_2214a 0 = .ok (.iload_n 0, 1) := by decide +kernel
theorem dJ2_checkIndex_2214a_1 : decode cJ2_checkIndex_2214a 1 = .ok (.aload_n 1, 1) := by decide +kernel
theorem dJ2_checkIndex_2214a_2 : decode cJ2_checkIndex_2214a 2 = .ok (.invokestatic 48, 3) := by decide +kernel
theorem dJ2_checkIndex_2214a_5 : decode cJ2_checkIndex_2214a 5 = .ok (.invokestatic 414, 3) := by decide +kernel
theorem dJ2_checkIndex_2214a_8 : decode cJ2_checkIndex_2214a 8 = .ok (.return_, 1) := by decide +kernel
theorem dJ7_fill_d0a16_0 : decode cJ7_fill_d0a16 0 = .ok (.iconst 0, 1) := by decide +kernel
theorem dJ7_fill_d0a16_1 : decode cJ7_fill_d0a16 1 = .ok (.istore_n 3, 1) := by decide +kernel
theorem dJ7_fill_d0a16_2 : decode cJ7_fill_d0a16 2 = .ok (.aload_n 0, 1) := by decide +kernel
theorem dJ7_fill_d0a16_3 : decode cJ7_fill_d0a16 3 = .ok (.arraylength, 1) := by decide +kernel
theorem dJ7_fill_d0a16_4 : decode cJ7_fill_d0a16 4 = .ok (.istore 4, 2) := by decide +kernel
theorem dJ7_fill_d0a16_6 : decode cJ7_fill_d0a16 6 = .ok (.iload_n 3, 1) := by decide +kernel
theorem dJ7_fill_d0a16_7 : decode cJ7_fill_d0a16 7 = .ok (.iload 4, 2) := by decide +kernel
theorem dJ7_fill_d0a16_9 : decode cJ7_fill_d0a16 9 = .ok (.if_icmp .ge 13, 3) := by decide +kernel
theorem dJ7_fill_d0a16_12 : decode cJ7_fill_d0a16 12 = .ok (.aload_n 0, 1) := by decide +kernel
theorem dJ7_fill_d0a16_13 : decode cJ7_fill_d0a16 13 = .ok (.iload_n 3, 1) := by decide +kernel
theorem dJ7_fill_d0a16_14 : decode cJ7_fill_d0a16 14 = .ok (.lload_n 1, 1) := by decide +kernel
theorem dJ7_fill_d0a16_15 : decode cJ7_fill_d0a16 15 = .ok (.lastore, 1) := by decide +kernel
theorem dJ7_fill_d0a16_16 : decode cJ7_fill_d0a16 16 = .ok (.iinc 3 1, 3) := by decide +kernel
theorem dJ7_fill_d0a16_19 : decode cJ7_fill_d0a16 19 = .ok (.goto (-13), 3) := by decide +kernel
theorem dJ7_fill_d0a16_22 : decode cJ7_fill_d0a16 22 = .ok (.return_, 1) := by decide +kernel
theorem dJ7_fill_53178_0 : decode cJ7_fill_53178 0 = .ok (.iconst 0, 1) := by decide +kernel
theorem dJ7_fill_53178_1 : decode cJ7_fill_53178 1 = .ok (.istore_n 2, 1) := by decide +kernel
theorem dJ7_fill_53178_2 : decode cJ7_fill_53178 2 = .ok (.aload_n 0, 1) := by decide +kernel
theorem dJ7_fill_53178_3 : decode cJ7_fill_53178 3 = .ok (.arraylength, 1) := by decide +kernel
theorem dJ7_fill_53178_4 : decode cJ7_fill_53178 4 = .ok (.istore_n 3, 1) := by decide +kernel
theorem dJ7_fill_53178_5 : decode cJ7_fill_53178 5 = .ok (.iload_n 2, 1) := by decide +kernel
theorem dJ7_fill_53178_6 : decode cJ7_fill_53178 6 = .ok (.iload_n 3, 1) := by decide +kernel
theorem dJ7_fill_53178_7 : decode cJ7_fill_53178 7 = .ok (.if_icmp .ge 13, 3) := by decide +kernel
theorem dJ7_fill_53178_10 : decode cJ7_fill_53178 10 = .ok (.aload_n 0, 1) := by decide +kernel
theorem dJ7_fill_53178_11 : decode cJ7_fill_53178 11 = .ok (.iload_n 2, 1) := by decide +kernel
theorem dJ7_fill_53178_12 : decode cJ7_fill_53178 12 = .ok (.iload_n 1, 1) := by decide +kernel
theorem dJ7_fill_53178_13 : decode cJ7_fill_53178 13 = .ok (.iastore, 1) := by decide +kernel
theorem dJ7_fill_53178_14 : decode cJ7_fill_53178 14 = .ok (.iinc 2 1, 3) := by decide +kernel
theorem dJ7_fill_53178_17 : decode cJ7_fill_53178 17 = .ok (.goto (-12), 3) := by decide +kernel
theorem dJ7_fill_53178_20 : decode cJ7_fill_53178 20 = .ok (.return_, 1) := by decide +kernel
theorem dJ3_checkIndex_8e157_0 : decode cJ3_checkIndex_8e157 0 = .ok (.iload_n 0, 1) := by decide +kernel
theorem dJ3_checkIndex_8e157_1 : decode cJ3_checkIndex_8e157 1 = .ok (.ifCond .lt 8, 3) := by decide +kernel
theorem dJ3_checkIndex_8e157_4 : decode cJ3_checkIndex_8e157 4 = .ok (.iload_n 0, 1) := by decide +kernel
theorem dJ3_checkIndex_8e157_5 : decode cJ3_checkIndex_8e157 5 = .ok (.iload_n 1, 1) := by decide +kernel
theorem dJ3_checkIndex_8e157_6 : decode cJ3_checkIndex_8e157 6 = .ok (.if_icmp .lt 10, 3) := by decide +kernel
theorem dJ3_checkIndex_8e157_9 : decode cJ3_checkIndex_8e157 9 = .ok (.aload_n 2, 1) := by decide +kernel
theorem dJ3_checkIndex_8e157_10 : decode cJ3_checkIndex_8e157 10 = .ok (.iload_n 0, 1) := by decide +kernel
theorem dJ3_checkIndex_8e157_11 : decode cJ3_checkIndex_8e157 11 = .ok (.iload_n 1, 1) := by decide +kernel
theorem dJ3_checkIndex_8e157_12 : decode cJ3_checkIndex_8e157 12 = .ok (.invokestatic 95, 3) := by decide +kernel
theorem dJ3_checkIndex_8e157_15 : decode cJ3_checkIndex_8e157 15 = .ok (.athrow, 1) := by decide +kernel
theorem dJ3_checkIndex_8e157_16 : decode cJ3_checkIndex_8e157 16 = .ok (.iload_n 0, 1) := by decide +kernel
theorem dJ3_checkIndex_8e157_17 : decode cJ3_checkIndex_8e157 17 = .ok (.ireturn, 1) := by decide +kernel
theorem dL_law_0 : decode cL_law 0 = .ok (.new 7, 3) := by decide +kernel
theorem dL_law_3 : decode cL_law 3 = .ok (.dup, 1) := by decide +kernel
theorem dL_law_4 : decode cL_law 4 = .ok (.invokespecial 9, 3) := by decide +kernel
theorem dL_law_7 : decode cL_law 7 = .ok (.astore_n 1, 1) := by decide +kernel
theorem dL_law_8 : decode cL_law 8 = .ok (.new 10, 3) := by decide +kernel
theorem dL_law_11 : decode cL_law 11 = .ok (.dup, 1) := by decide +kernel
theorem dL_law_12 : decode cL_law 12 = .ok (.invokespecial 12, 3) := by decide +kernel
theorem dL_law_15 : decode cL_law 15 = .ok (.astore_n 2, 1) := by decide +kernel
theorem dL_law_16 : decode cL_law 16 = .ok (.iconst 0, 1) := by decide +kernel
theorem dL_law_17 : decode cL_law 17 = .ok (.istore_n 3, 1) := by decide +kernel
theorem dL_law_18 : decode cL_law 18 = .ok (.iload_n 3, 1) := by decide +kernel
theorem dL_law_19 : decode cL_law 19 = .ok (.aload_n 0, 1) := by decide +kernel
theorem dL_law_20 : decode cL_law 20 = .ok (.arraylength, 1) := by decide +kernel
theorem dL_law_21 : decode cL_law 21 = .ok (.bipush 6, 2) := by decide +kernel
theorem dL_law_23 : decode cL_law 23 = .ok (.isub, 1) := by decide +kernel
theorem dL_law_24 : decode cL_law 24 = .ok (.if_icmp .gt 1501, 3) := by decide +kernel
theorem dL_law_27 : decode cL_law 27 = .ok (.aload_n 0, 1) := by decide +kernel
theorem dL_law_28 : decode cL_law 28 = .ok (.iload_n 3, 1) := by decide +kernel
theorem dL_law_29 : decode cL_law 29 = .ok (.iaload, 1) := by decide +kernel
theorem dL_law_30 : decode cL_law 30 = .ok (.bipush 63, 2) := by decide +kernel
theorem dL_law_32 : decode cL_law 32 = .ok (.iand, 1) := by decide +kernel
theorem dL_law_33 : decode cL_law 33 = .ok (.tableswitch 1486 0 39 #[175, 218, 291, 354, 388, 421, 444, 477, 510, 543, 576, 609, 632, 645, 668, 731, 774, 807, 840, 873, 916, 949, 982, 1025, 1068, 1101, 1124, 1187, 1210, 1233, 1246, 1279, 1302, 1325, 1348, 1371, 1414, 1437, 1450, 1463], 175) := by decide +kernel
theorem dL_law_208 : decode cL_law 208 = .ok (.aload_n 1, 1) := by decide +kernel
theorem dL_law_209 : decode cL_law 209 = .ok (.aload_n 0, 1) := by decide +kernel
theorem dL_law_210 : decode cL_law 210 = .ok (.iload_n 3, 1) := by decide +kernel
theorem dL_law_211 : decode cL_law 211 = .ok (.iconst 1, 1) := by decide +kernel
theorem dL_law_212 : decode cL_law 212 = .ok (.iadd, 1) := by decide +kernel
theorem dL_law_213 : decode cL_law 213 = .ok (.iaload, 1) := by decide +kernel
theorem dL_law_214 : decode cL_law 214 = .ok (.aload_n 0, 1) := by decide +kernel
theorem dL_law_215 : decode cL_law 215 = .ok (.iload_n 3, 1) := by decide +kernel
theorem dL_law_216 : decode cL_law 216 = .ok (.iconst 2, 1) := by decide +kernel
theorem dL_law_217 : decode cL_law 217 = .ok (.iadd, 1) := by decide +kernel
theorem dL_law_218 : decode cL_law 218 = .ok (.iaload, 1) := by decide +kernel
theorem dL_law_219 : decode cL_law 219 = .ok (.aload_n 0, 1) := by decide +kernel
theorem dL_law_220 : decode cL_law 220 = .ok (.iload_n 3, 1) := by decide +kernel
theorem dL_law_221 : decode cL_law 221 = .ok (.iconst 3, 1) := by decide +kernel
theorem dL_law_222 : decode cL_law 222 = .ok (.iadd, 1) := by decide +kernel
theorem dL_law_223 : decode cL_law 223 = .ok (.iaload, 1) := by decide +kernel
theorem dL_law_224 : decode cL_law 224 = .ok (.invokevirtual 13, 3) := by decide +kernel
theorem dL_law_227 : decode cL_law 227 = .ok (.aload_n 2, 1) := by decide +kernel
theorem dL_law_228 : decode cL_law 228 = .ok (.aload_n 0, 1) := by decide +kernel
theorem dL_law_229 : decode cL_law 229 = .ok (.iload_n 3, 1) := by decide +kernel
theorem dL_law_230 : decode cL_law 230 = .ok (.iconst 1, 1) := by decide +kernel
theorem dL_law_231 : decode cL_law 231 = .ok (.iadd, 1) := by decide +kernel
theorem dL_law_232 : decode cL_law 232 = .ok (.iaload, 1) := by decide +kernel
theorem dL_law_233 : decode cL_law 233 = .ok (.aload_n 0, 1) := by decide +kernel
theorem dL_law_234 : decode cL_law 234 = .ok (.iload_n 3, 1) := by decide +kernel
theorem dL_law_235 : decode cL_law 235 = .ok (.iconst 2, 1) := by decide +kernel
theorem dL_law_236 : decode cL_law 236 = .ok (.iadd, 1) := by decide +kernel
theorem dL_law_237 : decode cL_law 237 = .ok (.iaload, 1) := by decide +kernel
theorem dL_law_238 : decode cL_law 238 = .ok (.aload_n 0, 1) := by decide +kernel
theorem dL_law_239 : decode cL_law 239 = .ok (.iload_n 3, 1) := by decide +kernel
theorem dL_law_240 : decode cL_law 240 = .ok (.iconst 3, 1) := by decide +kernel
theorem dL_law_241 : decode cL_law 241 = .ok (.iadd, 1) := by decide +kernel
theorem dL_law_242 : decode cL_law 242 = .ok (.iaload, 1) := by decide +kernel
theorem dL_law_243 : decode cL_law 243 = .ok (.invokevirtual 17, 3) := by decide +kernel
theorem dL_law_246 : decode cL_law 246 = .ok (.if_icmp .eq 1273, 3) := by decide +kernel
theorem dL_law_249 : decode cL_law 249 = .ok (.iconst 0, 1) := by decide +kernel
theorem dL_law_250 : decode cL_law 250 = .ok (.ireturn, 1) := by decide +kernel
theorem dL_law_251 : decode cL_law 251 = .ok (.aload_n 1, 1) := by decide +kernel
theorem dL_law_252 : decode cL_law 252 = .ok (.aload_n 0, 1) := by decide +kernel
theorem dL_law_253 : decode cL_law 253 = .ok (.iload_n 3, 1) := by decide +kernel
theorem dL_law_254 : decode cL_law 254 = .ok (.iconst 1, 1) := by decide +kernel
theorem dL_law_255 : decode cL_law 255 = .ok (.iadd, 1) := by decide +kernel
theorem dL_law_256 : decode cL_law 256 = .ok (.iaload, 1) := by decide +kernel
theorem dL_law_257 : decode cL_law 257 = .ok (.aload_n 0, 1) := by decide +kernel
theorem dL_law_258 : decode cL_law 258 = .ok (.iload_n 3, 1) := by decide +kernel
theorem dL_law_259 : decode cL_law 259 = .ok (.iconst 2, 1) := by decide +kernel
theorem dL_law_260 : decode cL_law 260 = .ok (.iadd, 1) := by decide +kernel
theorem dL_law_261 : decode cL_law 261 = .ok (.iaload, 1) := by decide +kernel
theorem dL_law_262 : decode cL_law 262 = .ok (.aload_n 0, 1) := by decide +kernel
theorem dL_law_263 : decode cL_law 263 = .ok (.iload_n 3, 1) := by decide +kernel
theorem dL_law_264 : decode cL_law 264 = .ok (.iconst 3, 1) := by decide +kernel
theorem dL_law_265 : decode cL_law 265 = .ok (.iadd, 1) := by decide +kernel
theorem dL_law_266 : decode cL_law 266 = .ok (.iaload, 1) := by decide +kernel
theorem dL_law_267 : decode cL_law 267 = .ok (.i2l, 1) := by decide +kernel
theorem dL_law_268 : decode cL_law 268 = .ok (.bipush 32, 2) := by decide +kernel
theorem dL_law_270 : decode cL_law 270 = .ok (.lshl, 1) := by decide +kernel
theorem dL_law_271 : decode cL_law 271 = .ok (.aload_n 0, 1) := by decide +kernel
theorem dL_law_272 : decode cL_law 272 = .ok (.iload_n 3, 1) := by decide +kernel
theorem dL_law_273 : decode cL_law 273 = .ok (.iconst 4, 1) := by decide +kernel
theorem dL_law_274 : decode cL_law 274 = .ok (.iadd, 1) := by decide +kernel
theorem dL_law_275 : decode cL_law 275 = .ok (.iaload, 1) := by decide +kernel
theorem dL_law_276 : decode cL_law 276 = .ok (.i2l, 1) := by decide +kernel
theorem dL_law_277 : decode cL_law 277 = .ok (.ldc2_w 18, 3) := by decide +kernel
theorem dL_law_280 : decode cL_law 280 = .ok (.land, 1) := by decide +kernel
theorem dL_law_281 : decode cL_law 281 = .ok (.lor, 1) := by decide +kernel
theorem dL_law_282 : decode cL_law 282 = .ok (.invokevirtual 20, 3) := by decide +kernel
theorem dL_law_285 : decode cL_law 285 = .ok (.aload_n 2, 1) := by decide +kernel
theorem dL_law_286 : decode cL_law 286 = .ok (.aload_n 0, 1) := by decide +kernel
theorem dL_law_287 : decode cL_law 287 = .ok (.iload_n 3, 1) := by decide +kernel
theorem dL_law_288 : decode cL_law 288 = .ok (.iconst 1, 1) := by decide +kernel
theorem dL_law_289 : decode cL_law 289 = .ok (.iadd, 1) := by decide +kernel
theorem dL_law_290 : decode cL_law 290 = .ok (.iaload, 1) := by decide +kernel
theorem dL_law_291 : decode cL_law 291 = .ok (.aload_n 0, 1) := by decide +kernel
theorem dL_law_292 : decode cL_law 292 = .ok (.iload_n 3, 1) := by decide +kernel
theorem dL_law_293 : decode cL_law 293 = .ok (.iconst 2, 1) := by decide +kernel
theorem dL_law_294 : decode cL_law 294 = .ok (.iadd, 1) := by decide +kernel
theorem dL_law_295 : decode cL_law 295 = .ok (.iaload, 1) := by decide +kernel
theorem dL_law_296 : decode cL_law 296 = .ok (.aload_n 0, 1) := by decide +kernel
theorem dL_law_297 : decode cL_law 297 = .ok (.iload_n 3, 1) := by decide +kernel
theorem dL_law_298 : decode cL_law 298 = .ok (.iconst 3, 1) := by decide +kernel
theorem dL_law_299 : decode cL_law 299 = .ok (.iadd, 1) := by decide +kernel
theorem dL_law_300 : decode cL_law 300 = .ok (.iaload, 1) := by decide +kernel
theorem dL_law_301 : decode cL_law 301 = .ok (.i2l, 1) := by decide +kernel
theorem dL_law_302 : decode cL_law 302 = .ok (.bipush 32, 2) := by decide +kernel
theorem dL_law_304 : decode cL_law 304 = .ok (.lshl, 1) := by decide +kernel
theorem dL_law_305 : decode cL_law 305 = .ok (.aload_n 0, 1) := by decide +kernel
theorem dL_law_306 : decode cL_law 306 = .ok (.iload_n 3, 1) := by decide +kernel
theorem dL_law_307 : decode cL_law 307 = .ok (.iconst 4, 1) := by decide +kernel
theorem dL_law_308 : decode cL_law 308 = .ok (.iadd, 1) := by decide +kernel
theorem dL_law_309 : decode cL_law 309 = .ok (.iaload, 1) := by decide +kernel
theorem dL_law_310 : decode cL_law 310 = .ok (.i2l, 1) := by decide +kernel
theorem dL_law_311 : decode cL_law 311 = .ok (.ldc2_w 18, 3) := by decide +kernel
theorem dL_law_314 : decode cL_law 314 = .ok (.land, 1) := by decide +kernel
theorem dL_law_315 : decode cL_law 315 = .ok (.lor, 1) := by decide +kernel
theorem dL_law_316 : decode cL_law 316 = .ok (.invokevirtual 24, 3) := by decide +kernel
theorem dL_law_319 : decode cL_law 319 = .ok (.if_icmp .eq 1200, 3) := by decide +kernel
theorem dL_law_322 : decode cL_law 322 = .ok (.iconst 0, 1) := by decide +kernel
theorem dL_law_323 : decode cL_law 323 = .ok (.ireturn, 1) := by decide +kernel
theorem dL_law_324 : decode cL_law 324 = .ok (.aload_n 1, 1) := by decide +kernel
theorem dL_law_325 : decode cL_law 325 = .ok (.aload_n 0, 1) := by decide +kernel
theorem dL_law_326 : decode cL_law 326 = .ok (.iload_n 3, 1) := by decide +kernel
theorem dL_law_327 : decode cL_law 327 = .ok (.iconst 1, 1) := by decide +kernel
theorem dL_law_328 : decode cL_law 328 = .ok (.iadd, 1) := by decide +kernel
theorem dL_law_329 : decode cL_law 329 = .ok (.iaload, 1) := by decide +kernel
theorem dL_law_330 : decode cL_law 330 = .ok (.aload_n 0, 1) := by decide +kernel
theorem dL_law_331 : decode cL_law 331 = .ok (.iload_n 3, 1) := by decide +kernel
theorem dL_law_332 : decode cL_law 332 = .ok (.iconst 2, 1) := by decide +kernel
theorem dL_law_333 : decode cL_law 333 = .ok (.iadd, 1) := by decide +kernel
theorem dL_law_334 : decode cL_law 334 = .ok (.iaload, 1) := by decide +kernel
theorem dL_law_335 : decode cL_law 335 = .ok (.aload_n 0, 1) := by decide +kernel
theorem dL_law_336 : decode cL_law 336 = .ok (.iload_n 3, 1) := by decide +kernel
theorem dL_law_337 : decode cL_law 337 = .ok (.iconst 3, 1) := by decide +kernel
theorem dL_law_338 : decode cL_law 338 = .ok (.iadd, 1) := by decide +kernel
theorem dL_law_339 : decode cL_law 339 = .ok (.iaload, 1) := by decide +kernel
theorem dL_law_340 : decode cL_law 340 = .ok (.aload_n 0, 1) := by decide +kernel
theorem dL_law_341 : decode cL_law 341 = .ok (.iload_n 3, 1) := by decide +kernel
theorem dL_law_342 : decode cL_law 342 = .ok (.iconst 4, 1) := by decide +kernel
theorem dL_law_343 : decode cL_law 343 = .ok (.iadd, 1) := by decide +kernel
theorem dL_law_344 : decode cL_law 344 = .ok (.iaload, 1) := by decide +kernel
theorem dL_law_345 : decode cL_law 345 = .ok (.aload_n 0, 1) := by decide +kernel
theorem dL_law_346 : decode cL_law 346 = .ok (.iload_n 3, 1) := by decide +kernel
theorem dL_law_347 : decode cL_law 347 = .ok (.iconst 5, 1) := by decide +kernel
theorem dL_law_348 : decode cL_law 348 = .ok (.iadd, 1) := by decide +kernel
theorem dL_law_349 : decode cL_law 349 = .ok (.iaload, 1) := by decide +kernel
theorem dL_law_350 : decode cL_law 350 = .ok (.invokevirtual 25, 3) := by decide +kernel
theorem dL_law_353 : decode cL_law 353 = .ok (.aload_n 2, 1) := by decide +kernel
theorem dL_law_354 : decode cL_law 354 = .ok (.aload_n 0, 1) := by decide +kernel
theorem dL_law_355 : decode cL_law 355 = .ok (.iload_n 3, 1) := by decide +kernel
theorem dL_law_356 : decode cL_law 356 = .ok (.iconst 1, 1) := by decide +kernel
theorem dL_law_357 : decode cL_law 357 = .ok (.iadd, 1) := by decide +kernel
theorem dL_law_358 : decode cL_law 358 = .ok (.iaload, 1) := by decide +kernel
theorem dL_law_359 : decode cL_law 359 = .ok (.aload_n 0, 1) := by decide +kernel
theorem dL_law_360 : decode cL_law 360 = .ok (.iload_n 3, 1) := by decide +kernel
theorem dL_law_361 : decode cL_law 361 = .ok (.iconst 2, 1) := by decide +kernel
theorem dL_law_362 : decode cL_law 362 = .ok (.iadd, 1) := by decide +kernel
theorem dL_law_363 : decode cL_law 363 = .ok (.iaload, 1) := by decide +kernel
theorem dL_law_364 : decode cL_law 364 = .ok (.aload_n 0, 1) := by decide +kernel
theorem dL_law_365 : decode cL_law 365 = .ok (.iload_n 3, 1) := by decide +kernel
theorem dL_law_366 : decode cL_law 366 = .ok (.iconst 3, 1) := by decide +kernel
theorem dL_law_367 : decode cL_law 367 = .ok (.iadd, 1) := by decide +kernel
theorem dL_law_368 : decode cL_law 368 = .ok (.iaload, 1) := by decide +kernel
theorem dL_law_369 : decode cL_law 369 = .ok (.aload_n 0, 1) := by decide +kernel
theorem dL_law_370 : decode cL_law 370 = .ok (.iload_n 3, 1) := by decide +kernel
theorem dL_law_371 : decode cL_law 371 = .ok (.iconst 4, 1) := by decide +kernel
theorem dL_law_372 : decode cL_law 372 = .ok (.iadd, 1) := by decide +kernel
theorem dL_law_373 : decode cL_law 373 = .ok (.iaload, 1) := by decide +kernel
theorem dL_law_374 : decode cL_law 374 = .ok (.aload_n 0, 1) := by decide +kernel
theorem dL_law_375 : decode cL_law 375 = .ok (.iload_n 3, 1) := by decide +kernel
theorem dL_law_376 : decode cL_law 376 = .ok (.iconst 5, 1) := by decide +kernel
theorem dL_law_377 : decode cL_law 377 = .ok (.iadd, 1) := by decide +kernel
theorem dL_law_378 : decode cL_law 378 = .ok (.iaload, 1) := by decide +kernel
theorem dL_law_379 : decode cL_law 379 = .ok (.invokevirtual 29, 3) := by decide +kernel
theorem dL_law_382 : decode cL_law 382 = .ok (.if_icmp .eq 1137, 3) := by decide +kernel
theorem dL_law_385 : decode cL_law 385 = .ok (.iconst 0, 1) := by decide +kernel
theorem dL_law_386 : decode cL_law 386 = .ok (.ireturn, 1) := by decide +kernel
theorem dL_law_387 : decode cL_law 387 = .ok (.aload_n 1, 1) := by decide +kernel
theorem dL_law_388 : decode cL_law 388 = .ok (.aload_n 0, 1) := by decide +kernel
theorem dL_law_389 : decode cL_law 389 = .ok (.iload_n 3, 1) := by decide +kernel
theorem dL_law_390 : decode cL_law 390 = .ok (.iconst 1, 1) := by decide +kernel
theorem dL_law_391 : decode cL_law 391 = .ok (.iadd, 1) := by decide +kernel
theorem dL_law_392 : decode cL_law 392 = .ok (.iaload, 1) := by decide +kernel
theorem dL_law_393 : decode cL_law 393 = .ok (.aload_n 0, 1) := by decide +kernel
theorem dL_law_394 : decode cL_law 394 = .ok (.iload_n 3, 1) := by decide +kernel
theorem dL_law_395 : decode cL_law 395 = .ok (.iconst 2, 1) := by decide +kernel
theorem dL_law_396 : decode cL_law 396 = .ok (.iadd, 1) := by decide +kernel
theorem dL_law_397 : decode cL_law 397 = .ok (.iaload, 1) := by decide +kernel
theorem dL_law_398 : decode cL_law 398 = .ok (.invokevirtual 30, 3) := by decide +kernel
theorem dL_law_401 : decode cL_law 401 = .ok (.aload_n 2, 1) := by decide +kernel
theorem dL_law_402 : decode cL_law 402 = .ok (.aload_n 0, 1) := by decide +kernel
theorem dL_law_403 : decode cL_law 403 = .ok (.iload_n 3, 1) := by decide +kernel
theorem dL_law_404 : decode cL_law 404 = .ok (.iconst 1, 1) := by decide +kernel
theorem dL_law_405 : decode cL_law 405 = .ok (.iadd, 1) := by decide +kernel
theorem dL_law_406 : decode cL_law 406 = .ok (.iaload, 1) := by decide +kernel
theorem dL_law_407 : decode cL_law 407 = .ok (.aload_n 0, 1) := by decide +kernel
theorem dL_law_408 : decode cL_law 408 = .ok (.iload_n 3, 1) := by decide +kernel
theorem dL_law_409 : decode cL_law 409 = .ok (.iconst 2, 1) := by decide +kernel
theorem dL_law_410 : decode cL_law 410 = .ok (.iadd, 1) := by decide +kernel
theorem dL_law_411 : decode cL_law 411 = .ok (.iaload, 1) := by decide +kernel
theorem dL_law_412 : decode cL_law 412 = .ok (.invokevirtual 34, 3) := by decide +kernel
theorem dL_law_415 : decode cL_law 415 = .ok (.lcmp, 1) := by decide +kernel
theorem dL_law_416 : decode cL_law 416 = .ok (.ifCond .eq 1103, 3) := by decide +kernel
theorem dL_law_419 : decode cL_law 419 = .ok (.iconst 0, 1) := by decide +kernel
theorem dL_law_420 : decode cL_law 420 = .ok (.ireturn, 1) := by decide +kernel
theorem dL_law_421 : decode cL_law 421 = .ok (.aload_n 1, 1) := by decide +kernel
theorem dL_law_422 : decode cL_law 422 = .ok (.aload_n 0, 1) := by decide +kernel
theorem dL_law_423 : decode cL_law 423 = .ok (.iload_n 3, 1) := by decide +kernel
theorem dL_law_424 : decode cL_law 424 = .ok (.iconst 1, 1) := by decide +kernel
theorem dL_law_425 : decode cL_law 425 = .ok (.iadd, 1) := by decide +kernel
theorem dL_law_426 : decode cL_law 426 = .ok (.iaload, 1) := by decide +kernel
theorem dL_law_427 : decode cL_law 427 = .ok (.aload_n 0, 1) := by decide +kernel
theorem dL_law_428 : decode cL_law 428 = .ok (.iload_n 3, 1) := by decide +kernel
theorem dL_law_429 : decode cL_law 429 = .ok (.iconst 2, 1) := by decide +kernel
theorem dL_law_430 : decode cL_law 430 = .ok (.iadd, 1) := by decide +kernel
theorem dL_law_431 : decode cL_law 431 = .ok (.iaload, 1) := by decide +kernel
theorem dL_law_432 : decode cL_law 432 = .ok (.invokevirtual 35, 3) := by decide +kernel
theorem dL_law_435 : decode cL_law 435 = .ok (.aload_n 2, 1) := by decide +kernel
theorem dL_law_436 : decode cL_law 436 = .ok (.aload_n 0, 1) := by decide +kernel
theorem dL_law_437 : decode cL_law 437 = .ok (.iload_n 3, 1) := by decide +kernel
theorem dL_law_438 : decode cL_law 438 = .ok (.iconst 1, 1) := by decide +kernel
theorem dL_law_439 : decode cL_law 439 = .ok (.iadd, 1) := by decide +kernel
theorem dL_law_440 : decode cL_law 440 = .ok (.iaload, 1) := by decide +kernel
theorem dL_law_441 : decode cL_law 441 = .ok (.aload_n 0, 1) := by decide +kernel
theorem dL_law_442 : decode cL_law 442 = .ok (.iload_n 3, 1) := by decide +kernel
theorem dL_law_443 : decode cL_law 443 = .ok (.iconst 2, 1) := by decide +kernel
theorem dL_law_444 : decode cL_law 444 = .ok (.iadd, 1) := by decide +kernel
theorem dL_law_445 : decode cL_law 445 = .ok (.iaload, 1) := by decide +kernel
theorem dL_law_446 : decode cL_law 446 = .ok (.invokevirtual 39, 3) := by decide +kernel
theorem dL_law_449 : decode cL_law 449 = .ok (.if_icmp .eq 1070, 3) := by decide +kernel
theorem dL_law_452 : decode cL_law 452 = .ok (.iconst 0, 1) := by decide +kernel
theorem dL_law_453 : decode cL_law 453 = .ok (.ireturn, 1) := by decide +kernel
theorem dL_law_454 : decode cL_law 454 = .ok (.aload_n 1, 1) := by decide +kernel
theorem dL_law_455 : decode cL_law 455 = .ok (.aload_n 0, 1) := by decide +kernel
theorem dL_law_456 : decode cL_law 456 = .ok (.iload_n 3, 1) := by decide +kernel
theorem dL_law_457 : decode cL_law 457 = .ok (.iconst 1, 1) := by decide +kernel
theorem dL_law_458 : decode cL_law 458 = .ok (.iadd, 1) := by decide +kernel
theorem dL_law_459 : decode cL_law 459 = .ok (.iaload, 1) := by decide +kernel
theorem dL_law_460 : decode cL_law 460 = .ok (.invokevirtual 40, 3) := by decide +kernel
theorem dL_law_463 : decode cL_law 463 = .ok (.aload_n 2, 1) := by decide +kernel
theorem dL_law_464 : decode cL_law 464 = .ok (.aload_n 0, 1) := by decide +kernel
theorem dL_law_465 : decode cL_law 465 = .ok (.iload_n 3, 1) := by decide +kernel
theorem dL_law_466 : decode cL_law 466 = .ok (.iconst 1, 1) := by decide +kernel
theorem dL_law_467 : decode cL_law 467 = .ok (.iadd, 1) := by decide +kernel
theorem dL_law_468 : decode cL_law 468 = .ok (.iaload, 1) := by decide +kernel
theorem dL_law_469 : decode cL_law 469 = .ok (.invokevirtual 44, 3) := by decide +kernel
theorem dL_law_472 : decode cL_law 472 = .ok (.if_icmp .eq 1047, 3) := by decide +kernel
theorem dL_law_475 : decode cL_law 475 = .ok (.iconst 0, 1) := by decide +kernel
theorem dL_law_476 : decode cL_law 476 = .ok (.ireturn, 1) := by decide +kernel
theorem dL_law_477 : decode cL_law 477 = .ok (.aload_n 1, 1) := by decide +kernel
theorem dL_law_478 : decode cL_law 478 = .ok (.aload_n 0, 1) := by decide +kernel
theorem dL_law_479 : decode cL_law 479 = .ok (.iload_n 3, 1) := by decide +kernel
theorem dL_law_480 : decode cL_law 480 = .ok (.iconst 1, 1) := by decide +kernel
theorem dL_law_481 : decode cL_law 481 = .ok (.iadd, 1) := by decide +kernel
theorem dL_law_482 : decode cL_law 482 = .ok (.iaload, 1) := by decide +kernel
theorem dL_law_483 : decode cL_law 483 = .ok (.aload_n 0, 1) := by decide +kernel
theorem dL_law_484 : decode cL_law 484 = .ok (.iload_n 3, 1) := by decide +kernel
theorem dL_law_485 : decode cL_law 485 = .ok (.iconst 2, 1) := by decide +kernel
theorem dL_law_486 : decode cL_law 486 = .ok (.iadd, 1) := by decide +kernel
theorem dL_law_487 : decode cL_law 487 = .ok (.iaload, 1) := by decide +kernel
theorem dL_law_488 : decode cL_law 488 = .ok (.invokevirtual 45, 3) := by decide +kernel
theorem dL_law_491 : decode cL_law 491 = .ok (.aload_n 2, 1) := by decide +kernel
theorem dL_law_492 : decode cL_law 492 = .ok (.aload_n 0, 1) := by decide +kernel
theorem dL_law_493 : decode cL_law 493 = .ok (.iload_n 3, 1) := by decide +kernel
theorem dL_law_494 : decode cL_law 494 = .ok (.iconst 1, 1) := by decide +kernel
theorem dL_law_495 : decode cL_law 495 = .ok (.iadd, 1) := by decide +kernel
theorem dL_law_496 : decode cL_law 496 = .ok (.iaload, 1) := by decide +kernel
theorem dL_law_497 : decode cL_law 497 = .ok (.aload_n 0, 1) := by decide +kernel
theorem dL_law_498 : decode cL_law 498 = .ok (.iload_n 3, 1) := by decide +kernel
theorem dL_law_499 : decode cL_law 499 = .ok (.iconst 2, 1) := by decide +kernel
theorem dL_law_500 : decode cL_law 500 = .ok (.iadd, 1) := by decide +kernel
theorem dL_law_501 : decode cL_law 501 = .ok (.iaload, 1) := by decide +kernel
theorem dL_law_502 : decode cL_law 502 = .ok (.invokevirtual 48, 3) := by decide +kernel
theorem dL_law_505 : decode cL_law 505 = .ok (.if_icmp .eq 1014, 3) := by decide +kernel
theorem dL_law_508 : decode cL_law 508 = .ok (.iconst 0, 1) := by decide +kernel
theorem dL_law_509 : decode cL_law 509 = .ok (.ireturn, 1) := by decide +kernel
theorem dL_law_510 : decode cL_law 510 = .ok (.aload_n 1, 1) := by decide +kernel
theorem dL_law_511 : decode cL_law 511 = .ok (.aload_n 0, 1) := by decide +kernel
theorem dL_law_512 : decode cL_law 512 = .ok (.iload_n 3, 1) := by decide +kernel
theorem dL_law_513 : decode cL_law 513 = .ok (.iconst 1, 1) := by decide +kernel
theorem dL_law_514 : decode cL_law 514 = .ok (.iadd, 1) := by decide +kernel
theorem dL_law_515 : decode cL_law 515 = .ok (.iaload, 1) := by decide +kernel
theorem dL_law_516 : decode cL_law 516 = .ok (.aload_n 0, 1) := by decide +kernel
theorem dL_law_517 : decode cL_law 517 = .ok (.iload_n 3, 1) := by decide +kernel
theorem dL_law_518 : decode cL_law 518 = .ok (.iconst 2, 1) := by decide +kernel
theorem dL_law_519 : decode cL_law 519 = .ok (.iadd, 1) := by decide +kernel
theorem dL_law_520 : decode cL_law 520 = .ok (.iaload, 1) := by decide +kernel
theorem dL_law_521 : decode cL_law 521 = .ok (.invokevirtual 49, 3) := by decide +kernel
theorem dL_law_524 : decode cL_law 524 = .ok (.aload_n 2, 1) := by decide +kernel
theorem dL_law_525 : decode cL_law 525 = .ok (.aload_n 0, 1) := by decide +kernel
theorem dL_law_526 : decode cL_law 526 = .ok (.iload_n 3, 1) := by decide +kernel
theorem dL_law_527 : decode cL_law 527 = .ok (.iconst 1, 1) := by decide +kernel
theorem dL_law_528 : decode cL_law 528 = .ok (.iadd, 1) := by decide +kernel
theorem dL_law_529 : decode cL_law 529 = .ok (.iaload, 1) := by decide +kernel
theorem dL_law_530 : decode cL_law 530 = .ok (.aload_n 0, 1) := by decide +kernel
theorem dL_law_531 : decode cL_law 531 = .ok (.iload_n 3, 1) := by decide +kernel
theorem dL_law_532 : decode cL_law 532 = .ok (.iconst 2, 1) := by decide +kernel
theorem dL_law_533 : decode cL_law 533 = .ok (.iadd, 1) := by decide +kernel
theorem dL_law_534 : decode cL_law 534 = .ok (.iaload, 1) := by decide +kernel
theorem dL_law_535 : decode cL_law 535 = .ok (.invokevirtual 52, 3) := by decide +kernel
theorem dL_law_538 : decode cL_law 538 = .ok (.if_icmp .eq 981, 3) := by decide +kernel
theorem dL_law_541 : decode cL_law 541 = .ok (.iconst 0, 1) := by decide +kernel
theorem dL_law_542 : decode cL_law 542 = .ok (.ireturn, 1) := by decide +kernel
theorem dL_law_543 : decode cL_law 543 = .ok (.aload_n 1, 1) := by decide +kernel
theorem dL_law_544 : decode cL_law 544 = .ok (.aload_n 0, 1) := by decide +kernel
theorem dL_law_545 : decode cL_law 545 = .ok (.iload_n 3, 1) := by decide +kernel
theorem dL_law_546 : decode cL_law 546 = .ok (.iconst 1, 1) := by decide +kernel
theorem dL_law_547 : decode cL_law 547 = .ok (.iadd, 1) := by decide +kernel
theorem dL_law_548 : decode cL_law 548 = .ok (.iaload, 1) := by decide +kernel
theorem dL_law_549 : decode cL_law 549 = .ok (.aload_n 0, 1) := by decide +kernel
theorem dL_law_550 : decode cL_law 550 = .ok (.iload_n 3, 1) := by decide +kernel
theorem dL_law_551 : decode cL_law 551 = .ok (.iconst 2, 1) := by decide +kernel
theorem dL_law_552 : decode cL_law 552 = .ok (.iadd, 1) := by decide +kernel
theorem dL_law_553 : decode cL_law 553 = .ok (.iaload, 1) := by decide +kernel
theorem dL_law_554 : decode cL_law 554 = .ok (.invokevirtual 53, 3) := by decide +kernel
theorem dL_law_557 : decode cL_law 557 = .ok (.aload_n 2, 1) := by decide +kernel
theorem dL_law_558 : decode cL_law 558 = .ok (.aload_n 0, 1) := by decide +kernel
theorem dL_law_559 : decode cL_law 559 = .ok (.iload_n 3, 1) := by decide +kernel
theorem dL_law_560 : decode cL_law 560 = .ok (.iconst 1, 1) := by decide +kernel
theorem dL_law_561 : decode cL_law 561 = .ok (.iadd, 1) := by decide +kernel
theorem dL_law_562 : decode cL_law 562 = .ok (.iaload, 1) := by decide +kernel
theorem dL_law_563 : decode cL_law 563 = .ok (.aload_n 0, 1) := by decide +kernel
theorem dL_law_564 : decode cL_law 564 = .ok (.iload_n 3, 1) := by decide +kernel
theorem dL_law_565 : decode cL_law 565 = .ok (.iconst 2, 1) := by decide +kernel
theorem dL_law_566 : decode cL_law 566 = .ok (.iadd, 1) := by decide +kernel
theorem dL_law_567 : decode cL_law 567 = .ok (.iaload, 1) := by decide +kernel
theorem dL_law_568 : decode cL_law 568 = .ok (.invokevirtual 56, 3) := by decide +kernel
theorem dL_law_571 : decode cL_law 571 = .ok (.if_icmp .eq 948, 3) := by decide +kernel
theorem dL_law_574 : decode cL_law 574 = .ok (.iconst 0, 1) := by decide +kernel
theorem dL_law_575 : decode cL_law 575 = .ok (.ireturn, 1) := by decide +kernel
theorem dL_law_576 : decode cL_law 576 = .ok (.aload_n 1, 1) := by decide +kernel
theorem dL_law_577 : decode cL_law 577 = .ok (.aload_n 0, 1) := by decide +kernel
theorem dL_law_578 : decode cL_law 578 = .ok (.iload_n 3, 1) := by decide +kernel
theorem dL_law_579 : decode cL_law 579 = .ok (.iconst 1, 1) := by decide +kernel
theorem dL_law_580 : decode cL_law 580 = .ok (.iadd, 1) := by decide +kernel
theorem dL_law_581 : decode cL_law 581 = .ok (.iaload, 1) := by decide +kernel
theorem dL_law_582 : decode cL_law 582 = .ok (.aload_n 0, 1) := by decide +kernel
theorem dL_law_583 : decode cL_law 583 = .ok (.iload_n 3, 1) := by decide +kernel
theorem dL_law_584 : decode cL_law 584 = .ok (.iconst 2, 1) := by decide +kernel
theorem dL_law_585 : decode cL_law 585 = .ok (.iadd, 1) := by decide +kernel
theorem dL_law_586 : decode cL_law 586 = .ok (.iaload, 1) := by decide +kernel
theorem dL_law_587 : decode cL_law 587 = .ok (.invokevirtual 57, 3) := by decide +kernel
theorem dL_law_590 : decode cL_law 590 = .ok (.aload_n 2, 1) := by decide +kernel
theorem dL_law_591 : decode cL_law 591 = .ok (.aload_n 0, 1) := by decide +kernel
theorem dL_law_592 : decode cL_law 592 = .ok (.iload_n 3, 1) := by decide +kernel
theorem dL_law_593 : decode cL_law 593 = .ok (.iconst 1, 1) := by decide +kernel
theorem dL_law_594 : decode cL_law 594 = .ok (.iadd, 1) := by decide +kernel
theorem dL_law_595 : decode cL_law 595 = .ok (.iaload, 1) := by decide +kernel
theorem dL_law_596 : decode cL_law 596 = .ok (.aload_n 0, 1) := by decide +kernel
theorem dL_law_597 : decode cL_law 597 = .ok (.iload_n 3, 1) := by decide +kernel
theorem dL_law_598 : decode cL_law 598 = .ok (.iconst 2, 1) := by decide +kernel
theorem dL_law_599 : decode cL_law 599 = .ok (.iadd, 1) := by decide +kernel
theorem dL_law_600 : decode cL_law 600 = .ok (.iaload, 1) := by decide +kernel
theorem dL_law_601 : decode cL_law 601 = .ok (.invokevirtual 60, 3) := by decide +kernel
theorem dL_law_604 : decode cL_law 604 = .ok (.if_icmp .eq 915, 3) := by decide +kernel
theorem dL_law_607 : decode cL_law 607 = .ok (.iconst 0, 1) := by decide +kernel
theorem dL_law_608 : decode cL_law 608 = .ok (.ireturn, 1) := by decide +kernel
theorem dL_law_609 : decode cL_law 609 = .ok (.aload_n 1, 1) := by decide +kernel
theorem dL_law_610 : decode cL_law 610 = .ok (.aload_n 0, 1) := by decide +kernel
theorem dL_law_611 : decode cL_law 611 = .ok (.iload_n 3, 1) := by decide +kernel
theorem dL_law_612 : decode cL_law 612 = .ok (.iconst 1, 1) := by decide +kernel
theorem dL_law_613 : decode cL_law 613 = .ok (.iadd, 1) := by decide +kernel
theorem dL_law_614 : decode cL_law 614 = .ok (.iaload, 1) := by decide +kernel
theorem dL_law_615 : decode cL_law 615 = .ok (.aload_n 0, 1) := by decide +kernel
theorem dL_law_616 : decode cL_law 616 = .ok (.iload_n 3, 1) := by decide +kernel
theorem dL_law_617 : decode cL_law 617 = .ok (.iconst 2, 1) := by decide +kernel
theorem dL_law_618 : decode cL_law 618 = .ok (.iadd, 1) := by decide +kernel
theorem dL_law_619 : decode cL_law 619 = .ok (.iaload, 1) := by decide +kernel
theorem dL_law_620 : decode cL_law 620 = .ok (.invokevirtual 61, 3) := by decide +kernel
theorem dL_law_623 : decode cL_law 623 = .ok (.aload_n 2, 1) := by decide +kernel
theorem dL_law_624 : decode cL_law 624 = .ok (.aload_n 0, 1) := by decide +kernel
theorem dL_law_625 : decode cL_law 625 = .ok (.iload_n 3, 1) := by decide +kernel
theorem dL_law_626 : decode cL_law 626 = .ok (.iconst 1, 1) := by decide +kernel
theorem dL_law_627 : decode cL_law 627 = .ok (.iadd, 1) := by decide +kernel
theorem dL_law_628 : decode cL_law 628 = .ok (.iaload, 1) := by decide +kernel
theorem dL_law_629 : decode cL_law 629 = .ok (.aload_n 0, 1) := by decide +kernel
theorem dL_law_630 : decode cL_law 630 = .ok (.iload_n 3, 1) := by decide +kernel
theorem dL_law_631 : decode cL_law 631 = .ok (.iconst 2, 1) := by decide +kernel
theorem dL_law_632 : decode cL_law 632 = .ok (.iadd, 1) := by decide +kernel
theorem dL_law_633 : decode cL_law 633 = .ok (.iaload, 1) := by decide +kernel
theorem dL_law_634 : decode cL_law 634 = .ok (.invokevirtual 64, 3) := by decide +kernel
theorem dL_law_637 : decode cL_law 637 = .ok (.if_icmp .eq 882, 3) := by decide +kernel
theorem dL_law_640 : decode cL_law 640 = .ok (.iconst 0, 1) := by decide +kernel
theorem dL_law_641 : decode cL_law 641 = .ok (.ireturn, 1) := by decide +kernel
theorem dL_law_642 : decode cL_law 642 = .ok (.aload_n 1, 1) := by decide +kernel
theorem dL_law_643 : decode cL_law 643 = .ok (.aload_n 0, 1) := by decide +kernel
theorem dL_law_644 : decode cL_law 644 = .ok (.iload_n 3, 1) := by decide +kernel
theorem dL_law_645 : decode cL_law 645 = .ok (.iconst 1, 1) := by decide +kernel
theorem dL_law_646 : decode cL_law 646 = .ok (.iadd, 1) := by decide +kernel
theorem dL_law_647 : decode cL_law 647 = .ok (.iaload, 1) := by decide +kernel
theorem dL_law_648 : decode cL_law 648 = .ok (.invokevirtual 65, 3) := by decide +kernel
theorem dL_law_651 : decode cL_law 651 = .ok (.aload_n 2, 1) := by decide +kernel
theorem dL_law_652 : decode cL_law 652 = .ok (.aload_n 0, 1) := by decide +kernel
theorem dL_law_653 : decode cL_law 653 = .ok (.iload_n 3, 1) := by decide +kernel
theorem dL_law_654 : decode cL_law 654 = .ok (.iconst 1, 1) := by decide +kernel
theorem dL_law_655 : decode cL_law 655 = .ok (.iadd, 1) := by decide +kernel
theorem dL_law_656 : decode cL_law 656 = .ok (.iaload, 1) := by decide +kernel
theorem dL_law_657 : decode cL_law 657 = .ok (.invokevirtual 68, 3) := by decide +kernel
theorem dL_law_660 : decode cL_law 660 = .ok (.if_icmp .eq 859, 3) := by decide +kernel
theorem dL_law_663 : decode cL_law 663 = .ok (.iconst 0, 1) := by decide +kernel
theorem dL_law_664 : decode cL_law 664 = .ok (.ireturn, 1) := by decide +kernel
theorem dL_law_665 : decode cL_law 665 = .ok (.aload_n 1, 1) := by decide +kernel
theorem dL_law_666 : decode cL_law 666 = .ok (.invokevirtual 69, 3) := by decide +kernel
theorem dL_law_669 : decode cL_law 669 = .ok (.aload_n 2, 1) := by decide +kernel
theorem dL_law_670 : decode cL_law 670 = .ok (.invokevirtual 73, 3) := by decide +kernel
theorem dL_law_673 : decode cL_law 673 = .ok (.if_icmp .eq 846, 3) := by decide +kernel
theorem dL_law_676 : decode cL_law 676 = .ok (.iconst 0, 1) := by decide +kernel
theorem dL_law_677 : decode cL_law 677 = .ok (.ireturn, 1) := by decide +kernel
theorem dL_law_678 : decode cL_law 678 = .ok (.aload_n 1, 1) := by decide +kernel
theorem dL_law_679 : decode cL_law 679 = .ok (.aload_n 0, 1) := by decide +kernel
theorem dL_law_680 : decode cL_law 680 = .ok (.iload_n 3, 1) := by decide +kernel
theorem dL_law_681 : decode cL_law 681 = .ok (.iconst 1, 1) := by decide +kernel
theorem dL_law_682 : decode cL_law 682 = .ok (.iadd, 1) := by decide +kernel
theorem dL_law_683 : decode cL_law 683 = .ok (.iaload, 1) := by decide +kernel
theorem dL_law_684 : decode cL_law 684 = .ok (.invokevirtual 74, 3) := by decide +kernel
theorem dL_law_687 : decode cL_law 687 = .ok (.aload_n 2, 1) := by decide +kernel
theorem dL_law_688 : decode cL_law 688 = .ok (.aload_n 0, 1) := by decide +kernel
theorem dL_law_689 : decode cL_law 689 = .ok (.iload_n 3, 1) := by decide +kernel
theorem dL_law_690 : decode cL_law 690 = .ok (.iconst 1, 1) := by decide +kernel
theorem dL_law_691 : decode cL_law 691 = .ok (.iadd, 1) := by decide +kernel
theorem dL_law_692 : decode cL_law 692 = .ok (.iaload, 1) := by decide +kernel
theorem dL_law_693 : decode cL_law 693 = .ok (.invokevirtual 77, 3) := by decide +kernel
theorem dL_law_696 : decode cL_law 696 = .ok (.if_icmp .eq 823, 3) := by decide +kernel
theorem dL_law_699 : decode cL_law 699 = .ok (.iconst 0, 1) := by decide +kernel
theorem dL_law_700 : decode cL_law 700 = .ok (.ireturn, 1) := by decide +kernel
theorem dL_law_701 : decode cL_law 701 = .ok (.aload_n 1, 1) := by decide +kernel
theorem dL_law_702 : decode cL_law 702 = .ok (.aload_n 0, 1) := by decide +kernel
theorem dL_law_703 : decode cL_law 703 = .ok (.iload_n 3, 1) := by decide +kernel
theorem dL_law_704 : decode cL_law 704 = .ok (.iconst 1, 1) := by decide +kernel
theorem dL_law_705 : decode cL_law 705 = .ok (.iadd, 1) := by decide +kernel
theorem dL_law_706 : decode cL_law 706 = .ok (.iaload, 1) := by decide +kernel
theorem dL_law_707 : decode cL_law 707 = .ok (.aload_n 0, 1) := by decide +kernel
theorem dL_law_708 : decode cL_law 708 = .ok (.iload_n 3, 1) := by decide +kernel
theorem dL_law_709 : decode cL_law 709 = .ok (.iconst 2, 1) := by decide +kernel
theorem dL_law_710 : decode cL_law 710 = .ok (.iadd, 1) := by decide +kernel
theorem dL_law_711 : decode cL_law 711 = .ok (.iaload, 1) := by decide +kernel
theorem dL_law_712 : decode cL_law 712 = .ok (.aload_n 0, 1) := by decide +kernel
theorem dL_law_713 : decode cL_law 713 = .ok (.iload_n 3, 1) := by decide +kernel
theorem dL_law_714 : decode cL_law 714 = .ok (.iconst 3, 1) := by decide +kernel
theorem dL_law_715 : decode cL_law 715 = .ok (.iadd, 1) := by decide +kernel
theorem dL_law_716 : decode cL_law 716 = .ok (.iaload, 1) := by decide +kernel
theorem dL_law_717 : decode cL_law 717 = .ok (.aload_n 0, 1) := by decide +kernel
theorem dL_law_718 : decode cL_law 718 = .ok (.iload_n 3, 1) := by decide +kernel
theorem dL_law_719 : decode cL_law 719 = .ok (.iconst 4, 1) := by decide +kernel
theorem dL_law_720 : decode cL_law 720 = .ok (.iadd, 1) := by decide +kernel
theorem dL_law_721 : decode cL_law 721 = .ok (.iaload, 1) := by decide +kernel
theorem dL_law_722 : decode cL_law 722 = .ok (.aload_n 0, 1) := by decide +kernel
theorem dL_law_723 : decode cL_law 723 = .ok (.iload_n 3, 1) := by decide +kernel
theorem dL_law_724 : decode cL_law 724 = .ok (.iconst 5, 1) := by decide +kernel
theorem dL_law_725 : decode cL_law 725 = .ok (.iadd, 1) := by decide +kernel
theorem dL_law_726 : decode cL_law 726 = .ok (.iaload, 1) := by decide +kernel
theorem dL_law_727 : decode cL_law 727 = .ok (.invokevirtual 78, 3) := by decide +kernel
theorem dL_law_730 : decode cL_law 730 = .ok (.aload_n 2, 1) := by decide +kernel
theorem dL_law_731 : decode cL_law 731 = .ok (.aload_n 0, 1) := by decide +kernel
theorem dL_law_732 : decode cL_law 732 = .ok (.iload_n 3, 1) := by decide +kernel
theorem dL_law_733 : decode cL_law 733 = .ok (.iconst 1, 1) := by decide +kernel
theorem dL_law_734 : decode cL_law 734 = .ok (.iadd, 1) := by decide +kernel
theorem dL_law_735 : decode cL_law 735 = .ok (.iaload, 1) := by decide +kernel
theorem dL_law_736 : decode cL_law 736 = .ok (.aload_n 0, 1) := by decide +kernel
theorem dL_law_737 : decode cL_law 737 = .ok (.iload_n 3, 1) := by decide +kernel
theorem dL_law_738 : decode cL_law 738 = .ok (.iconst 2, 1) := by decide +kernel
theorem dL_law_739 : decode cL_law 739 = .ok (.iadd, 1) := by decide +kernel
theorem dL_law_740 : decode cL_law 740 = .ok (.iaload, 1) := by decide +kernel
theorem dL_law_741 : decode cL_law 741 = .ok (.aload_n 0, 1) := by decide +kernel
theorem dL_law_742 : decode cL_law 742 = .ok (.iload_n 3, 1) := by decide +kernel
theorem dL_law_743 : decode cL_law 743 = .ok (.iconst 3, 1) := by decide +kernel
theorem dL_law_744 : decode cL_law 744 = .ok (.iadd, 1) := by decide +kernel
theorem dL_law_745 : decode cL_law 745 = .ok (.iaload, 1) := by decide +kernel
theorem dL_law_746 : decode cL_law 746 = .ok (.aload_n 0, 1) := by decide +kernel
theorem dL_law_747 : decode cL_law 747 = .ok (.iload_n 3, 1) := by decide +kernel
theorem dL_law_748 : decode cL_law 748 = .ok (.iconst 4, 1) := by decide +kernel
theorem dL_law_749 : decode cL_law 749 = .ok (.iadd, 1) := by decide +kernel
theorem dL_law_750 : decode cL_law 750 = .ok (.iaload, 1) := by decide +kernel
theorem dL_law_751 : decode cL_law 751 = .ok (.aload_n 0, 1) := by decide +kernel
theorem dL_law_752 : decode cL_law 752 = .ok (.iload_n 3, 1) := by decide +kernel
theorem dL_law_753 : decode cL_law 753 = .ok (.iconst 5, 1) := by decide +kernel
theorem dL_law_754 : decode cL_law 754 = .ok (.iadd, 1) := by decide +kernel
theorem dL_law_755 : decode cL_law 755 = .ok (.iaload, 1) := by decide +kernel
theorem dL_law_756 : decode cL_law 756 = .ok (.invokevirtual 81, 3) := by decide +kernel
theorem dL_law_759 : decode cL_law 759 = .ok (.if_icmp .eq 760, 3) := by decide +kernel
theorem dL_law_762 : decode cL_law 762 = .ok (.iconst 0, 1) := by decide +kernel
theorem dL_law_763 : decode cL_law 763 = .ok (.ireturn, 1) := by decide +kernel
theorem dL_law_764 : decode cL_law 764 = .ok (.aload_n 1, 1) := by decide +kernel
theorem dL_law_765 : decode cL_law 765 = .ok (.aload_n 0, 1) := by decide +kernel
theorem dL_law_766 : decode cL_law 766 = .ok (.iload_n 3, 1) := by decide +kernel
theorem dL_law_767 : decode cL_law 767 = .ok (.iconst 1, 1) := by decide +kernel
theorem dL_law_768 : decode cL_law 768 = .ok (.iadd, 1) := by decide +kernel
theorem dL_law_769 : decode cL_law 769 = .ok (.iaload, 1) := by decide +kernel
theorem dL_law_770 : decode cL_law 770 = .ok (.aload_n 0, 1) := by decide +kernel
theorem dL_law_771 : decode cL_law 771 = .ok (.iload_n 3, 1) := by decide +kernel
theorem dL_law_772 : decode cL_law 772 = .ok (.iconst 2, 1) := by decide +kernel
theorem dL_law_773 : decode cL_law 773 = .ok (.iadd, 1) := by decide +kernel
theorem dL_law_774 : decode cL_law 774 = .ok (.iaload, 1) := by decide +kernel
theorem dL_law_775 : decode cL_law 775 = .ok (.aload_n 0, 1) := by decide +kernel
theorem dL_law_776 : decode cL_law 776 = .ok (.iload_n 3, 1) := by decide +kernel
theorem dL_law_777 : decode cL_law 777 = .ok (.iconst 3, 1) := by decide +kernel
theorem dL_law_778 : decode cL_law 778 = .ok (.iadd, 1) := by decide +kernel
theorem dL_law_779 : decode cL_law 779 = .ok (.iaload, 1) := by decide +kernel
theorem dL_law_780 : decode cL_law 780 = .ok (.invokevirtual 82, 3) := by decide +kernel
theorem dL_law_783 : decode cL_law 783 = .ok (.aload_n 2, 1) := by decide +kernel
theorem dL_law_784 : decode cL_law 784 = .ok (.aload_n 0, 1) := by decide +kernel
theorem dL_law_785 : decode cL_law 785 = .ok (.iload_n 3, 1) := by decide +kernel
theorem dL_law_786 : decode cL_law 786 = .ok (.iconst 1, 1) := by decide +kernel
theorem dL_law_787 : decode cL_law 787 = .ok (.iadd, 1) := by decide +kernel
theorem dL_law_788 : decode cL_law 788 = .ok (.iaload, 1) := by decide +kernel
theorem dL_law_789 : decode cL_law 789 = .ok (.aload_n 0, 1) := by decide +kernel
theorem dL_law_790 : decode cL_law 790 = .ok (.iload_n 3, 1) := by decide +kernel
theorem dL_law_791 : decode cL_law 791 = .ok (.iconst 2, 1) := by decide +kernel
theorem dL_law_792 : decode cL_law 792 = .ok (.iadd, 1) := by decide +kernel
theorem dL_law_793 : decode cL_law 793 = .ok (.iaload, 1) := by decide +kernel
theorem dL_law_794 : decode cL_law 794 = .ok (.aload_n 0, 1) := by decide +kernel
theorem dL_law_795 : decode cL_law 795 = .ok (.iload_n 3, 1) := by decide +kernel
theorem dL_law_796 : decode cL_law 796 = .ok (.iconst 3, 1) := by decide +kernel
theorem dL_law_797 : decode cL_law 797 = .ok (.iadd, 1) := by decide +kernel
theorem dL_law_798 : decode cL_law 798 = .ok (.iaload, 1) := by decide +kernel
theorem dL_law_799 : decode cL_law 799 = .ok (.invokevirtual 85, 3) := by decide +kernel
theorem dL_law_802 : decode cL_law 802 = .ok (.if_icmp .eq 717, 3) := by decide +kernel
theorem dL_law_805 : decode cL_law 805 = .ok (.iconst 0, 1) := by decide +kernel
theorem dL_law_806 : decode cL_law 806 = .ok (.ireturn, 1) := by decide +kernel
theorem dL_law_807 : decode cL_law 807 = .ok (.aload_n 1, 1) := by decide +kernel
theorem dL_law_808 : decode cL_law 808 = .ok (.aload_n 0, 1) := by decide +kernel
theorem dL_law_809 : decode cL_law 809 = .ok (.iload_n 3, 1) := by decide +kernel
theorem dL_law_810 : decode cL_law 810 = .ok (.iconst 1, 1) := by decide +kernel
theorem dL_law_811 : decode cL_law 811 = .ok (.iadd, 1) := by decide +kernel
theorem dL_law_812 : decode cL_law 812 = .ok (.iaload, 1) := by decide +kernel
theorem dL_law_813 : decode cL_law 813 = .ok (.aload_n 0, 1) := by decide +kernel
theorem dL_law_814 : decode cL_law 814 = .ok (.iload_n 3, 1) := by decide +kernel
theorem dL_law_815 : decode cL_law 815 = .ok (.iconst 2, 1) := by decide +kernel
theorem dL_law_816 : decode cL_law 816 = .ok (.iadd, 1) := by decide +kernel
theorem dL_law_817 : decode cL_law 817 = .ok (.iaload, 1) := by decide +kernel
theorem dL_law_818 : decode cL_law 818 = .ok (.invokevirtual 86, 3) := by decide +kernel
theorem dL_law_821 : decode cL_law 821 = .ok (.aload_n 2, 1) := by decide +kernel
theorem dL_law_822 : decode cL_law 822 = .ok (.aload_n 0, 1) := by decide +kernel
theorem dL_law_823 : decode cL_law 823 = .ok (.iload_n 3, 1) := by decide +kernel
theorem dL_law_824 : decode cL_law 824 = .ok (.iconst 1, 1) := by decide +kernel
theorem dL_law_825 : decode cL_law 825 = .ok (.iadd, 1) := by decide +kernel
theorem dL_law_826 : decode cL_law 826 = .ok (.iaload, 1) := by decide +kernel
theorem dL_law_827 : decode cL_law 827 = .ok (.aload_n 0, 1) := by decide +kernel
theorem dL_law_828 : decode cL_law 828 = .ok (.iload_n 3, 1) := by decide +kernel
theorem dL_law_829 : decode cL_law 829 = .ok (.iconst 2, 1) := by decide +kernel
theorem dL_law_830 : decode cL_law 830 = .ok (.iadd, 1) := by decide +kernel
theorem dL_law_831 : decode cL_law 831 = .ok (.iaload, 1) := by decide +kernel
theorem dL_law_832 : decode cL_law 832 = .ok (.invokevirtual 89, 3) := by decide +kernel
theorem dL_law_835 : decode cL_law 835 = .ok (.if_icmp .eq 684, 3) := by decide +kernel
theorem dL_law_838 : decode cL_law 838 = .ok (.iconst 0, 1) := by decide +kernel
theorem dL_law_839 : decode cL_law 839 = .ok (.ireturn, 1) := by decide +kernel
theorem dL_law_840 : decode cL_law 840 = .ok (.aload_n 1, 1) := by decide +kernel
theorem dL_law_841 : decode cL_law 841 = .ok (.aload_n 0, 1) := by decide +kernel
theorem dL_law_842 : decode cL_law 842 = .ok (.iload_n 3, 1) := by decide +kernel
theorem dL_law_843 : decode cL_law 843 = .ok (.iconst 1, 1) := by decide +kernel
theorem dL_law_844 : decode cL_law 844 = .ok (.iadd, 1) := by decide +kernel
theorem dL_law_845 : decode cL_law 845 = .ok (.iaload, 1) := by decide +kernel
theorem dL_law_846 : decode cL_law 846 = .ok (.aload_n 0, 1) := by decide +kernel
theorem dL_law_847 : decode cL_law 847 = .ok (.iload_n 3, 1) := by decide +kernel
theorem dL_law_848 : decode cL_law 848 = .ok (.iconst 2, 1) := by decide +kernel
theorem dL_law_849 : decode cL_law 849 = .ok (.iadd, 1) := by decide +kernel
theorem dL_law_850 : decode cL_law 850 = .ok (.iaload, 1) := by decide +kernel
theorem dL_law_851 : decode cL_law 851 = .ok (.invokevirtual 90, 3) := by decide +kernel
theorem dL_law_854 : decode cL_law 854 = .ok (.aload_n 2, 1) := by decide +kernel
theorem dL_law_855 : decode cL_law 855 = .ok (.aload_n 0, 1) := by decide +kernel
theorem dL_law_856 : decode cL_law 856 = .ok (.iload_n 3, 1) := by decide +kernel
theorem dL_law_857 : decode cL_law 857 = .ok (.iconst 1, 1) := by decide +kernel
theorem dL_law_858 : decode cL_law 858 = .ok (.iadd, 1) := by decide +kernel
theorem dL_law_859 : decode cL_law 859 = .ok (.iaload, 1) := by decide +kernel
theorem dL_law_860 : decode cL_law 860 = .ok (.aload_n 0, 1) := by decide +kernel
theorem dL_law_861 : decode cL_law 861 = .ok (.iload_n 3, 1) := by decide +kernel
theorem dL_law_862 : decode cL_law 862 = .ok (.iconst 2, 1) := by decide +kernel
theorem dL_law_863 : decode cL_law 863 = .ok (.iadd, 1) := by decide +kernel
theorem dL_law_864 : decode cL_law 864 = .ok (.iaload, 1) := by decide +kernel
theorem dL_law_865 : decode cL_law 865 = .ok (.invokevirtual 93, 3) := by decide +kernel
theorem dL_law_868 : decode cL_law 868 = .ok (.if_icmp .eq 651, 3) := by decide +kernel
theorem dL_law_871 : decode cL_law 871 = .ok (.iconst 0, 1) := by decide +kernel
theorem dL_law_872 : decode cL_law 872 = .ok (.ireturn, 1) := by decide +kernel
theorem dL_law_873 : decode cL_law 873 = .ok (.aload_n 1, 1) := by decide +kernel
theorem dL_law_874 : decode cL_law 874 = .ok (.aload_n 0, 1) := by decide +kernel
theorem dL_law_875 : decode cL_law 875 = .ok (.iload_n 3, 1) := by decide +kernel
theorem dL_law_876 : decode cL_law 876 = .ok (.iconst 1, 1) := by decide +kernel
theorem dL_law_877 : decode cL_law 877 = .ok (.iadd, 1) := by decide +kernel
theorem dL_law_878 : decode cL_law 878 = .ok (.iaload, 1) := by decide +kernel
theorem dL_law_879 : decode cL_law 879 = .ok (.aload_n 0, 1) := by decide +kernel
theorem dL_law_880 : decode cL_law 880 = .ok (.iload_n 3, 1) := by decide +kernel
theorem dL_law_881 : decode cL_law 881 = .ok (.iconst 2, 1) := by decide +kernel
theorem dL_law_882 : decode cL_law 882 = .ok (.iadd, 1) := by decide +kernel
theorem dL_law_883 : decode cL_law 883 = .ok (.iaload, 1) := by decide +kernel
theorem dL_law_884 : decode cL_law 884 = .ok (.invokevirtual 94, 3) := by decide +kernel
theorem dL_law_887 : decode cL_law 887 = .ok (.aload_n 2, 1) := by decide +kernel
theorem dL_law_888 : decode cL_law 888 = .ok (.aload_n 0, 1) := by decide +kernel
theorem dL_law_889 : decode cL_law 889 = .ok (.iload_n 3, 1) := by decide +kernel
theorem dL_law_890 : decode cL_law 890 = .ok (.iconst 1, 1) := by decide +kernel
theorem dL_law_891 : decode cL_law 891 = .ok (.iadd, 1) := by decide +kernel
theorem dL_law_892 : decode cL_law 892 = .ok (.iaload, 1) := by decide +kernel
theorem dL_law_893 : decode cL_law 893 = .ok (.aload_n 0, 1) := by decide +kernel
theorem dL_law_894 : decode cL_law 894 = .ok (.iload_n 3, 1) := by decide +kernel
theorem dL_law_895 : decode cL_law 895 = .ok (.iconst 2, 1) := by decide +kernel
theorem dL_law_896 : decode cL_law 896 = .ok (.iadd, 1) := by decide +kernel
theorem dL_law_897 : decode cL_law 897 = .ok (.iaload, 1) := by decide +kernel
theorem dL_law_898 : decode cL_law 898 = .ok (.invokevirtual 97, 3) := by decide +kernel
theorem dL_law_901 : decode cL_law 901 = .ok (.if_icmp .eq 618, 3) := by decide +kernel
theorem dL_law_904 : decode cL_law 904 = .ok (.iconst 0, 1) := by decide +kernel
theorem dL_law_905 : decode cL_law 905 = .ok (.ireturn, 1) := by decide +kernel
theorem dL_law_906 : decode cL_law 906 = .ok (.aload_n 1, 1) := by decide +kernel
theorem dL_law_907 : decode cL_law 907 = .ok (.aload_n 0, 1) := by decide +kernel
theorem dL_law_908 : decode cL_law 908 = .ok (.iload_n 3, 1) := by decide +kernel
theorem dL_law_909 : decode cL_law 909 = .ok (.iconst 1, 1) := by decide +kernel
theorem dL_law_910 : decode cL_law 910 = .ok (.iadd, 1) := by decide +kernel
theorem dL_law_911 : decode cL_law 911 = .ok (.iaload, 1) := by decide +kernel
theorem dL_law_912 : decode cL_law 912 = .ok (.aload_n 0, 1) := by decide +kernel
theorem dL_law_913 : decode cL_law 913 = .ok (.iload_n 3, 1) := by decide +kernel
theorem dL_law_914 : decode cL_law 914 = .ok (.iconst 2, 1) := by decide +kernel
theorem dL_law_915 : decode cL_law 915 = .ok (.iadd, 1) := by decide +kernel
theorem dL_law_916 : decode cL_law 916 = .ok (.iaload, 1) := by decide +kernel
theorem dL_law_917 : decode cL_law 917 = .ok (.aload_n 0, 1) := by decide +kernel
theorem dL_law_918 : decode cL_law 918 = .ok (.iload_n 3, 1) := by decide +kernel
theorem dL_law_919 : decode cL_law 919 = .ok (.iconst 3, 1) := by decide +kernel
theorem dL_law_920 : decode cL_law 920 = .ok (.iadd, 1) := by decide +kernel
theorem dL_law_921 : decode cL_law 921 = .ok (.iaload, 1) := by decide +kernel
theorem dL_law_922 : decode cL_law 922 = .ok (.invokevirtual 98, 3) := by decide +kernel
theorem dL_law_925 : decode cL_law 925 = .ok (.aload_n 2, 1) := by decide +kernel
theorem dL_law_926 : decode cL_law 926 = .ok (.aload_n 0, 1) := by decide +kernel
theorem dL_law_927 : decode cL_law 927 = .ok (.iload_n 3, 1) := by decide +kernel
theorem dL_law_928 : decode cL_law 928 = .ok (.iconst 1, 1) := by decide +kernel
theorem dL_law_929 : decode cL_law 929 = .ok (.iadd, 1) := by decide +kernel
theorem dL_law_930 : decode cL_law 930 = .ok (.iaload, 1) := by decide +kernel
theorem dL_law_931 : decode cL_law 931 = .ok (.aload_n 0, 1) := by decide +kernel
theorem dL_law_932 : decode cL_law 932 = .ok (.iload_n 3, 1) := by decide +kernel
theorem dL_law_933 : decode cL_law 933 = .ok (.iconst 2, 1) := by decide +kernel
theorem dL_law_934 : decode cL_law 934 = .ok (.iadd, 1) := by decide +kernel
theorem dL_law_935 : decode cL_law 935 = .ok (.iaload, 1) := by decide +kernel
theorem dL_law_936 : decode cL_law 936 = .ok (.aload_n 0, 1) := by decide +kernel
theorem dL_law_937 : decode cL_law 937 = .ok (.iload_n 3, 1) := by decide +kernel
theorem dL_law_938 : decode cL_law 938 = .ok (.iconst 3, 1) := by decide +kernel
theorem dL_law_939 : decode cL_law 939 = .ok (.iadd, 1) := by decide +kernel
theorem dL_law_940 : decode cL_law 940 = .ok (.iaload, 1) := by decide +kernel
theorem dL_law_941 : decode cL_law 941 = .ok (.invokevirtual 101, 3) := by decide +kernel
theorem dL_law_944 : decode cL_law 944 = .ok (.if_icmp .eq 575, 3) := by decide +kernel
theorem dL_law_947 : decode cL_law 947 = .ok (.iconst 0, 1) := by decide +kernel
theorem dL_law_948 : decode cL_law 948 = .ok (.ireturn, 1) := by decide +kernel
theorem dL_law_949 : decode cL_law 949 = .ok (.aload_n 1, 1) := by decide +kernel
theorem dL_law_950 : decode cL_law 950 = .ok (.aload_n 0, 1) := by decide +kernel
theorem dL_law_951 : decode cL_law 951 = .ok (.iload_n 3, 1) := by decide +kernel
theorem dL_law_952 : decode cL_law 952 = .ok (.iconst 1, 1) := by decide +kernel
theorem dL_law_953 : decode cL_law 953 = .ok (.iadd, 1) := by decide +kernel
theorem dL_law_954 : decode cL_law 954 = .ok (.iaload, 1) := by decide +kernel
theorem dL_law_955 : decode cL_law 955 = .ok (.aload_n 0, 1) := by decide +kernel
theorem dL_law_956 : decode cL_law 956 = .ok (.iload_n 3, 1) := by decide +kernel
theorem dL_law_957 : decode cL_law 957 = .ok (.iconst 2, 1) := by decide +kernel
theorem dL_law_958 : decode cL_law 958 = .ok (.iadd, 1) := by decide +kernel
theorem dL_law_959 : decode cL_law 959 = .ok (.iaload, 1) := by decide +kernel
theorem dL_law_960 : decode cL_law 960 = .ok (.invokevirtual 102, 3) := by decide +kernel
theorem dL_law_963 : decode cL_law 963 = .ok (.aload_n 2, 1) := by decide +kernel
theorem dL_law_964 : decode cL_law 964 = .ok (.aload_n 0, 1) := by decide +kernel
theorem dL_law_965 : decode cL_law 965 = .ok (.iload_n 3, 1) := by decide +kernel
theorem dL_law_966 : decode cL_law 966 = .ok (.iconst 1, 1) := by decide +kernel
theorem dL_law_967 : decode cL_law 967 = .ok (.iadd, 1) := by decide +kernel
theorem dL_law_968 : decode cL_law 968 = .ok (.iaload, 1) := by decide +kernel
theorem dL_law_969 : decode cL_law 969 = .ok (.aload_n 0, 1) := by decide +kernel
theorem dL_law_970 : decode cL_law 970 = .ok (.iload_n 3, 1) := by decide +kernel
theorem dL_law_971 : decode cL_law 971 = .ok (.iconst 2, 1) := by decide +kernel
theorem dL_law_972 : decode cL_law 972 = .ok (.iadd, 1) := by decide +kernel
theorem dL_law_973 : decode cL_law 973 = .ok (.iaload, 1) := by decide +kernel
theorem dL_law_974 : decode cL_law 974 = .ok (.invokevirtual 105, 3) := by decide +kernel
theorem dL_law_977 : decode cL_law 977 = .ok (.if_icmp .eq 542, 3) := by decide +kernel
theorem dL_law_980 : decode cL_law 980 = .ok (.iconst 0, 1) := by decide +kernel
theorem dL_law_981 : decode cL_law 981 = .ok (.ireturn, 1) := by decide +kernel
theorem dL_law_982 : decode cL_law 982 = .ok (.aload_n 1, 1) := by decide +kernel
theorem dL_law_983 : decode cL_law 983 = .ok (.aload_n 0, 1) := by decide +kernel
theorem dL_law_984 : decode cL_law 984 = .ok (.iload_n 3, 1) := by decide +kernel
theorem dL_law_985 : decode cL_law 985 = .ok (.iconst 1, 1) := by decide +kernel
theorem dL_law_986 : decode cL_law 986 = .ok (.iadd, 1) := by decide +kernel
theorem dL_law_987 : decode cL_law 987 = .ok (.iaload, 1) := by decide +kernel
theorem dL_law_988 : decode cL_law 988 = .ok (.aload_n 0, 1) := by decide +kernel
theorem dL_law_989 : decode cL_law 989 = .ok (.iload_n 3, 1) := by decide +kernel
theorem dL_law_990 : decode cL_law 990 = .ok (.iconst 2, 1) := by decide +kernel
theorem dL_law_991 : decode cL_law 991 = .ok (.iadd, 1) := by decide +kernel
theorem dL_law_992 : decode cL_law 992 = .ok (.iaload, 1) := by decide +kernel
theorem dL_law_993 : decode cL_law 993 = .ok (.invokevirtual 106, 3) := by decide +kernel
theorem dL_law_996 : decode cL_law 996 = .ok (.aload_n 2, 1) := by decide +kernel
theorem dL_law_997 : decode cL_law 997 = .ok (.aload_n 0, 1) := by decide +kernel
theorem dL_law_998 : decode cL_law 998 = .ok (.iload_n 3, 1) := by decide +kernel
theorem dL_law_999 : decode cL_law 999 = .ok (.iconst 1, 1) := by decide +kernel
theorem dL_law_1000 : decode cL_law 1000 = .ok (.iadd, 1) := by decide +kernel
theorem dL_law_1001 : decode cL_law 1001 = .ok (.iaload, 1) := by decide +kernel
theorem dL_law_1002 : decode cL_law 1002 = .ok (.aload_n 0, 1) := by decide +kernel
theorem dL_law_1003 : decode cL_law 1003 = .ok (.iload_n 3, 1) := by decide +kernel
theorem dL_law_1004 : decode cL_law 1004 = .ok (.iconst 2, 1) := by decide +kernel
theorem dL_law_1005 : decode cL_law 1005 = .ok (.iadd, 1) := by decide +kernel
theorem dL_law_1006 : decode cL_law 1006 = .ok (.iaload, 1) := by decide +kernel
theorem dL_law_1007 : decode cL_law 1007 = .ok (.invokevirtual 109, 3) := by decide +kernel
theorem dL_law_1010 : decode cL_law 1010 = .ok (.if_icmp .eq 509, 3) := by decide +kernel
theorem dL_law_1013 : decode cL_law 1013 = .ok (.iconst 0, 1) := by decide +kernel
theorem dL_law_1014 : decode cL_law 1014 = .ok (.ireturn, 1) := by decide +kernel
theorem dL_law_1015 : decode cL_law 1015 = .ok (.aload_n 1, 1) := by decide +kernel
theorem dL_law_1016 : decode cL_law 1016 = .ok (.aload_n 0, 1) := by decide +kernel
theorem dL_law_1017 : decode cL_law 1017 = .ok (.iload_n 3, 1) := by decide +kernel
theorem dL_law_1018 : decode cL_law 1018 = .ok (.iconst 1, 1) := by decide +kernel
theorem dL_law_1019 : decode cL_law 1019 = .ok (.iadd, 1) := by decide +kernel
theorem dL_law_1020 : decode cL_law 1020 = .ok (.iaload, 1) := by decide +kernel
theorem dL_law_1021 : decode cL_law 1021 = .ok (.aload_n 0, 1) := by decide +kernel
theorem dL_law_1022 : decode cL_law 1022 = .ok (.iload_n 3, 1) := by decide +kernel
theorem dL_law_1023 : decode cL_law 1023 = .ok (.iconst 2, 1) := by decide +kernel
theorem dL_law_1024 : decode cL_law 1024 = .ok (.iadd, 1) := by decide +kernel
theorem dL_law_1025 : decode cL_law 1025 = .ok (.iaload, 1) := by decide +kernel
theorem dL_law_1026 : decode cL_law 1026 = .ok (.aload_n 0, 1) := by decide +kernel
theorem dL_law_1027 : decode cL_law 1027 = .ok (.iload_n 3, 1) := by decide +kernel
theorem dL_law_1028 : decode cL_law 1028 = .ok (.iconst 3, 1) := by decide +kernel
theorem dL_law_1029 : decode cL_law 1029 = .ok (.iadd, 1) := by decide +kernel
theorem dL_law_1030 : decode cL_law 1030 = .ok (.iaload, 1) := by decide +kernel
theorem dL_law_1031 : decode cL_law 1031 = .ok (.invokevirtual 110, 3) := by decide +kernel
theorem dL_law_1034 : decode cL_law 1034 = .ok (.aload_n 2, 1) := by decide +kernel
theorem dL_law_1035 : decode cL_law 1035 = .ok (.aload_n 0, 1) := by decide +kernel
theorem dL_law_1036 : decode cL_law 1036 = .ok (.iload_n 3, 1) := by decide +kernel
theorem dL_law_1037 : decode cL_law 1037 = .ok (.iconst 1, 1) := by decide +kernel
theorem dL_law_1038 : decode cL_law 1038 = .ok (.iadd, 1) := by decide +kernel
theorem dL_law_1039 : decode cL_law 1039 = .ok (.iaload, 1) := by decide +kernel
theorem dL_law_1040 : decode cL_law 1040 = .ok (.aload_n 0, 1) := by decide +kernel
theorem dL_law_1041 : decode cL_law 1041 = .ok (.iload_n 3, 1) := by decide +kernel
theorem dL_law_1042 : decode cL_law 1042 = .ok (.iconst 2, 1) := by decide +kernel
theorem dL_law_1043 : decode cL_law 1043 = .ok (.iadd, 1) := by decide +kernel
theorem dL_law_1044 : decode cL_law 1044 = .ok (.iaload, 1) := by decide +kernel
theorem dL_law_1045 : decode cL_law 1045 = .ok (.aload_n 0, 1) := by decide +kernel
theorem dL_law_1046 : decode cL_law 1046 = .ok (.iload_n 3, 1) := by decide +kernel
theorem dL_law_1047 : decode cL_law 1047 = .ok (.iconst 3, 1) := by decide +kernel
theorem dL_law_1048 : decode cL_law 1048 = .ok (.iadd, 1) := by decide +kernel
theorem dL_law_1049 : decode cL_law 1049 = .ok (.iaload, 1) := by decide +kernel
theorem dL_law_1050 : decode cL_law 1050 = .ok (.invokevirtual 113, 3) := by decide +kernel
theorem dL_law_1053 : decode cL_law 1053 = .ok (.if_icmp .eq 466, 3) := by decide +kernel
theorem dL_law_1056 : decode cL_law 1056 = .ok (.iconst 0, 1) := by decide +kernel
theorem dL_law_1057 : decode cL_law 1057 = .ok (.ireturn, 1) := by decide +kernel
theorem dL_law_1058 : decode cL_law 1058 = .ok (.aload_n 1, 1) := by decide +kernel
theorem dL_law_1059 : decode cL_law 1059 = .ok (.aload_n 0, 1) := by decide +kernel
theorem dL_law_1060 : decode cL_law 1060 = .ok (.iload_n 3, 1) := by decide +kernel
theorem dL_law_1061 : decode cL_law 1061 = .ok (.iconst 1, 1) := by decide +kernel
theorem dL_law_1062 : decode cL_law 1062 = .ok (.iadd, 1) := by decide +kernel
theorem dL_law_1063 : decode cL_law 1063 = .ok (.iaload, 1) := by decide +kernel
theorem dL_law_1064 : decode cL_law 1064 = .ok (.aload_n 0, 1) := by decide +kernel
theorem dL_law_1065 : decode cL_law 1065 = .ok (.iload_n 3, 1) := by decide +kernel
theorem dL_law_1066 : decode cL_law 1066 = .ok (.iconst 2, 1) := by decide +kernel
theorem dL_law_1067 : decode cL_law 1067 = .ok (.iadd, 1) := by decide +kernel
theorem dL_law_1068 : decode cL_law 1068 = .ok (.iaload, 1) := by decide +kernel
theorem dL_law_1069 : decode cL_law 1069 = .ok (.aload_n 0, 1) := by decide +kernel
theorem dL_law_1070 : decode cL_law 1070 = .ok (.iload_n 3, 1) := by decide +kernel
theorem dL_law_1071 : decode cL_law 1071 = .ok (.iconst 3, 1) := by decide +kernel
theorem dL_law_1072 : decode cL_law 1072 = .ok (.iadd, 1) := by decide +kernel
theorem dL_law_1073 : decode cL_law 1073 = .ok (.iaload, 1) := by decide +kernel
theorem dL_law_1074 : decode cL_law 1074 = .ok (.invokevirtual 114, 3) := by decide +kernel
theorem dL_law_1077 : decode cL_law 1077 = .ok (.aload_n 2, 1) := by decide +kernel
theorem dL_law_1078 : decode cL_law 1078 = .ok (.aload_n 0, 1) := by decide +kernel
theorem dL_law_1079 : decode cL_law 1079 = .ok (.iload_n 3, 1) := by decide +kernel
theorem dL_law_1080 : decode cL_law 1080 = .ok (.iconst 1, 1) := by decide +kernel
theorem dL_law_1081 : decode cL_law 1081 = .ok (.iadd, 1) := by decide +kernel
theorem dL_law_1082 : decode cL_law 1082 = .ok (.iaload, 1) := by decide +kernel
theorem dL_law_1083 : decode cL_law 1083 = .ok (.aload_n 0, 1) := by decide +kernel
theorem dL_law_1084 : decode cL_law 1084 = .ok (.iload_n 3, 1) := by decide +kernel
theorem dL_law_1085 : decode cL_law 1085 = .ok (.iconst 2, 1) := by decide +kernel
theorem dL_law_1086 : decode cL_law 1086 = .ok (.iadd, 1) := by decide +kernel
theorem dL_law_1087 : decode cL_law 1087 = .ok (.iaload, 1) := by decide +kernel
theorem dL_law_1088 : decode cL_law 1088 = .ok (.aload_n 0, 1) := by decide +kernel
theorem dL_law_1089 : decode cL_law 1089 = .ok (.iload_n 3, 1) := by decide +kernel
theorem dL_law_1090 : decode cL_law 1090 = .ok (.iconst 3, 1) := by decide +kernel
theorem dL_law_1091 : decode cL_law 1091 = .ok (.iadd, 1) := by decide +kernel
theorem dL_law_1092 : decode cL_law 1092 = .ok (.iaload, 1) := by decide +kernel
theorem dL_law_1093 : decode cL_law 1093 = .ok (.invokevirtual 117, 3) := by decide +kernel
theorem dL_law_1096 : decode cL_law 1096 = .ok (.if_icmp .eq 423, 3) := by decide +kernel
theorem dL_law_1099 : decode cL_law 1099 = .ok (.iconst 0, 1) := by decide +kernel
theorem dL_law_1100 : decode cL_law 1100 = .ok (.ireturn, 1) := by decide +kernel
theorem dL_law_1101 : decode cL_law 1101 = .ok (.aload_n 1, 1) := by decide +kernel
theorem dL_law_1102 : decode cL_law 1102 = .ok (.aload_n 0, 1) := by decide +kernel
theorem dL_law_1103 : decode cL_law 1103 = .ok (.iload_n 3, 1) := by decide +kernel
theorem dL_law_1104 : decode cL_law 1104 = .ok (.iconst 1, 1) := by decide +kernel
theorem dL_law_1105 : decode cL_law 1105 = .ok (.iadd, 1) := by decide +kernel
theorem dL_law_1106 : decode cL_law 1106 = .ok (.iaload, 1) := by decide +kernel
theorem dL_law_1107 : decode cL_law 1107 = .ok (.aload_n 0, 1) := by decide +kernel
theorem dL_law_1108 : decode cL_law 1108 = .ok (.iload_n 3, 1) := by decide +kernel
theorem dL_law_1109 : decode cL_law 1109 = .ok (.iconst 2, 1) := by decide +kernel
theorem dL_law_1110 : decode cL_law 1110 = .ok (.iadd, 1) := by decide +kernel
theorem dL_law_1111 : decode cL_law 1111 = .ok (.iaload, 1) := by decide +kernel
theorem dL_law_1112 : decode cL_law 1112 = .ok (.invokevirtual 118, 3) := by decide +kernel
theorem dL_law_1115 : decode cL_law 1115 = .ok (.aload_n 2, 1) := by decide +kernel
theorem dL_law_1116 : decode cL_law 1116 = .ok (.aload_n 0, 1) := by decide +kernel
theorem dL_law_1117 : decode cL_law 1117 = .ok (.iload_n 3, 1) := by decide +kernel
theorem dL_law_1118 : decode cL_law 1118 = .ok (.iconst 1, 1) := by decide +kernel
theorem dL_law_1119 : decode cL_law 1119 = .ok (.iadd, 1) := by decide +kernel
theorem dL_law_1120 : decode cL_law 1120 = .ok (.iaload, 1) := by decide +kernel
theorem dL_law_1121 : decode cL_law 1121 = .ok (.aload_n 0, 1) := by decide +kernel
theorem dL_law_1122 : decode cL_law 1122 = .ok (.iload_n 3, 1) := by decide +kernel
theorem dL_law_1123 : decode cL_law 1123 = .ok (.iconst 2, 1) := by decide +kernel
theorem dL_law_1124 : decode cL_law 1124 = .ok (.iadd, 1) := by decide +kernel
theorem dL_law_1125 : decode cL_law 1125 = .ok (.iaload, 1) := by decide +kernel
theorem dL_law_1126 : decode cL_law 1126 = .ok (.invokevirtual 121, 3) := by decide +kernel
theorem dL_law_1129 : decode cL_law 1129 = .ok (.if_icmp .eq 390, 3) := by decide +kernel
theorem dL_law_1132 : decode cL_law 1132 = .ok (.iconst 0, 1) := by decide +kernel
theorem dL_law_1133 : decode cL_law 1133 = .ok (.ireturn, 1) := by decide +kernel
theorem dL_law_1134 : decode cL_law 1134 = .ok (.aload_n 1, 1) := by decide +kernel
theorem dL_law_1135 : decode cL_law 1135 = .ok (.aload_n 0, 1) := by decide +kernel
theorem dL_law_1136 : decode cL_law 1136 = .ok (.iload_n 3, 1) := by decide +kernel
theorem dL_law_1137 : decode cL_law 1137 = .ok (.iconst 1, 1) := by decide +kernel
theorem dL_law_1138 : decode cL_law 1138 = .ok (.iadd, 1) := by decide +kernel
theorem dL_law_1139 : decode cL_law 1139 = .ok (.iaload, 1) := by decide +kernel
theorem dL_law_1140 : decode cL_law 1140 = .ok (.invokevirtual 122, 3) := by decide +kernel
theorem dL_law_1143 : decode cL_law 1143 = .ok (.aload_n 2, 1) := by decide +kernel
theorem dL_law_1144 : decode cL_law 1144 = .ok (.aload_n 0, 1) := by decide +kernel
theorem dL_law_1145 : decode cL_law 1145 = .ok (.iload_n 3, 1) := by decide +kernel
theorem dL_law_1146 : decode cL_law 1146 = .ok (.iconst 1, 1) := by decide +kernel
theorem dL_law_1147 : decode cL_law 1147 = .ok (.iadd, 1) := by decide +kernel
theorem dL_law_1148 : decode cL_law 1148 = .ok (.iaload, 1) := by decide +kernel
theorem dL_law_1149 : decode cL_law 1149 = .ok (.invokevirtual 125, 3) := by decide +kernel
theorem dL_law_1152 : decode cL_law 1152 = .ok (.if_icmp .eq 367, 3) := by decide +kernel
theorem dL_law_1155 : decode cL_law 1155 = .ok (.iconst 0, 1) := by decide +kernel
theorem dL_law_1156 : decode cL_law 1156 = .ok (.ireturn, 1) := by decide +kernel
theorem dL_law_1157 : decode cL_law 1157 = .ok (.aload_n 1, 1) := by decide +kernel
theorem dL_law_1158 : decode cL_law 1158 = .ok (.aload_n 0, 1) := by decide +kernel
theorem dL_law_1159 : decode cL_law 1159 = .ok (.iload_n 3, 1) := by decide +kernel
theorem dL_law_1160 : decode cL_law 1160 = .ok (.iconst 1, 1) := by decide +kernel
theorem dL_law_1161 : decode cL_law 1161 = .ok (.iadd, 1) := by decide +kernel
theorem dL_law_1162 : decode cL_law 1162 = .ok (.iaload, 1) := by decide +kernel
theorem dL_law_1163 : decode cL_law 1163 = .ok (.aload_n 0, 1) := by decide +kernel
theorem dL_law_1164 : decode cL_law 1164 = .ok (.iload_n 3, 1) := by decide +kernel
theorem dL_law_1165 : decode cL_law 1165 = .ok (.iconst 2, 1) := by decide +kernel
theorem dL_law_1166 : decode cL_law 1166 = .ok (.iadd, 1) := by decide +kernel
theorem dL_law_1167 : decode cL_law 1167 = .ok (.iaload, 1) := by decide +kernel
theorem dL_law_1168 : decode cL_law 1168 = .ok (.aload_n 0, 1) := by decide +kernel
theorem dL_law_1169 : decode cL_law 1169 = .ok (.iload_n 3, 1) := by decide +kernel
theorem dL_law_1170 : decode cL_law 1170 = .ok (.iconst 3, 1) := by decide +kernel
theorem dL_law_1171 : decode cL_law 1171 = .ok (.iadd, 1) := by decide +kernel
theorem dL_law_1172 : decode cL_law 1172 = .ok (.iaload, 1) := by decide +kernel
theorem dL_law_1173 : decode cL_law 1173 = .ok (.aload_n 0, 1) := by decide +kernel
theorem dL_law_1174 : decode cL_law 1174 = .ok (.iload_n 3, 1) := by decide +kernel
theorem dL_law_1175 : decode cL_law 1175 = .ok (.iconst 4, 1) := by decide +kernel
theorem dL_law_1176 : decode cL_law 1176 = .ok (.iadd, 1) := by decide +kernel
theorem dL_law_1177 : decode cL_law 1177 = .ok (.iaload, 1) := by decide +kernel
theorem dL_law_1178 : decode cL_law 1178 = .ok (.aload_n 0, 1) := by decide +kernel
theorem dL_law_1179 : decode cL_law 1179 = .ok (.iload_n 3, 1) := by decide +kernel
theorem dL_law_1180 : decode cL_law 1180 = .ok (.iconst 5, 1) := by decide +kernel
theorem dL_law_1181 : decode cL_law 1181 = .ok (.iadd, 1) := by decide +kernel
theorem dL_law_1182 : decode cL_law 1182 = .ok (.iaload, 1) := by decide +kernel
theorem dL_law_1183 : decode cL_law 1183 = .ok (.invokevirtual 126, 3) := by decide +kernel
theorem dL_law_1186 : decode cL_law 1186 = .ok (.aload_n 2, 1) := by decide +kernel
theorem dL_law_1187 : decode cL_law 1187 = .ok (.aload_n 0, 1) := by decide +kernel
theorem dL_law_1188 : decode cL_law 1188 = .ok (.iload_n 3, 1) := by decide +kernel
theorem dL_law_1189 : decode cL_law 1189 = .ok (.iconst 1, 1) := by decide +kernel
theorem dL_law_1190 : decode cL_law 1190 = .ok (.iadd, 1) := by decide +kernel
theorem dL_law_1191 : decode cL_law 1191 = .ok (.iaload, 1) := by decide +kernel
theorem dL_law_1192 : decode cL_law 1192 = .ok (.aload_n 0, 1) := by decide +kernel
theorem dL_law_1193 : decode cL_law 1193 = .ok (.iload_n 3, 1) := by decide +kernel
theorem dL_law_1194 : decode cL_law 1194 = .ok (.iconst 2, 1) := by decide +kernel
theorem dL_law_1195 : decode cL_law 1195 = .ok (.iadd, 1) := by decide +kernel
theorem dL_law_1196 : decode cL_law 1196 = .ok (.iaload, 1) := by decide +kernel
theorem dL_law_1197 : decode cL_law 1197 = .ok (.aload_n 0, 1) := by decide +kernel
theorem dL_law_1198 : decode cL_law 1198 = .ok (.iload_n 3, 1) := by decide +kernel
theorem dL_law_1199 : decode cL_law 1199 = .ok (.iconst 3, 1) := by decide +kernel
theorem dL_law_1200 : decode cL_law 1200 = .ok (.iadd, 1) := by decide +kernel
theorem dL_law_1201 : decode cL_law 1201 = .ok (.iaload, 1) := by decide +kernel
theorem dL_law_1202 : decode cL_law 1202 = .ok (.aload_n 0, 1) := by decide +kernel
theorem dL_law_1203 : decode cL_law 1203 = .ok (.iload_n 3, 1) := by decide +kernel
theorem dL_law_1204 : decode cL_law 1204 = .ok (.iconst 4, 1) := by decide +kernel
theorem dL_law_1205 : decode cL_law 1205 = .ok (.iadd, 1) := by decide +kernel
theorem dL_law_1206 : decode cL_law 1206 = .ok (.iaload, 1) := by decide +kernel
theorem dL_law_1207 : decode cL_law 1207 = .ok (.aload_n 0, 1) := by decide +kernel
theorem dL_law_1208 : decode cL_law 1208 = .ok (.iload_n 3, 1) := by decide +kernel
theorem dL_law_1209 : decode cL_law 1209 = .ok (.iconst 5, 1) := by decide +kernel
theorem dL_law_1210 : decode cL_law 1210 = .ok (.iadd, 1) := by decide +kernel
theorem dL_law_1211 : decode cL_law 1211 = .ok (.iaload, 1) := by decide +kernel
theorem dL_law_1212 : decode cL_law 1212 = .ok (.invokevirtual 129, 3) := by decide +kernel
theorem dL_law_1215 : decode cL_law 1215 = .ok (.if_icmp .eq 304, 3) := by decide +kernel
theorem dL_law_1218 : decode cL_law 1218 = .ok (.iconst 0, 1) := by decide +kernel
theorem dL_law_1219 : decode cL_law 1219 = .ok (.ireturn, 1) := by decide +kernel
theorem dL_law_1220 : decode cL_law 1220 = .ok (.aload_n 1, 1) := by decide +kernel
theorem dL_law_1221 : decode cL_law 1221 = .ok (.aload_n 0, 1) := by decide +kernel
theorem dL_law_1222 : decode cL_law 1222 = .ok (.iload_n 3, 1) := by decide +kernel
theorem dL_law_1223 : decode cL_law 1223 = .ok (.iconst 1, 1) := by decide +kernel
theorem dL_law_1224 : decode cL_law 1224 = .ok (.iadd, 1) := by decide +kernel
theorem dL_law_1225 : decode cL_law 1225 = .ok (.iaload, 1) := by decide +kernel
theorem dL_law_1226 : decode cL_law 1226 = .ok (.invokevirtual 130, 3) := by decide +kernel
theorem dL_law_1229 : decode cL_law 1229 = .ok (.aload_n 2, 1) := by decide +kernel
theorem dL_law_1230 : decode cL_law 1230 = .ok (.aload_n 0, 1) := by decide +kernel
theorem dL_law_1231 : decode cL_law 1231 = .ok (.iload_n 3, 1) := by decide +kernel
theorem dL_law_1232 : decode cL_law 1232 = .ok (.iconst 1, 1) := by decide +kernel
theorem dL_law_1233 : decode cL_law 1233 = .ok (.iadd, 1) := by decide +kernel
theorem dL_law_1234 : decode cL_law 1234 = .ok (.iaload, 1) := by decide +kernel
theorem dL_law_1235 : decode cL_law 1235 = .ok (.invokevirtual 133, 3) := by decide +kernel
theorem dL_law_1238 : decode cL_law 1238 = .ok (.if_icmp .eq 281, 3) := by decide +kernel
theorem dL_law_1241 : decode cL_law 1241 = .ok (.iconst 0, 1) := by decide +kernel
theorem dL_law_1242 : decode cL_law 1242 = .ok (.ireturn, 1) := by decide +kernel
theorem dL_law_1243 : decode cL_law 1243 = .ok (.aload_n 1, 1) := by decide +kernel
theorem dL_law_1244 : decode cL_law 1244 = .ok (.aload_n 0, 1) := by decide +kernel
theorem dL_law_1245 : decode cL_law 1245 = .ok (.iload_n 3, 1) := by decide +kernel
theorem dL_law_1246 : decode cL_law 1246 = .ok (.iconst 1, 1) := by decide +kernel
theorem dL_law_1247 : decode cL_law 1247 = .ok (.iadd, 1) := by decide +kernel
theorem dL_law_1248 : decode cL_law 1248 = .ok (.iaload, 1) := by decide +kernel
theorem dL_law_1249 : decode cL_law 1249 = .ok (.invokevirtual 134, 3) := by decide +kernel
theorem dL_law_1252 : decode cL_law 1252 = .ok (.aload_n 2, 1) := by decide +kernel
theorem dL_law_1253 : decode cL_law 1253 = .ok (.aload_n 0, 1) := by decide +kernel
theorem dL_law_1254 : decode cL_law 1254 = .ok (.iload_n 3, 1) := by decide +kernel
theorem dL_law_1255 : decode cL_law 1255 = .ok (.iconst 1, 1) := by decide +kernel
theorem dL_law_1256 : decode cL_law 1256 = .ok (.iadd, 1) := by decide +kernel
theorem dL_law_1257 : decode cL_law 1257 = .ok (.iaload, 1) := by decide +kernel
theorem dL_law_1258 : decode cL_law 1258 = .ok (.invokevirtual 137, 3) := by decide +kernel
theorem dL_law_1261 : decode cL_law 1261 = .ok (.if_icmp .eq 258, 3) := by decide +kernel
theorem dL_law_1264 : decode cL_law 1264 = .ok (.iconst 0, 1) := by decide +kernel
theorem dL_law_1265 : decode cL_law 1265 = .ok (.ireturn, 1) := by decide +kernel
theorem dL_law_1266 : decode cL_law 1266 = .ok (.aload_n 1, 1) := by decide +kernel
theorem dL_law_1267 : decode cL_law 1267 = .ok (.invokevirtual 138, 3) := by decide +kernel
theorem dL_law_1270 : decode cL_law 1270 = .ok (.aload_n 2, 1) := by decide +kernel
theorem dL_law_1271 : decode cL_law 1271 = .ok (.invokevirtual 141, 3) := by decide +kernel
theorem dL_law_1274 : decode cL_law 1274 = .ok (.if_icmp .eq 245, 3) := by decide +kernel
theorem dL_law_1277 : decode cL_law 1277 = .ok (.iconst 0, 1) := by decide +kernel
theorem dL_law_1278 : decode cL_law 1278 = .ok (.ireturn, 1) := by decide +kernel
theorem dL_law_1279 : decode cL_law 1279 = .ok (.aload_n 1, 1) := by decide +kernel
theorem dL_law_1280 : decode cL_law 1280 = .ok (.aload_n 0, 1) := by decide +kernel
theorem dL_law_1281 : decode cL_law 1281 = .ok (.iload_n 3, 1) := by decide +kernel
theorem dL_law_1282 : decode cL_law 1282 = .ok (.iconst 1, 1) := by decide +kernel
theorem dL_law_1283 : decode cL_law 1283 = .ok (.iadd, 1) := by decide +kernel
theorem dL_law_1284 : decode cL_law 1284 = .ok (.iaload, 1) := by decide +kernel
theorem dL_law_1285 : decode cL_law 1285 = .ok (.aload_n 0, 1) := by decide +kernel
theorem dL_law_1286 : decode cL_law 1286 = .ok (.iload_n 3, 1) := by decide +kernel
theorem dL_law_1287 : decode cL_law 1287 = .ok (.iconst 2, 1) := by decide +kernel
theorem dL_law_1288 : decode cL_law 1288 = .ok (.iadd, 1) := by decide +kernel
theorem dL_law_1289 : decode cL_law 1289 = .ok (.iaload, 1) := by decide +kernel
theorem dL_law_1290 : decode cL_law 1290 = .ok (.invokevirtual 142, 3) := by decide +kernel
theorem dL_law_1293 : decode cL_law 1293 = .ok (.aload_n 2, 1) := by decide +kernel
theorem dL_law_1294 : decode cL_law 1294 = .ok (.aload_n 0, 1) := by decide +kernel
theorem dL_law_1295 : decode cL_law 1295 = .ok (.iload_n 3, 1) := by decide +kernel
theorem dL_law_1296 : decode cL_law 1296 = .ok (.iconst 1, 1) := by decide +kernel
theorem dL_law_1297 : decode cL_law 1297 = .ok (.iadd, 1) := by decide +kernel
theorem dL_law_1298 : decode cL_law 1298 = .ok (.iaload, 1) := by decide +kernel
theorem dL_law_1299 : decode cL_law 1299 = .ok (.aload_n 0, 1) := by decide +kernel
theorem dL_law_1300 : decode cL_law 1300 = .ok (.iload_n 3, 1) := by decide +kernel
theorem dL_law_1301 : decode cL_law 1301 = .ok (.iconst 2, 1) := by decide +kernel
theorem dL_law_1302 : decode cL_law 1302 = .ok (.iadd, 1) := by decide +kernel
theorem dL_law_1303 : decode cL_law 1303 = .ok (.iaload, 1) := by decide +kernel
theorem dL_law_1304 : decode cL_law 1304 = .ok (.invokevirtual 145, 3) := by decide +kernel
theorem dL_law_1307 : decode cL_law 1307 = .ok (.if_icmp .eq 212, 3) := by decide +kernel
theorem dL_law_1310 : decode cL_law 1310 = .ok (.iconst 0, 1) := by decide +kernel
theorem dL_law_1311 : decode cL_law 1311 = .ok (.ireturn, 1) := by decide +kernel
theorem dL_law_1312 : decode cL_law 1312 = .ok (.aload_n 1, 1) := by decide +kernel
theorem dL_law_1313 : decode cL_law 1313 = .ok (.aload_n 0, 1) := by decide +kernel
theorem dL_law_1314 : decode cL_law 1314 = .ok (.iload_n 3, 1) := by decide +kernel
theorem dL_law_1315 : decode cL_law 1315 = .ok (.iconst 1, 1) := by decide +kernel
theorem dL_law_1316 : decode cL_law 1316 = .ok (.iadd, 1) := by decide +kernel
theorem dL_law_1317 : decode cL_law 1317 = .ok (.iaload, 1) := by decide +kernel
theorem dL_law_1318 : decode cL_law 1318 = .ok (.invokevirtual 146, 3) := by decide +kernel
theorem dL_law_1321 : decode cL_law 1321 = .ok (.aload_n 2, 1) := by decide +kernel
theorem dL_law_1322 : decode cL_law 1322 = .ok (.aload_n 0, 1) := by decide +kernel
theorem dL_law_1323 : decode cL_law 1323 = .ok (.iload_n 3, 1) := by decide +kernel
theorem dL_law_1324 : decode cL_law 1324 = .ok (.iconst 1, 1) := by decide +kernel
theorem dL_law_1325 : decode cL_law 1325 = .ok (.iadd, 1) := by decide +kernel
theorem dL_law_1326 : decode cL_law 1326 = .ok (.iaload, 1) := by decide +kernel
theorem dL_law_1327 : decode cL_law 1327 = .ok (.invokevirtual 149, 3) := by decide +kernel
theorem dL_law_1330 : decode cL_law 1330 = .ok (.if_icmp .eq 189, 3) := by decide +kernel
theorem dL_law_1333 : decode cL_law 1333 = .ok (.iconst 0, 1) := by decide +kernel
theorem dL_law_1334 : decode cL_law 1334 = .ok (.ireturn, 1) := by decide +kernel
theorem dL_law_1335 : decode cL_law 1335 = .ok (.aload_n 1, 1) := by decide +kernel
theorem dL_law_1336 : decode cL_law 1336 = .ok (.aload_n 0, 1) := by decide +kernel
theorem dL_law_1337 : decode cL_law 1337 = .ok (.iload_n 3, 1) := by decide +kernel
theorem dL_law_1338 : decode cL_law 1338 = .ok (.iconst 1, 1) := by decide +kernel
theorem dL_law_1339 : decode cL_law 1339 = .ok (.iadd, 1) := by decide +kernel
theorem dL_law_1340 : decode cL_law 1340 = .ok (.iaload, 1) := by decide +kernel
theorem dL_law_1341 : decode cL_law 1341 = .ok (.invokevirtual 150, 3) := by decide +kernel
theorem dL_law_1344 : decode cL_law 1344 = .ok (.aload_n 2, 1) := by decide +kernel
theorem dL_law_1345 : decode cL_law 1345 = .ok (.aload_n 0, 1) := by decide +kernel
theorem dL_law_1346 : decode cL_law 1346 = .ok (.iload_n 3, 1) := by decide +kernel
theorem dL_law_1347 : decode cL_law 1347 = .ok (.iconst 1, 1) := by decide +kernel
theorem dL_law_1348 : decode cL_law 1348 = .ok (.iadd, 1) := by decide +kernel
theorem dL_law_1349 : decode cL_law 1349 = .ok (.iaload, 1) := by decide +kernel
theorem dL_law_1350 : decode cL_law 1350 = .ok (.invokevirtual 153, 3) := by decide +kernel
theorem dL_law_1353 : decode cL_law 1353 = .ok (.if_icmp .eq 166, 3) := by decide +kernel
theorem dL_law_1356 : decode cL_law 1356 = .ok (.iconst 0, 1) := by decide +kernel
theorem dL_law_1357 : decode cL_law 1357 = .ok (.ireturn, 1) := by decide +kernel
theorem dL_law_1358 : decode cL_law 1358 = .ok (.aload_n 1, 1) := by decide +kernel
theorem dL_law_1359 : decode cL_law 1359 = .ok (.aload_n 0, 1) := by decide +kernel
theorem dL_law_1360 : decode cL_law 1360 = .ok (.iload_n 3, 1) := by decide +kernel
theorem dL_law_1361 : decode cL_law 1361 = .ok (.iconst 1, 1) := by decide +kernel
theorem dL_law_1362 : decode cL_law 1362 = .ok (.iadd, 1) := by decide +kernel
theorem dL_law_1363 : decode cL_law 1363 = .ok (.iaload, 1) := by decide +kernel
theorem dL_law_1364 : decode cL_law 1364 = .ok (.invokevirtual 154, 3) := by decide +kernel
theorem dL_law_1367 : decode cL_law 1367 = .ok (.aload_n 2, 1) := by decide +kernel
theorem dL_law_1368 : decode cL_law 1368 = .ok (.aload_n 0, 1) := by decide +kernel
theorem dL_law_1369 : decode cL_law 1369 = .ok (.iload_n 3, 1) := by decide +kernel
theorem dL_law_1370 : decode cL_law 1370 = .ok (.iconst 1, 1) := by decide +kernel
theorem dL_law_1371 : decode cL_law 1371 = .ok (.iadd, 1) := by decide +kernel
theorem dL_law_1372 : decode cL_law 1372 = .ok (.iaload, 1) := by decide +kernel
theorem dL_law_1373 : decode cL_law 1373 = .ok (.invokevirtual 157, 3) := by decide +kernel
theorem dL_law_1376 : decode cL_law 1376 = .ok (.if_icmp .eq 143, 3) := by decide +kernel
theorem dL_law_1379 : decode cL_law 1379 = .ok (.iconst 0, 1) := by decide +kernel
theorem dL_law_1380 : decode cL_law 1380 = .ok (.ireturn, 1) := by decide +kernel
theorem dL_law_1381 : decode cL_law 1381 = .ok (.aload_n 1, 1) := by decide +kernel
theorem dL_law_1382 : decode cL_law 1382 = .ok (.aload_n 0, 1) := by decide +kernel
theorem dL_law_1383 : decode cL_law 1383 = .ok (.iload_n 3, 1) := by decide +kernel
theorem dL_law_1384 : decode cL_law 1384 = .ok (.iconst 1, 1) := by decide +kernel
theorem dL_law_1385 : decode cL_law 1385 = .ok (.iadd, 1) := by decide +kernel
theorem dL_law_1386 : decode cL_law 1386 = .ok (.iaload, 1) := by decide +kernel
theorem dL_law_1387 : decode cL_law 1387 = .ok (.invokevirtual 158, 3) := by decide +kernel
theorem dL_law_1390 : decode cL_law 1390 = .ok (.aload_n 2, 1) := by decide +kernel
theorem dL_law_1391 : decode cL_law 1391 = .ok (.aload_n 0, 1) := by decide +kernel
theorem dL_law_1392 : decode cL_law 1392 = .ok (.iload_n 3, 1) := by decide +kernel
theorem dL_law_1393 : decode cL_law 1393 = .ok (.iconst 1, 1) := by decide +kernel
theorem dL_law_1394 : decode cL_law 1394 = .ok (.iadd, 1) := by decide +kernel
theorem dL_law_1395 : decode cL_law 1395 = .ok (.iaload, 1) := by decide +kernel
theorem dL_law_1396 : decode cL_law 1396 = .ok (.invokevirtual 161, 3) := by decide +kernel
theorem dL_law_1399 : decode cL_law 1399 = .ok (.if_icmp .eq 120, 3) := by decide +kernel
theorem dL_law_1402 : decode cL_law 1402 = .ok (.iconst 0, 1) := by decide +kernel
theorem dL_law_1403 : decode cL_law 1403 = .ok (.ireturn, 1) := by decide +kernel
theorem dL_law_1404 : decode cL_law 1404 = .ok (.aload_n 1, 1) := by decide +kernel
theorem dL_law_1405 : decode cL_law 1405 = .ok (.aload_n 0, 1) := by decide +kernel
theorem dL_law_1406 : decode cL_law 1406 = .ok (.iload_n 3, 1) := by decide +kernel
theorem dL_law_1407 : decode cL_law 1407 = .ok (.iconst 1, 1) := by decide +kernel
theorem dL_law_1408 : decode cL_law 1408 = .ok (.iadd, 1) := by decide +kernel
theorem dL_law_1409 : decode cL_law 1409 = .ok (.iaload, 1) := by decide +kernel
theorem dL_law_1410 : decode cL_law 1410 = .ok (.aload_n 0, 1) := by decide +kernel
theorem dL_law_1411 : decode cL_law 1411 = .ok (.iload_n 3, 1) := by decide +kernel
theorem dL_law_1412 : decode cL_law 1412 = .ok (.iconst 2, 1) := by decide +kernel
theorem dL_law_1413 : decode cL_law 1413 = .ok (.iadd, 1) := by decide +kernel
theorem dL_law_1414 : decode cL_law 1414 = .ok (.iaload, 1) := by decide +kernel
theorem dL_law_1415 : decode cL_law 1415 = .ok (.aload_n 0, 1) := by decide +kernel
theorem dL_law_1416 : decode cL_law 1416 = .ok (.iload_n 3, 1) := by decide +kernel
theorem dL_law_1417 : decode cL_law 1417 = .ok (.iconst 3, 1) := by decide +kernel
theorem dL_law_1418 : decode cL_law 1418 = .ok (.iadd, 1) := by decide +kernel
theorem dL_law_1419 : decode cL_law 1419 = .ok (.iaload, 1) := by decide +kernel
theorem dL_law_1420 : decode cL_law 1420 = .ok (.invokevirtual 162, 3) := by decide +kernel
theorem dL_law_1423 : decode cL_law 1423 = .ok (.aload_n 2, 1) := by decide +kernel
theorem dL_law_1424 : decode cL_law 1424 = .ok (.aload_n 0, 1) := by decide +kernel
theorem dL_law_1425 : decode cL_law 1425 = .ok (.iload_n 3, 1) := by decide +kernel
theorem dL_law_1426 : decode cL_law 1426 = .ok (.iconst 1, 1) := by decide +kernel
theorem dL_law_1427 : decode cL_law 1427 = .ok (.iadd, 1) := by decide +kernel
theorem dL_law_1428 : decode cL_law 1428 = .ok (.iaload, 1) := by decide +kernel
theorem dL_law_1429 : decode cL_law 1429 = .ok (.aload_n 0, 1) := by decide +kernel
theorem dL_law_1430 : decode cL_law 1430 = .ok (.iload_n 3, 1) := by decide +kernel
theorem dL_law_1431 : decode cL_law 1431 = .ok (.iconst 2, 1) := by decide +kernel
theorem dL_law_1432 : decode cL_law 1432 = .ok (.iadd, 1) := by decide +kernel
theorem dL_law_1433 : decode cL_law 1433 = .ok (.iaload, 1) := by decide +kernel
theorem dL_law_1434 : decode cL_law 1434 = .ok (.aload_n 0, 1) := by decide +kernel
theorem dL_law_1435 : decode cL_law 1435 = .ok (.iload_n 3, 1) := by decide +kernel
theorem dL_law_1436 : decode cL_law 1436 = .ok (.iconst 3, 1) := by decide +kernel
theorem dL_law_1437 : decode cL_law 1437 = .ok (.iadd, 1) := by decide +kernel
theorem dL_law_1438 : decode cL_law 1438 = .ok (.iaload, 1) := by decide +kernel
theorem dL_law_1439 : decode cL_law 1439 = .ok (.invokevirtual 165, 3) := by decide +kernel
theorem dL_law_1442 : decode cL_law 1442 = .ok (.if_icmp .eq 77, 3) := by decide +kernel
theorem dL_law_1445 : decode cL_law 1445 = .ok (.iconst 0, 1) := by decide +kernel
theorem dL_law_1446 : decode cL_law 1446 = .ok (.ireturn, 1) := by decide +kernel
theorem dL_law_1447 : decode cL_law 1447 = .ok (.aload_n 1, 1) := by decide +kernel
theorem dL_law_1448 : decode cL_law 1448 = .ok (.aload_n 0, 1) := by decide +kernel
theorem dL_law_1449 : decode cL_law 1449 = .ok (.iload_n 3, 1) := by decide +kernel
theorem dL_law_1450 : decode cL_law 1450 = .ok (.iconst 1, 1) := by decide +kernel
theorem dL_law_1451 : decode cL_law 1451 = .ok (.iadd, 1) := by decide +kernel
theorem dL_law_1452 : decode cL_law 1452 = .ok (.iaload, 1) := by decide +kernel
theorem dL_law_1453 : decode cL_law 1453 = .ok (.invokevirtual 166, 3) := by decide +kernel
theorem dL_law_1456 : decode cL_law 1456 = .ok (.aload_n 2, 1) := by decide +kernel
theorem dL_law_1457 : decode cL_law 1457 = .ok (.aload_n 0, 1) := by decide +kernel
theorem dL_law_1458 : decode cL_law 1458 = .ok (.iload_n 3, 1) := by decide +kernel
theorem dL_law_1459 : decode cL_law 1459 = .ok (.iconst 1, 1) := by decide +kernel
theorem dL_law_1460 : decode cL_law 1460 = .ok (.iadd, 1) := by decide +kernel
theorem dL_law_1461 : decode cL_law 1461 = .ok (.iaload, 1) := by decide +kernel
theorem dL_law_1462 : decode cL_law 1462 = .ok (.invokevirtual 169, 3) := by decide +kernel
theorem dL_law_1465 : decode cL_law 1465 = .ok (.if_icmp .eq 54, 3) := by decide +kernel
theorem dL_law_1468 : decode cL_law 1468 = .ok (.iconst 0, 1) := by decide +kernel
theorem dL_law_1469 : decode cL_law 1469 = .ok (.ireturn, 1) := by decide +kernel
theorem dL_law_1470 : decode cL_law 1470 = .ok (.aload_n 1, 1) := by decide +kernel
theorem dL_law_1471 : decode cL_law 1471 = .ok (.invokevirtual 170, 3) := by decide +kernel
theorem dL_law_1474 : decode cL_law 1474 = .ok (.aload_n 2, 1) := by decide +kernel
theorem dL_law_1475 : decode cL_law 1475 = .ok (.invokevirtual 173, 3) := by decide +kernel
theorem dL_law_1478 : decode cL_law 1478 = .ok (.if_icmp .eq 41, 3) := by decide +kernel
theorem dL_law_1481 : decode cL_law 1481 = .ok (.iconst 0, 1) := by decide +kernel
theorem dL_law_1482 : decode cL_law 1482 = .ok (.ireturn, 1) := by decide +kernel
theorem dL_law_1483 : decode cL_law 1483 = .ok (.aload_n 1, 1) := by decide +kernel
theorem dL_law_1484 : decode cL_law 1484 = .ok (.invokevirtual 174, 3) := by decide +kernel
theorem dL_law_1487 : decode cL_law 1487 = .ok (.aload_n 2, 1) := by decide +kernel
theorem dL_law_1488 : decode cL_law 1488 = .ok (.invokevirtual 177, 3) := by decide +kernel
theorem dL_law_1491 : decode cL_law 1491 = .ok (.if_icmp .eq 28, 3) := by decide +kernel
theorem dL_law_1494 : decode cL_law 1494 = .ok (.iconst 0, 1) := by decide +kernel
theorem dL_law_1495 : decode cL_law 1495 = .ok (.ireturn, 1) := by decide +kernel
theorem dL_law_1496 : decode cL_law 1496 = .ok (.aload_n 1, 1) := by decide +kernel
theorem dL_law_1497 : decode cL_law 1497 = .ok (.aload_n 0, 1) := by decide +kernel
theorem dL_law_1498 : decode cL_law 1498 = .ok (.iload_n 3, 1) := by decide +kernel
theorem dL_law_1499 : decode cL_law 1499 = .ok (.iconst 1, 1) := by decide +kernel
theorem dL_law_1500 : decode cL_law 1500 = .ok (.iadd, 1) := by decide +kernel
theorem dL_law_1501 : decode cL_law 1501 = .ok (.iaload, 1) := by decide +kernel
theorem dL_law_1502 : decode cL_law 1502 = .ok (.invokevirtual 178, 3) := by decide +kernel
theorem dL_law_1505 : decode cL_law 1505 = .ok (.aload_n 2, 1) := by decide +kernel
theorem dL_law_1506 : decode cL_law 1506 = .ok (.aload_n 0, 1) := by decide +kernel
theorem dL_law_1507 : decode cL_law 1507 = .ok (.iload_n 3, 1) := by decide +kernel
theorem dL_law_1508 : decode cL_law 1508 = .ok (.iconst 1, 1) := by decide +kernel
theorem dL_law_1509 : decode cL_law 1509 = .ok (.iadd, 1) := by decide +kernel
theorem dL_law_1510 : decode cL_law 1510 = .ok (.iaload, 1) := by decide +kernel
theorem dL_law_1511 : decode cL_law 1511 = .ok (.invokevirtual 181, 3) := by decide +kernel
theorem dL_law_1514 : decode cL_law 1514 = .ok (.if_icmp .eq 5, 3) := by decide +kernel
theorem dL_law_1517 : decode cL_law 1517 = .ok (.iconst 0, 1) := by decide +kernel
theorem dL_law_1518 : decode cL_law 1518 = .ok (.ireturn, 1) := by decide +kernel
theorem dL_law_1519 : decode cL_law 1519 = .ok (.iinc 3 6, 3) := by decide +kernel
theorem dL_law_1522 : decode cL_law 1522 = .ok (.goto (-1504), 3) := by decide +kernel
theorem dL_law_1525 : decode cL_law 1525 = .ok (.iconst 1, 1) := by decide +kernel
theorem dL_law_1526 : decode cL_law 1526 = .ok (.ireturn, 1) := by decide +kernel
