theorem dL_arePages_0 : decode cL_arePages 0 = .ok (.iconst 0, 1) := by decide +kernel
theorem dL_arePages_1 : decode cL_arePages 1 = .ok (.istore_n 1, 1) := by decide +kernel
theorem dL_arePages_2 : decode cL_arePages 2 = .ok (.iconst 1, 1) := by decide +kernel
theorem dL_arePages_3 : decode cL_arePages 3 = .ok (.istore_n 2, 1) := by decide +kernel
theorem dL_arePages_4 : decode cL_arePages 4 = .ok (.iconst 0, 1) := by decide +kernel
theorem dL_arePages_5 : decode cL_arePages 5 = .ok (.istore_n 3, 1) := by decide +kernel
theorem dL_arePages_6 : decode cL_arePages 6 = .ok (.iload_n 3, 1) := by decide +kernel
theorem dL_arePages_7 : decode cL_arePages 7 = .ok (.bipush 30, 2) := by decide +kernel
theorem dL_arePages_9 : decode cL_arePages 9 = .ok (.if_icmp .ge 237, 3) := by decide +kernel
theorem dL_arePages_12 : decode cL_arePages 12 = .ok (.aload_n 0, 1) := by decide +kernel
theorem dL_arePages_13 : decode cL_arePages 13 = .ok (.iload_n 3, 1) := by decide +kernel
theorem dL_arePages_14 : decode cL_arePages 14 = .ok (.invokevirtual 36, 3) := by decide +kernel
theorem dL_arePages_17 : decode cL_arePages 17 = .ok (.istore 4, 2) := by decide +kernel
theorem dL_arePages_19 : decode cL_arePages 19 = .ok (.aload_n 0, 1) := by decide +kernel
theorem dL_arePages_20 : decode cL_arePages 20 = .ok (.iload_n 3, 1) := by decide +kernel
theorem dL_arePages_21 : decode cL_arePages 21 = .ok (.invokevirtual 39, 3) := by decide +kernel
theorem dL_arePages_24 : decode cL_arePages 24 = .ok (.invokestatic 95, 3) := by decide +kernel
theorem dL_arePages_27 : decode cL_arePages 27 = .ok (.istore 5, 2) := by decide +kernel
theorem dL_arePages_29 : decode cL_arePages 29 = .ok (.iload 4, 2) := by decide +kernel
theorem dL_arePages_31 : decode cL_arePages 31 = .ok (.iconst (-1), 1) := by decide +kernel
theorem dL_arePages_32 : decode cL_arePages 32 = .ok (.if_icmp .eq 7, 3) := by decide +kernel
theorem dL_arePages_35 : decode cL_arePages 35 = .ok (.iconst 1, 1) := by decide +kernel
theorem dL_arePages_36 : decode cL_arePages 36 = .ok (.goto 4, 3) := by decide +kernel
theorem dL_arePages_39 : decode cL_arePages 39 = .ok (.iconst 0, 1) := by decide +kernel
theorem dL_arePages_40 : decode cL_arePages 40 = .ok (.istore 6, 2) := by decide +kernel
theorem dL_arePages_42 : decode cL_arePages 42 = .ok (.iconst 0, 1) := by decide +kernel
theorem dL_arePages_43 : decode cL_arePages 43 = .ok (.istore 7, 2) := by decide +kernel
theorem dL_arePages_45 : decode cL_arePages 45 = .ok (.iconst 0, 1) := by decide +kernel
theorem dL_arePages_46 : decode cL_arePages 46 = .ok (.istore 8, 2) := by decide +kernel
theorem dL_arePages_48 : decode cL_arePages 48 = .ok (.iconst 0, 1) := by decide +kernel
theorem dL_arePages_49 : decode cL_arePages 49 = .ok (.istore 9, 2) := by decide +kernel
theorem dL_arePages_51 : decode cL_arePages 51 = .ok (.iload 9, 2) := by decide +kernel
theorem dL_arePages_53 : decode cL_arePages 53 = .ok (.bipush 6, 2) := by decide +kernel
theorem dL_arePages_55 : decode cL_arePages 55 = .ok (.if_icmp .ge 63, 3) := by decide +kernel
theorem dL_arePages_58 : decode cL_arePages 58 = .ok (.iload 7, 2) := by decide +kernel
theorem dL_arePages_60 : decode cL_arePages 60 = .ok (.ifCond .ne 14, 3) := by decide +kernel
theorem dL_arePages_63 : decode cL_arePages 63 = .ok (.aload_n 0, 1) := by decide +kernel
theorem dL_arePages_64 : decode cL_arePages 64 = .ok (.iload 9, 2) := by decide +kernel
theorem dL_arePages_66 : decode cL_arePages 66 = .ok (.iload_n 3, 1) := by decide +kernel
theorem dL_arePages_67 : decode cL_arePages 67 = .ok (.invokevirtual 47, 3) := by decide +kernel
theorem dL_arePages_70 : decode cL_arePages 70 = .ok (.iconst 1, 1) := by decide +kernel
theorem dL_arePages_71 : decode cL_arePages 71 = .ok (.if_icmp .ne 7, 3) := by decide +kernel
theorem dL_arePages_74 : decode cL_arePages 74 = .ok (.iconst 1, 1) := by decide +kernel
theorem dL_arePages_75 : decode cL_arePages 75 = .ok (.goto 4, 3) := by decide +kernel
theorem dL_arePages_78 : decode cL_arePages 78 = .ok (.iconst 0, 1) := by decide +kernel
theorem dL_arePages_79 : decode cL_arePages 79 = .ok (.istore 7, 2) := by decide +kernel
theorem dL_arePages_81 : decode cL_arePages 81 = .ok (.iload 8, 2) := by decide +kernel
theorem dL_arePages_83 : decode cL_arePages 83 = .ok (.ifCond .ne 22, 3) := by decide +kernel
theorem dL_arePages_86 : decode cL_arePages 86 = .ok (.aload_n 0, 1) := by decide +kernel
theorem dL_arePages_87 : decode cL_arePages 87 = .ok (.iload 9, 2) := by decide +kernel
theorem dL_arePages_89 : decode cL_arePages 89 = .ok (.invokevirtual 26, 3) := by decide +kernel
theorem dL_arePages_92 : decode cL_arePages 92 = .ok (.ifCond .le 17, 3) := by decide +kernel
theorem dL_arePages_95 : decode cL_arePages 95 = .ok (.aload_n 0, 1) := by decide +kernel
theorem dL_arePages_96 : decode cL_arePages 96 = .ok (.iload 9, 2) := by decide +kernel
theorem dL_arePages_98 : decode cL_arePages 98 = .ok (.iload_n 3, 1) := by decide +kernel
theorem dL_arePages_99 : decode cL_arePages 99 = .ok (.invokevirtual 47, 3) := by decide +kernel
theorem dL_arePages_102 : decode cL_arePages 102 = .ok (.ifCond .ne 7, 3) := by decide +kernel
theorem dL_arePages_105 : decode cL_arePages 105 = .ok (.iconst 1, 1) := by decide +kernel
theorem dL_arePages_106 : decode cL_arePages 106 = .ok (.goto 4, 3) := by decide +kernel
theorem dL_arePages_109 : decode cL_arePages 109 = .ok (.iconst 0, 1) := by decide +kernel
theorem dL_arePages_110 : decode cL_arePages 110 = .ok (.istore 8, 2) := by decide +kernel
theorem dL_arePages_112 : decode cL_arePages 112 = .ok (.iinc 9 1, 3) := by decide +kernel
theorem dL_arePages_115 : decode cL_arePages 115 = .ok (.goto (-64), 3) := by decide +kernel
theorem dL_arePages_118 : decode cL_arePages 118 = .ok (.iload_n 1, 1) := by decide +kernel
theorem dL_arePages_119 : decode cL_arePages 119 = .ok (.iload 6, 2) := by decide +kernel
theorem dL_arePages_121 : decode cL_arePages 121 = .ok (.ifCond .eq 7, 3) := by decide +kernel
theorem dL_arePages_124 : decode cL_arePages 124 = .ok (.iconst 1, 1) := by decide +kernel
theorem dL_arePages_125 : decode cL_arePages 125 = .ok (.goto 4, 3) := by decide +kernel
theorem dL_arePages_128 : decode cL_arePages 128 = .ok (.iconst 0, 1) := by decide +kernel
theorem dL_arePages_129 : decode cL_arePages 129 = .ok (.iadd, 1) := by decide +kernel
theorem dL_arePages_130 : decode cL_arePages 130 = .ok (.istore_n 1, 1) := by decide +kernel
theorem dL_arePages_131 : decode cL_arePages 131 = .ok (.iload_n 2, 1) := by decide +kernel
theorem dL_arePages_132 : decode cL_arePages 132 = .ok (.ifCond .eq 106, 3) := by decide +kernel
theorem dL_arePages_135 : decode cL_arePages 135 = .ok (.iload 4, 2) := by decide +kernel
theorem dL_arePages_137 : decode cL_arePages 137 = .ok (.iconst 2, 1) := by decide +kernel
theorem dL_arePages_138 : decode cL_arePages 138 = .ok (.if_icmp .ne 7, 3) := by decide +kernel
theorem dL_arePages_141 : decode cL_arePages 141 = .ok (.iconst 1, 1) := by decide +kernel
theorem dL_arePages_142 : decode cL_arePages 142 = .ok (.goto 4, 3) := by decide +kernel
theorem dL_arePages_145 : decode cL_arePages 145 = .ok (.iconst 0, 1) := by decide +kernel
theorem dL_arePages_146 : decode cL_arePages 146 = .ok (.iload 5, 2) := by decide +kernel
theorem dL_arePages_148 : decode cL_arePages 148 = .ok (.iconst 1, 1) := by decide +kernel
theorem dL_arePages_149 : decode cL_arePages 149 = .ok (.if_icmp .le 7, 3) := by decide +kernel
theorem dL_arePages_152 : decode cL_arePages 152 = .ok (.iconst 1, 1) := by decide +kernel
theorem dL_arePages_153 : decode cL_arePages 153 = .ok (.goto 4, 3) := by decide +kernel
theorem dL_arePages_156 : decode cL_arePages 156 = .ok (.iconst 0, 1) := by decide +kernel
theorem dL_arePages_157 : decode cL_arePages 157 = .ok (.if_icmp .ne 81, 3) := by decide +kernel
theorem dL_arePages_160 : decode cL_arePages 160 = .ok (.iload 4, 2) := by decide +kernel
theorem dL_arePages_162 : decode cL_arePages 162 = .ok (.iconst 1, 1) := by decide +kernel
theorem dL_arePages_163 : decode cL_arePages 163 = .ok (.if_icmp .ne 7, 3) := by decide +kernel
theorem dL_arePages_166 : decode cL_arePages 166 = .ok (.iconst 1, 1) := by decide +kernel
theorem dL_arePages_167 : decode cL_arePages 167 = .ok (.goto 4, 3) := by decide +kernel
theorem dL_arePages_170 : decode cL_arePages 170 = .ok (.iconst 0, 1) := by decide +kernel
theorem dL_arePages_171 : decode cL_arePages 171 = .ok (.iload 5, 2) := by decide +kernel
theorem dL_arePages_173 : decode cL_arePages 173 = .ok (.iconst 1, 1) := by decide +kernel
theorem dL_arePages_174 : decode cL_arePages 174 = .ok (.if_icmp .ne 7, 3) := by decide +kernel
theorem dL_arePages_177 : decode cL_arePages 177 = .ok (.iconst 1, 1) := by decide +kernel
theorem dL_arePages_178 : decode cL_arePages 178 = .ok (.goto 4, 3) := by decide +kernel
theorem dL_arePages_181 : decode cL_arePages 181 = .ok (.iconst 0, 1) := by decide +kernel
theorem dL_arePages_182 : decode cL_arePages 182 = .ok (.if_icmp .ne 56, 3) := by decide +kernel
theorem dL_arePages_185 : decode cL_arePages 185 = .ok (.iload 6, 2) := by decide +kernel
theorem dL_arePages_187 : decode cL_arePages 187 = .ok (.ifCond .eq 18, 3) := by decide +kernel
theorem dL_arePages_190 : decode cL_arePages 190 = .ok (.iload 7, 2) := by decide +kernel
theorem dL_arePages_192 : decode cL_arePages 192 = .ok (.iload 4, 2) := by decide +kernel
theorem dL_arePages_194 : decode cL_arePages 194 = .ok (.ifCond .lt 7, 3) := by decide +kernel
theorem dL_arePages_197 : decode cL_arePages 197 = .ok (.iconst 1, 1) := by decide +kernel
theorem dL_arePages_198 : decode cL_arePages 198 = .ok (.goto 4, 3) := by decide +kernel
theorem dL_arePages_201 : decode cL_arePages 201 = .ok (.iconst 0, 1) := by decide +kernel
theorem dL_arePages_202 : decode cL_arePages 202 = .ok (.if_icmp .ne 36, 3) := by decide +kernel
theorem dL_arePages_205 : decode cL_arePages 205 = .ok (.iload 6, 2) := by decide +kernel
theorem dL_arePages_207 : decode cL_arePages 207 = .ok (.ifCond .ne 8, 3) := by decide +kernel
theorem dL_arePages_210 : decode cL_arePages 210 = .ok (.iload 5, 2) := by decide +kernel
theorem dL_arePages_212 : decode cL_arePages 212 = .ok (.ifCond .ne 26, 3) := by decide +kernel
theorem dL_arePages_215 : decode cL_arePages 215 = .ok (.aload_n 0, 1) := by decide +kernel
theorem dL_arePages_216 : decode cL_arePages 216 = .ok (.iconst 0, 1) := by decide +kernel
theorem dL_arePages_217 : decode cL_arePages 217 = .ok (.invokevirtual 51, 3) := by decide +kernel
theorem dL_arePages_220 : decode cL_arePages 220 = .ok (.ifCond .ge 14, 3) := by decide +kernel
theorem dL_arePages_223 : decode cL_arePages 223 = .ok (.iload 4, 2) := by decide +kernel
theorem dL_arePages_225 : decode cL_arePages 225 = .ok (.iconst 1, 1) := by decide +kernel
theorem dL_arePages_226 : decode cL_arePages 226 = .ok (.if_icmp .ne 8, 3) := by decide +kernel
theorem dL_arePages_229 : decode cL_arePages 229 = .ok (.iload 8, 2) := by decide +kernel
theorem dL_arePages_231 : decode cL_arePages 231 = .ok (.ifCond .ne 7, 3) := by decide +kernel
theorem dL_arePages_234 : decode cL_arePages 234 = .ok (.iconst 1, 1) := by decide +kernel
theorem dL_arePages_235 : decode cL_arePages 235 = .ok (.goto 4, 3) := by decide +kernel
theorem dL_arePages_238 : decode cL_arePages 238 = .ok (.iconst 0, 1) := by decide +kernel
theorem dL_arePages_239 : decode cL_arePages 239 = .ok (.istore_n 2, 1) := by decide +kernel
theorem dL_arePages_240 : decode cL_arePages 240 = .ok (.iinc 3 1, 3) := by decide +kernel
theorem dL_arePages_243 : decode cL_arePages 243 = .ok (.goto (-237), 3) := by decide +kernel
theorem dL_arePages_246 : decode cL_arePages 246 = .ok (.iload_n 2, 1) := by decide +kernel
theorem dL_arePages_247 : decode cL_arePages 247 = .ok (.ifCond .eq 35, 3) := by decide +kernel
theorem dL_arePages_250 : decode cL_arePages 250 = .ok (.aload_n 0, 1) := by decide +kernel
theorem dL_arePages_251 : decode cL_arePages 251 = .ok (.iconst 2, 1) := by decide +kernel
theorem dL_arePages_252 : decode cL_arePages 252 = .ok (.invokevirtual 98, 3) := by decide +kernel
theorem dL_arePages_255 : decode cL_arePages 255 = .ok (.aload_n 0, 1) := by decide +kernel
theorem dL_arePages_256 : decode cL_arePages 256 = .ok (.iconst 1, 1) := by decide +kernel
theorem dL_arePages_257 : decode cL_arePages 257 = .ok (.invokevirtual 98, 3) := by decide +kernel
theorem dL_arePages_260 : decode cL_arePages 260 = .ok (.iadd, 1) := by decide +kernel
theorem dL_arePages_261 : decode cL_arePages 261 = .ok (.aload_n 0, 1) := by decide +kernel
theorem dL_arePages_262 : decode cL_arePages 262 = .ok (.iconst 0, 1) := by decide +kernel
theorem dL_arePages_263 : decode cL_arePages 263 = .ok (.invokevirtual 98, 3) := by decide +kernel
theorem dL_arePages_266 : decode cL_arePages 266 = .ok (.iadd, 1) := by decide +kernel
theorem dL_arePages_267 : decode cL_arePages 267 = .ok (.aload_n 0, 1) := by decide +kernel
theorem dL_arePages_268 : decode cL_arePages 268 = .ok (.bipush (-2), 2) := by decide +kernel
theorem dL_arePages_270 : decode cL_arePages 270 = .ok (.invokevirtual 98, 3) := by decide +kernel
theorem dL_arePages_273 : decode cL_arePages 273 = .ok (.iadd, 1) := by decide +kernel
theorem dL_arePages_274 : decode cL_arePages 274 = .ok (.iload_n 1, 1) := by decide +kernel
theorem dL_arePages_275 : decode cL_arePages 275 = .ok (.if_icmp .ne 7, 3) := by decide +kernel
theorem dL_arePages_278 : decode cL_arePages 278 = .ok (.iconst 1, 1) := by decide +kernel
theorem dL_arePages_279 : decode cL_arePages 279 = .ok (.goto 4, 3) := by decide +kernel
theorem dL_arePages_282 : decode cL_arePages 282 = .ok (.iconst 0, 1) := by decide +kernel
theorem dL_arePages_283 : decode cL_arePages 283 = .ok (.ireturn, 1) := by decide +kernel
