theorem dL_areHosts_0 : decode cL_areHosts 0 = .ok (.iconst 1, 1) := by decide +kernel
theorem dL_areHosts_1 : decode cL_areHosts 1 = .ok (.istore_n 1, 1) := by decide +kernel
theorem dL_areHosts_2 : decode cL_areHosts 2 = .ok (.aload_n 0, 1) := by decide +kernel
theorem dL_areHosts_3 : decode cL_areHosts 3 = .ok (.iconst 0, 1) := by decide +kernel
theorem dL_areHosts_4 : decode cL_areHosts 4 = .ok (.invokevirtual 51, 3) := by decide +kernel
theorem dL_areHosts_7 : decode cL_areHosts 7 = .ok (.istore_n 2, 1) := by decide +kernel
theorem dL_areHosts_8 : decode cL_areHosts 8 = .ok (.iconst 0, 1) := by decide +kernel
theorem dL_areHosts_9 : decode cL_areHosts 9 = .ok (.istore_n 3, 1) := by decide +kernel
theorem dL_areHosts_10 : decode cL_areHosts 10 = .ok (.iload_n 3, 1) := by decide +kernel
theorem dL_areHosts_11 : decode cL_areHosts 11 = .ok (.bipush 6, 2) := by decide +kernel
theorem dL_areHosts_13 : decode cL_areHosts 13 = .ok (.if_icmp .ge 283, 3) := by decide +kernel
theorem dL_areHosts_16 : decode cL_areHosts 16 = .ok (.iconst 0, 1) := by decide +kernel
theorem dL_areHosts_17 : decode cL_areHosts 17 = .ok (.istore 4, 2) := by decide +kernel
theorem dL_areHosts_19 : decode cL_areHosts 19 = .ok (.aload_n 0, 1) := by decide +kernel
theorem dL_areHosts_20 : decode cL_areHosts 20 = .ok (.iload_n 3, 1) := by decide +kernel
theorem dL_areHosts_21 : decode cL_areHosts 21 = .ok (.invokevirtual 32, 3) := by decide +kernel
theorem dL_areHosts_24 : decode cL_areHosts 24 = .ok (.istore 5, 2) := by decide +kernel
theorem dL_areHosts_26 : decode cL_areHosts 26 = .ok (.aload_n 0, 1) := by decide +kernel
theorem dL_areHosts_27 : decode cL_areHosts 27 = .ok (.iload_n 3, 1) := by decide +kernel
theorem dL_areHosts_28 : decode cL_areHosts 28 = .ok (.invokevirtual 19, 3) := by decide +kernel
theorem dL_areHosts_31 : decode cL_areHosts 31 = .ok (.istore 6, 2) := by decide +kernel
theorem dL_areHosts_33 : decode cL_areHosts 33 = .ok (.iconst 0, 1) := by decide +kernel
theorem dL_areHosts_34 : decode cL_areHosts 34 = .ok (.istore 7, 2) := by decide +kernel
theorem dL_areHosts_36 : decode cL_areHosts 36 = .ok (.iload 7, 2) := by decide +kernel
theorem dL_areHosts_38 : decode cL_areHosts 38 = .ok (.bipush 30, 2) := by decide +kernel
theorem dL_areHosts_40 : decode cL_areHosts 40 = .ok (.if_icmp .ge 92, 3) := by decide +kernel
theorem dL_areHosts_43 : decode cL_areHosts 43 = .ok (.aload_n 0, 1) := by decide +kernel
theorem dL_areHosts_44 : decode cL_areHosts 44 = .ok (.iload_n 3, 1) := by decide +kernel
theorem dL_areHosts_45 : decode cL_areHosts 45 = .ok (.iload 7, 2) := by decide +kernel
theorem dL_areHosts_47 : decode cL_areHosts 47 = .ok (.invokevirtual 47, 3) := by decide +kernel
theorem dL_areHosts_50 : decode cL_areHosts 50 = .ok (.istore 8, 2) := by decide +kernel
theorem dL_areHosts_52 : decode cL_areHosts 52 = .ok (.iload 4, 2) := by decide +kernel
theorem dL_areHosts_54 : decode cL_areHosts 54 = .ok (.iload 8, 2) := by decide +kernel
theorem dL_areHosts_56 : decode cL_areHosts 56 = .ok (.ifCond .ne 7, 3) := by decide +kernel
theorem dL_areHosts_59 : decode cL_areHosts 59 = .ok (.iconst 0, 1) := by decide +kernel
theorem dL_areHosts_60 : decode cL_areHosts 60 = .ok (.goto 4, 3) := by decide +kernel
theorem dL_areHosts_63 : decode cL_areHosts 63 = .ok (.iconst 1, 1) := by decide +kernel
theorem dL_areHosts_64 : decode cL_areHosts 64 = .ok (.iadd, 1) := by decide +kernel
theorem dL_areHosts_65 : decode cL_areHosts 65 = .ok (.istore 4, 2) := by decide +kernel
theorem dL_areHosts_67 : decode cL_areHosts 67 = .ok (.iload_n 1, 1) := by decide +kernel
theorem dL_areHosts_68 : decode cL_areHosts 68 = .ok (.ifCond .eq 56, 3) := by decide +kernel
theorem dL_areHosts_71 : decode cL_areHosts 71 = .ok (.iload 5, 2) := by decide +kernel
theorem dL_areHosts_73 : decode cL_areHosts 73 = .ok (.ifCond .eq 9, 3) := by decide +kernel
theorem dL_areHosts_76 : decode cL_areHosts 76 = .ok (.iload 8, 2) := by decide +kernel
theorem dL_areHosts_78 : decode cL_areHosts 78 = .ok (.iconst 2, 1) := by decide +kernel
theorem dL_areHosts_79 : decode cL_areHosts 79 = .ok (.if_icmp .ge 45, 3) := by decide +kernel
theorem dL_areHosts_82 : decode cL_areHosts 82 = .ok (.aload_n 0, 1) := by decide +kernel
theorem dL_areHosts_83 : decode cL_areHosts 83 = .ok (.iload 7, 2) := by decide +kernel
theorem dL_areHosts_85 : decode cL_areHosts 85 = .ok (.invokevirtual 39, 3) := by decide +kernel
theorem dL_areHosts_88 : decode cL_areHosts 88 = .ok (.iload_n 3, 1) := by decide +kernel
theorem dL_areHosts_89 : decode cL_areHosts 89 = .ok (.ishr, 1) := by decide +kernel
theorem dL_areHosts_90 : decode cL_areHosts 90 = .ok (.iconst 1, 1) := by decide +kernel
theorem dL_areHosts_91 : decode cL_areHosts 91 = .ok (.iand, 1) := by decide +kernel
theorem dL_areHosts_92 : decode cL_areHosts 92 = .ok (.iconst 1, 1) := by decide +kernel
theorem dL_areHosts_93 : decode cL_areHosts 93 = .ok (.if_icmp .ne 7, 3) := by decide +kernel
theorem dL_areHosts_96 : decode cL_areHosts 96 = .ok (.iconst 1, 1) := by decide +kernel
theorem dL_areHosts_97 : decode cL_areHosts 97 = .ok (.goto 4, 3) := by decide +kernel
theorem dL_areHosts_100 : decode cL_areHosts 100 = .ok (.iconst 0, 1) := by decide +kernel
theorem dL_areHosts_101 : decode cL_areHosts 101 = .ok (.iload 5, 2) := by decide +kernel
theorem dL_areHosts_103 : decode cL_areHosts 103 = .ok (.ifCond .eq 13, 3) := by decide +kernel
theorem dL_areHosts_106 : decode cL_areHosts 106 = .ok (.iload 8, 2) := by decide +kernel
theorem dL_areHosts_108 : decode cL_areHosts 108 = .ok (.iconst 1, 1) := by decide +kernel
theorem dL_areHosts_109 : decode cL_areHosts 109 = .ok (.if_icmp .ne 7, 3) := by decide +kernel
theorem dL_areHosts_112 : decode cL_areHosts 112 = .ok (.iconst 1, 1) := by decide +kernel
theorem dL_areHosts_113 : decode cL_areHosts 113 = .ok (.goto 4, 3) := by decide +kernel
theorem dL_areHosts_116 : decode cL_areHosts 116 = .ok (.iconst 0, 1) := by decide +kernel
theorem dL_areHosts_117 : decode cL_areHosts 117 = .ok (.if_icmp .ne 7, 3) := by decide +kernel
theorem dL_areHosts_120 : decode cL_areHosts 120 = .ok (.iconst 1, 1) := by decide +kernel
theorem dL_areHosts_121 : decode cL_areHosts 121 = .ok (.goto 4, 3) := by decide +kernel
theorem dL_areHosts_124 : decode cL_areHosts 124 = .ok (.iconst 0, 1) := by decide +kernel
theorem dL_areHosts_125 : decode cL_areHosts 125 = .ok (.istore_n 1, 1) := by decide +kernel
theorem dL_areHosts_126 : decode cL_areHosts 126 = .ok (.iinc 7 1, 3) := by decide +kernel
theorem dL_areHosts_129 : decode cL_areHosts 129 = .ok (.goto (-93), 3) := by decide +kernel
theorem dL_areHosts_132 : decode cL_areHosts 132 = .ok (.iload_n 2, 1) := by decide +kernel
theorem dL_areHosts_133 : decode cL_areHosts 133 = .ok (.ifCond .lt 16, 3) := by decide +kernel
theorem dL_areHosts_136 : decode cL_areHosts 136 = .ok (.aload_n 0, 1) := by decide +kernel
theorem dL_areHosts_137 : decode cL_areHosts 137 = .ok (.iconst 2, 1) := by decide +kernel
theorem dL_areHosts_138 : decode cL_areHosts 138 = .ok (.invokevirtual 51, 3) := by decide +kernel
theorem dL_areHosts_141 : decode cL_areHosts 141 = .ok (.iload_n 3, 1) := by decide +kernel
theorem dL_areHosts_142 : decode cL_areHosts 142 = .ok (.if_icmp .ne 7, 3) := by decide +kernel
theorem dL_areHosts_145 : decode cL_areHosts 145 = .ok (.iconst 1, 1) := by decide +kernel
theorem dL_areHosts_146 : decode cL_areHosts 146 = .ok (.goto 4, 3) := by decide +kernel
theorem dL_areHosts_149 : decode cL_areHosts 149 = .ok (.iconst 0, 1) := by decide +kernel
theorem dL_areHosts_150 : decode cL_areHosts 150 = .ok (.istore 7, 2) := by decide +kernel
theorem dL_areHosts_152 : decode cL_areHosts 152 = .ok (.iload_n 1, 1) := by decide +kernel
theorem dL_areHosts_153 : decode cL_areHosts 153 = .ok (.ifCond .eq 72, 3) := by decide +kernel
theorem dL_areHosts_156 : decode cL_areHosts 156 = .ok (.aload_n 0, 1) := by decide +kernel
theorem dL_areHosts_157 : decode cL_areHosts 157 = .ok (.iload_n 3, 1) := by decide +kernel
theorem dL_areHosts_158 : decode cL_areHosts 158 = .ok (.invokevirtual 23, 3) := by decide +kernel
theorem dL_areHosts_161 : decode cL_areHosts 161 = .ok (.iload 4, 2) := by decide +kernel
theorem dL_areHosts_163 : decode cL_areHosts 163 = .ok (.iload 7, 2) := by decide +kernel
theorem dL_areHosts_165 : decode cL_areHosts 165 = .ok (.ifCond .eq 7, 3) := by decide +kernel
theorem dL_areHosts_168 : decode cL_areHosts 168 = .ok (.iconst 1, 1) := by decide +kernel
theorem dL_areHosts_169 : decode cL_areHosts 169 = .ok (.goto 4, 3) := by decide +kernel
theorem dL_areHosts_172 : decode cL_areHosts 172 = .ok (.iconst 0, 1) := by decide +kernel
theorem dL_areHosts_173 : decode cL_areHosts 173 = .ok (.iadd, 1) := by decide +kernel
theorem dL_areHosts_174 : decode cL_areHosts 174 = .ok (.if_icmp .ne 51, 3) := by decide +kernel
theorem dL_areHosts_177 : decode cL_areHosts 177 = .ok (.iload 6, 2) := by decide +kernel
theorem dL_areHosts_179 : decode cL_areHosts 179 = .ok (.ifCond .ne 8, 3) := by decide +kernel
theorem dL_areHosts_182 : decode cL_areHosts 182 = .ok (.iload 4, 2) := by decide +kernel
theorem dL_areHosts_184 : decode cL_areHosts 184 = .ok (.ifCond .ne 41, 3) := by decide +kernel
theorem dL_areHosts_187 : decode cL_areHosts 187 = .ok (.iload 6, 2) := by decide +kernel
theorem dL_areHosts_189 : decode cL_areHosts 189 = .ok (.iconst 1, 1) := by decide +kernel
theorem dL_areHosts_190 : decode cL_areHosts 190 = .ok (.if_icmp .ne 8, 3) := by decide +kernel
theorem dL_areHosts_193 : decode cL_areHosts 193 = .ok (.iload 5, 2) := by decide +kernel
theorem dL_areHosts_195 : decode cL_areHosts 195 = .ok (.ifCond .ne 11, 3) := by decide +kernel
theorem dL_areHosts_198 : decode cL_areHosts 198 = .ok (.aload_n 0, 1) := by decide +kernel
theorem dL_areHosts_199 : decode cL_areHosts 199 = .ok (.iload_n 3, 1) := by decide +kernel
theorem dL_areHosts_200 : decode cL_areHosts 200 = .ok (.invokevirtual 26, 3) := by decide +kernel
theorem dL_areHosts_203 : decode cL_areHosts 203 = .ok (.ifCond .ne 22, 3) := by decide +kernel
theorem dL_areHosts_206 : decode cL_areHosts 206 = .ok (.aload_n 0, 1) := by decide +kernel
theorem dL_areHosts_207 : decode cL_areHosts 207 = .ok (.iload_n 3, 1) := by decide +kernel
theorem dL_areHosts_208 : decode cL_areHosts 208 = .ok (.invokevirtual 26, 3) := by decide +kernel
theorem dL_areHosts_211 : decode cL_areHosts 211 = .ok (.ifCond .lt 14, 3) := by decide +kernel
theorem dL_areHosts_214 : decode cL_areHosts 214 = .ok (.iload 4, 2) := by decide +kernel
theorem dL_areHosts_216 : decode cL_areHosts 216 = .ok (.bipush 20, 2) := by decide +kernel
theorem dL_areHosts_218 : decode cL_areHosts 218 = .ok (.if_icmp .gt 7, 3) := by decide +kernel
theorem dL_areHosts_221 : decode cL_areHosts 221 = .ok (.iconst 1, 1) := by decide +kernel
theorem dL_areHosts_222 : decode cL_areHosts 222 = .ok (.goto 4, 3) := by decide +kernel
theorem dL_areHosts_225 : decode cL_areHosts 225 = .ok (.iconst 0, 1) := by decide +kernel
theorem dL_areHosts_226 : decode cL_areHosts 226 = .ok (.istore_n 1, 1) := by decide +kernel
theorem dL_areHosts_227 : decode cL_areHosts 227 = .ok (.iload_n 1, 1) := by decide +kernel
theorem dL_areHosts_228 : decode cL_areHosts 228 = .ok (.ifCond .eq 60, 3) := by decide +kernel
theorem dL_areHosts_231 : decode cL_areHosts 231 = .ok (.iload 6, 2) := by decide +kernel
theorem dL_areHosts_233 : decode cL_areHosts 233 = .ok (.iconst 2, 1) := by decide +kernel
theorem dL_areHosts_234 : decode cL_areHosts 234 = .ok (.if_icmp .ne 13, 3) := by decide +kernel
theorem dL_areHosts_237 : decode cL_areHosts 237 = .ok (.iload 5, 2) := by decide +kernel
theorem dL_areHosts_239 : decode cL_areHosts 239 = .ok (.ifCond .eq 8, 3) := by decide +kernel
theorem dL_areHosts_242 : decode cL_areHosts 242 = .ok (.iload 4, 2) := by decide +kernel
theorem dL_areHosts_244 : decode cL_areHosts 244 = .ok (.ifCond .le 44, 3) := by decide +kernel
theorem dL_areHosts_247 : decode cL_areHosts 247 = .ok (.iload 6, 2) := by decide +kernel
theorem dL_areHosts_249 : decode cL_areHosts 249 = .ok (.iconst 2, 1) := by decide +kernel
theorem dL_areHosts_250 : decode cL_areHosts 250 = .ok (.if_icmp .ne 25, 3) := by decide +kernel
theorem dL_areHosts_253 : decode cL_areHosts 253 = .ok (.aload_n 0, 1) := by decide +kernel
theorem dL_areHosts_254 : decode cL_areHosts 254 = .ok (.iload_n 3, 1) := by decide +kernel
theorem dL_areHosts_255 : decode cL_areHosts 255 = .ok (.invokevirtual 29, 3) := by decide +kernel
theorem dL_areHosts_258 : decode cL_areHosts 258 = .ok (.ifCond .le 30, 3) := by decide +kernel
theorem dL_areHosts_261 : decode cL_areHosts 261 = .ok (.aload_n 0, 1) := by decide +kernel
theorem dL_areHosts_262 : decode cL_areHosts 262 = .ok (.iload_n 3, 1) := by decide +kernel
theorem dL_areHosts_263 : decode cL_areHosts 263 = .ok (.invokevirtual 29, 3) := by decide +kernel
theorem dL_areHosts_266 : decode cL_areHosts 266 = .ok (.sipush 600, 3) := by decide +kernel
theorem dL_areHosts_269 : decode cL_areHosts 269 = .ok (.if_icmp .gt 19, 3) := by decide +kernel
theorem dL_areHosts_272 : decode cL_areHosts 272 = .ok (.goto 12, 3) := by decide +kernel
theorem dL_areHosts_275 : decode cL_areHosts 275 = .ok (.aload_n 0, 1) := by decide +kernel
theorem dL_areHosts_276 : decode cL_areHosts 276 = .ok (.iload_n 3, 1) := by decide +kernel
theorem dL_areHosts_277 : decode cL_areHosts 277 = .ok (.invokevirtual 29, 3) := by decide +kernel
theorem dL_areHosts_280 : decode cL_areHosts 280 = .ok (.iconst (-1), 1) := by decide +kernel
theorem dL_areHosts_281 : decode cL_areHosts 281 = .ok (.if_icmp .ne 7, 3) := by decide +kernel
theorem dL_areHosts_284 : decode cL_areHosts 284 = .ok (.iconst 1, 1) := by decide +kernel
theorem dL_areHosts_285 : decode cL_areHosts 285 = .ok (.goto 4, 3) := by decide +kernel
theorem dL_areHosts_288 : decode cL_areHosts 288 = .ok (.iconst 0, 1) := by decide +kernel
theorem dL_areHosts_289 : decode cL_areHosts 289 = .ok (.istore_n 1, 1) := by decide +kernel
theorem dL_areHosts_290 : decode cL_areHosts 290 = .ok (.iinc 3 1, 3) := by decide +kernel
theorem dL_areHosts_293 : decode cL_areHosts 293 = .ok (.goto (-283), 3) := by decide +kernel
theorem dL_areHosts_296 : decode cL_areHosts 296 = .ok (.iload_n 2, 1) := by decide +kernel
theorem dL_areHosts_297 : decode cL_areHosts 297 = .ok (.ifCond .lt 89, 3) := by decide +kernel
theorem dL_areHosts_300 : decode cL_areHosts 300 = .ok (.aload_n 0, 1) := by decide +kernel
theorem dL_areHosts_301 : decode cL_areHosts 301 = .ok (.iconst 2, 1) := by decide +kernel
theorem dL_areHosts_302 : decode cL_areHosts 302 = .ok (.invokevirtual 51, 3) := by decide +kernel
theorem dL_areHosts_305 : decode cL_areHosts 305 = .ok (.istore_n 3, 1) := by decide +kernel
theorem dL_areHosts_306 : decode cL_areHosts 306 = .ok (.iload_n 1, 1) := by decide +kernel
theorem dL_areHosts_307 : decode cL_areHosts 307 = .ok (.ifCond .eq 77, 3) := by decide +kernel
theorem dL_areHosts_310 : decode cL_areHosts 310 = .ok (.aload_n 0, 1) := by decide +kernel
theorem dL_areHosts_311 : decode cL_areHosts 311 = .ok (.iload_n 2, 1) := by decide +kernel
theorem dL_areHosts_312 : decode cL_areHosts 312 = .ok (.invokevirtual 39, 3) := by decide +kernel
theorem dL_areHosts_315 : decode cL_areHosts 315 = .ok (.aload_n 0, 1) := by decide +kernel
theorem dL_areHosts_316 : decode cL_areHosts 316 = .ok (.iconst 1, 1) := by decide +kernel
theorem dL_areHosts_317 : decode cL_areHosts 317 = .ok (.invokevirtual 51, 3) := by decide +kernel
theorem dL_areHosts_320 : decode cL_areHosts 320 = .ok (.ishr, 1) := by decide +kernel
theorem dL_areHosts_321 : decode cL_areHosts 321 = .ok (.iconst 1, 1) := by decide +kernel
theorem dL_areHosts_322 : decode cL_areHosts 322 = .ok (.iand, 1) := by decide +kernel
theorem dL_areHosts_323 : decode cL_areHosts 323 = .ok (.iconst 1, 1) := by decide +kernel
theorem dL_areHosts_324 : decode cL_areHosts 324 = .ok (.if_icmp .ne 60, 3) := by decide +kernel
theorem dL_areHosts_327 : decode cL_areHosts 327 = .ok (.aload_n 0, 1) := by decide +kernel
theorem dL_areHosts_328 : decode cL_areHosts 328 = .ok (.iload_n 3, 1) := by decide +kernel
theorem dL_areHosts_329 : decode cL_areHosts 329 = .ok (.invokevirtual 19, 3) := by decide +kernel
theorem dL_areHosts_332 : decode cL_areHosts 332 = .ok (.iconst 1, 1) := by decide +kernel
theorem dL_areHosts_333 : decode cL_areHosts 333 = .ok (.if_icmp .ne 51, 3) := by decide +kernel
theorem dL_areHosts_336 : decode cL_areHosts 336 = .ok (.aload_n 0, 1) := by decide +kernel
theorem dL_areHosts_337 : decode cL_areHosts 337 = .ok (.iload_n 3, 1) := by decide +kernel
theorem dL_areHosts_338 : decode cL_areHosts 338 = .ok (.invokevirtual 32, 3) := by decide +kernel
theorem dL_areHosts_341 : decode cL_areHosts 341 = .ok (.ifCond .eq 43, 3) := by decide +kernel
theorem dL_areHosts_344 : decode cL_areHosts 344 = .ok (.aload_n 0, 1) := by decide +kernel
theorem dL_areHosts_345 : decode cL_areHosts 345 = .ok (.iload_n 3, 1) := by decide +kernel
theorem dL_areHosts_346 : decode cL_areHosts 346 = .ok (.iload_n 2, 1) := by decide +kernel
theorem dL_areHosts_347 : decode cL_areHosts 347 = .ok (.invokevirtual 47, 3) := by decide +kernel
theorem dL_areHosts_350 : decode cL_areHosts 350 = .ok (.ifCond .ne 34, 3) := by decide +kernel
theorem dL_areHosts_353 : decode cL_areHosts 353 = .ok (.aload_n 0, 1) := by decide +kernel
theorem dL_areHosts_354 : decode cL_areHosts 354 = .ok (.iconst 3, 1) := by decide +kernel
theorem dL_areHosts_355 : decode cL_areHosts 355 = .ok (.invokevirtual 51, 3) := by decide +kernel
theorem dL_areHosts_358 : decode cL_areHosts 358 = .ok (.ifCond .le 26, 3) := by decide +kernel
theorem dL_areHosts_361 : decode cL_areHosts 361 = .ok (.aload_n 0, 1) := by decide +kernel
theorem dL_areHosts_362 : decode cL_areHosts 362 = .ok (.iconst 3, 1) := by decide +kernel
theorem dL_areHosts_363 : decode cL_areHosts 363 = .ok (.invokevirtual 51, 3) := by decide +kernel
theorem dL_areHosts_366 : decode cL_areHosts 366 = .ok (.bipush 60, 2) := by decide +kernel
theorem dL_areHosts_368 : decode cL_areHosts 368 = .ok (.if_icmp .gt 16, 3) := by decide +kernel
theorem dL_areHosts_371 : decode cL_areHosts 371 = .ok (.iload_n 3, 1) := by decide +kernel
theorem dL_areHosts_372 : decode cL_areHosts 372 = .ok (.aload_n 0, 1) := by decide +kernel
theorem dL_areHosts_373 : decode cL_areHosts 373 = .ok (.iconst 1, 1) := by decide +kernel
theorem dL_areHosts_374 : decode cL_areHosts 374 = .ok (.invokevirtual 51, 3) := by decide +kernel
theorem dL_areHosts_377 : decode cL_areHosts 377 = .ok (.if_icmp .eq 7, 3) := by decide +kernel
theorem dL_areHosts_380 : decode cL_areHosts 380 = .ok (.iconst 1, 1) := by decide +kernel
theorem dL_areHosts_381 : decode cL_areHosts 381 = .ok (.goto 4, 3) := by decide +kernel
theorem dL_areHosts_384 : decode cL_areHosts 384 = .ok (.iconst 0, 1) := by decide +kernel
theorem dL_areHosts_385 : decode cL_areHosts 385 = .ok (.istore_n 1, 1) := by decide +kernel
theorem dL_areHosts_386 : decode cL_areHosts 386 = .ok (.iload_n 1, 1) := by decide +kernel
theorem dL_areHosts_387 : decode cL_areHosts 387 = .ok (.ireturn, 1) := by decide +kernel
