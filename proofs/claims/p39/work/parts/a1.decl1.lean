theorem dL_cell_0 : decode cL_cell 0 = .ok (.iload_n 1, 1) := by decide +kernel
theorem dL_cell_1 : decode cL_cell 1 = .ok (.aload_n 0, 1) := by decide +kernel
theorem dL_cell_2 : decode cL_cell 2 = .ok (.arraylength, 1) := by decide +kernel
theorem dL_cell_3 : decode cL_cell 3 = .ok (.if_icmp .ge 9, 3) := by decide +kernel
theorem dL_cell_6 : decode cL_cell 6 = .ok (.aload_n 0, 1) := by decide +kernel
theorem dL_cell_7 : decode cL_cell 7 = .ok (.iload_n 1, 1) := by decide +kernel
theorem dL_cell_8 : decode cL_cell 8 = .ok (.iaload, 1) := by decide +kernel
theorem dL_cell_9 : decode cL_cell 9 = .ok (.goto 11, 3) := by decide +kernel
theorem dL_cell_12 : decode cL_cell 12 = .ok (.ldc 7, 2) := by decide +kernel
theorem dL_cell_14 : decode cL_cell 14 = .ok (.iload_n 1, 1) := by decide +kernel
theorem dL_cell_15 : decode cL_cell 15 = .ok (.sipush 167, 3) := by decide +kernel
theorem dL_cell_18 : decode cL_cell 18 = .ok (.iadd, 1) := by decide +kernel
theorem dL_cell_19 : decode cL_cell 19 = .ok (.imul, 1) := by decide +kernel
theorem dL_cell_20 : decode cL_cell 20 = .ok (.ireturn, 1) := by decide +kernel
theorem dL_up_0 : decode cL_up 0 = .ok (.iload_n 0, 1) := by decide +kernel
theorem dL_up_1 : decode cL_up 1 = .ok (.ldc 8, 2) := by decide +kernel
theorem dL_up_3 : decode cL_up 3 = .ok (.iand, 1) := by decide +kernel
theorem dL_up_4 : decode cL_up 4 = .ok (.iload_n 1, 1) := by decide +kernel
theorem dL_up_5 : decode cL_up 5 = .ok (.irem, 1) := by decide +kernel
theorem dL_up_6 : decode cL_up 6 = .ok (.ireturn, 1) := by decide +kernel
theorem dL_bits_0 : decode cL_bits 0 = .ok (.iconst 0, 1) := by decide +kernel
theorem dL_bits_1 : decode cL_bits 1 = .ok (.istore_n 1, 1) := by decide +kernel
theorem dL_bits_2 : decode cL_bits 2 = .ok (.iconst 0, 1) := by decide +kernel
theorem dL_bits_3 : decode cL_bits 3 = .ok (.istore_n 2, 1) := by decide +kernel
theorem dL_bits_4 : decode cL_bits 4 = .ok (.iload_n 2, 1) := by decide +kernel
theorem dL_bits_5 : decode cL_bits 5 = .ok (.bipush 6, 2) := by decide +kernel
theorem dL_bits_7 : decode cL_bits 7 = .ok (.if_icmp .ge 17, 3) := by decide +kernel
theorem dL_bits_10 : decode cL_bits 10 = .ok (.iload_n 1, 1) := by decide +kernel
theorem dL_bits_11 : decode cL_bits 11 = .ok (.iload_n 0, 1) := by decide +kernel
theorem dL_bits_12 : decode cL_bits 12 = .ok (.iload_n 2, 1) := by decide +kernel
theorem dL_bits_13 : decode cL_bits 13 = .ok (.ishr, 1) := by decide +kernel
theorem dL_bits_14 : decode cL_bits 14 = .ok (.iconst 1, 1) := by decide +kernel
theorem dL_bits_15 : decode cL_bits 15 = .ok (.iand, 1) := by decide +kernel
theorem dL_bits_16 : decode cL_bits 16 = .ok (.iadd, 1) := by decide +kernel
theorem dL_bits_17 : decode cL_bits 17 = .ok (.istore_n 1, 1) := by decide +kernel
theorem dL_bits_18 : decode cL_bits 18 = .ok (.iinc 2 1, 3) := by decide +kernel
theorem dL_bits_21 : decode cL_bits 21 = .ok (.goto (-17), 3) := by decide +kernel
theorem dL_bits_24 : decode cL_bits 24 = .ok (.iload_n 1, 1) := by decide +kernel
theorem dL_bits_25 : decode cL_bits 25 = .ok (.ireturn, 1) := by decide +kernel
theorem dL_told_0 : decode cL_told 0 = .ok (.ldc2_w 9, 3) := by decide +kernel
theorem dL_told_3 : decode cL_told 3 = .ok (.aload_n 0, 1) := by decide +kernel
theorem dL_told_4 : decode cL_told 4 = .ok (.invokevirtual 11, 3) := by decide +kernel
theorem dL_told_7 : decode cL_told 7 = .ok (.i2l, 1) := by decide +kernel
theorem dL_told_8 : decode cL_told 8 = .ok (.ladd, 1) := by decide +kernel
theorem dL_told_9 : decode cL_told 9 = .ok (.lstore_n 1, 1) := by decide +kernel
theorem dL_told_10 : decode cL_told 10 = .ok (.iconst 0, 1) := by decide +kernel
theorem dL_told_11 : decode cL_told 11 = .ok (.istore_n 3, 1) := by decide +kernel
theorem dL_told_12 : decode cL_told 12 = .ok (.iload_n 3, 1) := by decide +kernel
theorem dL_told_13 : decode cL_told 13 = .ok (.bipush 6, 2) := by decide +kernel
theorem dL_told_15 : decode cL_told 15 = .ok (.if_icmp .ge 76, 3) := by decide +kernel
theorem dL_told_18 : decode cL_told 18 = .ok (.ldc2_w 17, 3) := by decide +kernel
theorem dL_told_21 : decode cL_told 21 = .ok (.ldc2_w 17, 3) := by decide +kernel
theorem dL_told_24 : decode cL_told 24 = .ok (.ldc2_w 17, 3) := by decide +kernel
theorem dL_told_27 : decode cL_told 27 = .ok (.lload_n 1, 1) := by decide +kernel
theorem dL_told_28 : decode cL_told 28 = .ok (.lmul, 1) := by decide +kernel
theorem dL_told_29 : decode cL_told 29 = .ok (.aload_n 0, 1) := by decide +kernel
theorem dL_told_30 : decode cL_told 30 = .ok (.iload_n 3, 1) := by decide +kernel
theorem dL_told_31 : decode cL_told 31 = .ok (.invokevirtual 19, 3) := by decide +kernel
theorem dL_told_34 : decode cL_told 34 = .ok (.i2l, 1) := by decide +kernel
theorem dL_told_35 : decode cL_told 35 = .ok (.ladd, 1) := by decide +kernel
theorem dL_told_36 : decode cL_told 36 = .ok (.lmul, 1) := by decide +kernel
theorem dL_told_37 : decode cL_told 37 = .ok (.aload_n 0, 1) := by decide +kernel
theorem dL_told_38 : decode cL_told 38 = .ok (.iload_n 3, 1) := by decide +kernel
theorem dL_told_39 : decode cL_told 39 = .ok (.invokevirtual 23, 3) := by decide +kernel
theorem dL_told_42 : decode cL_told 42 = .ok (.i2l, 1) := by decide +kernel
theorem dL_told_43 : decode cL_told 43 = .ok (.ladd, 1) := by decide +kernel
theorem dL_told_44 : decode cL_told 44 = .ok (.lmul, 1) := by decide +kernel
theorem dL_told_45 : decode cL_told 45 = .ok (.aload_n 0, 1) := by decide +kernel
theorem dL_told_46 : decode cL_told 46 = .ok (.iload_n 3, 1) := by decide +kernel
theorem dL_told_47 : decode cL_told 47 = .ok (.invokevirtual 26, 3) := by decide +kernel
theorem dL_told_50 : decode cL_told 50 = .ok (.i2l, 1) := by decide +kernel
theorem dL_told_51 : decode cL_told 51 = .ok (.ladd, 1) := by decide +kernel
theorem dL_told_52 : decode cL_told 52 = .ok (.lstore_n 1, 1) := by decide +kernel
theorem dL_told_53 : decode cL_told 53 = .ok (.ldc2_w 17, 3) := by decide +kernel
theorem dL_told_56 : decode cL_told 56 = .ok (.ldc2_w 17, 3) := by decide +kernel
theorem dL_told_59 : decode cL_told 59 = .ok (.lload_n 1, 1) := by decide +kernel
theorem dL_told_60 : decode cL_told 60 = .ok (.lmul, 1) := by decide +kernel
theorem dL_told_61 : decode cL_told 61 = .ok (.aload_n 0, 1) := by decide +kernel
theorem dL_told_62 : decode cL_told 62 = .ok (.iload_n 3, 1) := by decide +kernel
theorem dL_told_63 : decode cL_told 63 = .ok (.invokevirtual 29, 3) := by decide +kernel
theorem dL_told_66 : decode cL_told 66 = .ok (.i2l, 1) := by decide +kernel
theorem dL_told_67 : decode cL_told 67 = .ok (.ladd, 1) := by decide +kernel
theorem dL_told_68 : decode cL_told 68 = .ok (.lmul, 1) := by decide +kernel
theorem dL_told_69 : decode cL_told 69 = .ok (.aload_n 0, 1) := by decide +kernel
theorem dL_told_70 : decode cL_told 70 = .ok (.iload_n 3, 1) := by decide +kernel
theorem dL_told_71 : decode cL_told 71 = .ok (.invokevirtual 32, 3) := by decide +kernel
theorem dL_told_74 : decode cL_told 74 = .ok (.ifCond .eq 7, 3) := by decide +kernel
theorem dL_told_77 : decode cL_told 77 = .ok (.iconst 1, 1) := by decide +kernel
theorem dL_told_78 : decode cL_told 78 = .ok (.goto 4, 3) := by decide +kernel
theorem dL_told_81 : decode cL_told 81 = .ok (.iconst 0, 1) := by decide +kernel
theorem dL_told_82 : decode cL_told 82 = .ok (.i2l, 1) := by decide +kernel
theorem dL_told_83 : decode cL_told 83 = .ok (.ladd, 1) := by decide +kernel
theorem dL_told_84 : decode cL_told 84 = .ok (.lstore_n 1, 1) := by decide +kernel
theorem dL_told_85 : decode cL_told 85 = .ok (.iinc 3 1, 3) := by decide +kernel
theorem dL_told_88 : decode cL_told 88 = .ok (.goto (-76), 3) := by decide +kernel
theorem dL_told_91 : decode cL_told 91 = .ok (.iconst 0, 1) := by decide +kernel
theorem dL_told_92 : decode cL_told 92 = .ok (.istore_n 3, 1) := by decide +kernel
theorem dL_told_93 : decode cL_told 93 = .ok (.iload_n 3, 1) := by decide +kernel
theorem dL_told_94 : decode cL_told 94 = .ok (.bipush 10, 2) := by decide +kernel
theorem dL_told_96 : decode cL_told 96 = .ok (.if_icmp .ge 77, 3) := by decide +kernel
theorem dL_told_99 : decode cL_told 99 = .ok (.ldc2_w 17, 3) := by decide +kernel
theorem dL_told_102 : decode cL_told 102 = .ok (.ldc2_w 17, 3) := by decide +kernel
theorem dL_told_105 : decode cL_told 105 = .ok (.lload_n 1, 1) := by decide +kernel
theorem dL_told_106 : decode cL_told 106 = .ok (.lmul, 1) := by decide +kernel
theorem dL_told_107 : decode cL_told 107 = .ok (.aload_n 0, 1) := by decide +kernel
theorem dL_told_108 : decode cL_told 108 = .ok (.iload_n 3, 1) := by decide +kernel
theorem dL_told_109 : decode cL_told 109 = .ok (.invokevirtual 36, 3) := by decide +kernel
theorem dL_told_112 : decode cL_told 112 = .ok (.i2l, 1) := by decide +kernel
theorem dL_told_113 : decode cL_told 113 = .ok (.ladd, 1) := by decide +kernel
theorem dL_told_114 : decode cL_told 114 = .ok (.lmul, 1) := by decide +kernel
theorem dL_told_115 : decode cL_told 115 = .ok (.aload_n 0, 1) := by decide +kernel
theorem dL_told_116 : decode cL_told 116 = .ok (.iload_n 3, 1) := by decide +kernel
theorem dL_told_117 : decode cL_told 117 = .ok (.invokevirtual 39, 3) := by decide +kernel
theorem dL_told_120 : decode cL_told 120 = .ok (.ifCond .eq 11, 3) := by decide +kernel
theorem dL_told_123 : decode cL_told 123 = .ok (.aload_n 0, 1) := by decide +kernel
theorem dL_told_124 : decode cL_told 124 = .ok (.iload_n 3, 1) := by decide +kernel
theorem dL_told_125 : decode cL_told 125 = .ok (.invokevirtual 42, 3) := by decide +kernel
theorem dL_told_128 : decode cL_told 128 = .ok (.goto 5, 3) := by decide +kernel
theorem dL_told_131 : decode cL_told 131 = .ok (.bipush (-7), 2) := by decide +kernel
theorem dL_told_133 : decode cL_told 133 = .ok (.i2l, 1) := by decide +kernel
theorem dL_told_134 : decode cL_told 134 = .ok (.ladd, 1) := by decide +kernel
theorem dL_told_135 : decode cL_told 135 = .ok (.lstore_n 1, 1) := by decide +kernel
theorem dL_told_136 : decode cL_told 136 = .ok (.iconst 0, 1) := by decide +kernel
theorem dL_told_137 : decode cL_told 137 = .ok (.istore 4, 2) := by decide +kernel
theorem dL_told_139 : decode cL_told 139 = .ok (.iload 4, 2) := by decide +kernel
theorem dL_told_141 : decode cL_told 141 = .ok (.bipush 6, 2) := by decide +kernel
theorem dL_told_143 : decode cL_told 143 = .ok (.if_icmp .ge 24, 3) := by decide +kernel
theorem dL_told_146 : decode cL_told 146 = .ok (.ldc2_w 45, 3) := by decide +kernel
theorem dL_told_149 : decode cL_told 149 = .ok (.lload_n 1, 1) := by decide +kernel
theorem dL_told_150 : decode cL_told 150 = .ok (.lmul, 1) := by decide +kernel
theorem dL_told_151 : decode cL_told 151 = .ok (.aload_n 0, 1) := by decide +kernel
theorem dL_told_152 : decode cL_told 152 = .ok (.iload 4, 2) := by decide +kernel
theorem dL_told_154 : decode cL_told 154 = .ok (.iload_n 3, 1) := by decide +kernel
theorem dL_told_155 : decode cL_told 155 = .ok (.invokevirtual 47, 3) := by decide +kernel
theorem dL_told_158 : decode cL_told 158 = .ok (.i2l, 1) := by decide +kernel
theorem dL_told_159 : decode cL_told 159 = .ok (.ladd, 1) := by decide +kernel
theorem dL_told_160 : decode cL_told 160 = .ok (.lstore_n 1, 1) := by decide +kernel
theorem dL_told_161 : decode cL_told 161 = .ok (.iinc 4 1, 3) := by decide +kernel
theorem dL_told_164 : decode cL_told 164 = .ok (.goto (-25), 3) := by decide +kernel
theorem dL_told_167 : decode cL_told 167 = .ok (.iinc 3 1, 3) := by decide +kernel
theorem dL_told_170 : decode cL_told 170 = .ok (.goto (-77), 3) := by decide +kernel
theorem dL_told_173 : decode cL_told 173 = .ok (.iconst 0, 1) := by decide +kernel
theorem dL_told_174 : decode cL_told 174 = .ok (.istore_n 3, 1) := by decide +kernel
theorem dL_told_175 : decode cL_told 175 = .ok (.iload_n 3, 1) := by decide +kernel
theorem dL_told_176 : decode cL_told 176 = .ok (.iconst 4, 1) := by decide +kernel
theorem dL_told_177 : decode cL_told 177 = .ok (.if_icmp .ge 22, 3) := by decide +kernel
theorem dL_told_180 : decode cL_told 180 = .ok (.ldc2_w 17, 3) := by decide +kernel
theorem dL_told_183 : decode cL_told 183 = .ok (.lload_n 1, 1) := by decide +kernel
theorem dL_told_184 : decode cL_told 184 = .ok (.lmul, 1) := by decide +kernel
theorem dL_told_185 : decode cL_told 185 = .ok (.aload_n 0, 1) := by decide +kernel
theorem dL_told_186 : decode cL_told 186 = .ok (.iload_n 3, 1) := by decide +kernel
theorem dL_told_187 : decode cL_told 187 = .ok (.invokevirtual 51, 3) := by decide +kernel
theorem dL_told_190 : decode cL_told 190 = .ok (.i2l, 1) := by decide +kernel
theorem dL_told_191 : decode cL_told 191 = .ok (.ladd, 1) := by decide +kernel
theorem dL_told_192 : decode cL_told 192 = .ok (.lstore_n 1, 1) := by decide +kernel
theorem dL_told_193 : decode cL_told 193 = .ok (.iinc 3 1, 3) := by decide +kernel
theorem dL_told_196 : decode cL_told 196 = .ok (.goto (-21), 3) := by decide +kernel
theorem dL_told_199 : decode cL_told 199 = .ok (.ldc2_w 17, 3) := by decide +kernel
theorem dL_told_202 : decode cL_told 202 = .ok (.lload_n 1, 1) := by decide +kernel
theorem dL_told_203 : decode cL_told 203 = .ok (.lmul, 1) := by decide +kernel
theorem dL_told_204 : decode cL_told 204 = .ok (.aload_n 0, 1) := by decide +kernel
theorem dL_told_205 : decode cL_told 205 = .ok (.invokevirtual 54, 3) := by decide +kernel
theorem dL_told_208 : decode cL_told 208 = .ok (.i2l, 1) := by decide +kernel
theorem dL_told_209 : decode cL_told 209 = .ok (.ladd, 1) := by decide +kernel
theorem dL_told_210 : decode cL_told 210 = .ok (.lreturn, 1) := by decide +kernel
theorem dL_isKept_0 : decode cL_isKept 0 = .ok (.aload_n 0, 1) := by decide +kernel
theorem dL_isKept_1 : decode cL_isKept 1 = .ok (.invokestatic 101, 3) := by decide +kernel
theorem dL_isKept_4 : decode cL_isKept 4 = .ok (.lstore_n 3, 1) := by decide +kernel
theorem dL_isKept_5 : decode cL_isKept 5 = .ok (.iconst 1, 1) := by decide +kernel
theorem dL_isKept_6 : decode cL_isKept 6 = .ok (.istore 5, 2) := by decide +kernel
theorem dL_isKept_8 : decode cL_isKept 8 = .ok (.iconst 0, 1) := by decide +kernel
theorem dL_isKept_9 : decode cL_isKept 9 = .ok (.istore 6, 2) := by decide +kernel
theorem dL_isKept_11 : decode cL_isKept 11 = .ok (.iload 6, 2) := by decide +kernel
theorem dL_isKept_13 : decode cL_isKept 13 = .ok (.bipush 6, 2) := by decide +kernel
theorem dL_isKept_15 : decode cL_isKept 15 = .ok (.if_icmp .ge 107, 3) := by decide +kernel
theorem dL_isKept_18 : decode cL_isKept 18 = .ok (.iload 5, 2) := by decide +kernel
theorem dL_isKept_20 : decode cL_isKept 20 = .ok (.ifCond .eq 102, 3) := by decide +kernel
theorem dL_isKept_23 : decode cL_isKept 23 = .ok (.aload_n 0, 1) := by decide +kernel
theorem dL_isKept_24 : decode cL_isKept 24 = .ok (.iload_n 1, 1) := by decide +kernel
theorem dL_isKept_25 : decode cL_isKept 25 = .ok (.invokevirtual 36, 3) := by decide +kernel
theorem dL_isKept_28 : decode cL_isKept 28 = .ok (.iconst 2, 1) := by decide +kernel
theorem dL_isKept_29 : decode cL_isKept 29 = .ok (.if_icmp .ne 93, 3) := by decide +kernel
theorem dL_isKept_32 : decode cL_isKept 32 = .ok (.aload_n 0, 1) := by decide +kernel
theorem dL_isKept_33 : decode cL_isKept 33 = .ok (.iload_n 1, 1) := by decide +kernel
theorem dL_isKept_34 : decode cL_isKept 34 = .ok (.invokevirtual 39, 3) := by decide +kernel
theorem dL_isKept_37 : decode cL_isKept 37 = .ok (.iload 6, 2) := by decide +kernel
theorem dL_isKept_39 : decode cL_isKept 39 = .ok (.ishr, 1) := by decide +kernel
theorem dL_isKept_40 : decode cL_isKept 40 = .ok (.iconst 1, 1) := by decide +kernel
theorem dL_isKept_41 : decode cL_isKept 41 = .ok (.iand, 1) := by decide +kernel
theorem dL_isKept_42 : decode cL_isKept 42 = .ok (.iconst 1, 1) := by decide +kernel
theorem dL_isKept_43 : decode cL_isKept 43 = .ok (.if_icmp .ne 73, 3) := by decide +kernel
theorem dL_isKept_46 : decode cL_isKept 46 = .ok (.aload_n 0, 1) := by decide +kernel
theorem dL_isKept_47 : decode cL_isKept 47 = .ok (.iload_n 1, 1) := by decide +kernel
theorem dL_isKept_48 : decode cL_isKept 48 = .ok (.invokevirtual 42, 3) := by decide +kernel
theorem dL_isKept_51 : decode cL_isKept 51 = .ok (.istore 7, 2) := by decide +kernel
theorem dL_isKept_53 : decode cL_isKept 53 = .ok (.iload_n 2, 1) := by decide +kernel
theorem dL_isKept_54 : decode cL_isKept 54 = .ok (.ifCond .eq 12, 3) := by decide +kernel
theorem dL_isKept_57 : decode cL_isKept 57 = .ok (.aload_n 0, 1) := by decide +kernel
theorem dL_isKept_58 : decode cL_isKept 58 = .ok (.iload 6, 2) := by decide +kernel
theorem dL_isKept_60 : decode cL_isKept 60 = .ok (.invokevirtual 77, 3) := by decide +kernel
theorem dL_isKept_63 : decode cL_isKept 63 = .ok (.goto 9, 3) := by decide +kernel
theorem dL_isKept_66 : decode cL_isKept 66 = .ok (.aload_n 0, 1) := by decide +kernel
theorem dL_isKept_67 : decode cL_isKept 67 = .ok (.iload 6, 2) := by decide +kernel
theorem dL_isKept_69 : decode cL_isKept 69 = .ok (.invokevirtual 86, 3) := by decide +kernel
theorem dL_isKept_72 : decode cL_isKept 72 = .ok (.ifCond .le 41, 3) := by decide +kernel
theorem dL_isKept_75 : decode cL_isKept 75 = .ok (.aload_n 0, 1) := by decide +kernel
theorem dL_isKept_76 : decode cL_isKept 76 = .ok (.iload_n 1, 1) := by decide +kernel
theorem dL_isKept_77 : decode cL_isKept 77 = .ok (.invokevirtual 39, 3) := by decide +kernel
theorem dL_isKept_80 : decode cL_isKept 80 = .ok (.ifCond .eq 33, 3) := by decide +kernel
theorem dL_isKept_83 : decode cL_isKept 83 = .ok (.aload_n 0, 1) := by decide +kernel
theorem dL_isKept_84 : decode cL_isKept 84 = .ok (.iload_n 1, 1) := by decide +kernel
theorem dL_isKept_85 : decode cL_isKept 85 = .ok (.invokevirtual 42, 3) := by decide +kernel
theorem dL_isKept_88 : decode cL_isKept 88 = .ok (.iload 7, 2) := by decide +kernel
theorem dL_isKept_90 : decode cL_isKept 90 = .ok (.if_icmp .ne 23, 3) := by decide +kernel
theorem dL_isKept_93 : decode cL_isKept 93 = .ok (.aload_n 0, 1) := by decide +kernel
theorem dL_isKept_94 : decode cL_isKept 94 = .ok (.invokevirtual 105, 3) := by decide +kernel
theorem dL_isKept_97 : decode cL_isKept 97 = .ok (.ifCond .lt 16, 3) := by decide +kernel
theorem dL_isKept_100 : decode cL_isKept 100 = .ok (.aload_n 0, 1) := by decide +kernel
theorem dL_isKept_101 : decode cL_isKept 101 = .ok (.invokestatic 101, 3) := by decide +kernel
theorem dL_isKept_104 : decode cL_isKept 104 = .ok (.lload_n 3, 1) := by decide +kernel
theorem dL_isKept_105 : decode cL_isKept 105 = .ok (.lcmp, 1) := by decide +kernel
theorem dL_isKept_106 : decode cL_isKept 106 = .ok (.ifCond .ne 7, 3) := by decide +kernel
theorem dL_isKept_109 : decode cL_isKept 109 = .ok (.iconst 1, 1) := by decide +kernel
theorem dL_isKept_110 : decode cL_isKept 110 = .ok (.goto 4, 3) := by decide +kernel
theorem dL_isKept_113 : decode cL_isKept 113 = .ok (.iconst 0, 1) := by decide +kernel
theorem dL_isKept_114 : decode cL_isKept 114 = .ok (.istore 5, 2) := by decide +kernel
theorem dL_isKept_116 : decode cL_isKept 116 = .ok (.iinc 6 1, 3) := by decide +kernel
theorem dL_isKept_119 : decode cL_isKept 119 = .ok (.goto (-108), 3) := by decide +kernel
theorem dL_isKept_122 : decode cL_isKept 122 = .ok (.iload 5, 2) := by decide +kernel
theorem dL_isKept_124 : decode cL_isKept 124 = .ok (.ireturn, 1) := by decide +kernel
theorem dL_isOver_0 : decode cL_isOver 0 = .ok (.aload_n 0, 1) := by decide +kernel
theorem dL_isOver_1 : decode cL_isOver 1 = .ok (.invokestatic 101, 3) := by decide +kernel
theorem dL_isOver_4 : decode cL_isOver 4 = .ok (.lstore_n 2, 1) := by decide +kernel
theorem dL_isOver_5 : decode cL_isOver 5 = .ok (.aload_n 0, 1) := by decide +kernel
theorem dL_isOver_6 : decode cL_isOver 6 = .ok (.iload_n 1, 1) := by decide +kernel
theorem dL_isOver_7 : decode cL_isOver 7 = .ok (.invokevirtual 29, 3) := by decide +kernel
theorem dL_isOver_10 : decode cL_isOver 10 = .ok (.istore 4, 2) := by decide +kernel
theorem dL_isOver_12 : decode cL_isOver 12 = .ok (.aload_n 0, 1) := by decide +kernel
theorem dL_isOver_13 : decode cL_isOver 13 = .ok (.invokevirtual 108, 3) := by decide +kernel
theorem dL_isOver_16 : decode cL_isOver 16 = .ok (.istore 5, 2) := by decide +kernel
theorem dL_isOver_18 : decode cL_isOver 18 = .ok (.iload 4, 2) := by decide +kernel
theorem dL_isOver_20 : decode cL_isOver 20 = .ok (.ifCond .lt 28, 3) := by decide +kernel
theorem dL_isOver_23 : decode cL_isOver 23 = .ok (.aload_n 0, 1) := by decide +kernel
theorem dL_isOver_24 : decode cL_isOver 24 = .ok (.iload 4, 2) := by decide +kernel
theorem dL_isOver_26 : decode cL_isOver 26 = .ok (.invokevirtual 65, 3) := by decide +kernel
theorem dL_isOver_29 : decode cL_isOver 29 = .ok (.ifCond .lt 23, 3) := by decide +kernel
theorem dL_isOver_32 : decode cL_isOver 32 = .ok (.aload_n 0, 1) := by decide +kernel
theorem dL_isOver_33 : decode cL_isOver 33 = .ok (.iload_n 1, 1) := by decide +kernel
theorem dL_isOver_34 : decode cL_isOver 34 = .ok (.invokevirtual 19, 3) := by decide +kernel
theorem dL_isOver_37 : decode cL_isOver 37 = .ok (.iconst 2, 1) := by decide +kernel
theorem dL_isOver_38 : decode cL_isOver 38 = .ok (.if_icmp .eq 14, 3) := by decide +kernel
theorem dL_isOver_41 : decode cL_isOver 41 = .ok (.aload_n 0, 1) := by decide +kernel
theorem dL_isOver_42 : decode cL_isOver 42 = .ok (.invokevirtual 105, 3) := by decide +kernel
theorem dL_isOver_45 : decode cL_isOver 45 = .ok (.ifCond .lt 7, 3) := by decide +kernel
theorem dL_isOver_48 : decode cL_isOver 48 = .ok (.iconst 1, 1) := by decide +kernel
theorem dL_isOver_49 : decode cL_isOver 49 = .ok (.goto 4, 3) := by decide +kernel
theorem dL_isOver_52 : decode cL_isOver 52 = .ok (.iconst 0, 1) := by decide +kernel
theorem dL_isOver_53 : decode cL_isOver 53 = .ok (.istore 6, 2) := by decide +kernel
theorem dL_isOver_55 : decode cL_isOver 55 = .ok (.iload 6, 2) := by decide +kernel
theorem dL_isOver_57 : decode cL_isOver 57 = .ok (.ifCond .eq 63, 3) := by decide +kernel
theorem dL_isOver_60 : decode cL_isOver 60 = .ok (.iload 5, 2) := by decide +kernel
theorem dL_isOver_62 : decode cL_isOver 62 = .ok (.ifCond .le 58, 3) := by decide +kernel
theorem dL_isOver_65 : decode cL_isOver 65 = .ok (.aload_n 0, 1) := by decide +kernel
theorem dL_isOver_66 : decode cL_isOver 66 = .ok (.iload 5, 2) := by decide +kernel
theorem dL_isOver_68 : decode cL_isOver 68 = .ok (.invokevirtual 65, 3) := by decide +kernel
theorem dL_isOver_71 : decode cL_isOver 71 = .ok (.ifCond .lt 46, 3) := by decide +kernel
theorem dL_isOver_74 : decode cL_isOver 74 = .ok (.aload_n 0, 1) := by decide +kernel
theorem dL_isOver_75 : decode cL_isOver 75 = .ok (.iconst 0, 1) := by decide +kernel
theorem dL_isOver_76 : decode cL_isOver 76 = .ok (.invokevirtual 51, 3) := by decide +kernel
theorem dL_isOver_79 : decode cL_isOver 79 = .ok (.iconst (-1), 1) := by decide +kernel
theorem dL_isOver_80 : decode cL_isOver 80 = .ok (.if_icmp .ne 37, 3) := by decide +kernel
theorem dL_isOver_83 : decode cL_isOver 83 = .ok (.aload_n 0, 1) := by decide +kernel
theorem dL_isOver_84 : decode cL_isOver 84 = .ok (.invokevirtual 108, 3) := by decide +kernel
theorem dL_isOver_87 : decode cL_isOver 87 = .ok (.ifCond .ne 30, 3) := by decide +kernel
theorem dL_isOver_90 : decode cL_isOver 90 = .ok (.aload_n 0, 1) := by decide +kernel
theorem dL_isOver_91 : decode cL_isOver 91 = .ok (.bipush 7, 2) := by decide +kernel
theorem dL_isOver_93 : decode cL_isOver 93 = .ok (.invokevirtual 65, 3) := by decide +kernel
theorem dL_isOver_96 : decode cL_isOver 96 = .ok (.ifCond .ne 21, 3) := by decide +kernel
theorem dL_isOver_99 : decode cL_isOver 99 = .ok (.aload_n 0, 1) := by decide +kernel
theorem dL_isOver_100 : decode cL_isOver 100 = .ok (.invokevirtual 105, 3) := by decide +kernel
theorem dL_isOver_103 : decode cL_isOver 103 = .ok (.ifCond .lt 14, 3) := by decide +kernel
theorem dL_isOver_106 : decode cL_isOver 106 = .ok (.aload_n 0, 1) := by decide +kernel
theorem dL_isOver_107 : decode cL_isOver 107 = .ok (.invokevirtual 105, 3) := by decide +kernel
theorem dL_isOver_110 : decode cL_isOver 110 = .ok (.ifCond .lt 7, 3) := by decide +kernel
theorem dL_isOver_113 : decode cL_isOver 113 = .ok (.iconst 1, 1) := by decide +kernel
theorem dL_isOver_114 : decode cL_isOver 114 = .ok (.goto 4, 3) := by decide +kernel
theorem dL_isOver_117 : decode cL_isOver 117 = .ok (.iconst 0, 1) := by decide +kernel
theorem dL_isOver_118 : decode cL_isOver 118 = .ok (.istore 6, 2) := by decide +kernel
theorem dL_isOver_120 : decode cL_isOver 120 = .ok (.iload 6, 2) := by decide +kernel
theorem dL_isOver_122 : decode cL_isOver 122 = .ok (.ifCond .eq 30, 3) := by decide +kernel
theorem dL_isOver_125 : decode cL_isOver 125 = .ok (.iload 5, 2) := by decide +kernel
theorem dL_isOver_127 : decode cL_isOver 127 = .ok (.ifCond .ne 12, 3) := by decide +kernel
theorem dL_isOver_130 : decode cL_isOver 130 = .ok (.aload_n 0, 1) := by decide +kernel
theorem dL_isOver_131 : decode cL_isOver 131 = .ok (.iconst 0, 1) := by decide +kernel
theorem dL_isOver_132 : decode cL_isOver 132 = .ok (.invokevirtual 51, 3) := by decide +kernel
theorem dL_isOver_135 : decode cL_isOver 135 = .ok (.iconst (-1), 1) := by decide +kernel
theorem dL_isOver_136 : decode cL_isOver 136 = .ok (.if_icmp .ne 16, 3) := by decide +kernel
theorem dL_isOver_139 : decode cL_isOver 139 = .ok (.aload_n 0, 1) := by decide +kernel
theorem dL_isOver_140 : decode cL_isOver 140 = .ok (.invokestatic 101, 3) := by decide +kernel
theorem dL_isOver_143 : decode cL_isOver 143 = .ok (.lload_n 2, 1) := by decide +kernel
theorem dL_isOver_144 : decode cL_isOver 144 = .ok (.lcmp, 1) := by decide +kernel
theorem dL_isOver_145 : decode cL_isOver 145 = .ok (.ifCond .ne 7, 3) := by decide +kernel
theorem dL_isOver_148 : decode cL_isOver 148 = .ok (.iconst 1, 1) := by decide +kernel
theorem dL_isOver_149 : decode cL_isOver 149 = .ok (.goto 4, 3) := by decide +kernel
theorem dL_isOver_152 : decode cL_isOver 152 = .ok (.iconst 0, 1) := by decide +kernel
theorem dL_isOver_153 : decode cL_isOver 153 = .ok (.ireturn, 1) := by decide +kernel
