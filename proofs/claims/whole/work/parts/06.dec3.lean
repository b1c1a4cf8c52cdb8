theorem dX3_does_148 : decode cX3_does 148 = .ok (.aload_n 0, 1) := by decide +kernel
theorem dX3_does_149 : decode cX3_does 149 = .ok (.getfield 177, 3) := by decide +kernel
theorem dX3_does_152 : decode cX3_does 152 = .ok (.invokevirtual 133, 3) := by decide +kernel
theorem dX3_does_155 : decode cX3_does 155 = .ok (.ireturn, 1) := by decide +kernel
theorem dX3_does_156 : decode cX3_does 156 = .ok (.aload_n 0, 1) := by decide +kernel
theorem dX3_does_157 : decode cX3_does 157 = .ok (.aload_n 0, 1) := by decide +kernel
theorem dX3_does_158 : decode cX3_does 158 = .ok (.getfield 171, 3) := by decide +kernel
theorem dX3_does_161 : decode cX3_does 161 = .ok (.aload_n 0, 1) := by decide +kernel
theorem dX3_does_162 : decode cX3_does 162 = .ok (.getfield 177, 3) := by decide +kernel
theorem dX3_does_165 : decode cX3_does 165 = .ok (.invokevirtual 139, 3) := by decide +kernel
theorem dX3_does_168 : decode cX3_does 168 = .ok (.ireturn, 1) := by decide +kernel
theorem dX3_does_169 : decode cX3_does 169 = .ok (.aload_n 0, 1) := by decide +kernel
theorem dX3_does_170 : decode cX3_does 170 = .ok (.aload_n 0, 1) := by decide +kernel
theorem dX3_does_171 : decode cX3_does 171 = .ok (.getfield 171, 3) := by decide +kernel
theorem dX3_does_174 : decode cX3_does 174 = .ok (.invokevirtual 145, 3) := by decide +kernel
theorem dX3_does_177 : decode cX3_does 177 = .ok (.ireturn, 1) := by decide +kernel
theorem dX3_does_178 : decode cX3_does 178 = .ok (.aload_n 0, 1) := by decide +kernel
theorem dX3_does_179 : decode cX3_does 179 = .ok (.aload_n 0, 1) := by decide +kernel
theorem dX3_does_180 : decode cX3_does 180 = .ok (.getfield 171, 3) := by decide +kernel
theorem dX3_does_183 : decode cX3_does 183 = .ok (.invokevirtual 148, 3) := by decide +kernel
theorem dX3_does_186 : decode cX3_does 186 = .ok (.ireturn, 1) := by decide +kernel
theorem dX3_does_187 : decode cX3_does 187 = .ok (.aload_n 0, 1) := by decide +kernel
theorem dX3_does_188 : decode cX3_does 188 = .ok (.aload_n 0, 1) := by decide +kernel
theorem dX3_does_189 : decode cX3_does 189 = .ok (.getfield 171, 3) := by decide +kernel
theorem dX3_does_192 : decode cX3_does 192 = .ok (.invokevirtual 151, 3) := by decide +kernel
theorem dX3_does_195 : decode cX3_does 195 = .ok (.ireturn, 1) := by decide +kernel
theorem dX3_does_196 : decode cX3_does 196 = .ok (.aload_n 0, 1) := by decide +kernel
theorem dX3_does_197 : decode cX3_does 197 = .ok (.aload_n 0, 1) := by decide +kernel
theorem dX3_does_198 : decode cX3_does 198 = .ok (.getfield 171, 3) := by decide +kernel
theorem dX3_does_201 : decode cX3_does 201 = .ok (.invokevirtual 155, 3) := by decide +kernel
theorem dX3_does_204 : decode cX3_does 204 = .ok (.ireturn, 1) := by decide +kernel
theorem dX3_runText_0 : decode cX3_runText 0 = .ok (.aload_n 0, 1) := by decide +kernel
theorem dX3_runText_1 : decode cX3_runText 1 = .ok (.aload_n 0, 1) := by decide +kernel
theorem dX3_runText_2 : decode cX3_runText 2 = .ok (.invokevirtual 193, 3) := by decide +kernel
theorem dX3_runText_5 : decode cX3_runText 5 = .ok (.ifCond .eq 7, 3) := by decide +kernel
theorem dX3_runText_8 : decode cX3_runText 8 = .ok (.iconst 0, 1) := by decide +kernel
theorem dX3_runText_9 : decode cX3_runText 9 = .ok (.goto 4, 3) := by decide +kernel
theorem dX3_runText_12 : decode cX3_runText 12 = .ok (.iconst 1, 1) := by decide +kernel
theorem dX3_runText_13 : decode cX3_runText 13 = .ok (.invokevirtual 109, 3) := by decide +kernel
theorem dX3_runText_16 : decode cX3_runText 16 = .ok (.ifCond .ne 5, 3) := by decide +kernel
theorem dX3_runText_19 : decode cX3_runText 19 = .ok (.iconst 0, 1) := by decide +kernel
theorem dX3_runText_20 : decode cX3_runText 20 = .ok (.ireturn, 1) := by decide +kernel
theorem dX3_runText_21 : decode cX3_runText 21 = .ok (.aload_n 0, 1) := by decide +kernel
theorem dX3_runText_22 : decode cX3_runText 22 = .ok (.invokevirtual 112, 3) := by decide +kernel
theorem dX3_runText_25 : decode cX3_runText 25 = .ok (.aload_n 0, 1) := by decide +kernel
theorem dX3_runText_26 : decode cX3_runText 26 = .ok (.iconst 0, 1) := by decide +kernel
theorem dX3_runText_27 : decode cX3_runText 27 = .ok (.putfield 161, 3) := by decide +kernel
theorem dX3_runText_30 : decode cX3_runText 30 = .ok (.iconst 0, 1) := by decide +kernel
theorem dX3_runText_31 : decode cX3_runText 31 = .ok (.istore_n 1, 1) := by decide +kernel
theorem dX3_runText_32 : decode cX3_runText 32 = .ok (.aload_n 0, 1) := by decide +kernel
theorem dX3_runText_33 : decode cX3_runText 33 = .ok (.invokevirtual 189, 3) := by decide +kernel
theorem dX3_runText_36 : decode cX3_runText 36 = .ok (.ifCond .eq 35, 3) := by decide +kernel
theorem dX3_runText_39 : decode cX3_runText 39 = .ok (.aload_n 0, 1) := by decide +kernel
theorem dX3_runText_40 : decode cX3_runText 40 = .ok (.invokevirtual 196, 3) := by decide +kernel
theorem dX3_runText_43 : decode cX3_runText 43 = .ok (.ifCond .eq 28, 3) := by decide +kernel
theorem dX3_runText_46 : decode cX3_runText 46 = .ok (.iload_n 1, 1) := by decide +kernel
theorem dX3_runText_47 : decode cX3_runText 47 = .ok (.aload_n 0, 1) := by decide +kernel
theorem dX3_runText_48 : decode cX3_runText 48 = .ok (.invokevirtual 199, 3) := by decide +kernel
theorem dX3_runText_51 : decode cX3_runText 51 = .ok (.ifCond .lt 7, 3) := by decide +kernel
theorem dX3_runText_54 : decode cX3_runText 54 = .ok (.iconst 1, 1) := by decide +kernel
theorem dX3_runText_55 : decode cX3_runText 55 = .ok (.goto 4, 3) := by decide +kernel
theorem dX3_runText_58 : decode cX3_runText 58 = .ok (.iconst 0, 1) := by decide +kernel
theorem dX3_runText_59 : decode cX3_runText 59 = .ok (.iadd, 1) := by decide +kernel
theorem dX3_runText_60 : decode cX3_runText 60 = .ok (.istore_n 1, 1) := by decide +kernel
theorem dX3_runText_61 : decode cX3_runText 61 = .ok (.aload_n 0, 1) := by decide +kernel
theorem dX3_runText_62 : decode cX3_runText 62 = .ok (.bipush 59, 2) := by decide +kernel
theorem dX3_runText_64 : decode cX3_runText 64 = .ok (.invokevirtual 174, 3) := by decide +kernel
theorem dX3_runText_67 : decode cX3_runText 67 = .ok (.pop, 1) := by decide +kernel
theorem dX3_runText_68 : decode cX3_runText 68 = .ok (.goto (-36), 3) := by decide +kernel
theorem dX3_runText_71 : decode cX3_runText 71 = .ok (.iload_n 1, 1) := by decide +kernel
theorem dX3_runText_72 : decode cX3_runText 72 = .ok (.ireturn, 1) := by decide +kernel
theorem dX3_undo_0 : decode cX3_undo 0 = .ok (.aload_n 0, 1) := by decide +kernel
theorem dX3_undo_1 : decode cX3_undo 1 = .ok (.aload_n 0, 1) := by decide +kernel
theorem dX3_undo_2 : decode cX3_undo 2 = .ok (.getfield 95, 3) := by decide +kernel
theorem dX3_undo_5 : decode cX3_undo 5 = .ok (.ifCond .le 7, 3) := by decide +kernel
theorem dX3_undo_8 : decode cX3_undo 8 = .ok (.iconst 0, 1) := by decide +kernel
theorem dX3_undo_9 : decode cX3_undo 9 = .ok (.goto 4, 3) := by decide +kernel
theorem dX3_undo_12 : decode cX3_undo 12 = .ok (.iconst 1, 1) := by decide +kernel
theorem dX3_undo_13 : decode cX3_undo 13 = .ok (.invokevirtual 109, 3) := by decide +kernel
theorem dX3_undo_16 : decode cX3_undo 16 = .ok (.ifCond .ne 5, 3) := by decide +kernel
theorem dX3_undo_19 : decode cX3_undo 19 = .ok (.iconst 0, 1) := by decide +kernel
theorem dX3_undo_20 : decode cX3_undo 20 = .ok (.ireturn, 1) := by decide +kernel
theorem dX3_undo_21 : decode cX3_undo 21 = .ok (.aload_n 0, 1) := by decide +kernel
theorem dX3_undo_22 : decode cX3_undo 22 = .ok (.aload_n 0, 1) := by decide +kernel
theorem dX3_undo_23 : decode cX3_undo 23 = .ok (.getfield 95, 3) := by decide +kernel
theorem dX3_undo_26 : decode cX3_undo 26 = .ok (.iconst 0, 1) := by decide +kernel
theorem dX3_undo_27 : decode cX3_undo 27 = .ok (.invokevirtual 98, 3) := by decide +kernel
theorem dX3_undo_30 : decode cX3_undo 30 = .ok (.aload_n 0, 1) := by decide +kernel
theorem dX3_undo_31 : decode cX3_undo 31 = .ok (.dup, 1) := by decide +kernel
theorem dX3_undo_32 : decode cX3_undo 32 = .ok (.getfield 95, 3) := by decide +kernel
theorem dX3_undo_35 : decode cX3_undo 35 = .ok (.iconst 1, 1) := by decide +kernel
theorem dX3_undo_36 : decode cX3_undo 36 = .ok (.isub, 1) := by decide +kernel
theorem dX3_undo_37 : decode cX3_undo 37 = .ok (.putfield 95, 3) := by decide +kernel
theorem dX3_undo_40 : decode cX3_undo 40 = .ok (.aload_n 0, 1) := by decide +kernel
theorem dX3_undo_41 : decode cX3_undo 41 = .ok (.getfield 95, 3) := by decide +kernel
theorem dX3_undo_44 : decode cX3_undo 44 = .ok (.ireturn, 1) := by decide +kernel
theorem dX3_save_0 : decode cX3_save 0 = .ok (.aload_n 0, 1) := by decide +kernel
theorem dX3_save_1 : decode cX3_save 1 = .ok (.iload_n 1, 1) := by decide +kernel
theorem dX3_save_2 : decode cX3_save 2 = .ok (.iconst 0, 1) := by decide +kernel
theorem dX3_save_3 : decode cX3_save 3 = .ok (.iconst 1, 1) := by decide +kernel
theorem dX3_save_4 : decode cX3_save 4 = .ok (.invokestatic 24, 3) := by decide +kernel
theorem dX3_save_7 : decode cX3_save 7 = .ok (.ifCond .eq 7, 3) := by decide +kernel
theorem dX3_save_10 : decode cX3_save 10 = .ok (.iconst 0, 1) := by decide +kernel
theorem dX3_save_11 : decode cX3_save 11 = .ok (.goto 4, 3) := by decide +kernel
theorem dX3_save_14 : decode cX3_save 14 = .ok (.iconst 1, 1) := by decide +kernel
theorem dX3_save_15 : decode cX3_save 15 = .ok (.invokevirtual 109, 3) := by decide +kernel
theorem dX3_save_18 : decode cX3_save 18 = .ok (.ifCond .ne 5, 3) := by decide +kernel
theorem dX3_save_21 : decode cX3_save 21 = .ok (.iconst 0, 1) := by decide +kernel
theorem dX3_save_22 : decode cX3_save 22 = .ok (.ireturn, 1) := by decide +kernel
theorem dX3_save_23 : decode cX3_save 23 = .ok (.aload_n 0, 1) := by decide +kernel
theorem dX3_save_24 : decode cX3_save 24 = .ok (.iconst 0, 1) := by decide +kernel
theorem dX3_save_25 : decode cX3_save 25 = .ok (.bipush 7, 2) := by decide +kernel
theorem dX3_save_27 : decode cX3_save 27 = .ok (.iload_n 1, 1) := by decide +kernel
theorem dX3_save_28 : decode cX3_save 28 = .ok (.iadd, 1) := by decide +kernel
theorem dX3_save_29 : decode cX3_save 29 = .ok (.invokevirtual 98, 3) := by decide +kernel
theorem dX3_save_32 : decode cX3_save 32 = .ok (.aload_n 0, 1) := by decide +kernel
theorem dX3_save_33 : decode cX3_save 33 = .ok (.getfield 13, 3) := by decide +kernel
theorem dX3_save_36 : decode cX3_save 36 = .ok (.iload_n 1, 1) := by decide +kernel
theorem dX3_save_37 : decode cX3_save 37 = .ok (.iconst 1, 1) := by decide +kernel
theorem dX3_save_38 : decode cX3_save 38 = .ok (.bastore, 1) := by decide +kernel
theorem dX3_save_39 : decode cX3_save 39 = .ok (.aload_n 0, 1) := by decide +kernel
theorem dX3_save_40 : decode cX3_save 40 = .ok (.getfield 7, 3) := by decide +kernel
theorem dX3_save_43 : decode cX3_save 43 = .ok (.iconst 0, 1) := by decide +kernel
theorem dX3_save_44 : decode cX3_save 44 = .ok (.iaload, 1) := by decide +kernel
theorem dX3_save_45 : decode cX3_save 45 = .ok (.ireturn, 1) := by decide +kernel
theorem dX3_restore_0 : decode cX3_restore 0 = .ok (.aload_n 0, 1) := by decide +kernel
theorem dX3_restore_1 : decode cX3_restore 1 = .ok (.iload_n 1, 1) := by decide +kernel
theorem dX3_restore_2 : decode cX3_restore 2 = .ok (.iconst 0, 1) := by decide +kernel
theorem dX3_restore_3 : decode cX3_restore 3 = .ok (.iconst 1, 1) := by decide +kernel
theorem dX3_restore_4 : decode cX3_restore 4 = .ok (.invokestatic 24, 3) := by decide +kernel
theorem dX3_restore_7 : decode cX3_restore 7 = .ok (.ifCond .ne 7, 3) := by decide +kernel
theorem dX3_restore_10 : decode cX3_restore 10 = .ok (.iconst 1, 1) := by decide +kernel
theorem dX3_restore_11 : decode cX3_restore 11 = .ok (.goto 17, 3) := by decide +kernel
theorem dX3_restore_14 : decode cX3_restore 14 = .ok (.aload_n 0, 1) := by decide +kernel
theorem dX3_restore_15 : decode cX3_restore 15 = .ok (.getfield 13, 3) := by decide +kernel
theorem dX3_restore_18 : decode cX3_restore 18 = .ok (.iload_n 1, 1) := by decide +kernel
theorem dX3_restore_19 : decode cX3_restore 19 = .ok (.baload, 1) := by decide +kernel
theorem dX3_restore_20 : decode cX3_restore 20 = .ok (.ifCond .ne 7, 3) := by decide +kernel
theorem dX3_restore_23 : decode cX3_restore 23 = .ok (.iconst 2, 1) := by decide +kernel
theorem dX3_restore_24 : decode cX3_restore 24 = .ok (.goto 4, 3) := by decide +kernel
theorem dX3_restore_27 : decode cX3_restore 27 = .ok (.iconst 0, 1) := by decide +kernel
theorem dX3_restore_28 : decode cX3_restore 28 = .ok (.invokevirtual 109, 3) := by decide +kernel
theorem dX3_restore_31 : decode cX3_restore 31 = .ok (.ifCond .ne 5, 3) := by decide +kernel
theorem dX3_restore_34 : decode cX3_restore 34 = .ok (.iconst 0, 1) := by decide +kernel
theorem dX3_restore_35 : decode cX3_restore 35 = .ok (.ireturn, 1) := by decide +kernel
theorem dX3_restore_36 : decode cX3_restore 36 = .ok (.aload_n 0, 1) := by decide +kernel
theorem dX3_restore_37 : decode cX3_restore 37 = .ok (.invokevirtual 112, 3) := by decide +kernel
theorem dX3_restore_40 : decode cX3_restore 40 = .ok (.aload_n 0, 1) := by decide +kernel
theorem dX3_restore_41 : decode cX3_restore 41 = .ok (.bipush 7, 2) := by decide +kernel
theorem dX3_restore_43 : decode cX3_restore 43 = .ok (.iload_n 1, 1) := by decide +kernel
theorem dX3_restore_44 : decode cX3_restore 44 = .ok (.iadd, 1) := by decide +kernel
theorem dX3_restore_45 : decode cX3_restore 45 = .ok (.iconst 0, 1) := by decide +kernel
theorem dX3_restore_46 : decode cX3_restore 46 = .ok (.invokevirtual 98, 3) := by decide +kernel
theorem dX3_restore_49 : decode cX3_restore 49 = .ok (.aload_n 0, 1) := by decide +kernel
theorem dX3_restore_50 : decode cX3_restore 50 = .ok (.getfield 7, 3) := by decide +kernel
theorem dX3_restore_53 : decode cX3_restore 53 = .ok (.iconst 0, 1) := by decide +kernel
theorem dX3_restore_54 : decode cX3_restore 54 = .ok (.iaload, 1) := by decide +kernel
theorem dX3_restore_55 : decode cX3_restore 55 = .ok (.ireturn, 1) := by decide +kernel
theorem dX3_status_0 : decode cX3_status 0 = .ok (.aload_n 0, 1) := by decide +kernel
theorem dX3_status_1 : decode cX3_status 1 = .ok (.iload_n 1, 1) := by decide +kernel
theorem dX3_status_2 : decode cX3_status 2 = .ok (.invokestatic 102, 3) := by decide +kernel
theorem dX3_status_5 : decode cX3_status 5 = .ok (.ifCond .eq 7, 3) := by decide +kernel
theorem dX3_status_8 : decode cX3_status 8 = .ok (.iconst 0, 1) := by decide +kernel
theorem dX3_status_9 : decode cX3_status 9 = .ok (.goto 4, 3) := by decide +kernel
theorem dX3_status_12 : decode cX3_status 12 = .ok (.iconst 1, 1) := by decide +kernel
theorem dX3_status_13 : decode cX3_status 13 = .ok (.invokevirtual 109, 3) := by decide +kernel
theorem dX3_status_16 : decode cX3_status 16 = .ok (.ifCond .ne 5, 3) := by decide +kernel
theorem dX3_status_19 : decode cX3_status 19 = .ok (.iconst 0, 1) := by decide +kernel
theorem dX3_status_20 : decode cX3_status 20 = .ok (.ireturn, 1) := by decide +kernel
theorem dX3_status_21 : decode cX3_status 21 = .ok (.aload_n 0, 1) := by decide +kernel
theorem dX3_status_22 : decode cX3_status 22 = .ok (.iconst 0, 1) := by decide +kernel
theorem dX3_status_23 : decode cX3_status 23 = .ok (.iload_n 1, 1) := by decide +kernel
theorem dX3_status_24 : decode cX3_status 24 = .ok (.invokevirtual 28, 3) := by decide +kernel
theorem dX3_status_27 : decode cX3_status 27 = .ok (.ifCond .eq 12, 3) := by decide +kernel
theorem dX3_status_30 : decode cX3_status 30 = .ok (.aload_n 0, 1) := by decide +kernel
theorem dX3_status_31 : decode cX3_status 31 = .ok (.iconst 0, 1) := by decide +kernel
theorem dX3_status_32 : decode cX3_status 32 = .ok (.iload_n 1, 1) := by decide +kernel
theorem dX3_status_33 : decode cX3_status 33 = .ok (.invokevirtual 59, 3) := by decide +kernel
theorem dX3_status_36 : decode cX3_status 36 = .ok (.goto 4, 3) := by decide +kernel
theorem dX3_status_39 : decode cX3_status 39 = .ok (.iconst (-1), 1) := by decide +kernel
theorem dX3_status_40 : decode cX3_status 40 = .ok (.ireturn, 1) := by decide +kernel
theorem dX3_copies_0 : decode cX3_copies 0 = .ok (.aload_n 0, 1) := by decide +kernel
theorem dX3_copies_1 : decode cX3_copies 1 = .ok (.iload_n 1, 1) := by decide +kernel
theorem dX3_copies_2 : decode cX3_copies 2 = .ok (.invokestatic 102, 3) := by decide +kernel
theorem dX3_copies_5 : decode cX3_copies 5 = .ok (.ifCond .eq 7, 3) := by decide +kernel
theorem dX3_copies_8 : decode cX3_copies 8 = .ok (.iconst 0, 1) := by decide +kernel
theorem dX3_copies_9 : decode cX3_copies 9 = .ok (.goto 4, 3) := by decide +kernel
theorem dX3_copies_12 : decode cX3_copies 12 = .ok (.iconst 1, 1) := by decide +kernel
theorem dX3_copies_13 : decode cX3_copies 13 = .ok (.invokevirtual 109, 3) := by decide +kernel
theorem dX3_copies_16 : decode cX3_copies 16 = .ok (.ifCond .eq 12, 3) := by decide +kernel
theorem dX3_copies_19 : decode cX3_copies 19 = .ok (.aload_n 0, 1) := by decide +kernel
theorem dX3_copies_20 : decode cX3_copies 20 = .ok (.iconst 0, 1) := by decide +kernel
theorem dX3_copies_21 : decode cX3_copies 21 = .ok (.iload_n 1, 1) := by decide +kernel
theorem dX3_copies_22 : decode cX3_copies 22 = .ok (.invokevirtual 49, 3) := by decide +kernel
theorem dX3_copies_25 : decode cX3_copies 25 = .ok (.goto 4, 3) := by decide +kernel
theorem dX3_copies_28 : decode cX3_copies 28 = .ok (.iconst 0, 1) := by decide +kernel
theorem dX3_copies_29 : decode cX3_copies 29 = .ok (.ireturn, 1) := by decide +kernel
theorem dX3_countStatus_0 : decode cX3_countStatus 0 = .ok (.aload_n 0, 1) := by decide +kernel
theorem dX3_countStatus_1 : decode cX3_countStatus 1 = .ok (.iload_n 1, 1) := by decide +kernel
theorem dX3_countStatus_2 : decode cX3_countStatus 2 = .ok (.iconst 0, 1) := by decide +kernel
theorem dX3_countStatus_3 : decode cX3_countStatus 3 = .ok (.iconst 2, 1) := by decide +kernel
theorem dX3_countStatus_4 : decode cX3_countStatus 4 = .ok (.invokestatic 24, 3) := by decide +kernel
theorem dX3_countStatus_7 : decode cX3_countStatus 7 = .ok (.ifCond .ne 9, 3) := by decide +kernel
theorem dX3_countStatus_10 : decode cX3_countStatus 10 = .ok (.iload_n 1, 1) := by decide +kernel
theorem dX3_countStatus_11 : decode cX3_countStatus 11 = .ok (.bipush (-2), 2) := by decide +kernel
theorem dX3_countStatus_13 : decode cX3_countStatus 13 = .ok (.if_icmp .ne 7, 3) := by decide +kernel
theorem dX3_countStatus_16 : decode cX3_countStatus 16 = .ok (.iconst 0, 1) := by decide +kernel
theorem dX3_countStatus_17 : decode cX3_countStatus 17 = .ok (.goto 4, 3) := by decide +kernel
theorem dX3_countStatus_20 : decode cX3_countStatus 20 = .ok (.iconst 1, 1) := by decide +kernel
theorem dX3_countStatus_21 : decode cX3_countStatus 21 = .ok (.invokevirtual 109, 3) := by decide +kernel
theorem dX3_countStatus_24 : decode cX3_countStatus 24 = .ok (.ifCond .eq 12, 3) := by decide +kernel
theorem dX3_countStatus_27 : decode cX3_countStatus 27 = .ok (.aload_n 0, 1) := by decide +kernel
theorem dX3_countStatus_28 : decode cX3_countStatus 28 = .ok (.iconst 0, 1) := by decide +kernel
theorem dX3_countStatus_29 : decode cX3_countStatus 29 = .ok (.iload_n 1, 1) := by decide +kernel
theorem dX3_countStatus_30 : decode cX3_countStatus 30 = .ok (.invokevirtual 202, 3) := by decide +kernel
theorem dX3_countStatus_33 : decode cX3_countStatus 33 = .ok (.goto 4, 3) := by decide +kernel
theorem dX3_countStatus_36 : decode cX3_countStatus 36 = .ok (.iconst 0, 1) := by decide +kernel
theorem dX3_countStatus_37 : decode cX3_countStatus 37 = .ok (.ireturn, 1) := by decide +kernel
theorem dX3_mode_0 : decode cX3_mode 0 = .ok (.aload_n 0, 1) := by decide +kernel
theorem dX3_mode_1 : decode cX3_mode 1 = .ok (.iload_n 1, 1) := by decide +kernel
theorem dX3_mode_2 : decode cX3_mode 2 = .ok (.invokestatic 127, 3) := by decide +kernel
theorem dX3_mode_5 : decode cX3_mode 5 = .ok (.ifCond .eq 7, 3) := by decide +kernel
theorem dX3_mode_8 : decode cX3_mode 8 = .ok (.iconst 0, 1) := by decide +kernel
theorem dX3_mode_9 : decode cX3_mode 9 = .ok (.goto 4, 3) := by decide +kernel
theorem dX3_mode_12 : decode cX3_mode 12 = .ok (.iconst 1, 1) := by decide +kernel
theorem dX3_mode_13 : decode cX3_mode 13 = .ok (.invokevirtual 109, 3) := by decide +kernel
theorem dX3_mode_16 : decode cX3_mode 16 = .ok (.ifCond .eq 13, 3) := by decide +kernel
theorem dX3_mode_19 : decode cX3_mode 19 = .ok (.aload_n 0, 1) := by decide +kernel
theorem dX3_mode_20 : decode cX3_mode 20 = .ok (.iconst 0, 1) := by decide +kernel
theorem dX3_mode_21 : decode cX3_mode 21 = .ok (.iload_n 1, 1) := by decide +kernel
theorem dX3_mode_22 : decode cX3_mode 22 = .ok (.iconst 0, 1) := by decide +kernel
theorem dX3_mode_23 : decode cX3_mode 23 = .ok (.invokevirtual 36, 3) := by decide +kernel
theorem dX3_mode_26 : decode cX3_mode 26 = .ok (.goto 4, 3) := by decide +kernel
theorem dX3_mode_29 : decode cX3_mode 29 = .ok (.iconst 0, 1) := by decide +kernel
theorem dX3_mode_30 : decode cX3_mode 30 = .ok (.ireturn, 1) := by decide +kernel
theorem dX3_isConnected_0 : decode cX3_isConnected 0 = .ok (.aload_n 0, 1) := by decide +kernel
theorem dX3_isConnected_1 : decode cX3_isConnected 1 = .ok (.iload_n 1, 1) := by decide +kernel
theorem dX3_isConnected_2 : decode cX3_isConnected 2 = .ok (.invokestatic 127, 3) := by decide +kernel
theorem dX3_isConnected_5 : decode cX3_isConnected 5 = .ok (.ifCond .eq 7, 3) := by decide +kernel
theorem dX3_isConnected_8 : decode cX3_isConnected 8 = .ok (.iconst 0, 1) := by decide +kernel
theorem dX3_isConnected_9 : decode cX3_isConnected 9 = .ok (.goto 4, 3) := by decide +kernel
theorem dX3_isConnected_12 : decode cX3_isConnected 12 = .ok (.iconst 1, 1) := by decide +kernel
theorem dX3_isConnected_13 : decode cX3_isConnected 13 = .ok (.invokevirtual 109, 3) := by decide +kernel
theorem dX3_isConnected_16 : decode cX3_isConnected 16 = .ok (.ifCond .eq 18, 3) := by decide +kernel
theorem dX3_isConnected_19 : decode cX3_isConnected 19 = .ok (.aload_n 0, 1) := by decide +kernel
theorem dX3_isConnected_20 : decode cX3_isConnected 20 = .ok (.iconst 0, 1) := by decide +kernel
theorem dX3_isConnected_21 : decode cX3_isConnected 21 = .ok (.iload_n 1, 1) := by decide +kernel
theorem dX3_isConnected_22 : decode cX3_isConnected 22 = .ok (.iconst 1, 1) := by decide +kernel
theorem dX3_isConnected_23 : decode cX3_isConnected 23 = .ok (.invokevirtual 36, 3) := by decide +kernel
theorem dX3_isConnected_26 : decode cX3_isConnected 26 = .ok (.iconst 1, 1) := by decide +kernel
theorem dX3_isConnected_27 : decode cX3_isConnected 27 = .ok (.if_icmp .ne 7, 3) := by decide +kernel
theorem dX3_isConnected_30 : decode cX3_isConnected 30 = .ok (.iconst 1, 1) := by decide +kernel
theorem dX3_isConnected_31 : decode cX3_isConnected 31 = .ok (.goto 4, 3) := by decide +kernel
theorem dX3_isConnected_34 : decode cX3_isConnected 34 = .ok (.iconst 0, 1) := by decide +kernel
theorem dX3_isConnected_35 : decode cX3_isConnected 35 = .ok (.ireturn, 1) := by decide +kernel
theorem dX3_usedRoom_0 : decode cX3_usedRoom 0 = .ok (.aload_n 0, 1) := by decide +kernel
theorem dX3_usedRoom_1 : decode cX3_usedRoom 1 = .ok (.iload_n 1, 1) := by decide +kernel
theorem dX3_usedRoom_2 : decode cX3_usedRoom 2 = .ok (.invokestatic 127, 3) := by decide +kernel
theorem dX3_usedRoom_5 : decode cX3_usedRoom 5 = .ok (.ifCond .eq 7, 3) := by decide +kernel
theorem dX3_usedRoom_8 : decode cX3_usedRoom 8 = .ok (.iconst 0, 1) := by decide +kernel
theorem dX3_usedRoom_9 : decode cX3_usedRoom 9 = .ok (.goto 4, 3) := by decide +kernel
theorem dX3_usedRoom_12 : decode cX3_usedRoom 12 = .ok (.iconst 1, 1) := by decide +kernel
theorem dX3_usedRoom_13 : decode cX3_usedRoom 13 = .ok (.invokevirtual 109, 3) := by decide +kernel
theorem dX3_usedRoom_16 : decode cX3_usedRoom 16 = .ok (.ifCond .eq 12, 3) := by decide +kernel
theorem dX3_usedRoom_19 : decode cX3_usedRoom 19 = .ok (.aload_n 0, 1) := by decide +kernel
theorem dX3_usedRoom_20 : decode cX3_usedRoom 20 = .ok (.iconst 0, 1) := by decide +kernel
theorem dX3_usedRoom_21 : decode cX3_usedRoom 21 = .ok (.iload_n 1, 1) := by decide +kernel
theorem dX3_usedRoom_22 : decode cX3_usedRoom 22 = .ok (.invokevirtual 43, 3) := by decide +kernel
theorem dX3_usedRoom_25 : decode cX3_usedRoom 25 = .ok (.goto 4, 3) := by decide +kernel
theorem dX3_usedRoom_28 : decode cX3_usedRoom 28 = .ok (.iconst 0, 1) := by decide +kernel
theorem dX3_usedRoom_29 : decode cX3_usedRoom 29 = .ok (.ireturn, 1) := by decide +kernel
theorem dX3_freeRoom_0 : decode cX3_freeRoom 0 = .ok (.aload_n 0, 1) := by decide +kernel
theorem dX3_freeRoom_1 : decode cX3_freeRoom 1 = .ok (.iload_n 1, 1) := by decide +kernel
theorem dX3_freeRoom_2 : decode cX3_freeRoom 2 = .ok (.invokestatic 127, 3) := by decide +kernel
theorem dX3_freeRoom_5 : decode cX3_freeRoom 5 = .ok (.ifCond .eq 7, 3) := by decide +kernel
theorem dX3_freeRoom_8 : decode cX3_freeRoom 8 = .ok (.iconst 0, 1) := by decide +kernel
theorem dX3_freeRoom_9 : decode cX3_freeRoom 9 = .ok (.goto 4, 3) := by decide +kernel
theorem dX3_freeRoom_12 : decode cX3_freeRoom 12 = .ok (.iconst 1, 1) := by decide +kernel
theorem dX3_freeRoom_13 : decode cX3_freeRoom 13 = .ok (.invokevirtual 109, 3) := by decide +kernel
theorem dX3_freeRoom_16 : decode cX3_freeRoom 16 = .ok (.ifCond .eq 12, 3) := by decide +kernel
theorem dX3_freeRoom_19 : decode cX3_freeRoom 19 = .ok (.aload_n 0, 1) := by decide +kernel
theorem dX3_freeRoom_20 : decode cX3_freeRoom 20 = .ok (.iconst 0, 1) := by decide +kernel
theorem dX3_freeRoom_21 : decode cX3_freeRoom 21 = .ok (.iload_n 1, 1) := by decide +kernel
theorem dX3_freeRoom_22 : decode cX3_freeRoom 22 = .ok (.invokevirtual 46, 3) := by decide +kernel
theorem dX3_freeRoom_25 : decode cX3_freeRoom 25 = .ok (.goto 4, 3) := by decide +kernel
theorem dX3_freeRoom_28 : decode cX3_freeRoom 28 = .ok (.iconst 0, 1) := by decide +kernel
theorem dX3_freeRoom_29 : decode cX3_freeRoom 29 = .ok (.ireturn, 1) := by decide +kernel
theorem dX3_deadlineIn_0 : decode cX3_deadlineIn 0 = .ok (.aload_n 0, 1) := by decide +kernel
theorem dX3_deadlineIn_1 : decode cX3_deadlineIn 1 = .ok (.iload_n 1, 1) := by decide +kernel
theorem dX3_deadlineIn_2 : decode cX3_deadlineIn 2 = .ok (.invokestatic 127, 3) := by decide +kernel
theorem dX3_deadlineIn_5 : decode cX3_deadlineIn 5 = .ok (.ifCond .eq 7, 3) := by decide +kernel
theorem dX3_deadlineIn_8 : decode cX3_deadlineIn 8 = .ok (.iconst 0, 1) := by decide +kernel
theorem dX3_deadlineIn_9 : decode cX3_deadlineIn 9 = .ok (.goto 4, 3) := by decide +kernel
theorem dX3_deadlineIn_12 : decode cX3_deadlineIn 12 = .ok (.iconst 1, 1) := by decide +kernel
theorem dX3_deadlineIn_13 : decode cX3_deadlineIn 13 = .ok (.invokevirtual 109, 3) := by decide +kernel
theorem dX3_deadlineIn_16 : decode cX3_deadlineIn 16 = .ok (.ifCond .ne 5, 3) := by decide +kernel
theorem dX3_deadlineIn_19 : decode cX3_deadlineIn 19 = .ok (.iconst 0, 1) := by decide +kernel
theorem dX3_deadlineIn_20 : decode cX3_deadlineIn 20 = .ok (.ireturn, 1) := by decide +kernel
theorem dX3_deadlineIn_21 : decode cX3_deadlineIn 21 = .ok (.aload_n 0, 1) := by decide +kernel
theorem dX3_deadlineIn_22 : decode cX3_deadlineIn 22 = .ok (.iconst 0, 1) := by decide +kernel
theorem dX3_deadlineIn_23 : decode cX3_deadlineIn 23 = .ok (.iload_n 1, 1) := by decide +kernel
theorem dX3_deadlineIn_24 : decode cX3_deadlineIn 24 = .ok (.iconst 0, 1) := by decide +kernel
theorem dX3_deadlineIn_25 : decode cX3_deadlineIn 25 = .ok (.invokevirtual 36, 3) := by decide +kernel
theorem dX3_deadlineIn_28 : decode cX3_deadlineIn 28 = .ok (.iconst 2, 1) := by decide +kernel
theorem dX3_deadlineIn_29 : decode cX3_deadlineIn 29 = .ok (.if_icmp .ne 20, 3) := by decide +kernel
theorem dX3_deadlineIn_32 : decode cX3_deadlineIn 32 = .ok (.aload_n 0, 1) := by decide +kernel
theorem dX3_deadlineIn_33 : decode cX3_deadlineIn 33 = .ok (.iconst 0, 1) := by decide +kernel
theorem dX3_deadlineIn_34 : decode cX3_deadlineIn 34 = .ok (.iload_n 1, 1) := by decide +kernel
theorem dX3_deadlineIn_35 : decode cX3_deadlineIn 35 = .ok (.iconst 3, 1) := by decide +kernel
theorem dX3_deadlineIn_36 : decode cX3_deadlineIn 36 = .ok (.invokevirtual 36, 3) := by decide +kernel
theorem dX3_deadlineIn_39 : decode cX3_deadlineIn 39 = .ok (.aload_n 0, 1) := by decide +kernel
theorem dX3_deadlineIn_40 : decode cX3_deadlineIn 40 = .ok (.getfield 7, 3) := by decide +kernel
theorem dX3_deadlineIn_43 : decode cX3_deadlineIn 43 = .ok (.iconst 0, 1) := by decide +kernel
theorem dX3_deadlineIn_44 : decode cX3_deadlineIn 44 = .ok (.iaload, 1) := by decide +kernel
theorem dX3_deadlineIn_45 : decode cX3_deadlineIn 45 = .ok (.isub, 1) := by decide +kernel
theorem dX3_deadlineIn_46 : decode cX3_deadlineIn 46 = .ok (.goto 4, 3) := by decide +kernel
theorem dX3_deadlineIn_49 : decode cX3_deadlineIn 49 = .ok (.iconst (-1), 1) := by decide +kernel
theorem dX3_deadlineIn_50 : decode cX3_deadlineIn 50 = .ok (.ireturn, 1) := by decide +kernel
theorem dX3_replica_0 : decode cX3_replica 0 = .ok (.aload_n 0, 1) := by decide +kernel
theorem dX3_replica_1 : decode cX3_replica 1 = .ok (.iload_n 1, 1) := by decide +kernel
theorem dX3_replica_2 : decode cX3_replica 2 = .ok (.invokestatic 127, 3) := by decide +kernel
theorem dX3_replica_5 : decode cX3_replica 5 = .ok (.ifCond .eq 14, 3) := by decide +kernel
theorem dX3_replica_8 : decode cX3_replica 8 = .ok (.iload_n 2, 1) := by decide +kernel
theorem dX3_replica_9 : decode cX3_replica 9 = .ok (.invokestatic 102, 3) := by decide +kernel
theorem dX3_replica_12 : decode cX3_replica 12 = .ok (.ifCond .eq 7, 3) := by decide +kernel
theorem dX3_replica_15 : decode cX3_replica 15 = .ok (.iconst 0, 1) := by decide +kernel
theorem dX3_replica_16 : decode cX3_replica 16 = .ok (.goto 4, 3) := by decide +kernel
theorem dX3_replica_19 : decode cX3_replica 19 = .ok (.iconst 1, 1) := by decide +kernel
theorem dX3_replica_20 : decode cX3_replica 20 = .ok (.invokevirtual 109, 3) := by decide +kernel
theorem dX3_replica_23 : decode cX3_replica 23 = .ok (.ifCond .ne 5, 3) := by decide +kernel
theorem dX3_replica_26 : decode cX3_replica 26 = .ok (.iconst 0, 1) := by decide +kernel
theorem dX3_replica_27 : decode cX3_replica 27 = .ok (.ireturn, 1) := by decide +kernel
theorem dX3_replica_28 : decode cX3_replica 28 = .ok (.aload_n 0, 1) := by decide +kernel
theorem dX3_replica_29 : decode cX3_replica 29 = .ok (.iconst 0, 1) := by decide +kernel
theorem dX3_replica_30 : decode cX3_replica 30 = .ok (.iload_n 1, 1) := by decide +kernel
theorem dX3_replica_31 : decode cX3_replica 31 = .ok (.iload_n 2, 1) := by decide +kernel
theorem dX3_replica_32 : decode cX3_replica 32 = .ok (.invokevirtual 32, 3) := by decide +kernel
theorem dX3_replica_35 : decode cX3_replica 35 = .ok (.ifCond .ne 7, 3) := by decide +kernel
theorem dX3_replica_38 : decode cX3_replica 38 = .ok (.iconst 0, 1) := by decide +kernel
theorem dX3_replica_39 : decode cX3_replica 39 = .ok (.goto 18, 3) := by decide +kernel
theorem dX3_replica_42 : decode cX3_replica 42 = .ok (.aload_n 0, 1) := by decide +kernel
theorem dX3_replica_43 : decode cX3_replica 43 = .ok (.iconst 0, 1) := by decide +kernel
theorem dX3_replica_44 : decode cX3_replica 44 = .ok (.iload_n 1, 1) := by decide +kernel
theorem dX3_replica_45 : decode cX3_replica 45 = .ok (.iload_n 2, 1) := by decide +kernel
theorem dX3_replica_46 : decode cX3_replica 46 = .ok (.invokevirtual 56, 3) := by decide +kernel
theorem dX3_replica_49 : decode cX3_replica 49 = .ok (.ifCond .eq 7, 3) := by decide +kernel
theorem dX3_replica_52 : decode cX3_replica 52 = .ok (.iconst 1, 1) := by decide +kernel
theorem dX3_replica_53 : decode cX3_replica 53 = .ok (.goto 4, 3) := by decide +kernel
theorem dX3_replica_56 : decode cX3_replica 56 = .ok (.iconst 2, 1) := by decide +kernel
theorem dX3_replica_57 : decode cX3_replica 57 = .ok (.ireturn, 1) := by decide +kernel
theorem dX3_transfer_0 : decode cX3_transfer 0 = .ok (.aload_n 0, 1) := by decide +kernel
theorem dX3_transfer_1 : decode cX3_transfer 1 = .ok (.iload_n 1, 1) := by decide +kernel
theorem dX3_transfer_2 : decode cX3_transfer 2 = .ok (.iconst 0, 1) := by decide +kernel
theorem dX3_transfer_3 : decode cX3_transfer 3 = .ok (.iconst 3, 1) := by decide +kernel
theorem dX3_transfer_4 : decode cX3_transfer 4 = .ok (.invokestatic 24, 3) := by decide +kernel
theorem dX3_transfer_7 : decode cX3_transfer 7 = .ok (.ifCond .eq 7, 3) := by decide +kernel
theorem dX3_transfer_10 : decode cX3_transfer 10 = .ok (.iconst 0, 1) := by decide +kernel
theorem dX3_transfer_11 : decode cX3_transfer 11 = .ok (.goto 4, 3) := by decide +kernel
theorem dX3_transfer_14 : decode cX3_transfer 14 = .ok (.iconst 1, 1) := by decide +kernel
theorem dX3_transfer_15 : decode cX3_transfer 15 = .ok (.invokevirtual 109, 3) := by decide +kernel
theorem dX3_transfer_18 : decode cX3_transfer 18 = .ok (.ifCond .ne 5, 3) := by decide +kernel
theorem dX3_transfer_21 : decode cX3_transfer 21 = .ok (.iconst 0, 1) := by decide +kernel
theorem dX3_transfer_22 : decode cX3_transfer 22 = .ok (.ireturn, 1) := by decide +kernel
theorem dX3_transfer_23 : decode cX3_transfer 23 = .ok (.aload_n 0, 1) := by decide +kernel
theorem dX3_transfer_24 : decode cX3_transfer 24 = .ok (.getfield 7, 3) := by decide +kernel
theorem dX3_transfer_27 : decode cX3_transfer 27 = .ok (.iconst 4, 1) := by decide +kernel
theorem dX3_transfer_28 : decode cX3_transfer 28 = .ok (.iaload, 1) := by decide +kernel
theorem dX3_transfer_29 : decode cX3_transfer 29 = .ok (.iconst (-1), 1) := by decide +kernel
theorem dX3_transfer_30 : decode cX3_transfer 30 = .ok (.if_icmp .ne 7, 3) := by decide +kernel
theorem dX3_transfer_33 : decode cX3_transfer 33 = .ok (.iconst (-1), 1) := by decide +kernel
theorem dX3_transfer_34 : decode cX3_transfer 34 = .ok (.goto 33, 3) := by decide +kernel
theorem dX3_transfer_37 : decode cX3_transfer 37 = .ok (.iload_n 1, 1) := by decide +kernel
theorem dX3_transfer_38 : decode cX3_transfer 38 = .ok (.iconst 3, 1) := by decide +kernel
theorem dX3_transfer_39 : decode cX3_transfer 39 = .ok (.if_icmp .ne 20, 3) := by decide +kernel
theorem dX3_transfer_42 : decode cX3_transfer 42 = .ok (.aload_n 0, 1) := by decide +kernel
theorem dX3_transfer_43 : decode cX3_transfer 43 = .ok (.getfield 7, 3) := by decide +kernel
theorem dX3_transfer_46 : decode cX3_transfer 46 = .ok (.bipush 7, 2) := by decide +kernel
theorem dX3_transfer_48 : decode cX3_transfer 48 = .ok (.iaload, 1) := by decide +kernel
theorem dX3_transfer_49 : decode cX3_transfer 49 = .ok (.aload_n 0, 1) := by decide +kernel
theorem dX3_transfer_50 : decode cX3_transfer 50 = .ok (.getfield 7, 3) := by decide +kernel
theorem dX3_transfer_53 : decode cX3_transfer 53 = .ok (.iconst 0, 1) := by decide +kernel
theorem dX3_transfer_54 : decode cX3_transfer 54 = .ok (.iaload, 1) := by decide +kernel
theorem dX3_transfer_55 : decode cX3_transfer 55 = .ok (.isub, 1) := by decide +kernel
theorem dX3_transfer_56 : decode cX3_transfer 56 = .ok (.goto 11, 3) := by decide +kernel
theorem dX3_transfer_59 : decode cX3_transfer 59 = .ok (.aload_n 0, 1) := by decide +kernel
theorem dX3_transfer_60 : decode cX3_transfer 60 = .ok (.getfield 7, 3) := by decide +kernel
theorem dX3_transfer_63 : decode cX3_transfer 63 = .ok (.iconst 4, 1) := by decide +kernel
theorem dX3_transfer_64 : decode cX3_transfer 64 = .ok (.iload_n 1, 1) := by decide +kernel
theorem dX3_transfer_65 : decode cX3_transfer 65 = .ok (.iadd, 1) := by decide +kernel
theorem dX3_transfer_66 : decode cX3_transfer 66 = .ok (.iaload, 1) := by decide +kernel
theorem dX3_transfer_67 : decode cX3_transfer 67 = .ok (.ireturn, 1) := by decide +kernel
theorem dX3_completedTransfers_0 : decode cX3_completedTransfers 0 = .ok (.aload_n 0, 1) := by decide +kernel
theorem dX3_completedTransfers_1 : decode cX3_completedTransfers 1 = .ok (.iconst 0, 1) := by decide +kernel
theorem dX3_completedTransfers_2 : decode cX3_completedTransfers 2 = .ok (.putfield 20, 3) := by decide +kernel
theorem dX3_completedTransfers_5 : decode cX3_completedTransfers 5 = .ok (.aload_n 0, 1) := by decide +kernel
theorem dX3_completedTransfers_6 : decode cX3_completedTransfers 6 = .ok (.getfield 7, 3) := by decide +kernel
theorem dX3_completedTransfers_9 : decode cX3_completedTransfers 9 = .ok (.iconst 3, 1) := by decide +kernel
theorem dX3_completedTransfers_10 : decode cX3_completedTransfers 10 = .ok (.iaload, 1) := by decide +kernel
theorem dX3_completedTransfers_11 : decode cX3_completedTransfers 11 = .ok (.ireturn, 1) := by decide +kernel
theorem dX3_time_0 : decode cX3_time 0 = .ok (.aload_n 0, 1) := by decide +kernel
theorem dX3_time_1 : decode cX3_time 1 = .ok (.iconst 0, 1) := by decide +kernel
theorem dX3_time_2 : decode cX3_time 2 = .ok (.putfield 20, 3) := by decide +kernel
theorem dX3_time_5 : decode cX3_time 5 = .ok (.aload_n 0, 1) := by decide +kernel
theorem dX3_time_6 : decode cX3_time 6 = .ok (.getfield 7, 3) := by decide +kernel
theorem dX3_time_9 : decode cX3_time 9 = .ok (.iconst 0, 1) := by decide +kernel
theorem dX3_time_10 : decode cX3_time 10 = .ok (.iaload, 1) := by decide +kernel
theorem dX3_time_11 : decode cX3_time 11 = .ok (.ireturn, 1) := by decide +kernel
theorem dX3_lostBy_0 : decode cX3_lostBy 0 = .ok (.iconst 0, 1) := by decide +kernel
theorem dX3_lostBy_1 : decode cX3_lostBy 1 = .ok (.istore_n 2, 1) := by decide +kernel
theorem dX3_lostBy_2 : decode cX3_lostBy 2 = .ok (.iconst 0, 1) := by decide +kernel
theorem dX3_lostBy_3 : decode cX3_lostBy 3 = .ok (.istore_n 3, 1) := by decide +kernel
theorem dX3_lostBy_4 : decode cX3_lostBy 4 = .ok (.iload_n 3, 1) := by decide +kernel
theorem dX3_lostBy_5 : decode cX3_lostBy 5 = .ok (.bipush 30, 2) := by decide +kernel
theorem dX3_lostBy_7 : decode cX3_lostBy 7 = .ok (.if_icmp .ge 74, 3) := by decide +kernel
theorem dX3_lostBy_10 : decode cX3_lostBy 10 = .ok (.iconst 0, 1) := by decide +kernel
theorem dX3_lostBy_11 : decode cX3_lostBy 11 = .ok (.istore 4, 2) := by decide +kernel
theorem dX3_lostBy_13 : decode cX3_lostBy 13 = .ok (.iconst 0, 1) := by decide +kernel
theorem dX3_lostBy_14 : decode cX3_lostBy 14 = .ok (.istore 5, 2) := by decide +kernel
theorem dX3_lostBy_16 : decode cX3_lostBy 16 = .ok (.iload 5, 2) := by decide +kernel
theorem dX3_lostBy_18 : decode cX3_lostBy 18 = .ok (.bipush 6, 2) := by decide +kernel
theorem dX3_lostBy_20 : decode cX3_lostBy 20 = .ok (.if_icmp .ge 33, 3) := by decide +kernel
theorem dX3_lostBy_23 : decode cX3_lostBy 23 = .ok (.iload 4, 2) := by decide +kernel
theorem dX3_lostBy_25 : decode cX3_lostBy 25 = .ok (.aload_n 0, 1) := by decide +kernel
theorem dX3_lostBy_26 : decode cX3_lostBy 26 = .ok (.iconst 0, 1) := by decide +kernel
theorem dX3_lostBy_27 : decode cX3_lostBy 27 = .ok (.iload 5, 2) := by decide +kernel
theorem dX3_lostBy_29 : decode cX3_lostBy 29 = .ok (.iload_n 3, 1) := by decide +kernel
theorem dX3_lostBy_30 : decode cX3_lostBy 30 = .ok (.invokevirtual 56, 3) := by decide +kernel
theorem dX3_lostBy_33 : decode cX3_lostBy 33 = .ok (.ifCond .eq 10, 3) := by decide +kernel
theorem dX3_lostBy_36 : decode cX3_lostBy 36 = .ok (.iconst 1, 1) := by decide +kernel
theorem dX3_lostBy_37 : decode cX3_lostBy 37 = .ok (.iload 5, 2) := by decide +kernel
theorem dX3_lostBy_39 : decode cX3_lostBy 39 = .ok (.ishl, 1) := by decide +kernel
theorem dX3_lostBy_40 : decode cX3_lostBy 40 = .ok (.goto 4, 3) := by decide +kernel
theorem dX3_lostBy_43 : decode cX3_lostBy 43 = .ok (.iconst 0, 1) := by decide +kernel
theorem dX3_lostBy_44 : decode cX3_lostBy 44 = .ok (.ior, 1) := by decide +kernel
theorem dX3_lostBy_45 : decode cX3_lostBy 45 = .ok (.istore 4, 2) := by decide +kernel
theorem dX3_lostBy_47 : decode cX3_lostBy 47 = .ok (.iinc 5 1, 3) := by decide +kernel
theorem dX3_lostBy_50 : decode cX3_lostBy 50 = .ok (.goto (-34), 3) := by decide +kernel
theorem dX3_lostBy_53 : decode cX3_lostBy 53 = .ok (.iload_n 2, 1) := by decide +kernel
theorem dX3_lostBy_54 : decode cX3_lostBy 54 = .ok (.iload 4, 2) := by decide +kernel
theorem dX3_lostBy_56 : decode cX3_lostBy 56 = .ok (.ifCond .eq 16, 3) := by decide +kernel
theorem dX3_lostBy_59 : decode cX3_lostBy 59 = .ok (.iload 4, 2) := by decide +kernel
theorem dX3_lostBy_61 : decode cX3_lostBy 61 = .ok (.iload_n 1, 1) := by decide +kernel
theorem dX3_lostBy_62 : decode cX3_lostBy 62 = .ok (.iand, 1) := by decide +kernel
theorem dX3_lostBy_63 : decode cX3_lostBy 63 = .ok (.iload 4, 2) := by decide +kernel
theorem dX3_lostBy_65 : decode cX3_lostBy 65 = .ok (.if_icmp .ne 7, 3) := by decide +kernel
theorem dX3_lostBy_68 : decode cX3_lostBy 68 = .ok (.iconst 1, 1) := by decide +kernel
theorem dX3_lostBy_69 : decode cX3_lostBy 69 = .ok (.goto 4, 3) := by decide +kernel
theorem dX3_lostBy_72 : decode cX3_lostBy 72 = .ok (.iconst 0, 1) := by decide +kernel
theorem dX3_lostBy_73 : decode cX3_lostBy 73 = .ok (.iadd, 1) := by decide +kernel
theorem dX3_lostBy_74 : decode cX3_lostBy 74 = .ok (.istore_n 2, 1) := by decide +kernel
theorem dX3_lostBy_75 : decode cX3_lostBy 75 = .ok (.iinc 3 1, 3) := by decide +kernel
theorem dX3_lostBy_78 : decode cX3_lostBy 78 = .ok (.goto (-74), 3) := by decide +kernel
theorem dX3_lostBy_81 : decode cX3_lostBy 81 = .ok (.iload_n 2, 1) := by decide +kernel
theorem dX3_lostBy_82 : decode cX3_lostBy 82 = .ok (.ireturn, 1) := by decide +kernel
theorem dX3_lostWithout_0 : decode cX3_lostWithout 0 = .ok (.aload_n 0, 1) := by decide +kernel
theorem dX3_lostWithout_1 : decode cX3_lostWithout 1 = .ok (.iload_n 1, 1) := by decide +kernel
theorem dX3_lostWithout_2 : decode cX3_lostWithout 2 = .ok (.iconst 0, 1) := by decide +kernel
theorem dX3_lostWithout_3 : decode cX3_lostWithout 3 = .ok (.bipush 63, 2) := by decide +kernel
theorem dX3_lostWithout_5 : decode cX3_lostWithout 5 = .ok (.invokestatic 24, 3) := by decide +kernel
theorem dX3_lostWithout_8 : decode cX3_lostWithout 8 = .ok (.ifCond .eq 7, 3) := by decide +kernel
theorem dX3_lostWithout_11 : decode cX3_lostWithout 11 = .ok (.iconst 0, 1) := by decide +kernel
theorem dX3_lostWithout_12 : decode cX3_lostWithout 12 = .ok (.goto 4, 3) := by decide +kernel
theorem dX3_lostWithout_15 : decode cX3_lostWithout 15 = .ok (.iconst 1, 1) := by decide +kernel
theorem dX3_lostWithout_16 : decode cX3_lostWithout 16 = .ok (.invokevirtual 109, 3) := by decide +kernel
theorem dX3_lostWithout_19 : decode cX3_lostWithout 19 = .ok (.ifCond .eq 11, 3) := by decide +kernel
theorem dX3_lostWithout_22 : decode cX3_lostWithout 22 = .ok (.aload_n 0, 1) := by decide +kernel
theorem dX3_lostWithout_23 : decode cX3_lostWithout 23 = .ok (.iload_n 1, 1) := by decide +kernel
theorem dX3_lostWithout_24 : decode cX3_lostWithout 24 = .ok (.invokevirtual 205, 3) := by decide +kernel
theorem dX3_lostWithout_27 : decode cX3_lostWithout 27 = .ok (.goto 4, 3) := by decide +kernel
theorem dX3_lostWithout_30 : decode cX3_lostWithout 30 = .ok (.iconst 0, 1) := by decide +kernel
theorem dX3_lostWithout_31 : decode cX3_lostWithout 31 = .ok (.ireturn, 1) := by decide +kernel
theorem dX3_worstPair_0 : decode cX3_worstPair 0 = .ok (.aload_n 0, 1) := by decide +kernel
theorem dX3_worstPair_1 : decode cX3_worstPair 1 = .ok (.iconst 0, 1) := by decide +kernel
theorem dX3_worstPair_2 : decode cX3_worstPair 2 = .ok (.putfield 20, 3) := by decide +kernel
theorem dX3_worstPair_5 : decode cX3_worstPair 5 = .ok (.iconst 1, 1) := by decide +kernel
theorem dX3_worstPair_6 : decode cX3_worstPair 6 = .ok (.istore_n 1, 1) := by decide +kernel
theorem dX3_worstPair_7 : decode cX3_worstPair 7 = .ok (.iconst 0, 1) := by decide +kernel
theorem dX3_worstPair_8 : decode cX3_worstPair 8 = .ok (.istore_n 2, 1) := by decide +kernel
theorem dX3_worstPair_9 : decode cX3_worstPair 9 = .ok (.iload_n 2, 1) := by decide +kernel
theorem dX3_worstPair_10 : decode cX3_worstPair 10 = .ok (.bipush 6, 2) := by decide +kernel
theorem dX3_worstPair_12 : decode cX3_worstPair 12 = .ok (.if_icmp .ge 79, 3) := by decide +kernel
theorem dX3_worstPair_15 : decode cX3_worstPair 15 = .ok (.iload_n 2, 1) := by decide +kernel
theorem dX3_worstPair_16 : decode cX3_worstPair 16 = .ok (.iconst 1, 1) := by decide +kernel
theorem dX3_worstPair_17 : decode cX3_worstPair 17 = .ok (.iadd, 1) := by decide +kernel
theorem dX3_worstPair_18 : decode cX3_worstPair 18 = .ok (.istore_n 3, 1) := by decide +kernel
theorem dX3_worstPair_19 : decode cX3_worstPair 19 = .ok (.iload_n 3, 1) := by decide +kernel
theorem dX3_worstPair_20 : decode cX3_worstPair 20 = .ok (.bipush 6, 2) := by decide +kernel
theorem dX3_worstPair_22 : decode cX3_worstPair 22 = .ok (.if_icmp .ge 63, 3) := by decide +kernel
theorem dX3_worstPair_25 : decode cX3_worstPair 25 = .ok (.aload_n 0, 1) := by decide +kernel
theorem dX3_worstPair_26 : decode cX3_worstPair 26 = .ok (.iconst 1, 1) := by decide +kernel
theorem dX3_worstPair_27 : decode cX3_worstPair 27 = .ok (.iload_n 2, 1) := by decide +kernel
theorem dX3_worstPair_28 : decode cX3_worstPair 28 = .ok (.ishl, 1) := by decide +kernel
theorem dX3_worstPair_29 : decode cX3_worstPair 29 = .ok (.iconst 1, 1) := by decide +kernel
theorem dX3_worstPair_30 : decode cX3_worstPair 30 = .ok (.iload_n 3, 1) := by decide +kernel
theorem dX3_worstPair_31 : decode cX3_worstPair 31 = .ok (.ishl, 1) := by decide +kernel
theorem dX3_worstPair_32 : decode cX3_worstPair 32 = .ok (.ior, 1) := by decide +kernel
theorem dX3_worstPair_33 : decode cX3_worstPair 33 = .ok (.invokevirtual 205, 3) := by decide +kernel
theorem dX3_worstPair_36 : decode cX3_worstPair 36 = .ok (.aload_n 0, 1) := by decide +kernel
theorem dX3_worstPair_37 : decode cX3_worstPair 37 = .ok (.iconst 1, 1) := by decide +kernel
theorem dX3_worstPair_38 : decode cX3_worstPair 38 = .ok (.iload_n 1, 1) := by decide +kernel
theorem dX3_worstPair_39 : decode cX3_worstPair 39 = .ok (.bipush 6, 2) := by decide +kernel
theorem dX3_worstPair_41 : decode cX3_worstPair 41 = .ok (.idiv, 1) := by decide +kernel
theorem dX3_worstPair_42 : decode cX3_worstPair 42 = .ok (.ishl, 1) := by decide +kernel
theorem dX3_worstPair_43 : decode cX3_worstPair 43 = .ok (.iconst 1, 1) := by decide +kernel
theorem dX3_worstPair_44 : decode cX3_worstPair 44 = .ok (.iload_n 1, 1) := by decide +kernel
theorem dX3_worstPair_45 : decode cX3_worstPair 45 = .ok (.bipush 6, 2) := by decide +kernel
theorem dX3_worstPair_47 : decode cX3_worstPair 47 = .ok (.irem, 1) := by decide +kernel
theorem dX3_worstPair_48 : decode cX3_worstPair 48 = .ok (.ishl, 1) := by decide +kernel
theorem dX3_worstPair_49 : decode cX3_worstPair 49 = .ok (.ior, 1) := by decide +kernel
theorem dX3_worstPair_50 : decode cX3_worstPair 50 = .ok (.invokevirtual 205, 3) := by decide +kernel
theorem dX3_worstPair_53 : decode cX3_worstPair 53 = .ok (.if_icmp .le 7, 3) := by decide +kernel
theorem dX3_worstPair_56 : decode cX3_worstPair 56 = .ok (.iconst 1, 1) := by decide +kernel
theorem dX3_worstPair_57 : decode cX3_worstPair 57 = .ok (.goto 4, 3) := by decide +kernel
theorem dX3_worstPair_60 : decode cX3_worstPair 60 = .ok (.iconst 0, 1) := by decide +kernel
theorem dX3_worstPair_61 : decode cX3_worstPair 61 = .ok (.istore 4, 2) := by decide +kernel
theorem dX3_worstPair_63 : decode cX3_worstPair 63 = .ok (.iload 4, 2) := by decide +kernel
theorem dX3_worstPair_65 : decode cX3_worstPair 65 = .ok (.ifCond .eq 12, 3) := by decide +kernel
theorem dX3_worstPair_68 : decode cX3_worstPair 68 = .ok (.bipush 6, 2) := by decide +kernel
theorem dX3_worstPair_70 : decode cX3_worstPair 70 = .ok (.iload_n 2, 1) := by decide +kernel
theorem dX3_worstPair_71 : decode cX3_worstPair 71 = .ok (.imul, 1) := by decide +kernel
theorem dX3_worstPair_72 : decode cX3_worstPair 72 = .ok (.iload_n 3, 1) := by decide +kernel
theorem dX3_worstPair_73 : decode cX3_worstPair 73 = .ok (.iadd, 1) := by decide +kernel
theorem dX3_worstPair_74 : decode cX3_worstPair 74 = .ok (.goto 4, 3) := by decide +kernel
theorem dX3_worstPair_77 : decode cX3_worstPair 77 = .ok (.iload_n 1, 1) := by decide +kernel
theorem dX3_worstPair_78 : decode cX3_worstPair 78 = .ok (.istore_n 1, 1) := by decide +kernel
theorem dX3_worstPair_79 : decode cX3_worstPair 79 = .ok (.iinc 3 1, 3) := by decide +kernel
theorem dX3_worstPair_82 : decode cX3_worstPair 82 = .ok (.goto (-63), 3) := by decide +kernel
theorem dX3_worstPair_85 : decode cX3_worstPair 85 = .ok (.iinc 2 1, 3) := by decide +kernel
theorem dX3_worstPair_88 : decode cX3_worstPair 88 = .ok (.goto (-79), 3) := by decide +kernel
theorem dX3_worstPair_91 : decode cX3_worstPair 91 = .ok (.iload_n 1, 1) := by decide +kernel
theorem dX3_worstPair_92 : decode cX3_worstPair 92 = .ok (.ireturn, 1) := by decide +kernel
theorem dX3_lostIn_0 : decode cX3_lostIn 0 = .ok (.aload_n 0, 1) := by decide +kernel
theorem dX3_lostIn_1 : decode cX3_lostIn 1 = .ok (.iload_n 1, 1) := by decide +kernel
theorem dX3_lostIn_2 : decode cX3_lostIn 2 = .ok (.iconst 1, 1) := by decide +kernel
theorem dX3_lostIn_3 : decode cX3_lostIn 3 = .ok (.sipush 600, 3) := by decide +kernel
theorem dX3_lostIn_6 : decode cX3_lostIn 6 = .ok (.invokestatic 24, 3) := by decide +kernel
theorem dX3_lostIn_9 : decode cX3_lostIn 9 = .ok (.ifCond .eq 7, 3) := by decide +kernel
theorem dX3_lostIn_12 : decode cX3_lostIn 12 = .ok (.iconst 0, 1) := by decide +kernel
theorem dX3_lostIn_13 : decode cX3_lostIn 13 = .ok (.goto 4, 3) := by decide +kernel
theorem dX3_lostIn_16 : decode cX3_lostIn 16 = .ok (.iconst 1, 1) := by decide +kernel
theorem dX3_lostIn_17 : decode cX3_lostIn 17 = .ok (.invokevirtual 109, 3) := by decide +kernel
theorem dX3_lostIn_20 : decode cX3_lostIn 20 = .ok (.ifCond .ne 5, 3) := by decide +kernel
theorem dX3_lostIn_23 : decode cX3_lostIn 23 = .ok (.iconst 0, 1) := by decide +kernel
theorem dX3_lostIn_24 : decode cX3_lostIn 24 = .ok (.ireturn, 1) := by decide +kernel
theorem dX3_lostIn_25 : decode cX3_lostIn 25 = .ok (.aload_n 0, 1) := by decide +kernel
theorem dX3_lostIn_26 : decode cX3_lostIn 26 = .ok (.iconst 0, 1) := by decide +kernel
theorem dX3_lostIn_27 : decode cX3_lostIn 27 = .ok (.bipush 9, 2) := by decide +kernel
theorem dX3_lostIn_29 : decode cX3_lostIn 29 = .ok (.invokevirtual 98, 3) := by decide +kernel
theorem dX3_lostIn_32 : decode cX3_lostIn 32 = .ok (.iconst 0, 1) := by decide +kernel
theorem dX3_lostIn_33 : decode cX3_lostIn 33 = .ok (.istore_n 2, 1) := by decide +kernel
theorem dX3_lostIn_34 : decode cX3_lostIn 34 = .ok (.iload_n 2, 1) := by decide +kernel
theorem dX3_lostIn_35 : decode cX3_lostIn 35 = .ok (.iload_n 1, 1) := by decide +kernel
theorem dX3_lostIn_36 : decode cX3_lostIn 36 = .ok (.if_icmp .ge 16, 3) := by decide +kernel
theorem dX3_lostIn_39 : decode cX3_lostIn 39 = .ok (.aload_n 0, 1) := by decide +kernel
theorem dX3_lostIn_40 : decode cX3_lostIn 40 = .ok (.sipush 2448, 3) := by decide +kernel
theorem dX3_lostIn_43 : decode cX3_lostIn 43 = .ok (.invokevirtual 92, 3) := by decide +kernel
theorem dX3_lostIn_46 : decode cX3_lostIn 46 = .ok (.iinc 2 1, 3) := by decide +kernel
theorem dX3_lostIn_49 : decode cX3_lostIn 49 = .ok (.goto (-15), 3) := by decide +kernel
theorem dX3_lostIn_52 : decode cX3_lostIn 52 = .ok (.aload_n 0, 1) := by decide +kernel
theorem dX3_lostIn_53 : decode cX3_lostIn 53 = .ok (.sipush 2448, 3) := by decide +kernel
theorem dX3_lostIn_56 : decode cX3_lostIn 56 = .ok (.bipush (-2), 2) := by decide +kernel
theorem dX3_lostIn_58 : decode cX3_lostIn 58 = .ok (.invokevirtual 202, 3) := by decide +kernel
theorem dX3_lostIn_61 : decode cX3_lostIn 61 = .ok (.ireturn, 1) := by decide +kernel
theorem dX3_rests_0 : decode cX3_rests 0 = .ok (.aload_n 0, 1) := by decide +kernel
theorem dX3_rests_1 : decode cX3_rests 1 = .ok (.getfield 7, 3) := by decide +kernel
theorem dX3_rests_4 : decode cX3_rests 4 = .ok (.iload_n 1, 1) := by decide +kernel
theorem dX3_rests_5 : decode cX3_rests 5 = .ok (.iconst 4, 1) := by decide +kernel
theorem dX3_rests_6 : decode cX3_rests 6 = .ok (.iadd, 1) := by decide +kernel
theorem dX3_rests_7 : decode cX3_rests 7 = .ok (.iaload, 1) := by decide +kernel
theorem dX3_rests_8 : decode cX3_rests 8 = .ok (.iconst (-1), 1) := by decide +kernel
theorem dX3_rests_9 : decode cX3_rests 9 = .ok (.if_icmp .ne 7, 3) := by decide +kernel
theorem dX3_rests_12 : decode cX3_rests 12 = .ok (.iconst 1, 1) := by decide +kernel
theorem dX3_rests_13 : decode cX3_rests 13 = .ok (.goto 4, 3) := by decide +kernel
theorem dX3_rests_16 : decode cX3_rests 16 = .ok (.iconst 0, 1) := by decide +kernel
theorem dX3_rests_17 : decode cX3_rests 17 = .ok (.istore_n 2, 1) := by decide +kernel
theorem dX3_rests_18 : decode cX3_rests 18 = .ok (.iconst 0, 1) := by decide +kernel
theorem dX3_rests_19 : decode cX3_rests 19 = .ok (.istore_n 3, 1) := by decide +kernel
theorem dX3_rests_20 : decode cX3_rests 20 = .ok (.iload_n 3, 1) := by decide +kernel
theorem dX3_rests_21 : decode cX3_rests 21 = .ok (.bipush 6, 2) := by decide +kernel
theorem dX3_rests_23 : decode cX3_rests 23 = .ok (.if_icmp .ge 30, 3) := by decide +kernel
theorem dX3_rests_26 : decode cX3_rests 26 = .ok (.iload_n 2, 1) := by decide +kernel
theorem dX3_rests_27 : decode cX3_rests 27 = .ok (.ifCond .eq 18, 3) := by decide +kernel
theorem dX3_rests_30 : decode cX3_rests 30 = .ok (.aload_n 0, 1) := by decide +kernel
theorem dX3_rests_31 : decode cX3_rests 31 = .ok (.iload_n 1, 1) := by decide +kernel
theorem dX3_rests_32 : decode cX3_rests 32 = .ok (.iload_n 3, 1) := by decide +kernel
theorem dX3_rests_33 : decode cX3_rests 33 = .ok (.iconst 0, 1) := by decide +kernel
theorem dX3_rests_34 : decode cX3_rests 34 = .ok (.invokevirtual 36, 3) := by decide +kernel
theorem dX3_rests_37 : decode cX3_rests 37 = .ok (.iconst 2, 1) := by decide +kernel
theorem dX3_rests_38 : decode cX3_rests 38 = .ok (.if_icmp .eq 7, 3) := by decide +kernel
theorem dX3_rests_41 : decode cX3_rests 41 = .ok (.iconst 1, 1) := by decide +kernel
theorem dX3_rests_42 : decode cX3_rests 42 = .ok (.goto 4, 3) := by decide +kernel
theorem dX3_rests_45 : decode cX3_rests 45 = .ok (.iconst 0, 1) := by decide +kernel
theorem dX3_rests_46 : decode cX3_rests 46 = .ok (.istore_n 2, 1) := by decide +kernel
theorem dX3_rests_47 : decode cX3_rests 47 = .ok (.iinc 3 1, 3) := by decide +kernel
theorem dX3_rests_50 : decode cX3_rests 50 = .ok (.goto (-30), 3) := by decide +kernel
theorem dX3_rests_53 : decode cX3_rests 53 = .ok (.iload_n 2, 1) := by decide +kernel
theorem dX3_rests_54 : decode cX3_rests 54 = .ok (.ireturn, 1) := by decide +kernel
theorem dX3_restsIn_0 : decode cX3_restsIn 0 = .ok (.aload_n 0, 1) := by decide +kernel
theorem dX3_restsIn_1 : decode cX3_restsIn 1 = .ok (.iconst 0, 1) := by decide +kernel
theorem dX3_restsIn_2 : decode cX3_restsIn 2 = .ok (.putfield 20, 3) := by decide +kernel
theorem dX3_restsIn_5 : decode cX3_restsIn 5 = .ok (.aload_n 0, 1) := by decide +kernel
theorem dX3_restsIn_6 : decode cX3_restsIn 6 = .ok (.iconst 0, 1) := by decide +kernel
theorem dX3_restsIn_7 : decode cX3_restsIn 7 = .ok (.bipush 9, 2) := by decide +kernel
theorem dX3_restsIn_9 : decode cX3_restsIn 9 = .ok (.invokevirtual 98, 3) := by decide +kernel
theorem dX3_restsIn_12 : decode cX3_restsIn 12 = .ok (.iconst 0, 1) := by decide +kernel
theorem dX3_restsIn_13 : decode cX3_restsIn 13 = .ok (.istore_n 1, 1) := by decide +kernel
theorem dX3_restsIn_14 : decode cX3_restsIn 14 = .ok (.iload_n 1, 1) := by decide +kernel
theorem dX3_restsIn_15 : decode cX3_restsIn 15 = .ok (.sipush 600, 3) := by decide +kernel
theorem dX3_restsIn_18 : decode cX3_restsIn 18 = .ok (.if_icmp .ge 26, 3) := by decide +kernel
theorem dX3_restsIn_21 : decode cX3_restsIn 21 = .ok (.aload_n 0, 1) := by decide +kernel
theorem dX3_restsIn_22 : decode cX3_restsIn 22 = .ok (.sipush 2448, 3) := by decide +kernel
theorem dX3_restsIn_25 : decode cX3_restsIn 25 = .ok (.invokevirtual 208, 3) := by decide +kernel
theorem dX3_restsIn_28 : decode cX3_restsIn 28 = .ok (.ifCond .ne 16, 3) := by decide +kernel
theorem dX3_restsIn_31 : decode cX3_restsIn 31 = .ok (.aload_n 0, 1) := by decide +kernel
theorem dX3_restsIn_32 : decode cX3_restsIn 32 = .ok (.sipush 2448, 3) := by decide +kernel
theorem dX3_restsIn_35 : decode cX3_restsIn 35 = .ok (.invokevirtual 92, 3) := by decide +kernel
theorem dX3_restsIn_38 : decode cX3_restsIn 38 = .ok (.iinc 1 1, 3) := by decide +kernel
theorem dX3_restsIn_41 : decode cX3_restsIn 41 = .ok (.goto (-27), 3) := by decide +kernel
theorem dX3_restsIn_44 : decode cX3_restsIn 44 = .ok (.aload_n 0, 1) := by decide +kernel
theorem dX3_restsIn_45 : decode cX3_restsIn 45 = .ok (.sipush 2448, 3) := by decide +kernel
theorem dX3_restsIn_48 : decode cX3_restsIn 48 = .ok (.invokevirtual 208, 3) := by decide +kernel
theorem dX3_restsIn_51 : decode cX3_restsIn 51 = .ok (.ifCond .eq 7, 3) := by decide +kernel
theorem dX3_restsIn_54 : decode cX3_restsIn 54 = .ok (.iload_n 1, 1) := by decide +kernel
theorem dX3_restsIn_55 : decode cX3_restsIn 55 = .ok (.goto 4, 3) := by decide +kernel
theorem dX3_restsIn_58 : decode cX3_restsIn 58 = .ok (.iconst (-1), 1) := by decide +kernel
theorem dX3_restsIn_59 : decode cX3_restsIn 59 = .ok (.ireturn, 1) := by decide +kernel
theorem dX3_savedStates_0 : decode cX3_savedStates 0 = .ok (.aload_n 0, 1) := by decide +kernel
theorem dX3_savedStates_1 : decode cX3_savedStates 1 = .ok (.iconst 0, 1) := by decide +kernel
theorem dX3_savedStates_2 : decode cX3_savedStates 2 = .ok (.putfield 20, 3) := by decide +kernel
theorem dX3_savedStates_5 : decode cX3_savedStates 5 = .ok (.aload_n 0, 1) := by decide +kernel
theorem dX3_savedStates_6 : decode cX3_savedStates 6 = .ok (.getfield 95, 3) := by decide +kernel
theorem dX3_savedStates_9 : decode cX3_savedStates 9 = .ok (.ireturn, 1) := by decide +kernel
theorem dX3_textLength_0 : decode cX3_textLength 0 = .ok (.aload_n 0, 1) := by decide +kernel
theorem dX3_textLength_1 : decode cX3_textLength 1 = .ok (.iconst 0, 1) := by decide +kernel
theorem dX3_textLength_2 : decode cX3_textLength 2 = .ok (.putfield 20, 3) := by decide +kernel
theorem dX3_textLength_5 : decode cX3_textLength 5 = .ok (.aload_n 0, 1) := by decide +kernel
theorem dX3_textLength_6 : decode cX3_textLength 6 = .ok (.getfield 158, 3) := by decide +kernel
theorem dX3_textLength_9 : decode cX3_textLength 9 = .ok (.ireturn, 1) := by decide +kernel
theorem dJ6_bitCount_0f7a4_0 : decode cJ6_bitCount_0f7a4 0 = .ok (.iload_n 0, 1) := by decide +kernel
theorem dJ6_bitCount_0f7a4_1 : decode cJ6_bitCount_0f7a4 1 = .ok (.iload_n 0, 1) := by decide +kernel
theorem dJ6_bitCount_0f7a4_2 : decode cJ6_bitCount_0f7a4 2 = .ok (.iconst 1, 1) := by decide +kernel
theorem dJ6_bitCount_0f7a4_3 : decode cJ6_bitCount_0f7a4 3 = .ok (.iushr, 1) := by decide +kernel
theorem dJ6_bitCount_0f7a4_4 : decode cJ6_bitCount_0f7a4 4 = .ok (.ldc_w 265, 3) := by decide +kernel
theorem dJ6_bitCount_0f7a4_7 : decode cJ6_bitCount_0f7a4 7 = .ok (.iand, 1) := by decide +kernel
theorem dJ6_bitCount_0f7a4_8 : decode cJ6_bitCount_0f7a4 8 = .ok (.isub, 1) := by decide +kernel
theorem dJ6_bitCount_0f7a4_9 : decode cJ6_bitCount_0f7a4 9 = .ok (.istore_n 0, 1) := by decide +kernel
theorem dJ6_bitCount_0f7a4_10 : decode cJ6_bitCount_0f7a4 10 = .ok (.iload_n 0, 1) := by decide +kernel
theorem dJ6_bitCount_0f7a4_11 : decode cJ6_bitCount_0f7a4 11 = .ok (.ldc_w 266, 3) := by decide +kernel
theorem dJ6_bitCount_0f7a4_14 : decode cJ6_bitCount_0f7a4 14 = .ok (.iand, 1) := by decide +kernel
theorem dJ6_bitCount_0f7a4_15 : decode cJ6_bitCount_0f7a4 15 = .ok (.iload_n 0, 1) := by decide +kernel
theorem dJ6_bitCount_0f7a4_16 : decode cJ6_bitCount_0f7a4 16 = .ok (.iconst 2, 1) := by decide +kernel
theorem dJ6_bitCount_0f7a4_17 : decode cJ6_bitCount_0f7a4 17 = .ok (.iushr, 1) := by decide +kernel
theorem dJ6_bitCount_0f7a4_18 : decode cJ6_bitCount_0f7a4 18 = .ok (.ldc_w 266, 3) := by decide +kernel
theorem dJ6_bitCount_0f7a4_21 : decode cJ6_bitCount_0f7a4 21 = .ok (.iand, 1) := by decide +kernel
theorem dJ6_bitCount_0f7a4_22 : decode cJ6_bitCount_0f7a4 22 = .ok (.iadd, 1) := by decide +kernel
theorem dJ6_bitCount_0f7a4_23 : decode cJ6_bitCount_0f7a4 23 = .ok (.istore_n 0, 1) := by decide +kernel
theorem dJ6_bitCount_0f7a4_24 : decode cJ6_bitCount_0f7a4 24 = .ok (.iload_n 0, 1) := by decide +kernel
theorem dJ6_bitCount_0f7a4_25 : decode cJ6_bitCount_0f7a4 25 = .ok (.iload_n 0, 1) := by decide +kernel
theorem dJ6_bitCount_0f7a4_26 : decode cJ6_bitCount_0f7a4 26 = .ok (.iconst 4, 1) := by decide +kernel
theorem dJ6_bitCount_0f7a4_27 : decode cJ6_bitCount_0f7a4 27 = .ok (.iushr, 1) := by decide +kernel
theorem dJ6_bitCount_0f7a4_28 : decode cJ6_bitCount_0f7a4 28 = .ok (.iadd, 1) := by decide +kernel
theorem dJ6_bitCount_0f7a4_29 : decode cJ6_bitCount_0f7a4 29 = .ok (.ldc_w 267, 3) := by decide +kernel
theorem dJ6_bitCount_0f7a4_32 : decode cJ6_bitCount_0f7a4 32 = .ok (.iand, 1) := by decide +kernel
theorem dJ6_bitCount_0f7a4_33 : decode cJ6_bitCount_0f7a4 33 = .ok (.istore_n 0, 1) := by decide +kernel
theorem dJ6_bitCount_0f7a4_34 : decode cJ6_bitCount_0f7a4 34 = .ok (.iload_n 0, 1) := by decide +kernel
theorem dJ6_bitCount_0f7a4_35 : decode cJ6_bitCount_0f7a4 35 = .ok (.iload_n 0, 1) := by decide +kernel
theorem dJ6_bitCount_0f7a4_36 : decode cJ6_bitCount_0f7a4 36 = .ok (.bipush 8, 2) := by decide +kernel
theorem dJ6_bitCount_0f7a4_38 : decode cJ6_bitCount_0f7a4 38 = .ok (.iushr, 1) := by decide +kernel
theorem dJ6_bitCount_0f7a4_39 : decode cJ6_bitCount_0f7a4 39 = .ok (.iadd, 1) := by decide +kernel
theorem dJ6_bitCount_0f7a4_40 : decode cJ6_bitCount_0f7a4 40 = .ok (.istore_n 0, 1) := by decide +kernel
theorem dJ6_bitCount_0f7a4_41 : decode cJ6_bitCount_0f7a4 41 = .ok (.iload_n 0, 1) := by decide +kernel
theorem dJ6_bitCount_0f7a4_42 : decode cJ6_bitCount_0f7a4 42 = .ok (.iload_n 0, 1) := by decide +kernel
theorem dJ6_bitCount_0f7a4_43 : decode cJ6_bitCount_0f7a4 43 = .ok (.bipush 16, 2) := by decide +kernel
theorem dJ6_bitCount_0f7a4_45 : decode cJ6_bitCount_0f7a4 45 = .ok (.iushr, 1) := by decide +kernel
theorem dJ6_bitCount_0f7a4_46 : decode cJ6_bitCount_0f7a4 46 = .ok (.iadd, 1) := by decide +kernel
theorem dJ6_bitCount_0f7a4_47 : decode cJ6_bitCount_0f7a4 47 = .ok (.istore_n 0, 1) := by decide +kernel
theorem dJ6_bitCount_0f7a4_48 : decode cJ6_bitCount_0f7a4 48 = .ok (.iload_n 0, 1) := by decide +kernel
theorem dJ6_bitCount_0f7a4_49 : decode cJ6_bitCount_0f7a4 49 = .ok (.bipush 63, 2) := by decide +kernel
theorem dJ6_bitCount_0f7a4_51 : decode cJ6_bitCount_0f7a4 51 = .ok (.iand, 1) := by decide +kernel
theorem dJ6_bitCount_0f7a4_52 : decode cJ6_bitCount_0f7a4 52 = .ok (.ireturn, 1) := by decide +kernel
theorem dL_store_0 : decode cL_store 0 = .ok (.aload_n 3, 1) := by decide +kernel
theorem dL_store_1 : decode cL_store 1 = .ok (.iconst 0, 1) := by decide +kernel
theorem dL_store_2 : decode cL_store 2 = .ok (.aload_n 0, 1) := by decide +kernel
theorem dL_store_3 : decode cL_store 3 = .ok (.iload_n 1, 1) := by decide +kernel
theorem dL_store_4 : decode cL_store 4 = .ok (.iload_n 2, 1) := by decide +kernel
theorem dL_store_5 : decode cL_store 5 = .ok (.invokevirtual 7, 3) := by decide +kernel
theorem dL_store_8 : decode cL_store 8 = .ok (.i2l, 1) := by decide +kernel
theorem dL_store_9 : decode cL_store 9 = .ok (.lastore, 1) := by decide +kernel
theorem dL_store_10 : decode cL_store 10 = .ok (.goto 15, 3) := by decide +kernel
theorem dL_store_13 : decode cL_store 13 = .ok (.astore 4, 2) := by decide +kernel
theorem dL_store_15 : decode cL_store 15 = .ok (.iconst 1, 1) := by decide +kernel
theorem dL_store_16 : decode cL_store 16 = .ok (.ireturn, 1) := by decide +kernel
theorem dL_store_17 : decode cL_store 17 = .ok (.astore 4, 2) := by decide +kernel
theorem dL_store_19 : decode cL_store 19 = .ok (.iconst 2, 1) := by decide +kernel
theorem dL_store_20 : decode cL_store 20 = .ok (.ireturn, 1) := by decide +kernel
theorem dL_store_21 : decode cL_store 21 = .ok (.astore 4, 2) := by decide +kernel
theorem dL_store_23 : decode cL_store 23 = .ok (.iconst 3, 1) := by decide +kernel
theorem dL_store_24 : decode cL_store 24 = .ok (.ireturn, 1) := by decide +kernel
theorem dL_store_25 : decode cL_store 25 = .ok (.iconst 0, 1) := by decide +kernel
theorem dL_store_26 : decode cL_store 26 = .ok (.ireturn, 1) := by decide +kernel
theorem dL_write_0 : decode cL_write 0 = .ok (.aload_n 3, 1) := by decide +kernel
theorem dL_write_1 : decode cL_write 1 = .ok (.iconst 0, 1) := by decide +kernel
theorem dL_write_2 : decode cL_write 2 = .ok (.aload_n 0, 1) := by decide +kernel
theorem dL_write_3 : decode cL_write 3 = .ok (.iload_n 1, 1) := by decide +kernel
theorem dL_write_4 : decode cL_write 4 = .ok (.iload_n 2, 1) := by decide +kernel
theorem dL_write_5 : decode cL_write 5 = .ok (.invokevirtual 19, 3) := by decide +kernel
theorem dL_write_8 : decode cL_write 8 = .ok (.i2l, 1) := by decide +kernel
theorem dL_write_9 : decode cL_write 9 = .ok (.lastore, 1) := by decide +kernel
theorem dL_write_10 : decode cL_write 10 = .ok (.goto 15, 3) := by decide +kernel
theorem dL_write_13 : decode cL_write 13 = .ok (.astore 4, 2) := by decide +kernel
theorem dL_write_15 : decode cL_write 15 = .ok (.iconst 1, 1) := by decide +kernel
theorem dL_write_16 : decode cL_write 16 = .ok (.ireturn, 1) := by decide +kernel
theorem dL_write_17 : decode cL_write 17 = .ok (.astore 4, 2) := by decide +kernel
theorem dL_write_19 : decode cL_write 19 = .ok (.iconst 2, 1) := by decide +kernel
theorem dL_write_20 : decode cL_write 20 = .ok (.ireturn, 1) := by decide +kernel
theorem dL_write_21 : decode cL_write 21 = .ok (.astore 4, 2) := by decide +kernel
theorem dL_write_23 : decode cL_write 23 = .ok (.iconst 3, 1) := by decide +kernel
theorem dL_write_24 : decode cL_write 24 = .ok (.ireturn, 1) := by decide +kernel
theorem dL_write_25 : decode cL_write 25 = .ok (.iconst 0, 1) := by decide +kernel
theorem dL_write_26 : decode cL_write 26 = .ok (.ireturn, 1) := by decide +kernel
theorem dL_read_0 : decode cL_read 0 = .ok (.aload_n 2, 1) := by decide +kernel
theorem dL_read_1 : decode cL_read 1 = .ok (.iconst 0, 1) := by decide +kernel
theorem dL_read_2 : decode cL_read 2 = .ok (.aload_n 0, 1) := by decide +kernel
theorem dL_read_3 : decode cL_read 3 = .ok (.iload_n 1, 1) := by decide +kernel
theorem dL_read_4 : decode cL_read 4 = .ok (.invokevirtual 22, 3) := by decide +kernel
theorem dL_read_7 : decode cL_read 7 = .ok (.i2l, 1) := by decide +kernel
theorem dL_read_8 : decode cL_read 8 = .ok (.lastore, 1) := by decide +kernel
theorem dL_read_9 : decode cL_read 9 = .ok (.goto 9, 3) := by decide +kernel
theorem dL_read_12 : decode cL_read 12 = .ok (.astore_n 3, 1) := by decide +kernel
theorem dL_read_13 : decode cL_read 13 = .ok (.iconst 1, 1) := by decide +kernel
theorem dL_read_14 : decode cL_read 14 = .ok (.ireturn, 1) := by decide +kernel
theorem dL_read_15 : decode cL_read 15 = .ok (.astore_n 3, 1) := by decide +kernel
theorem dL_read_16 : decode cL_read 16 = .ok (.iconst 2, 1) := by decide +kernel
theorem dL_read_17 : decode cL_read 17 = .ok (.ireturn, 1) := by decide +kernel
theorem dL_read_18 : decode cL_read 18 = .ok (.iconst 0, 1) := by decide +kernel
theorem dL_read_19 : decode cL_read 19 = .ok (.ireturn, 1) := by decide +kernel
theorem dL_remove_0 : decode cL_remove 0 = .ok (.aload_n 2, 1) := by decide +kernel
theorem dL_remove_1 : decode cL_remove 1 = .ok (.iconst 0, 1) := by decide +kernel
theorem dL_remove_2 : decode cL_remove 2 = .ok (.aload_n 0, 1) := by decide +kernel
theorem dL_remove_3 : decode cL_remove 3 = .ok (.iload_n 1, 1) := by decide +kernel
theorem dL_remove_4 : decode cL_remove 4 = .ok (.invokevirtual 26, 3) := by decide +kernel
theorem dL_remove_7 : decode cL_remove 7 = .ok (.i2l, 1) := by decide +kernel
theorem dL_remove_8 : decode cL_remove 8 = .ok (.lastore, 1) := by decide +kernel
theorem dL_remove_9 : decode cL_remove 9 = .ok (.goto 9, 3) := by decide +kernel
theorem dL_remove_12 : decode cL_remove 12 = .ok (.astore_n 3, 1) := by decide +kernel
theorem dL_remove_13 : decode cL_remove 13 = .ok (.iconst 1, 1) := by decide +kernel
theorem dL_remove_14 : decode cL_remove 14 = .ok (.ireturn, 1) := by decide +kernel
theorem dL_remove_15 : decode cL_remove 15 = .ok (.astore_n 3, 1) := by decide +kernel
theorem dL_remove_16 : decode cL_remove 16 = .ok (.iconst 2, 1) := by decide +kernel
theorem dL_remove_17 : decode cL_remove 17 = .ok (.ireturn, 1) := by decide +kernel
theorem dL_remove_18 : decode cL_remove 18 = .ok (.iconst 0, 1) := by decide +kernel
theorem dL_remove_19 : decode cL_remove 19 = .ok (.ireturn, 1) := by decide +kernel
theorem dL_lend_0 : decode cL_lend 0 = .ok (.aload_n 3, 1) := by decide +kernel
theorem dL_lend_1 : decode cL_lend 1 = .ok (.iconst 0, 1) := by decide +kernel
theorem dL_lend_2 : decode cL_lend 2 = .ok (.aload_n 0, 1) := by decide +kernel
theorem dL_lend_3 : decode cL_lend 3 = .ok (.iload_n 1, 1) := by decide +kernel
theorem dL_lend_4 : decode cL_lend 4 = .ok (.iload_n 2, 1) := by decide +kernel
theorem dL_lend_5 : decode cL_lend 5 = .ok (.invokevirtual 29, 3) := by decide +kernel
theorem dL_lend_8 : decode cL_lend 8 = .ok (.i2l, 1) := by decide +kernel
theorem dL_lend_9 : decode cL_lend 9 = .ok (.lastore, 1) := by decide +kernel
theorem dL_lend_10 : decode cL_lend 10 = .ok (.goto 15, 3) := by decide +kernel
theorem dL_lend_13 : decode cL_lend 13 = .ok (.astore 4, 2) := by decide +kernel
theorem dL_lend_15 : decode cL_lend 15 = .ok (.iconst 1, 1) := by decide +kernel
theorem dL_lend_16 : decode cL_lend 16 = .ok (.ireturn, 1) := by decide +kernel
theorem dL_lend_17 : decode cL_lend 17 = .ok (.astore 4, 2) := by decide +kernel
theorem dL_lend_19 : decode cL_lend 19 = .ok (.iconst 2, 1) := by decide +kernel
theorem dL_lend_20 : decode cL_lend 20 = .ok (.ireturn, 1) := by decide +kernel
theorem dL_lend_21 : decode cL_lend 21 = .ok (.astore 4, 2) := by decide +kernel
theorem dL_lend_23 : decode cL_lend 23 = .ok (.iconst 3, 1) := by decide +kernel
theorem dL_lend_24 : decode cL_lend 24 = .ok (.ireturn, 1) := by decide +kernel
theorem dL_lend_25 : decode cL_lend 25 = .ok (.iconst 0, 1) := by decide +kernel
theorem dL_lend_26 : decode cL_lend 26 = .ok (.ireturn, 1) := by decide +kernel
theorem dL_recall_0 : decode cL_recall 0 = .ok (.aload_n 3, 1) := by decide +kernel
theorem dL_recall_1 : decode cL_recall 1 = .ok (.iconst 0, 1) := by decide +kernel
theorem dL_recall_2 : decode cL_recall 2 = .ok (.aload_n 0, 1) := by decide +kernel
theorem dL_recall_3 : decode cL_recall 3 = .ok (.iload_n 1, 1) := by decide +kernel
theorem dL_recall_4 : decode cL_recall 4 = .ok (.iload_n 2, 1) := by decide +kernel
theorem dL_recall_5 : decode cL_recall 5 = .ok (.invokevirtual 32, 3) := by decide +kernel
theorem dL_recall_8 : decode cL_recall 8 = .ok (.i2l, 1) := by decide +kernel
theorem dL_recall_9 : decode cL_recall 9 = .ok (.lastore, 1) := by decide +kernel
theorem dL_recall_10 : decode cL_recall 10 = .ok (.goto 15, 3) := by decide +kernel
theorem dL_recall_13 : decode cL_recall 13 = .ok (.astore 4, 2) := by decide +kernel
theorem dL_recall_15 : decode cL_recall 15 = .ok (.iconst 1, 1) := by decide +kernel
theorem dL_recall_16 : decode cL_recall 16 = .ok (.ireturn, 1) := by decide +kernel
theorem dL_recall_17 : decode cL_recall 17 = .ok (.astore 4, 2) := by decide +kernel
theorem dL_recall_19 : decode cL_recall 19 = .ok (.iconst 2, 1) := by decide +kernel
theorem dL_recall_20 : decode cL_recall 20 = .ok (.ireturn, 1) := by decide +kernel
theorem dL_recall_21 : decode cL_recall 21 = .ok (.astore 4, 2) := by decide +kernel
theorem dL_recall_23 : decode cL_recall 23 = .ok (.iconst 3, 1) := by decide +kernel
theorem dL_recall_24 : decode cL_recall 24 = .ok (.ireturn, 1) := by decide +kernel
theorem dL_recall_25 : decode cL_recall 25 = .ok (.iconst 0, 1) := by decide +kernel
theorem dL_recall_26 : decode cL_recall 26 = .ok (.ireturn, 1) := by decide +kernel
theorem dL_disconnect_0 : decode cL_disconnect 0 = .ok (.aload_n 2, 1) := by decide +kernel
theorem dL_disconnect_1 : decode cL_disconnect 1 = .ok (.iconst 0, 1) := by decide +kernel
theorem dL_disconnect_2 : decode cL_disconnect 2 = .ok (.aload_n 0, 1) := by decide +kernel
theorem dL_disconnect_3 : decode cL_disconnect 3 = .ok (.iload_n 1, 1) := by decide +kernel
theorem dL_disconnect_4 : decode cL_disconnect 4 = .ok (.invokevirtual 35, 3) := by decide +kernel
theorem dL_disconnect_7 : decode cL_disconnect 7 = .ok (.i2l, 1) := by decide +kernel
theorem dL_disconnect_8 : decode cL_disconnect 8 = .ok (.lastore, 1) := by decide +kernel
theorem dL_disconnect_9 : decode cL_disconnect 9 = .ok (.goto 9, 3) := by decide +kernel
theorem dL_disconnect_12 : decode cL_disconnect 12 = .ok (.astore_n 3, 1) := by decide +kernel
theorem dL_disconnect_13 : decode cL_disconnect 13 = .ok (.iconst 1, 1) := by decide +kernel
theorem dL_disconnect_14 : decode cL_disconnect 14 = .ok (.ireturn, 1) := by decide +kernel
theorem dL_disconnect_15 : decode cL_disconnect 15 = .ok (.astore_n 3, 1) := by decide +kernel
theorem dL_disconnect_16 : decode cL_disconnect 16 = .ok (.iconst 2, 1) := by decide +kernel
theorem dL_disconnect_17 : decode cL_disconnect 17 = .ok (.ireturn, 1) := by decide +kernel
theorem dL_disconnect_18 : decode cL_disconnect 18 = .ok (.iconst 0, 1) := by decide +kernel
theorem dL_disconnect_19 : decode cL_disconnect 19 = .ok (.ireturn, 1) := by decide +kernel
theorem dL_reconnect_0 : decode cL_reconnect 0 = .ok (.aload_n 2, 1) := by decide +kernel
theorem dL_reconnect_1 : decode cL_reconnect 1 = .ok (.iconst 0, 1) := by decide +kernel
theorem dL_reconnect_2 : decode cL_reconnect 2 = .ok (.aload_n 0, 1) := by decide +kernel
theorem dL_reconnect_3 : decode cL_reconnect 3 = .ok (.iload_n 1, 1) := by decide +kernel
theorem dL_reconnect_4 : decode cL_reconnect 4 = .ok (.invokevirtual 38, 3) := by decide +kernel
theorem dL_reconnect_7 : decode cL_reconnect 7 = .ok (.i2l, 1) := by decide +kernel
theorem dL_reconnect_8 : decode cL_reconnect 8 = .ok (.lastore, 1) := by decide +kernel
theorem dL_reconnect_9 : decode cL_reconnect 9 = .ok (.goto 9, 3) := by decide +kernel
theorem dL_reconnect_12 : decode cL_reconnect 12 = .ok (.astore_n 3, 1) := by decide +kernel
theorem dL_reconnect_13 : decode cL_reconnect 13 = .ok (.iconst 1, 1) := by decide +kernel
theorem dL_reconnect_14 : decode cL_reconnect 14 = .ok (.ireturn, 1) := by decide +kernel
theorem dL_reconnect_15 : decode cL_reconnect 15 = .ok (.astore_n 3, 1) := by decide +kernel
theorem dL_reconnect_16 : decode cL_reconnect 16 = .ok (.iconst 2, 1) := by decide +kernel
theorem dL_reconnect_17 : decode cL_reconnect 17 = .ok (.ireturn, 1) := by decide +kernel
theorem dL_reconnect_18 : decode cL_reconnect 18 = .ok (.iconst 0, 1) := by decide +kernel
theorem dL_reconnect_19 : decode cL_reconnect 19 = .ok (.ireturn, 1) := by decide +kernel
theorem dL_crash_0 : decode cL_crash 0 = .ok (.aload_n 2, 1) := by decide +kernel
theorem dL_crash_1 : decode cL_crash 1 = .ok (.iconst 0, 1) := by decide +kernel
theorem dL_crash_2 : decode cL_crash 2 = .ok (.aload_n 0, 1) := by decide +kernel
theorem dL_crash_3 : decode cL_crash 3 = .ok (.iload_n 1, 1) := by decide +kernel
theorem dL_crash_4 : decode cL_crash 4 = .ok (.invokevirtual 41, 3) := by decide +kernel
theorem dL_crash_7 : decode cL_crash 7 = .ok (.i2l, 1) := by decide +kernel
theorem dL_crash_8 : decode cL_crash 8 = .ok (.lastore, 1) := by decide +kernel
theorem dL_crash_9 : decode cL_crash 9 = .ok (.goto 9, 3) := by decide +kernel
theorem dL_crash_12 : decode cL_crash 12 = .ok (.astore_n 3, 1) := by decide +kernel
theorem dL_crash_13 : decode cL_crash 13 = .ok (.iconst 1, 1) := by decide +kernel
theorem dL_crash_14 : decode cL_crash 14 = .ok (.ireturn, 1) := by decide +kernel
theorem dL_crash_15 : decode cL_crash 15 = .ok (.astore_n 3, 1) := by decide +kernel
theorem dL_crash_16 : decode cL_crash 16 = .ok (.iconst 2, 1) := by decide +kernel
theorem dL_crash_17 : decode cL_crash 17 = .ok (.ireturn, 1) := by decide +kernel
theorem dL_crash_18 : decode cL_crash 18 = .ok (.iconst 0, 1) := by decide +kernel
theorem dL_crash_19 : decode cL_crash 19 = .ok (.ireturn, 1) := by decide +kernel
theorem dL_pass_0 : decode cL_pass 0 = .ok (.aload_n 2, 1) := by decide +kernel
theorem dL_pass_1 : decode cL_pass 1 = .ok (.iconst 0, 1) := by decide +kernel
theorem dL_pass_2 : decode cL_pass 2 = .ok (.aload_n 0, 1) := by decide +kernel
theorem dL_pass_3 : decode cL_pass 3 = .ok (.iload_n 1, 1) := by decide +kernel
theorem dL_pass_4 : decode cL_pass 4 = .ok (.invokevirtual 44, 3) := by decide +kernel
theorem dL_pass_7 : decode cL_pass 7 = .ok (.i2l, 1) := by decide +kernel
theorem dL_pass_8 : decode cL_pass 8 = .ok (.lastore, 1) := by decide +kernel
theorem dL_pass_9 : decode cL_pass 9 = .ok (.goto 9, 3) := by decide +kernel
theorem dL_pass_12 : decode cL_pass 12 = .ok (.astore_n 3, 1) := by decide +kernel
theorem dL_pass_13 : decode cL_pass 13 = .ok (.iconst 1, 1) := by decide +kernel
theorem dL_pass_14 : decode cL_pass 14 = .ok (.ireturn, 1) := by decide +kernel
theorem dL_pass_15 : decode cL_pass 15 = .ok (.astore_n 3, 1) := by decide +kernel
theorem dL_pass_16 : decode cL_pass 16 = .ok (.iconst 2, 1) := by decide +kernel
theorem dL_pass_17 : decode cL_pass 17 = .ok (.ireturn, 1) := by decide +kernel
theorem dL_pass_18 : decode cL_pass 18 = .ok (.iconst 0, 1) := by decide +kernel
theorem dL_pass_19 : decode cL_pass 19 = .ok (.ireturn, 1) := by decide +kernel
theorem dL_setTransferTime_0 : decode cL_setTransferTime 0 = .ok (.aload_n 2, 1) := by decide +kernel
theorem dL_setTransferTime_1 : decode cL_setTransferTime 1 = .ok (.iconst 0, 1) := by decide +kernel
theorem dL_setTransferTime_2 : decode cL_setTransferTime 2 = .ok (.aload_n 0, 1) := by decide +kernel
theorem dL_setTransferTime_3 : decode cL_setTransferTime 3 = .ok (.iload_n 1, 1) := by decide +kernel
theorem dL_setTransferTime_4 : decode cL_setTransferTime 4 = .ok (.invokevirtual 47, 3) := by decide +kernel
theorem dL_setTransferTime_7 : decode cL_setTransferTime 7 = .ok (.i2l, 1) := by decide +kernel
theorem dL_setTransferTime_8 : decode cL_setTransferTime 8 = .ok (.lastore, 1) := by decide +kernel
theorem dL_setTransferTime_9 : decode cL_setTransferTime 9 = .ok (.goto 6, 3) := by decide +kernel
theorem dL_setTransferTime_12 : decode cL_setTransferTime 12 = .ok (.astore_n 3, 1) := by decide +kernel
theorem dL_setTransferTime_13 : decode cL_setTransferTime 13 = .ok (.iconst 1, 1) := by decide +kernel
theorem dL_setTransferTime_14 : decode cL_setTransferTime 14 = .ok (.ireturn, 1) := by decide +kernel
theorem dL_setTransferTime_15 : decode cL_setTransferTime 15 = .ok (.iconst 0, 1) := by decide +kernel
theorem dL_setTransferTime_16 : decode cL_setTransferTime 16 = .ok (.ireturn, 1) := by decide +kernel
theorem dL_appendText_0 : decode cL_appendText 0 = .ok (.aload_n 2, 1) := by decide +kernel
theorem dL_appendText_1 : decode cL_appendText 1 = .ok (.iconst 0, 1) := by decide +kernel
theorem dL_appendText_2 : decode cL_appendText 2 = .ok (.aload_n 0, 1) := by decide +kernel
theorem dL_appendText_3 : decode cL_appendText 3 = .ok (.iload_n 1, 1) := by decide +kernel
theorem dL_appendText_4 : decode cL_appendText 4 = .ok (.invokevirtual 50, 3) := by decide +kernel
theorem dL_appendText_7 : decode cL_appendText 7 = .ok (.i2l, 1) := by decide +kernel
theorem dL_appendText_8 : decode cL_appendText 8 = .ok (.lastore, 1) := by decide +kernel
theorem dL_appendText_9 : decode cL_appendText 9 = .ok (.goto 9, 3) := by decide +kernel
theorem dL_appendText_12 : decode cL_appendText 12 = .ok (.astore_n 3, 1) := by decide +kernel
theorem dL_appendText_13 : decode cL_appendText 13 = .ok (.iconst 1, 1) := by decide +kernel
theorem dL_appendText_14 : decode cL_appendText 14 = .ok (.ireturn, 1) := by decide +kernel
theorem dL_appendText_15 : decode cL_appendText 15 = .ok (.astore_n 3, 1) := by decide +kernel
theorem dL_appendText_16 : decode cL_appendText 16 = .ok (.iconst 2, 1) := by decide +kernel
theorem dL_appendText_17 : decode cL_appendText 17 = .ok (.ireturn, 1) := by decide +kernel
theorem dL_appendText_18 : decode cL_appendText 18 = .ok (.iconst 0, 1) := by decide +kernel
theorem dL_appendText_19 : decode cL_appendText 19 = .ok (.ireturn, 1) := by decide +kernel
theorem dL_runText_0 : decode cL_runText 0 = .ok (.aload_n 1, 1) := by decide +kernel
theorem dL_runText_1 : decode cL_runText 1 = .ok (.iconst 0, 1) := by decide +kernel
theorem dL_runText_2 : decode cL_runText 2 = .ok (.aload_n 0, 1) := by decide +kernel
theorem dL_runText_3 : decode cL_runText 3 = .ok (.invokevirtual 53, 3) := by decide +kernel
theorem dL_runText_6 : decode cL_runText 6 = .ok (.i2l, 1) := by decide +kernel
theorem dL_runText_7 : decode cL_runText 7 = .ok (.lastore, 1) := by decide +kernel
theorem dL_runText_8 : decode cL_runText 8 = .ok (.goto 6, 3) := by decide +kernel
theorem dL_runText_11 : decode cL_runText 11 = .ok (.astore_n 2, 1) := by decide +kernel
theorem dL_runText_12 : decode cL_runText 12 = .ok (.iconst 1, 1) := by decide +kernel
theorem dL_runText_13 : decode cL_runText 13 = .ok (.ireturn, 1) := by decide +kernel
theorem dL_runText_14 : decode cL_runText 14 = .ok (.iconst 0, 1) := by decide +kernel
theorem dL_runText_15 : decode cL_runText 15 = .ok (.ireturn, 1) := by decide +kernel
theorem dL_undo_0 : decode cL_undo 0 = .ok (.aload_n 1, 1) := by decide +kernel
theorem dL_undo_1 : decode cL_undo 1 = .ok (.iconst 0, 1) := by decide +kernel
theorem dL_undo_2 : decode cL_undo 2 = .ok (.aload_n 0, 1) := by decide +kernel
theorem dL_undo_3 : decode cL_undo 3 = .ok (.invokevirtual 57, 3) := by decide +kernel
theorem dL_undo_6 : decode cL_undo 6 = .ok (.i2l, 1) := by decide +kernel
theorem dL_undo_7 : decode cL_undo 7 = .ok (.lastore, 1) := by decide +kernel
theorem dL_undo_8 : decode cL_undo 8 = .ok (.goto 6, 3) := by decide +kernel
theorem dL_undo_11 : decode cL_undo 11 = .ok (.astore_n 2, 1) := by decide +kernel
theorem dL_undo_12 : decode cL_undo 12 = .ok (.iconst 1, 1) := by decide +kernel
theorem dL_undo_13 : decode cL_undo 13 = .ok (.ireturn, 1) := by decide +kernel
theorem dL_undo_14 : decode cL_undo 14 = .ok (.iconst 0, 1) := by decide +kernel
theorem dL_undo_15 : decode cL_undo 15 = .ok (.ireturn, 1) := by decide +kernel
theorem dL_save_0 : decode cL_save 0 = .ok (.aload_n 2, 1) := by decide +kernel
theorem dL_save_1 : decode cL_save 1 = .ok (.iconst 0, 1) := by decide +kernel
theorem dL_save_2 : decode cL_save 2 = .ok (.aload_n 0, 1) := by decide +kernel
theorem dL_save_3 : decode cL_save 3 = .ok (.iload_n 1, 1) := by decide +kernel
theorem dL_save_4 : decode cL_save 4 = .ok (.invokevirtual 60, 3) := by decide +kernel
theorem dL_save_7 : decode cL_save 7 = .ok (.i2l, 1) := by decide +kernel
theorem dL_save_8 : decode cL_save 8 = .ok (.lastore, 1) := by decide +kernel
theorem dL_save_9 : decode cL_save 9 = .ok (.goto 6, 3) := by decide +kernel
theorem dL_save_12 : decode cL_save 12 = .ok (.astore_n 3, 1) := by decide +kernel
theorem dL_save_13 : decode cL_save 13 = .ok (.iconst 1, 1) := by decide +kernel
theorem dL_save_14 : decode cL_save 14 = .ok (.ireturn, 1) := by decide +kernel
theorem dL_save_15 : decode cL_save 15 = .ok (.iconst 0, 1) := by decide +kernel
theorem dL_save_16 : decode cL_save 16 = .ok (.ireturn, 1) := by decide +kernel
theorem dL_restore_0 : decode cL_restore 0 = .ok (.aload_n 2, 1) := by decide +kernel
theorem dL_restore_1 : decode cL_restore 1 = .ok (.iconst 0, 1) := by decide +kernel
theorem dL_restore_2 : decode cL_restore 2 = .ok (.aload_n 0, 1) := by decide +kernel
theorem dL_restore_3 : decode cL_restore 3 = .ok (.iload_n 1, 1) := by decide +kernel
theorem dL_restore_4 : decode cL_restore 4 = .ok (.invokevirtual 63, 3) := by decide +kernel
theorem dL_restore_7 : decode cL_restore 7 = .ok (.i2l, 1) := by decide +kernel
theorem dL_restore_8 : decode cL_restore 8 = .ok (.lastore, 1) := by decide +kernel
theorem dL_restore_9 : decode cL_restore 9 = .ok (.goto 9, 3) := by decide +kernel
theorem dL_restore_12 : decode cL_restore 12 = .ok (.astore_n 3, 1) := by decide +kernel
theorem dL_restore_13 : decode cL_restore 13 = .ok (.iconst 1, 1) := by decide +kernel
theorem dL_restore_14 : decode cL_restore 14 = .ok (.ireturn, 1) := by decide +kernel
theorem dL_restore_15 : decode cL_restore 15 = .ok (.astore_n 3, 1) := by decide +kernel
theorem dL_restore_16 : decode cL_restore 16 = .ok (.iconst 2, 1) := by decide +kernel
theorem dL_restore_17 : decode cL_restore 17 = .ok (.ireturn, 1) := by decide +kernel
theorem dL_restore_18 : decode cL_restore 18 = .ok (.iconst 0, 1) := by decide +kernel
theorem dL_restore_19 : decode cL_restore 19 = .ok (.ireturn, 1) := by decide +kernel
theorem dL_status_0 : decode cL_status 0 = .ok (.aload_n 2, 1) := by decide +kernel
theorem dL_status_1 : decode cL_status 1 = .ok (.iconst 0, 1) := by decide +kernel
theorem dL_status_2 : decode cL_status 2 = .ok (.aload_n 0, 1) := by decide +kernel
theorem dL_status_3 : decode cL_status 3 = .ok (.iload_n 1, 1) := by decide +kernel
theorem dL_status_4 : decode cL_status 4 = .ok (.invokevirtual 66, 3) := by decide +kernel
theorem dL_status_7 : decode cL_status 7 = .ok (.i2l, 1) := by decide +kernel
theorem dL_status_8 : decode cL_status 8 = .ok (.lastore, 1) := by decide +kernel
theorem dL_status_9 : decode cL_status 9 = .ok (.goto 6, 3) := by decide +kernel
theorem dL_status_12 : decode cL_status 12 = .ok (.astore_n 3, 1) := by decide +kernel
theorem dL_status_13 : decode cL_status 13 = .ok (.iconst 1, 1) := by decide +kernel
theorem dL_status_14 : decode cL_status 14 = .ok (.ireturn, 1) := by decide +kernel
theorem dL_status_15 : decode cL_status 15 = .ok (.iconst 0, 1) := by decide +kernel
theorem dL_status_16 : decode cL_status 16 = .ok (.ireturn, 1) := by decide +kernel
theorem dL_copies_0 : decode cL_copies 0 = .ok (.aload_n 2, 1) := by decide +kernel
theorem dL_copies_1 : decode cL_copies 1 = .ok (.iconst 0, 1) := by decide +kernel
theorem dL_copies_2 : decode cL_copies 2 = .ok (.aload_n 0, 1) := by decide +kernel
theorem dL_copies_3 : decode cL_copies 3 = .ok (.iload_n 1, 1) := by decide +kernel
theorem dL_copies_4 : decode cL_copies 4 = .ok (.invokevirtual 69, 3) := by decide +kernel
theorem dL_copies_7 : decode cL_copies 7 = .ok (.i2l, 1) := by decide +kernel
theorem dL_copies_8 : decode cL_copies 8 = .ok (.lastore, 1) := by decide +kernel
theorem dL_copies_9 : decode cL_copies 9 = .ok (.goto 6, 3) := by decide +kernel
theorem dL_copies_12 : decode cL_copies 12 = .ok (.astore_n 3, 1) := by decide +kernel
theorem dL_copies_13 : decode cL_copies 13 = .ok (.iconst 1, 1) := by decide +kernel
theorem dL_copies_14 : decode cL_copies 14 = .ok (.ireturn, 1) := by decide +kernel
theorem dL_copies_15 : decode cL_copies 15 = .ok (.iconst 0, 1) := by decide +kernel
theorem dL_copies_16 : decode cL_copies 16 = .ok (.ireturn, 1) := by decide +kernel
theorem dL_countStatus_0 : decode cL_countStatus 0 = .ok (.aload_n 2, 1) := by decide +kernel
theorem dL_countStatus_1 : decode cL_countStatus 1 = .ok (.iconst 0, 1) := by decide +kernel
theorem dL_countStatus_2 : decode cL_countStatus 2 = .ok (.aload_n 0, 1) := by decide +kernel
theorem dL_countStatus_3 : decode cL_countStatus 3 = .ok (.iload_n 1, 1) := by decide +kernel
theorem dL_countStatus_4 : decode cL_countStatus 4 = .ok (.invokevirtual 72, 3) := by decide +kernel
theorem dL_countStatus_7 : decode cL_countStatus 7 = .ok (.i2l, 1) := by decide +kernel
theorem dL_countStatus_8 : decode cL_countStatus 8 = .ok (.lastore, 1) := by decide +kernel
theorem dL_countStatus_9 : decode cL_countStatus 9 = .ok (.goto 6, 3) := by decide +kernel
theorem dL_countStatus_12 : decode cL_countStatus 12 = .ok (.astore_n 3, 1) := by decide +kernel
theorem dL_countStatus_13 : decode cL_countStatus 13 = .ok (.iconst 1, 1) := by decide +kernel
theorem dL_countStatus_14 : decode cL_countStatus 14 = .ok (.ireturn, 1) := by decide +kernel
theorem dL_countStatus_15 : decode cL_countStatus 15 = .ok (.iconst 0, 1) := by decide +kernel
theorem dL_countStatus_16 : decode cL_countStatus 16 = .ok (.ireturn, 1) := by decide +kernel
theorem dL_mode_0 : decode cL_mode 0 = .ok (.aload_n 2, 1) := by decide +kernel
theorem dL_mode_1 : decode cL_mode 1 = .ok (.iconst 0, 1) := by decide +kernel
theorem dL_mode_2 : decode cL_mode 2 = .ok (.aload_n 0, 1) := by decide +kernel
theorem dL_mode_3 : decode cL_mode 3 = .ok (.iload_n 1, 1) := by decide +kernel
theorem dL_mode_4 : decode cL_mode 4 = .ok (.invokevirtual 75, 3) := by decide +kernel
theorem dL_mode_7 : decode cL_mode 7 = .ok (.i2l, 1) := by decide +kernel
theorem dL_mode_8 : decode cL_mode 8 = .ok (.lastore, 1) := by decide +kernel
theorem dL_mode_9 : decode cL_mode 9 = .ok (.goto 6, 3) := by decide +kernel
theorem dL_mode_12 : decode cL_mode 12 = .ok (.astore_n 3, 1) := by decide +kernel
theorem dL_mode_13 : decode cL_mode 13 = .ok (.iconst 1, 1) := by decide +kernel
theorem dL_mode_14 : decode cL_mode 14 = .ok (.ireturn, 1) := by decide +kernel
theorem dL_mode_15 : decode cL_mode 15 = .ok (.iconst 0, 1) := by decide +kernel
theorem dL_mode_16 : decode cL_mode 16 = .ok (.ireturn, 1) := by decide +kernel
theorem dL_isConnected_0 : decode cL_isConnected 0 = .ok (.aload_n 2, 1) := by decide +kernel
theorem dL_isConnected_1 : decode cL_isConnected 1 = .ok (.iconst 0, 1) := by decide +kernel
theorem dL_isConnected_2 : decode cL_isConnected 2 = .ok (.aload_n 0, 1) := by decide +kernel
theorem dL_isConnected_3 : decode cL_isConnected 3 = .ok (.iload_n 1, 1) := by decide +kernel
theorem dL_isConnected_4 : decode cL_isConnected 4 = .ok (.invokevirtual 78, 3) := by decide +kernel
theorem dL_isConnected_7 : decode cL_isConnected 7 = .ok (.ifCond .eq 7, 3) := by decide +kernel
theorem dL_isConnected_10 : decode cL_isConnected 10 = .ok (.lconst 1, 1) := by decide +kernel
theorem dL_isConnected_11 : decode cL_isConnected 11 = .ok (.goto 4, 3) := by decide +kernel
theorem dL_isConnected_14 : decode cL_isConnected 14 = .ok (.lconst 0, 1) := by decide +kernel
theorem dL_isConnected_15 : decode cL_isConnected 15 = .ok (.lastore, 1) := by decide +kernel
theorem dL_isConnected_16 : decode cL_isConnected 16 = .ok (.goto 6, 3) := by decide +kernel
theorem dL_isConnected_19 : decode cL_isConnected 19 = .ok (.astore_n 3, 1) := by decide +kernel
theorem dL_isConnected_20 : decode cL_isConnected 20 = .ok (.iconst 1, 1) := by decide +kernel
theorem dL_isConnected_21 : decode cL_isConnected 21 = .ok (.ireturn, 1) := by decide +kernel
theorem dL_isConnected_22 : decode cL_isConnected 22 = .ok (.iconst 0, 1) := by decide +kernel
theorem dL_isConnected_23 : decode cL_isConnected 23 = .ok (.ireturn, 1) := by decide +kernel
theorem dL_usedRoom_0 : decode cL_usedRoom 0 = .ok (.aload_n 2, 1) := by decide +kernel
theorem dL_usedRoom_1 : decode cL_usedRoom 1 = .ok (.iconst 0, 1) := by decide +kernel
theorem dL_usedRoom_2 : decode cL_usedRoom 2 = .ok (.aload_n 0, 1) := by decide +kernel
theorem dL_usedRoom_3 : decode cL_usedRoom 3 = .ok (.iload_n 1, 1) := by decide +kernel
theorem dL_usedRoom_4 : decode cL_usedRoom 4 = .ok (.invokevirtual 82, 3) := by decide +kernel
theorem dL_usedRoom_7 : decode cL_usedRoom 7 = .ok (.i2l, 1) := by decide +kernel
theorem dL_usedRoom_8 : decode cL_usedRoom 8 = .ok (.lastore, 1) := by decide +kernel
theorem dL_usedRoom_9 : decode cL_usedRoom 9 = .ok (.goto 6, 3) := by decide +kernel
theorem dL_usedRoom_12 : decode cL_usedRoom 12 = .ok (.astore_n 3, 1) := by decide +kernel
theorem dL_usedRoom_13 : decode cL_usedRoom 13 = .ok (.iconst 1, 1) := by decide +kernel
theorem dL_usedRoom_14 : decode cL_usedRoom 14 = .ok (.ireturn, 1) := by decide +kernel
theorem dL_usedRoom_15 : decode cL_usedRoom 15 = .ok (.iconst 0, 1) := by decide +kernel
theorem dL_usedRoom_16 : decode cL_usedRoom 16 = .ok (.ireturn, 1) := by decide +kernel
theorem dL_freeRoom_0 : decode cL_freeRoom 0 = .ok (.aload_n 2, 1) := by decide +kernel
theorem dL_freeRoom_1 : decode cL_freeRoom 1 = .ok (.iconst 0, 1) := by decide +kernel
theorem dL_freeRoom_2 : decode cL_freeRoom 2 = .ok (.aload_n 0, 1) := by decide +kernel
theorem dL_freeRoom_3 : decode cL_freeRoom 3 = .ok (.iload_n 1, 1) := by decide +kernel
theorem dL_freeRoom_4 : decode cL_freeRoom 4 = .ok (.invokevirtual 85, 3) := by decide +kernel
theorem dL_freeRoom_7 : decode cL_freeRoom 7 = .ok (.i2l, 1) := by decide +kernel
theorem dL_freeRoom_8 : decode cL_freeRoom 8 = .ok (.lastore, 1) := by decide +kernel
theorem dL_freeRoom_9 : decode cL_freeRoom 9 = .ok (.goto 6, 3) := by decide +kernel
theorem dL_freeRoom_12 : decode cL_freeRoom 12 = .ok (.astore_n 3, 1) := by decide +kernel
theorem dL_freeRoom_13 : decode cL_freeRoom 13 = .ok (.iconst 1, 1) := by decide +kernel
theorem dL_freeRoom_14 : decode cL_freeRoom 14 = .ok (.ireturn, 1) := by decide +kernel
theorem dL_freeRoom_15 : decode cL_freeRoom 15 = .ok (.iconst 0, 1) := by decide +kernel
theorem dL_freeRoom_16 : decode cL_freeRoom 16 = .ok (.ireturn, 1) := by decide +kernel
theorem dL_deadlineIn_0 : decode cL_deadlineIn 0 = .ok (.aload_n 2, 1) := by decide +kernel
theorem dL_deadlineIn_1 : decode cL_deadlineIn 1 = .ok (.iconst 0, 1) := by decide +kernel
theorem dL_deadlineIn_2 : decode cL_deadlineIn 2 = .ok (.aload_n 0, 1) := by decide +kernel
theorem dL_deadlineIn_3 : decode cL_deadlineIn 3 = .ok (.iload_n 1, 1) := by decide +kernel
theorem dL_deadlineIn_4 : decode cL_deadlineIn 4 = .ok (.invokevirtual 88, 3) := by decide +kernel
theorem dL_deadlineIn_7 : decode cL_deadlineIn 7 = .ok (.i2l, 1) := by decide +kernel
theorem dL_deadlineIn_8 : decode cL_deadlineIn 8 = .ok (.lastore, 1) := by decide +kernel
theorem dL_deadlineIn_9 : decode cL_deadlineIn 9 = .ok (.goto 6, 3) := by decide +kernel
theorem dL_deadlineIn_12 : decode cL_deadlineIn 12 = .ok (.astore_n 3, 1) := by decide +kernel
theorem dL_deadlineIn_13 : decode cL_deadlineIn 13 = .ok (.iconst 1, 1) := by decide +kernel
theorem dL_deadlineIn_14 : decode cL_deadlineIn 14 = .ok (.ireturn, 1) := by decide +kernel
theorem dL_deadlineIn_15 : decode cL_deadlineIn 15 = .ok (.iconst 0, 1) := by decide +kernel
theorem dL_deadlineIn_16 : decode cL_deadlineIn 16 = .ok (.ireturn, 1) := by decide +kernel
theorem dL_replica_0 : decode cL_replica 0 = .ok (.aload_n 3, 1) := by decide +kernel
theorem dL_replica_1 : decode cL_replica 1 = .ok (.iconst 0, 1) := by decide +kernel
theorem dL_replica_2 : decode cL_replica 2 = .ok (.aload_n 0, 1) := by decide +kernel
theorem dL_replica_3 : decode cL_replica 3 = .ok (.iload_n 1, 1) := by decide +kernel
theorem dL_replica_4 : decode cL_replica 4 = .ok (.iload_n 2, 1) := by decide +kernel
theorem dL_replica_5 : decode cL_replica 5 = .ok (.invokevirtual 91, 3) := by decide +kernel
theorem dL_replica_8 : decode cL_replica 8 = .ok (.i2l, 1) := by decide +kernel
theorem dL_replica_9 : decode cL_replica 9 = .ok (.lastore, 1) := by decide +kernel
theorem dL_replica_10 : decode cL_replica 10 = .ok (.goto 7, 3) := by decide +kernel
theorem dL_replica_13 : decode cL_replica 13 = .ok (.astore 4, 2) := by decide +kernel
theorem dL_replica_15 : decode cL_replica 15 = .ok (.iconst 1, 1) := by decide +kernel
theorem dL_replica_16 : decode cL_replica 16 = .ok (.ireturn, 1) := by decide +kernel
theorem dL_replica_17 : decode cL_replica 17 = .ok (.iconst 0, 1) := by decide +kernel
theorem dL_replica_18 : decode cL_replica 18 = .ok (.ireturn, 1) := by decide +kernel
theorem dL_transfer_0 : decode cL_transfer 0 = .ok (.aload_n 2, 1) := by decide +kernel
theorem dL_transfer_1 : decode cL_transfer 1 = .ok (.iconst 0, 1) := by decide +kernel
theorem dL_transfer_2 : decode cL_transfer 2 = .ok (.aload_n 0, 1) := by decide +kernel
theorem dL_transfer_3 : decode cL_transfer 3 = .ok (.iload_n 1, 1) := by decide +kernel
theorem dL_transfer_4 : decode cL_transfer 4 = .ok (.invokevirtual 94, 3) := by decide +kernel
theorem dL_transfer_7 : decode cL_transfer 7 = .ok (.i2l, 1) := by decide +kernel
theorem dL_transfer_8 : decode cL_transfer 8 = .ok (.lastore, 1) := by decide +kernel
theorem dL_transfer_9 : decode cL_transfer 9 = .ok (.goto 6, 3) := by decide +kernel
theorem dL_transfer_12 : decode cL_transfer 12 = .ok (.astore_n 3, 1) := by decide +kernel
theorem dL_transfer_13 : decode cL_transfer 13 = .ok (.iconst 1, 1) := by decide +kernel
theorem dL_transfer_14 : decode cL_transfer 14 = .ok (.ireturn, 1) := by decide +kernel
theorem dL_transfer_15 : decode cL_transfer 15 = .ok (.iconst 0, 1) := by decide +kernel
theorem dL_transfer_16 : decode cL_transfer 16 = .ok (.ireturn, 1) := by decide +kernel
theorem dL_lostWithout_0 : decode cL_lostWithout 0 = .ok (.aload_n 2, 1) := by decide +kernel
theorem dL_lostWithout_1 : decode cL_lostWithout 1 = .ok (.iconst 0, 1) := by decide +kernel
theorem dL_lostWithout_2 : decode cL_lostWithout 2 = .ok (.aload_n 0, 1) := by decide +kernel
theorem dL_lostWithout_3 : decode cL_lostWithout 3 = .ok (.iload_n 1, 1) := by decide +kernel
theorem dL_lostWithout_4 : decode cL_lostWithout 4 = .ok (.invokevirtual 97, 3) := by decide +kernel
theorem dL_lostWithout_7 : decode cL_lostWithout 7 = .ok (.i2l, 1) := by decide +kernel
theorem dL_lostWithout_8 : decode cL_lostWithout 8 = .ok (.lastore, 1) := by decide +kernel
theorem dL_lostWithout_9 : decode cL_lostWithout 9 = .ok (.goto 6, 3) := by decide +kernel
theorem dL_lostWithout_12 : decode cL_lostWithout 12 = .ok (.astore_n 3, 1) := by decide +kernel
theorem dL_lostWithout_13 : decode cL_lostWithout 13 = .ok (.iconst 1, 1) := by decide +kernel
theorem dL_lostWithout_14 : decode cL_lostWithout 14 = .ok (.ireturn, 1) := by decide +kernel
theorem dL_lostWithout_15 : decode cL_lostWithout 15 = .ok (.iconst 0, 1) := by decide +kernel
theorem dL_lostWithout_16 : decode cL_lostWithout 16 = .ok (.ireturn, 1) := by decide +kernel
theorem dL_lostIn_0 : decode cL_lostIn 0 = .ok (.aload_n 2, 1) := by decide +kernel
theorem dL_lostIn_1 : decode cL_lostIn 1 = .ok (.iconst 0, 1) := by decide +kernel
theorem dL_lostIn_2 : decode cL_lostIn 2 = .ok (.aload_n 0, 1) := by decide +kernel
theorem dL_lostIn_3 : decode cL_lostIn 3 = .ok (.iload_n 1, 1) := by decide +kernel
theorem dL_lostIn_4 : decode cL_lostIn 4 = .ok (.invokevirtual 100, 3) := by decide +kernel
theorem dL_lostIn_7 : decode cL_lostIn 7 = .ok (.i2l, 1) := by decide +kernel
theorem dL_lostIn_8 : decode cL_lostIn 8 = .ok (.lastore, 1) := by decide +kernel
theorem dL_lostIn_9 : decode cL_lostIn 9 = .ok (.goto 6, 3) := by decide +kernel
theorem dL_lostIn_12 : decode cL_lostIn 12 = .ok (.astore_n 3, 1) := by decide +kernel
theorem dL_lostIn_13 : decode cL_lostIn 13 = .ok (.iconst 1, 1) := by decide +kernel
theorem dL_lostIn_14 : decode cL_lostIn 14 = .ok (.ireturn, 1) := by decide +kernel
theorem dL_lostIn_15 : decode cL_lostIn 15 = .ok (.iconst 0, 1) := by decide +kernel
theorem dL_lostIn_16 : decode cL_lostIn 16 = .ok (.ireturn, 1) := by decide +kernel
theorem dL_law_0 : decode cL_law 0 = .ok (.new 8, 3) := by decide +kernel
theorem dL_law_3 : decode cL_law 3 = .ok (.dup, 1) := by decide +kernel
theorem dL_law_4 : decode cL_law 4 = .ok (.invokespecial 103, 3) := by decide +kernel
theorem dL_law_7 : decode cL_law 7 = .ok (.astore_n 1, 1) := by decide +kernel
theorem dL_law_8 : decode cL_law 8 = .ok (.new 104, 3) := by decide +kernel
theorem dL_law_11 : decode cL_law 11 = .ok (.dup, 1) := by decide +kernel
theorem dL_law_12 : decode cL_law 12 = .ok (.invokespecial 106, 3) := by decide +kernel
theorem dL_law_15 : decode cL_law 15 = .ok (.astore_n 2, 1) := by decide +kernel
theorem dL_law_16 : decode cL_law 16 = .ok (.iconst 1, 1) := by decide +kernel
theorem dL_law_17 : decode cL_law 17 = .ok (.newarray .long, 2) := by decide +kernel
theorem dL_law_19 : decode cL_law 19 = .ok (.astore_n 3, 1) := by decide +kernel
theorem dL_law_20 : decode cL_law 20 = .ok (.iconst 0, 1) := by decide +kernel
theorem dL_law_21 : decode cL_law 21 = .ok (.istore 4, 2) := by decide +kernel
theorem dL_law_23 : decode cL_law 23 = .ok (.iload 4, 2) := by decide +kernel
theorem dL_law_25 : decode cL_law 25 = .ok (.aload_n 0, 1) := by decide +kernel
theorem dL_law_26 : decode cL_law 26 = .ok (.arraylength, 1) := by decide +kernel
theorem dL_law_27 : decode cL_law 27 = .ok (.iconst 3, 1) := by decide +kernel
theorem dL_law_28 : decode cL_law 28 = .ok (.isub, 1) := by decide +kernel
theorem dL_law_29 : decode cL_law 29 = .ok (.if_icmp .gt 1888, 3) := by decide +kernel
theorem dL_law_32 : decode cL_law 32 = .ok (.aload_n 0, 1) := by decide +kernel
theorem dL_law_33 : decode cL_law 33 = .ok (.iload 4, 2) := by decide +kernel
theorem dL_law_35 : decode cL_law 35 = .ok (.iaload, 1) := by decide +kernel
theorem dL_law_36 : decode cL_law 36 = .ok (.bipush 63, 2) := by decide +kernel
theorem dL_law_38 : decode cL_law 38 = .ok (.iand, 1) := by decide +kernel
theorem dL_law_39 : decode cL_law 39 = .ok (.tableswitch 1872 0 35 #[157, 225, 293, 349, 405, 473, 541, 597, 653, 709, 765, 821, 877, 890, 903, 947, 991, 1047, 1103, 1159, 1215, 1271, 1327, 1390, 1446, 1502, 1558, 1626, 1682, 1695, 1708, 1764, 1777, 1833, 1846, 1859], 157) := by decide +kernel
theorem dL_law_196 : decode cL_law 196 = .ok (.aload_n 1, 1) := by decide +kernel
theorem dL_law_197 : decode cL_law 197 = .ok (.aload_n 0, 1) := by decide +kernel
theorem dL_law_198 : decode cL_law 198 = .ok (.iload 4, 2) := by decide +kernel
theorem dL_law_200 : decode cL_law 200 = .ok (.iconst 1, 1) := by decide +kernel
theorem dL_law_201 : decode cL_law 201 = .ok (.iadd, 1) := by decide +kernel
theorem dL_law_202 : decode cL_law 202 = .ok (.iaload, 1) := by decide +kernel
theorem dL_law_203 : decode cL_law 203 = .ok (.aload_n 0, 1) := by decide +kernel
theorem dL_law_204 : decode cL_law 204 = .ok (.iload 4, 2) := by decide +kernel
theorem dL_law_206 : decode cL_law 206 = .ok (.iconst 2, 1) := by decide +kernel
theorem dL_law_207 : decode cL_law 207 = .ok (.iadd, 1) := by decide +kernel
theorem dL_law_208 : decode cL_law 208 = .ok (.iaload, 1) := by decide +kernel
theorem dL_law_209 : decode cL_law 209 = .ok (.aload_n 3, 1) := by decide +kernel
theorem dL_law_210 : decode cL_law 210 = .ok (.invokestatic 107, 3) := by decide +kernel
theorem dL_law_213 : decode cL_law 213 = .ok (.istore 5, 2) := by decide +kernel
theorem dL_law_215 : decode cL_law 215 = .ok (.aload_n 2, 1) := by decide +kernel
theorem dL_law_216 : decode cL_law 216 = .ok (.aload_n 0, 1) := by decide +kernel
theorem dL_law_217 : decode cL_law 217 = .ok (.iload 4, 2) := by decide +kernel
theorem dL_law_219 : decode cL_law 219 = .ok (.iconst 1, 1) := by decide +kernel
theorem dL_law_220 : decode cL_law 220 = .ok (.iadd, 1) := by decide +kernel
theorem dL_law_221 : decode cL_law 221 = .ok (.iaload, 1) := by decide +kernel
theorem dL_law_222 : decode cL_law 222 = .ok (.aload_n 0, 1) := by decide +kernel
theorem dL_law_223 : decode cL_law 223 = .ok (.iload 4, 2) := by decide +kernel
theorem dL_law_225 : decode cL_law 225 = .ok (.iconst 2, 1) := by decide +kernel
theorem dL_law_226 : decode cL_law 226 = .ok (.iadd, 1) := by decide +kernel
theorem dL_law_227 : decode cL_law 227 = .ok (.iaload, 1) := by decide +kernel
theorem dL_law_228 : decode cL_law 228 = .ok (.invokevirtual 112, 3) := by decide +kernel
theorem dL_law_231 : decode cL_law 231 = .ok (.istore 6, 2) := by decide +kernel
theorem dL_law_233 : decode cL_law 233 = .ok (.aload_n 2, 1) := by decide +kernel
theorem dL_law_234 : decode cL_law 234 = .ok (.invokevirtual 113, 3) := by decide +kernel
theorem dL_law_237 : decode cL_law 237 = .ok (.iload 5, 2) := by decide +kernel
theorem dL_law_239 : decode cL_law 239 = .ok (.if_icmp .eq 5, 3) := by decide +kernel
theorem dL_law_242 : decode cL_law 242 = .ok (.iconst 0, 1) := by decide +kernel
theorem dL_law_243 : decode cL_law 243 = .ok (.ireturn, 1) := by decide +kernel
theorem dL_law_244 : decode cL_law 244 = .ok (.iload 5, 2) := by decide +kernel
theorem dL_law_246 : decode cL_law 246 = .ok (.ifCond .ne 15, 3) := by decide +kernel
theorem dL_law_249 : decode cL_law 249 = .ok (.aload_n 3, 1) := by decide +kernel
theorem dL_law_250 : decode cL_law 250 = .ok (.iconst 0, 1) := by decide +kernel
theorem dL_law_251 : decode cL_law 251 = .ok (.laload, 1) := by decide +kernel
theorem dL_law_252 : decode cL_law 252 = .ok (.iload 6, 2) := by decide +kernel
theorem dL_law_254 : decode cL_law 254 = .ok (.i2l, 1) := by decide +kernel
theorem dL_law_255 : decode cL_law 255 = .ok (.lcmp, 1) := by decide +kernel
theorem dL_law_256 : decode cL_law 256 = .ok (.ifCond .eq 5, 3) := by decide +kernel
theorem dL_law_259 : decode cL_law 259 = .ok (.iconst 0, 1) := by decide +kernel
theorem dL_law_260 : decode cL_law 260 = .ok (.ireturn, 1) := by decide +kernel
theorem dL_law_261 : decode cL_law 261 = .ok (.goto 1650, 3) := by decide +kernel
theorem dL_law_264 : decode cL_law 264 = .ok (.aload_n 1, 1) := by decide +kernel
theorem dL_law_265 : decode cL_law 265 = .ok (.aload_n 0, 1) := by decide +kernel
theorem dL_law_266 : decode cL_law 266 = .ok (.iload 4, 2) := by decide +kernel
theorem dL_law_268 : decode cL_law 268 = .ok (.iconst 1, 1) := by decide +kernel
theorem dL_law_269 : decode cL_law 269 = .ok (.iadd, 1) := by decide +kernel
theorem dL_law_270 : decode cL_law 270 = .ok (.iaload, 1) := by decide +kernel
theorem dL_law_271 : decode cL_law 271 = .ok (.aload_n 0, 1) := by decide +kernel
theorem dL_law_272 : decode cL_law 272 = .ok (.iload 4, 2) := by decide +kernel
theorem dL_law_274 : decode cL_law 274 = .ok (.iconst 2, 1) := by decide +kernel
theorem dL_law_275 : decode cL_law 275 = .ok (.iadd, 1) := by decide +kernel
theorem dL_law_276 : decode cL_law 276 = .ok (.iaload, 1) := by decide +kernel
theorem dL_law_277 : decode cL_law 277 = .ok (.aload_n 3, 1) := by decide +kernel
theorem dL_law_278 : decode cL_law 278 = .ok (.invokestatic 116, 3) := by decide +kernel
theorem dL_law_281 : decode cL_law 281 = .ok (.istore 5, 2) := by decide +kernel
theorem dL_law_283 : decode cL_law 283 = .ok (.aload_n 2, 1) := by decide +kernel
theorem dL_law_284 : decode cL_law 284 = .ok (.aload_n 0, 1) := by decide +kernel
theorem dL_law_285 : decode cL_law 285 = .ok (.iload 4, 2) := by decide +kernel
theorem dL_law_287 : decode cL_law 287 = .ok (.iconst 1, 1) := by decide +kernel
theorem dL_law_288 : decode cL_law 288 = .ok (.iadd, 1) := by decide +kernel
theorem dL_law_289 : decode cL_law 289 = .ok (.iaload, 1) := by decide +kernel
theorem dL_law_290 : decode cL_law 290 = .ok (.aload_n 0, 1) := by decide +kernel
theorem dL_law_291 : decode cL_law 291 = .ok (.iload 4, 2) := by decide +kernel
theorem dL_law_293 : decode cL_law 293 = .ok (.iconst 2, 1) := by decide +kernel
theorem dL_law_294 : decode cL_law 294 = .ok (.iadd, 1) := by decide +kernel
theorem dL_law_295 : decode cL_law 295 = .ok (.iaload, 1) := by decide +kernel
theorem dL_law_296 : decode cL_law 296 = .ok (.invokevirtual 118, 3) := by decide +kernel
theorem dL_law_299 : decode cL_law 299 = .ok (.istore 6, 2) := by decide +kernel
theorem dL_law_301 : decode cL_law 301 = .ok (.aload_n 2, 1) := by decide +kernel
theorem dL_law_302 : decode cL_law 302 = .ok (.invokevirtual 113, 3) := by decide +kernel
theorem dL_law_305 : decode cL_law 305 = .ok (.iload 5, 2) := by decide +kernel
theorem dL_law_307 : decode cL_law 307 = .ok (.if_icmp .eq 5, 3) := by decide +kernel
theorem dL_law_310 : decode cL_law 310 = .ok (.iconst 0, 1) := by decide +kernel
theorem dL_law_311 : decode cL_law 311 = .ok (.ireturn, 1) := by decide +kernel
theorem dL_law_312 : decode cL_law 312 = .ok (.iload 5, 2) := by decide +kernel
theorem dL_law_314 : decode cL_law 314 = .ok (.ifCond .ne 15, 3) := by decide +kernel
theorem dL_law_317 : decode cL_law 317 = .ok (.aload_n 3, 1) := by decide +kernel
theorem dL_law_318 : decode cL_law 318 = .ok (.iconst 0, 1) := by decide +kernel
theorem dL_law_319 : decode cL_law 319 = .ok (.laload, 1) := by decide +kernel
theorem dL_law_320 : decode cL_law 320 = .ok (.iload 6, 2) := by decide +kernel
theorem dL_law_322 : decode cL_law 322 = .ok (.i2l, 1) := by decide +kernel
theorem dL_law_323 : decode cL_law 323 = .ok (.lcmp, 1) := by decide +kernel
theorem dL_law_324 : decode cL_law 324 = .ok (.ifCond .eq 5, 3) := by decide +kernel
theorem dL_law_327 : decode cL_law 327 = .ok (.iconst 0, 1) := by decide +kernel
theorem dL_law_328 : decode cL_law 328 = .ok (.ireturn, 1) := by decide +kernel
theorem dL_law_329 : decode cL_law 329 = .ok (.goto 1582, 3) := by decide +kernel
theorem dL_law_332 : decode cL_law 332 = .ok (.aload_n 1, 1) := by decide +kernel
theorem dL_law_333 : decode cL_law 333 = .ok (.aload_n 0, 1) := by decide +kernel
theorem dL_law_334 : decode cL_law 334 = .ok (.iload 4, 2) := by decide +kernel
theorem dL_law_336 : decode cL_law 336 = .ok (.iconst 1, 1) := by decide +kernel
theorem dL_law_337 : decode cL_law 337 = .ok (.iadd, 1) := by decide +kernel
theorem dL_law_338 : decode cL_law 338 = .ok (.iaload, 1) := by decide +kernel
theorem dL_law_339 : decode cL_law 339 = .ok (.aload_n 3, 1) := by decide +kernel
theorem dL_law_340 : decode cL_law 340 = .ok (.invokestatic 119, 3) := by decide +kernel
theorem dL_law_343 : decode cL_law 343 = .ok (.istore 5, 2) := by decide +kernel
theorem dL_law_345 : decode cL_law 345 = .ok (.aload_n 2, 1) := by decide +kernel
theorem dL_law_346 : decode cL_law 346 = .ok (.aload_n 0, 1) := by decide +kernel
theorem dL_law_347 : decode cL_law 347 = .ok (.iload 4, 2) := by decide +kernel
theorem dL_law_349 : decode cL_law 349 = .ok (.iconst 1, 1) := by decide +kernel
theorem dL_law_350 : decode cL_law 350 = .ok (.iadd, 1) := by decide +kernel
theorem dL_law_351 : decode cL_law 351 = .ok (.iaload, 1) := by decide +kernel
theorem dL_law_352 : decode cL_law 352 = .ok (.invokevirtual 122, 3) := by decide +kernel
theorem dL_law_355 : decode cL_law 355 = .ok (.istore 6, 2) := by decide +kernel
theorem dL_law_357 : decode cL_law 357 = .ok (.aload_n 2, 1) := by decide +kernel
theorem dL_law_358 : decode cL_law 358 = .ok (.invokevirtual 113, 3) := by decide +kernel
theorem dL_law_361 : decode cL_law 361 = .ok (.iload 5, 2) := by decide +kernel
theorem dL_law_363 : decode cL_law 363 = .ok (.if_icmp .eq 5, 3) := by decide +kernel
theorem dL_law_366 : decode cL_law 366 = .ok (.iconst 0, 1) := by decide +kernel
theorem dL_law_367 : decode cL_law 367 = .ok (.ireturn, 1) := by decide +kernel
theorem dL_law_368 : decode cL_law 368 = .ok (.iload 5, 2) := by decide +kernel
theorem dL_law_370 : decode cL_law 370 = .ok (.ifCond .ne 15, 3) := by decide +kernel
theorem dL_law_373 : decode cL_law 373 = .ok (.aload_n 3, 1) := by decide +kernel
theorem dL_law_374 : decode cL_law 374 = .ok (.iconst 0, 1) := by decide +kernel
theorem dL_law_375 : decode cL_law 375 = .ok (.laload, 1) := by decide +kernel
theorem dL_law_376 : decode cL_law 376 = .ok (.iload 6, 2) := by decide +kernel
theorem dL_law_378 : decode cL_law 378 = .ok (.i2l, 1) := by decide +kernel
theorem dL_law_379 : decode cL_law 379 = .ok (.lcmp, 1) := by decide +kernel
theorem dL_law_380 : decode cL_law 380 = .ok (.ifCond .eq 5, 3) := by decide +kernel
theorem dL_law_383 : decode cL_law 383 = .ok (.iconst 0, 1) := by decide +kernel
theorem dL_law_384 : decode cL_law 384 = .ok (.ireturn, 1) := by decide +kernel
theorem dL_law_385 : decode cL_law 385 = .ok (.goto 1526, 3) := by decide +kernel
theorem dL_law_388 : decode cL_law 388 = .ok (.aload_n 1, 1) := by decide +kernel
theorem dL_law_389 : decode cL_law 389 = .ok (.aload_n 0, 1) := by decide +kernel
theorem dL_law_390 : decode cL_law 390 = .ok (.iload 4, 2) := by decide +kernel
theorem dL_law_392 : decode cL_law 392 = .ok (.iconst 1, 1) := by decide +kernel
theorem dL_law_393 : decode cL_law 393 = .ok (.iadd, 1) := by decide +kernel
theorem dL_law_394 : decode cL_law 394 = .ok (.iaload, 1) := by decide +kernel
theorem dL_law_395 : decode cL_law 395 = .ok (.aload_n 3, 1) := by decide +kernel
theorem dL_law_396 : decode cL_law 396 = .ok (.invokestatic 123, 3) := by decide +kernel
theorem dL_law_399 : decode cL_law 399 = .ok (.istore 5, 2) := by decide +kernel
theorem dL_law_401 : decode cL_law 401 = .ok (.aload_n 2, 1) := by decide +kernel
theorem dL_law_402 : decode cL_law 402 = .ok (.aload_n 0, 1) := by decide +kernel
theorem dL_law_403 : decode cL_law 403 = .ok (.iload 4, 2) := by decide +kernel
theorem dL_law_405 : decode cL_law 405 = .ok (.iconst 1, 1) := by decide +kernel
theorem dL_law_406 : decode cL_law 406 = .ok (.iadd, 1) := by decide +kernel
theorem dL_law_407 : decode cL_law 407 = .ok (.iaload, 1) := by decide +kernel
theorem dL_law_408 : decode cL_law 408 = .ok (.invokevirtual 125, 3) := by decide +kernel
theorem dL_law_411 : decode cL_law 411 = .ok (.istore 6, 2) := by decide +kernel
theorem dL_law_413 : decode cL_law 413 = .ok (.aload_n 2, 1) := by decide +kernel
theorem dL_law_414 : decode cL_law 414 = .ok (.invokevirtual 113, 3) := by decide +kernel
theorem dL_law_417 : decode cL_law 417 = .ok (.iload 5, 2) := by decide +kernel
theorem dL_law_419 : decode cL_law 419 = .ok (.if_icmp .eq 5, 3) := by decide +kernel
theorem dL_law_422 : decode cL_law 422 = .ok (.iconst 0, 1) := by decide +kernel
theorem dL_law_423 : decode cL_law 423 = .ok (.ireturn, 1) := by decide +kernel
theorem dL_law_424 : decode cL_law 424 = .ok (.iload 5, 2) := by decide +kernel
theorem dL_law_426 : decode cL_law 426 = .ok (.ifCond .ne 15, 3) := by decide +kernel
theorem dL_law_429 : decode cL_law 429 = .ok (.aload_n 3, 1) := by decide +kernel
theorem dL_law_430 : decode cL_law 430 = .ok (.iconst 0, 1) := by decide +kernel
theorem dL_law_431 : decode cL_law 431 = .ok (.laload, 1) := by decide +kernel
theorem dL_law_432 : decode cL_law 432 = .ok (.iload 6, 2) := by decide +kernel
theorem dL_law_434 : decode cL_law 434 = .ok (.i2l, 1) := by decide +kernel
theorem dL_law_435 : decode cL_law 435 = .ok (.lcmp, 1) := by decide +kernel
theorem dL_law_436 : decode cL_law 436 = .ok (.ifCond .eq 5, 3) := by decide +kernel
theorem dL_law_439 : decode cL_law 439 = .ok (.iconst 0, 1) := by decide +kernel
theorem dL_law_440 : decode cL_law 440 = .ok (.ireturn, 1) := by decide +kernel
theorem dL_law_441 : decode cL_law 441 = .ok (.goto 1470, 3) := by decide +kernel
theorem dL_law_444 : decode cL_law 444 = .ok (.aload_n 1, 1) := by decide +kernel
theorem dL_law_445 : decode cL_law 445 = .ok (.aload_n 0, 1) := by decide +kernel
theorem dL_law_446 : decode cL_law 446 = .ok (.iload 4, 2) := by decide +kernel
theorem dL_law_448 : decode cL_law 448 = .ok (.iconst 1, 1) := by decide +kernel
theorem dL_law_449 : decode cL_law 449 = .ok (.iadd, 1) := by decide +kernel
theorem dL_law_450 : decode cL_law 450 = .ok (.iaload, 1) := by decide +kernel
theorem dL_law_451 : decode cL_law 451 = .ok (.aload_n 0, 1) := by decide +kernel
theorem dL_law_452 : decode cL_law 452 = .ok (.iload 4, 2) := by decide +kernel
theorem dL_law_454 : decode cL_law 454 = .ok (.iconst 2, 1) := by decide +kernel
theorem dL_law_455 : decode cL_law 455 = .ok (.iadd, 1) := by decide +kernel
theorem dL_law_456 : decode cL_law 456 = .ok (.iaload, 1) := by decide +kernel
theorem dL_law_457 : decode cL_law 457 = .ok (.aload_n 3, 1) := by decide +kernel
theorem dL_law_458 : decode cL_law 458 = .ok (.invokestatic 126, 3) := by decide +kernel
theorem dL_law_461 : decode cL_law 461 = .ok (.istore 5, 2) := by decide +kernel
theorem dL_law_463 : decode cL_law 463 = .ok (.aload_n 2, 1) := by decide +kernel
theorem dL_law_464 : decode cL_law 464 = .ok (.aload_n 0, 1) := by decide +kernel
theorem dL_law_465 : decode cL_law 465 = .ok (.iload 4, 2) := by decide +kernel
theorem dL_law_467 : decode cL_law 467 = .ok (.iconst 1, 1) := by decide +kernel
theorem dL_law_468 : decode cL_law 468 = .ok (.iadd, 1) := by decide +kernel
theorem dL_law_469 : decode cL_law 469 = .ok (.iaload, 1) := by decide +kernel
theorem dL_law_470 : decode cL_law 470 = .ok (.aload_n 0, 1) := by decide +kernel
theorem dL_law_471 : decode cL_law 471 = .ok (.iload 4, 2) := by decide +kernel
theorem dL_law_473 : decode cL_law 473 = .ok (.iconst 2, 1) := by decide +kernel
theorem dL_law_474 : decode cL_law 474 = .ok (.iadd, 1) := by decide +kernel
theorem dL_law_475 : decode cL_law 475 = .ok (.iaload, 1) := by decide +kernel
theorem dL_law_476 : decode cL_law 476 = .ok (.invokevirtual 128, 3) := by decide +kernel
theorem dL_law_479 : decode cL_law 479 = .ok (.istore 6, 2) := by decide +kernel
theorem dL_law_481 : decode cL_law 481 = .ok (.aload_n 2, 1) := by decide +kernel
theorem dL_law_482 : decode cL_law 482 = .ok (.invokevirtual 113, 3) := by decide +kernel
theorem dL_law_485 : decode cL_law 485 = .ok (.iload 5, 2) := by decide +kernel
theorem dL_law_487 : decode cL_law 487 = .ok (.if_icmp .eq 5, 3) := by decide +kernel
theorem dL_law_490 : decode cL_law 490 = .ok (.iconst 0, 1) := by decide +kernel
theorem dL_law_491 : decode cL_law 491 = .ok (.ireturn, 1) := by decide +kernel
theorem dL_law_492 : decode cL_law 492 = .ok (.iload 5, 2) := by decide +kernel
theorem dL_law_494 : decode cL_law 494 = .ok (.ifCond .ne 15, 3) := by decide +kernel
theorem dL_law_497 : decode cL_law 497 = .ok (.aload_n 3, 1) := by decide +kernel
theorem dL_law_498 : decode cL_law 498 = .ok (.iconst 0, 1) := by decide +kernel
theorem dL_law_499 : decode cL_law 499 = .ok (.laload, 1) := by decide +kernel
theorem dL_law_500 : decode cL_law 500 = .ok (.iload 6, 2) := by decide +kernel
theorem dL_law_502 : decode cL_law 502 = .ok (.i2l, 1) := by decide +kernel
theorem dL_law_503 : decode cL_law 503 = .ok (.lcmp, 1) := by decide +kernel
theorem dL_law_504 : decode cL_law 504 = .ok (.ifCond .eq 5, 3) := by decide +kernel
theorem dL_law_507 : decode cL_law 507 = .ok (.iconst 0, 1) := by decide +kernel
theorem dL_law_508 : decode cL_law 508 = .ok (.ireturn, 1) := by decide +kernel
theorem dL_law_509 : decode cL_law 509 = .ok (.goto 1402, 3) := by decide +kernel
theorem dL_law_512 : decode cL_law 512 = .ok (.aload_n 1, 1) := by decide +kernel
theorem dL_law_513 : decode cL_law 513 = .ok (.aload_n 0, 1) := by decide +kernel
theorem dL_law_514 : decode cL_law 514 = .ok (.iload 4, 2) := by decide +kernel
theorem dL_law_516 : decode cL_law 516 = .ok (.iconst 1, 1) := by decide +kernel
theorem dL_law_517 : decode cL_law 517 = .ok (.iadd, 1) := by decide +kernel
theorem dL_law_518 : decode cL_law 518 = .ok (.iaload, 1) := by decide +kernel
theorem dL_law_519 : decode cL_law 519 = .ok (.aload_n 0, 1) := by decide +kernel
theorem dL_law_520 : decode cL_law 520 = .ok (.iload 4, 2) := by decide +kernel
theorem dL_law_522 : decode cL_law 522 = .ok (.iconst 2, 1) := by decide +kernel
theorem dL_law_523 : decode cL_law 523 = .ok (.iadd, 1) := by decide +kernel
theorem dL_law_524 : decode cL_law 524 = .ok (.iaload, 1) := by decide +kernel
theorem dL_law_525 : decode cL_law 525 = .ok (.aload_n 3, 1) := by decide +kernel
theorem dL_law_526 : decode cL_law 526 = .ok (.invokestatic 129, 3) := by decide +kernel
theorem dL_law_529 : decode cL_law 529 = .ok (.istore 5, 2) := by decide +kernel
theorem dL_law_531 : decode cL_law 531 = .ok (.aload_n 2, 1) := by decide +kernel
theorem dL_law_532 : decode cL_law 532 = .ok (.aload_n 0, 1) := by decide +kernel
theorem dL_law_533 : decode cL_law 533 = .ok (.iload 4, 2) := by decide +kernel
theorem dL_law_535 : decode cL_law 535 = .ok (.iconst 1, 1) := by decide +kernel
theorem dL_law_536 : decode cL_law 536 = .ok (.iadd, 1) := by decide +kernel
theorem dL_law_537 : decode cL_law 537 = .ok (.iaload, 1) := by decide +kernel
theorem dL_law_538 : decode cL_law 538 = .ok (.aload_n 0, 1) := by decide +kernel
theorem dL_law_539 : decode cL_law 539 = .ok (.iload 4, 2) := by decide +kernel
theorem dL_law_541 : decode cL_law 541 = .ok (.iconst 2, 1) := by decide +kernel
theorem dL_law_542 : decode cL_law 542 = .ok (.iadd, 1) := by decide +kernel
theorem dL_law_543 : decode cL_law 543 = .ok (.iaload, 1) := by decide +kernel
theorem dL_law_544 : decode cL_law 544 = .ok (.invokevirtual 131, 3) := by decide +kernel
theorem dL_law_547 : decode cL_law 547 = .ok (.istore 6, 2) := by decide +kernel
theorem dL_law_549 : decode cL_law 549 = .ok (.aload_n 2, 1) := by decide +kernel
theorem dL_law_550 : decode cL_law 550 = .ok (.invokevirtual 113, 3) := by decide +kernel
theorem dL_law_553 : decode cL_law 553 = .ok (.iload 5, 2) := by decide +kernel
theorem dL_law_555 : decode cL_law 555 = .ok (.if_icmp .eq 5, 3) := by decide +kernel
theorem dL_law_558 : decode cL_law 558 = .ok (.iconst 0, 1) := by decide +kernel
theorem dL_law_559 : decode cL_law 559 = .ok (.ireturn, 1) := by decide +kernel
theorem dL_law_560 : decode cL_law 560 = .ok (.iload 5, 2) := by decide +kernel
theorem dL_law_562 : decode cL_law 562 = .ok (.ifCond .ne 15, 3) := by decide +kernel
theorem dL_law_565 : decode cL_law 565 = .ok (.aload_n 3, 1) := by decide +kernel
theorem dL_law_566 : decode cL_law 566 = .ok (.iconst 0, 1) := by decide +kernel
theorem dL_law_567 : decode cL_law 567 = .ok (.laload, 1) := by decide +kernel
theorem dL_law_568 : decode cL_law 568 = .ok (.iload 6, 2) := by decide +kernel
theorem dL_law_570 : decode cL_law 570 = .ok (.i2l, 1) := by decide +kernel
theorem dL_law_571 : decode cL_law 571 = .ok (.lcmp, 1) := by decide +kernel
theorem dL_law_572 : decode cL_law 572 = .ok (.ifCond .eq 5, 3) := by decide +kernel
theorem dL_law_575 : decode cL_law 575 = .ok (.iconst 0, 1) := by decide +kernel
theorem dL_law_576 : decode cL_law 576 = .ok (.ireturn, 1) := by decide +kernel
theorem dL_law_577 : decode cL_law 577 = .ok (.goto 1334, 3) := by decide +kernel
theorem dL_law_580 : decode cL_law 580 = .ok (.aload_n 1, 1) := by decide +kernel
theorem dL_law_581 : decode cL_law 581 = .ok (.aload_n 0, 1) := by decide +kernel
theorem dL_law_582 : decode cL_law 582 = .ok (.iload 4, 2) := by decide +kernel
theorem dL_law_584 : decode cL_law 584 = .ok (.iconst 1, 1) := by decide +kernel
theorem dL_law_585 : decode cL_law 585 = .ok (.iadd, 1) := by decide +kernel
theorem dL_law_586 : decode cL_law 586 = .ok (.iaload, 1) := by decide +kernel
theorem dL_law_587 : decode cL_law 587 = .ok (.aload_n 3, 1) := by decide +kernel
theorem dL_law_588 : decode cL_law 588 = .ok (.invokestatic 132, 3) := by decide +kernel
theorem dL_law_591 : decode cL_law 591 = .ok (.istore 5, 2) := by decide +kernel
theorem dL_law_593 : decode cL_law 593 = .ok (.aload_n 2, 1) := by decide +kernel
theorem dL_law_594 : decode cL_law 594 = .ok (.aload_n 0, 1) := by decide +kernel
theorem dL_law_595 : decode cL_law 595 = .ok (.iload 4, 2) := by decide +kernel
theorem dL_law_597 : decode cL_law 597 = .ok (.iconst 1, 1) := by decide +kernel
theorem dL_law_598 : decode cL_law 598 = .ok (.iadd, 1) := by decide +kernel
theorem dL_law_599 : decode cL_law 599 = .ok (.iaload, 1) := by decide +kernel
theorem dL_law_600 : decode cL_law 600 = .ok (.invokevirtual 134, 3) := by decide +kernel
theorem dL_law_603 : decode cL_law 603 = .ok (.istore 6, 2) := by decide +kernel
theorem dL_law_605 : decode cL_law 605 = .ok (.aload_n 2, 1) := by decide +kernel
theorem dL_law_606 : decode cL_law 606 = .ok (.invokevirtual 113, 3) := by decide +kernel
theorem dL_law_609 : decode cL_law 609 = .ok (.iload 5, 2) := by decide +kernel
theorem dL_law_611 : decode cL_law 611 = .ok (.if_icmp .eq 5, 3) := by decide +kernel
theorem dL_law_614 : decode cL_law 614 = .ok (.iconst 0, 1) := by decide +kernel
theorem dL_law_615 : decode cL_law 615 = .ok (.ireturn, 1) := by decide +kernel
theorem dL_law_616 : decode cL_law 616 = .ok (.iload 5, 2) := by decide +kernel
theorem dL_law_618 : decode cL_law 618 = .ok (.ifCond .ne 15, 3) := by decide +kernel
theorem dL_law_621 : decode cL_law 621 = .ok (.aload_n 3, 1) := by decide +kernel
theorem dL_law_622 : decode cL_law 622 = .ok (.iconst 0, 1) := by decide +kernel
theorem dL_law_623 : decode cL_law 623 = .ok (.laload, 1) := by decide +kernel
theorem dL_law_624 : decode cL_law 624 = .ok (.iload 6, 2) := by decide +kernel
theorem dL_law_626 : decode cL_law 626 = .ok (.i2l, 1) := by decide +kernel
theorem dL_law_627 : decode cL_law 627 = .ok (.lcmp, 1) := by decide +kernel
theorem dL_law_628 : decode cL_law 628 = .ok (.ifCond .eq 5, 3) := by decide +kernel
theorem dL_law_631 : decode cL_law 631 = .ok (.iconst 0, 1) := by decide +kernel
theorem dL_law_632 : decode cL_law 632 = .ok (.ireturn, 1) := by decide +kernel
theorem dL_law_633 : decode cL_law 633 = .ok (.goto 1278, 3) := by decide +kernel
theorem dL_law_636 : decode cL_law 636 = .ok (.aload_n 1, 1) := by decide +kernel
theorem dL_law_637 : decode cL_law 637 = .ok (.aload_n 0, 1) := by decide +kernel
theorem dL_law_638 : decode cL_law 638 = .ok (.iload 4, 2) := by decide +kernel
theorem dL_law_640 : decode cL_law 640 = .ok (.iconst 1, 1) := by decide +kernel
theorem dL_law_641 : decode cL_law 641 = .ok (.iadd, 1) := by decide +kernel
theorem dL_law_642 : decode cL_law 642 = .ok (.iaload, 1) := by decide +kernel
theorem dL_law_643 : decode cL_law 643 = .ok (.aload_n 3, 1) := by decide +kernel
theorem dL_law_644 : decode cL_law 644 = .ok (.invokestatic 135, 3) := by decide +kernel
theorem dL_law_647 : decode cL_law 647 = .ok (.istore 5, 2) := by decide +kernel
theorem dL_law_649 : decode cL_law 649 = .ok (.aload_n 2, 1) := by decide +kernel
theorem dL_law_650 : decode cL_law 650 = .ok (.aload_n 0, 1) := by decide +kernel
theorem dL_law_651 : decode cL_law 651 = .ok (.iload 4, 2) := by decide +kernel
theorem dL_law_653 : decode cL_law 653 = .ok (.iconst 1, 1) := by decide +kernel
theorem dL_law_654 : decode cL_law 654 = .ok (.iadd, 1) := by decide +kernel
theorem dL_law_655 : decode cL_law 655 = .ok (.iaload, 1) := by decide +kernel
theorem dL_law_656 : decode cL_law 656 = .ok (.invokevirtual 137, 3) := by decide +kernel
theorem dL_law_659 : decode cL_law 659 = .ok (.istore 6, 2) := by decide +kernel
theorem dL_law_661 : decode cL_law 661 = .ok (.aload_n 2, 1) := by decide +kernel
theorem dL_law_662 : decode cL_law 662 = .ok (.invokevirtual 113, 3) := by decide +kernel
theorem dL_law_665 : decode cL_law 665 = .ok (.iload 5, 2) := by decide +kernel
theorem dL_law_667 : decode cL_law 667 = .ok (.if_icmp .eq 5, 3) := by decide +kernel
theorem dL_law_670 : decode cL_law 670 = .ok (.iconst 0, 1) := by decide +kernel
theorem dL_law_671 : decode cL_law 671 = .ok (.ireturn, 1) := by decide +kernel
theorem dL_law_672 : decode cL_law 672 = .ok (.iload 5, 2) := by decide +kernel
theorem dL_law_674 : decode cL_law 674 = .ok (.ifCond .ne 15, 3) := by decide +kernel
theorem dL_law_677 : decode cL_law 677 = .ok (.aload_n 3, 1) := by decide +kernel
theorem dL_law_678 : decode cL_law 678 = .ok (.iconst 0, 1) := by decide +kernel
theorem dL_law_679 : decode cL_law 679 = .ok (.laload, 1) := by decide +kernel
theorem dL_law_680 : decode cL_law 680 = .ok (.iload 6, 2) := by decide +kernel
theorem dL_law_682 : decode cL_law 682 = .ok (.i2l, 1) := by decide +kernel
theorem dL_law_683 : decode cL_law 683 = .ok (.lcmp, 1) := by decide +kernel
theorem dL_law_684 : decode cL_law 684 = .ok (.ifCond .eq 5, 3) := by decide +kernel
theorem dL_law_687 : decode cL_law 687 = .ok (.iconst 0, 1) := by decide +kernel
theorem dL_law_688 : decode cL_law 688 = .ok (.ireturn, 1) := by decide +kernel
theorem dL_law_689 : decode cL_law 689 = .ok (.goto 1222, 3) := by decide +kernel
theorem dL_law_692 : decode cL_law 692 = .ok (.aload_n 1, 1) := by decide +kernel
theorem dL_law_693 : decode cL_law 693 = .ok (.aload_n 0, 1) := by decide +kernel
theorem dL_law_694 : decode cL_law 694 = .ok (.iload 4, 2) := by decide +kernel
theorem dL_law_696 : decode cL_law 696 = .ok (.iconst 1, 1) := by decide +kernel
theorem dL_law_697 : decode cL_law 697 = .ok (.iadd, 1) := by decide +kernel
theorem dL_law_698 : decode cL_law 698 = .ok (.iaload, 1) := by decide +kernel
theorem dL_law_699 : decode cL_law 699 = .ok (.aload_n 3, 1) := by decide +kernel
theorem dL_law_700 : decode cL_law 700 = .ok (.invokestatic 138, 3) := by decide +kernel
theorem dL_law_703 : decode cL_law 703 = .ok (.istore 5, 2) := by decide +kernel
theorem dL_law_705 : decode cL_law 705 = .ok (.aload_n 2, 1) := by decide +kernel
theorem dL_law_706 : decode cL_law 706 = .ok (.aload_n 0, 1) := by decide +kernel
theorem dL_law_707 : decode cL_law 707 = .ok (.iload 4, 2) := by decide +kernel
theorem dL_law_709 : decode cL_law 709 = .ok (.iconst 1, 1) := by decide +kernel
theorem dL_law_710 : decode cL_law 710 = .ok (.iadd, 1) := by decide +kernel
theorem dL_law_711 : decode cL_law 711 = .ok (.iaload, 1) := by decide +kernel
theorem dL_law_712 : decode cL_law 712 = .ok (.invokevirtual 140, 3) := by decide +kernel
theorem dL_law_715 : decode cL_law 715 = .ok (.istore 6, 2) := by decide +kernel
theorem dL_law_717 : decode cL_law 717 = .ok (.aload_n 2, 1) := by decide +kernel
theorem dL_law_718 : decode cL_law 718 = .ok (.invokevirtual 113, 3) := by decide +kernel
theorem dL_law_721 : decode cL_law 721 = .ok (.iload 5, 2) := by decide +kernel
theorem dL_law_723 : decode cL_law 723 = .ok (.if_icmp .eq 5, 3) := by decide +kernel
theorem dL_law_726 : decode cL_law 726 = .ok (.iconst 0, 1) := by decide +kernel
theorem dL_law_727 : decode cL_law 727 = .ok (.ireturn, 1) := by decide +kernel
theorem dL_law_728 : decode cL_law 728 = .ok (.iload 5, 2) := by decide +kernel
theorem dL_law_730 : decode cL_law 730 = .ok (.ifCond .ne 15, 3) := by decide +kernel
theorem dL_law_733 : decode cL_law 733 = .ok (.aload_n 3, 1) := by decide +kernel
theorem dL_law_734 : decode cL_law 734 = .ok (.iconst 0, 1) := by decide +kernel
theorem dL_law_735 : decode cL_law 735 = .ok (.laload, 1) := by decide +kernel
theorem dL_law_736 : decode cL_law 736 = .ok (.iload 6, 2) := by decide +kernel
theorem dL_law_738 : decode cL_law 738 = .ok (.i2l, 1) := by decide +kernel
theorem dL_law_739 : decode cL_law 739 = .ok (.lcmp, 1) := by decide +kernel
theorem dL_law_740 : decode cL_law 740 = .ok (.ifCond .eq 5, 3) := by decide +kernel
theorem dL_law_743 : decode cL_law 743 = .ok (.iconst 0, 1) := by decide +kernel
theorem dL_law_744 : decode cL_law 744 = .ok (.ireturn, 1) := by decide +kernel
theorem dL_law_745 : decode cL_law 745 = .ok (.goto 1166, 3) := by decide +kernel
theorem dL_law_748 : decode cL_law 748 = .ok (.aload_n 1, 1) := by decide +kernel
theorem dL_law_749 : decode cL_law 749 = .ok (.aload_n 0, 1) := by decide +kernel
theorem dL_law_750 : decode cL_law 750 = .ok (.iload 4, 2) := by decide +kernel
theorem dL_law_752 : decode cL_law 752 = .ok (.iconst 1, 1) := by decide +kernel
theorem dL_law_753 : decode cL_law 753 = .ok (.iadd, 1) := by decide +kernel
theorem dL_law_754 : decode cL_law 754 = .ok (.iaload, 1) := by decide +kernel
theorem dL_law_755 : decode cL_law 755 = .ok (.aload_n 3, 1) := by decide +kernel
theorem dL_law_756 : decode cL_law 756 = .ok (.invokestatic 141, 3) := by decide +kernel
theorem dL_law_759 : decode cL_law 759 = .ok (.istore 5, 2) := by decide +kernel
theorem dL_law_761 : decode cL_law 761 = .ok (.aload_n 2, 1) := by decide +kernel
theorem dL_law_762 : decode cL_law 762 = .ok (.aload_n 0, 1) := by decide +kernel
theorem dL_law_763 : decode cL_law 763 = .ok (.iload 4, 2) := by decide +kernel
theorem dL_law_765 : decode cL_law 765 = .ok (.iconst 1, 1) := by decide +kernel
theorem dL_law_766 : decode cL_law 766 = .ok (.iadd, 1) := by decide +kernel
theorem dL_law_767 : decode cL_law 767 = .ok (.iaload, 1) := by decide +kernel
theorem dL_law_768 : decode cL_law 768 = .ok (.invokevirtual 143, 3) := by decide +kernel
theorem dL_law_771 : decode cL_law 771 = .ok (.istore 6, 2) := by decide +kernel
theorem dL_law_773 : decode cL_law 773 = .ok (.aload_n 2, 1) := by decide +kernel
theorem dL_law_774 : decode cL_law 774 = .ok (.invokevirtual 113, 3) := by decide +kernel
theorem dL_law_777 : decode cL_law 777 = .ok (.iload 5, 2) := by decide +kernel
theorem dL_law_779 : decode cL_law 779 = .ok (.if_icmp .eq 5, 3) := by decide +kernel
theorem dL_law_782 : decode cL_law 782 = .ok (.iconst 0, 1) := by decide +kernel
theorem dL_law_783 : decode cL_law 783 = .ok (.ireturn, 1) := by decide +kernel
theorem dL_law_784 : decode cL_law 784 = .ok (.iload 5, 2) := by decide +kernel
theorem dL_law_786 : decode cL_law 786 = .ok (.ifCond .ne 15, 3) := by decide +kernel
theorem dL_law_789 : decode cL_law 789 = .ok (.aload_n 3, 1) := by decide +kernel
theorem dL_law_790 : decode cL_law 790 = .ok (.iconst 0, 1) := by decide +kernel
theorem dL_law_791 : decode cL_law 791 = .ok (.laload, 1) := by decide +kernel
theorem dL_law_792 : decode cL_law 792 = .ok (.iload 6, 2) := by decide +kernel
theorem dL_law_794 : decode cL_law 794 = .ok (.i2l, 1) := by decide +kernel
theorem dL_law_795 : decode cL_law 795 = .ok (.lcmp, 1) := by decide +kernel
theorem dL_law_796 : decode cL_law 796 = .ok (.ifCond .eq 5, 3) := by decide +kernel
theorem dL_law_799 : decode cL_law 799 = .ok (.iconst 0, 1) := by decide +kernel
theorem dL_law_800 : decode cL_law 800 = .ok (.ireturn, 1) := by decide +kernel
theorem dL_law_801 : decode cL_law 801 = .ok (.goto 1110, 3) := by decide +kernel
theorem dL_law_804 : decode cL_law 804 = .ok (.aload_n 1, 1) := by decide +kernel
theorem dL_law_805 : decode cL_law 805 = .ok (.aload_n 0, 1) := by decide +kernel
theorem dL_law_806 : decode cL_law 806 = .ok (.iload 4, 2) := by decide +kernel
theorem dL_law_808 : decode cL_law 808 = .ok (.iconst 1, 1) := by decide +kernel
theorem dL_law_809 : decode cL_law 809 = .ok (.iadd, 1) := by decide +kernel
theorem dL_law_810 : decode cL_law 810 = .ok (.iaload, 1) := by decide +kernel
theorem dL_law_811 : decode cL_law 811 = .ok (.aload_n 3, 1) := by decide +kernel
theorem dL_law_812 : decode cL_law 812 = .ok (.invokestatic 144, 3) := by decide +kernel
theorem dL_law_815 : decode cL_law 815 = .ok (.istore 5, 2) := by decide +kernel
theorem dL_law_817 : decode cL_law 817 = .ok (.aload_n 2, 1) := by decide +kernel
theorem dL_law_818 : decode cL_law 818 = .ok (.aload_n 0, 1) := by decide +kernel
theorem dL_law_819 : decode cL_law 819 = .ok (.iload 4, 2) := by decide +kernel
theorem dL_law_821 : decode cL_law 821 = .ok (.iconst 1, 1) := by decide +kernel
theorem dL_law_822 : decode cL_law 822 = .ok (.iadd, 1) := by decide +kernel
theorem dL_law_823 : decode cL_law 823 = .ok (.iaload, 1) := by decide +kernel
theorem dL_law_824 : decode cL_law 824 = .ok (.invokevirtual 146, 3) := by decide +kernel
theorem dL_law_827 : decode cL_law 827 = .ok (.istore 6, 2) := by decide +kernel
theorem dL_law_829 : decode cL_law 829 = .ok (.aload_n 2, 1) := by decide +kernel
theorem dL_law_830 : decode cL_law 830 = .ok (.invokevirtual 113, 3) := by decide +kernel
theorem dL_law_833 : decode cL_law 833 = .ok (.iload 5, 2) := by decide +kernel
theorem dL_law_835 : decode cL_law 835 = .ok (.if_icmp .eq 5, 3) := by decide +kernel
theorem dL_law_838 : decode cL_law 838 = .ok (.iconst 0, 1) := by decide +kernel
theorem dL_law_839 : decode cL_law 839 = .ok (.ireturn, 1) := by decide +kernel
theorem dL_law_840 : decode cL_law 840 = .ok (.iload 5, 2) := by decide +kernel
theorem dL_law_842 : decode cL_law 842 = .ok (.ifCond .ne 15, 3) := by decide +kernel
theorem dL_law_845 : decode cL_law 845 = .ok (.aload_n 3, 1) := by decide +kernel
theorem dL_law_846 : decode cL_law 846 = .ok (.iconst 0, 1) := by decide +kernel
theorem dL_law_847 : decode cL_law 847 = .ok (.laload, 1) := by decide +kernel
theorem dL_law_848 : decode cL_law 848 = .ok (.iload 6, 2) := by decide +kernel
theorem dL_law_850 : decode cL_law 850 = .ok (.i2l, 1) := by decide +kernel
theorem dL_law_851 : decode cL_law 851 = .ok (.lcmp, 1) := by decide +kernel
theorem dL_law_852 : decode cL_law 852 = .ok (.ifCond .eq 5, 3) := by decide +kernel
theorem dL_law_855 : decode cL_law 855 = .ok (.iconst 0, 1) := by decide +kernel
theorem dL_law_856 : decode cL_law 856 = .ok (.ireturn, 1) := by decide +kernel
theorem dL_law_857 : decode cL_law 857 = .ok (.goto 1054, 3) := by decide +kernel
theorem dL_law_860 : decode cL_law 860 = .ok (.aload_n 1, 1) := by decide +kernel
theorem dL_law_861 : decode cL_law 861 = .ok (.aload_n 0, 1) := by decide +kernel
theorem dL_law_862 : decode cL_law 862 = .ok (.iload 4, 2) := by decide +kernel
theorem dL_law_864 : decode cL_law 864 = .ok (.iconst 1, 1) := by decide +kernel
theorem dL_law_865 : decode cL_law 865 = .ok (.iadd, 1) := by decide +kernel
theorem dL_law_866 : decode cL_law 866 = .ok (.iaload, 1) := by decide +kernel
theorem dL_law_867 : decode cL_law 867 = .ok (.aload_n 3, 1) := by decide +kernel
theorem dL_law_868 : decode cL_law 868 = .ok (.invokestatic 147, 3) := by decide +kernel
theorem dL_law_871 : decode cL_law 871 = .ok (.istore 5, 2) := by decide +kernel
theorem dL_law_873 : decode cL_law 873 = .ok (.aload_n 2, 1) := by decide +kernel
theorem dL_law_874 : decode cL_law 874 = .ok (.aload_n 0, 1) := by decide +kernel
theorem dL_law_875 : decode cL_law 875 = .ok (.iload 4, 2) := by decide +kernel
theorem dL_law_877 : decode cL_law 877 = .ok (.iconst 1, 1) := by decide +kernel
theorem dL_law_878 : decode cL_law 878 = .ok (.iadd, 1) := by decide +kernel
theorem dL_law_879 : decode cL_law 879 = .ok (.iaload, 1) := by decide +kernel
theorem dL_law_880 : decode cL_law 880 = .ok (.invokevirtual 149, 3) := by decide +kernel
theorem dL_law_883 : decode cL_law 883 = .ok (.istore 6, 2) := by decide +kernel
theorem dL_law_885 : decode cL_law 885 = .ok (.aload_n 2, 1) := by decide +kernel
theorem dL_law_886 : decode cL_law 886 = .ok (.invokevirtual 113, 3) := by decide +kernel
theorem dL_law_889 : decode cL_law 889 = .ok (.iload 5, 2) := by decide +kernel
theorem dL_law_891 : decode cL_law 891 = .ok (.if_icmp .eq 5, 3) := by decide +kernel
theorem dL_law_894 : decode cL_law 894 = .ok (.iconst 0, 1) := by decide +kernel
theorem dL_law_895 : decode cL_law 895 = .ok (.ireturn, 1) := by decide +kernel
theorem dL_law_896 : decode cL_law 896 = .ok (.iload 5, 2) := by decide +kernel
theorem dL_law_898 : decode cL_law 898 = .ok (.ifCond .ne 15, 3) := by decide +kernel
theorem dL_law_901 : decode cL_law 901 = .ok (.aload_n 3, 1) := by decide +kernel
theorem dL_law_902 : decode cL_law 902 = .ok (.iconst 0, 1) := by decide +kernel
theorem dL_law_903 : decode cL_law 903 = .ok (.laload, 1) := by decide +kernel
theorem dL_law_904 : decode cL_law 904 = .ok (.iload 6, 2) := by decide +kernel
theorem dL_law_906 : decode cL_law 906 = .ok (.i2l, 1) := by decide +kernel
theorem dL_law_907 : decode cL_law 907 = .ok (.lcmp, 1) := by decide +kernel
theorem dL_law_908 : decode cL_law 908 = .ok (.ifCond .eq 5, 3) := by decide +kernel
theorem dL_law_911 : decode cL_law 911 = .ok (.iconst 0, 1) := by decide +kernel
theorem dL_law_912 : decode cL_law 912 = .ok (.ireturn, 1) := by decide +kernel
theorem dL_law_913 : decode cL_law 913 = .ok (.goto 998, 3) := by decide +kernel
theorem dL_law_916 : decode cL_law 916 = .ok (.aload_n 1, 1) := by decide +kernel
theorem dL_law_917 : decode cL_law 917 = .ok (.invokevirtual 150, 3) := by decide +kernel
theorem dL_law_920 : decode cL_law 920 = .ok (.aload_n 2, 1) := by decide +kernel
theorem dL_law_921 : decode cL_law 921 = .ok (.invokevirtual 153, 3) := by decide +kernel
theorem dL_law_924 : decode cL_law 924 = .ok (.if_icmp .eq 987, 3) := by decide +kernel
theorem dL_law_927 : decode cL_law 927 = .ok (.iconst 0, 1) := by decide +kernel
theorem dL_law_928 : decode cL_law 928 = .ok (.ireturn, 1) := by decide +kernel
theorem dL_law_929 : decode cL_law 929 = .ok (.aload_n 1, 1) := by decide +kernel
theorem dL_law_930 : decode cL_law 930 = .ok (.invokevirtual 154, 3) := by decide +kernel
theorem dL_law_933 : decode cL_law 933 = .ok (.aload_n 2, 1) := by decide +kernel
theorem dL_law_934 : decode cL_law 934 = .ok (.invokevirtual 157, 3) := by decide +kernel
theorem dL_law_937 : decode cL_law 937 = .ok (.if_icmp .eq 974, 3) := by decide +kernel
theorem dL_law_940 : decode cL_law 940 = .ok (.iconst 0, 1) := by decide +kernel
theorem dL_law_941 : decode cL_law 941 = .ok (.ireturn, 1) := by decide +kernel
theorem dL_law_942 : decode cL_law 942 = .ok (.aload_n 1, 1) := by decide +kernel
theorem dL_law_943 : decode cL_law 943 = .ok (.aload_n 3, 1) := by decide +kernel
theorem dL_law_944 : decode cL_law 944 = .ok (.invokestatic 158, 3) := by decide +kernel
theorem dL_law_947 : decode cL_law 947 = .ok (.istore 5, 2) := by decide +kernel
theorem dL_law_949 : decode cL_law 949 = .ok (.aload_n 2, 1) := by decide +kernel
theorem dL_law_950 : decode cL_law 950 = .ok (.invokevirtual 161, 3) := by decide +kernel
theorem dL_law_953 : decode cL_law 953 = .ok (.istore 6, 2) := by decide +kernel
theorem dL_law_955 : decode cL_law 955 = .ok (.aload_n 2, 1) := by decide +kernel
theorem dL_law_956 : decode cL_law 956 = .ok (.invokevirtual 113, 3) := by decide +kernel
theorem dL_law_959 : decode cL_law 959 = .ok (.iload 5, 2) := by decide +kernel
theorem dL_law_961 : decode cL_law 961 = .ok (.if_icmp .eq 5, 3) := by decide +kernel
theorem dL_law_964 : decode cL_law 964 = .ok (.iconst 0, 1) := by decide +kernel
theorem dL_law_965 : decode cL_law 965 = .ok (.ireturn, 1) := by decide +kernel
theorem dL_law_966 : decode cL_law 966 = .ok (.iload 5, 2) := by decide +kernel
theorem dL_law_968 : decode cL_law 968 = .ok (.ifCond .ne 15, 3) := by decide +kernel
theorem dL_law_971 : decode cL_law 971 = .ok (.aload_n 3, 1) := by decide +kernel
theorem dL_law_972 : decode cL_law 972 = .ok (.iconst 0, 1) := by decide +kernel
theorem dL_law_973 : decode cL_law 973 = .ok (.laload, 1) := by decide +kernel
theorem dL_law_974 : decode cL_law 974 = .ok (.iload 6, 2) := by decide +kernel
theorem dL_law_976 : decode cL_law 976 = .ok (.i2l, 1) := by decide +kernel
theorem dL_law_977 : decode cL_law 977 = .ok (.lcmp, 1) := by decide +kernel
theorem dL_law_978 : decode cL_law 978 = .ok (.ifCond .eq 5, 3) := by decide +kernel
theorem dL_law_981 : decode cL_law 981 = .ok (.iconst 0, 1) := by decide +kernel
theorem dL_law_982 : decode cL_law 982 = .ok (.ireturn, 1) := by decide +kernel
theorem dL_law_983 : decode cL_law 983 = .ok (.goto 928, 3) := by decide +kernel
theorem dL_law_986 : decode cL_law 986 = .ok (.aload_n 1, 1) := by decide +kernel
theorem dL_law_987 : decode cL_law 987 = .ok (.aload_n 3, 1) := by decide +kernel
theorem dL_law_988 : decode cL_law 988 = .ok (.invokestatic 162, 3) := by decide +kernel
theorem dL_law_991 : decode cL_law 991 = .ok (.istore 5, 2) := by decide +kernel
theorem dL_law_993 : decode cL_law 993 = .ok (.aload_n 2, 1) := by decide +kernel
theorem dL_law_994 : decode cL_law 994 = .ok (.invokevirtual 164, 3) := by decide +kernel
theorem dL_law_997 : decode cL_law 997 = .ok (.istore 6, 2) := by decide +kernel
theorem dL_law_999 : decode cL_law 999 = .ok (.aload_n 2, 1) := by decide +kernel
theorem dL_law_1000 : decode cL_law 1000 = .ok (.invokevirtual 113, 3) := by decide +kernel
theorem dL_law_1003 : decode cL_law 1003 = .ok (.iload 5, 2) := by decide +kernel
theorem dL_law_1005 : decode cL_law 1005 = .ok (.if_icmp .eq 5, 3) := by decide +kernel
theorem dL_law_1008 : decode cL_law 1008 = .ok (.iconst 0, 1) := by decide +kernel
theorem dL_law_1009 : decode cL_law 1009 = .ok (.ireturn, 1) := by decide +kernel
theorem dL_law_1010 : decode cL_law 1010 = .ok (.iload 5, 2) := by decide +kernel
theorem dL_law_1012 : decode cL_law 1012 = .ok (.ifCond .ne 15, 3) := by decide +kernel
theorem dL_law_1015 : decode cL_law 1015 = .ok (.aload_n 3, 1) := by decide +kernel
theorem dL_law_1016 : decode cL_law 1016 = .ok (.iconst 0, 1) := by decide +kernel
theorem dL_law_1017 : decode cL_law 1017 = .ok (.laload, 1) := by decide +kernel
theorem dL_law_1018 : decode cL_law 1018 = .ok (.iload 6, 2) := by decide +kernel
theorem dL_law_1020 : decode cL_law 1020 = .ok (.i2l, 1) := by decide +kernel
theorem dL_law_1021 : decode cL_law 1021 = .ok (.lcmp, 1) := by decide +kernel
theorem dL_law_1022 : decode cL_law 1022 = .ok (.ifCond .eq 5, 3) := by decide +kernel
theorem dL_law_1025 : decode cL_law 1025 = .ok (.iconst 0, 1) := by decide +kernel
theorem dL_law_1026 : decode cL_law 1026 = .ok (.ireturn, 1) := by decide +kernel
theorem dL_law_1027 : decode cL_law 1027 = .ok (.goto 884, 3) := by decide +kernel
theorem dL_law_1030 : decode cL_law 1030 = .ok (.aload_n 1, 1) := by decide +kernel
theorem dL_law_1031 : decode cL_law 1031 = .ok (.aload_n 0, 1) := by decide +kernel
theorem dL_law_1032 : decode cL_law 1032 = .ok (.iload 4, 2) := by decide +kernel
theorem dL_law_1034 : decode cL_law 1034 = .ok (.iconst 1, 1) := by decide +kernel
theorem dL_law_1035 : decode cL_law 1035 = .ok (.iadd, 1) := by decide +kernel
theorem dL_law_1036 : decode cL_law 1036 = .ok (.iaload, 1) := by decide +kernel
theorem dL_law_1037 : decode cL_law 1037 = .ok (.aload_n 3, 1) := by decide +kernel
theorem dL_law_1038 : decode cL_law 1038 = .ok (.invokestatic 165, 3) := by decide +kernel
theorem dL_law_1041 : decode cL_law 1041 = .ok (.istore 5, 2) := by decide +kernel
theorem dL_law_1043 : decode cL_law 1043 = .ok (.aload_n 2, 1) := by decide +kernel
theorem dL_law_1044 : decode cL_law 1044 = .ok (.aload_n 0, 1) := by decide +kernel
theorem dL_law_1045 : decode cL_law 1045 = .ok (.iload 4, 2) := by decide +kernel
theorem dL_law_1047 : decode cL_law 1047 = .ok (.iconst 1, 1) := by decide +kernel
theorem dL_law_1048 : decode cL_law 1048 = .ok (.iadd, 1) := by decide +kernel
theorem dL_law_1049 : decode cL_law 1049 = .ok (.iaload, 1) := by decide +kernel
theorem dL_law_1050 : decode cL_law 1050 = .ok (.invokevirtual 167, 3) := by decide +kernel
theorem dL_law_1053 : decode cL_law 1053 = .ok (.istore 6, 2) := by decide +kernel
theorem dL_law_1055 : decode cL_law 1055 = .ok (.aload_n 2, 1) := by decide +kernel
theorem dL_law_1056 : decode cL_law 1056 = .ok (.invokevirtual 113, 3) := by decide +kernel
theorem dL_law_1059 : decode cL_law 1059 = .ok (.iload 5, 2) := by decide +kernel
theorem dL_law_1061 : decode cL_law 1061 = .ok (.if_icmp .eq 5, 3) := by decide +kernel
theorem dL_law_1064 : decode cL_law 1064 = .ok (.iconst 0, 1) := by decide +kernel
theorem dL_law_1065 : decode cL_law 1065 = .ok (.ireturn, 1) := by decide +kernel
theorem dL_law_1066 : decode cL_law 1066 = .ok (.iload 5, 2) := by decide +kernel
theorem dL_law_1068 : decode cL_law 1068 = .ok (.ifCond .ne 15, 3) := by decide +kernel
theorem dL_law_1071 : decode cL_law 1071 = .ok (.aload_n 3, 1) := by decide +kernel
theorem dL_law_1072 : decode cL_law 1072 = .ok (.iconst 0, 1) := by decide +kernel
theorem dL_law_1073 : decode cL_law 1073 = .ok (.laload, 1) := by decide +kernel
theorem dL_law_1074 : decode cL_law 1074 = .ok (.iload 6, 2) := by decide +kernel
theorem dL_law_1076 : decode cL_law 1076 = .ok (.i2l, 1) := by decide +kernel
theorem dL_law_1077 : decode cL_law 1077 = .ok (.lcmp, 1) := by decide +kernel
theorem dL_law_1078 : decode cL_law 1078 = .ok (.ifCond .eq 5, 3) := by decide +kernel
theorem dL_law_1081 : decode cL_law 1081 = .ok (.iconst 0, 1) := by decide +kernel
theorem dL_law_1082 : decode cL_law 1082 = .ok (.ireturn, 1) := by decide +kernel
theorem dL_law_1083 : decode cL_law 1083 = .ok (.goto 828, 3) := by decide +kernel
theorem dL_law_1086 : decode cL_law 1086 = .ok (.aload_n 1, 1) := by decide +kernel
theorem dL_law_1087 : decode cL_law 1087 = .ok (.aload_n 0, 1) := by decide +kernel
theorem dL_law_1088 : decode cL_law 1088 = .ok (.iload 4, 2) := by decide +kernel
theorem dL_law_1090 : decode cL_law 1090 = .ok (.iconst 1, 1) := by decide +kernel
theorem dL_law_1091 : decode cL_law 1091 = .ok (.iadd, 1) := by decide +kernel
theorem dL_law_1092 : decode cL_law 1092 = .ok (.iaload, 1) := by decide +kernel
theorem dL_law_1093 : decode cL_law 1093 = .ok (.aload_n 3, 1) := by decide +kernel
theorem dL_law_1094 : decode cL_law 1094 = .ok (.invokestatic 168, 3) := by decide +kernel
theorem dL_law_1097 : decode cL_law 1097 = .ok (.istore 5, 2) := by decide +kernel
theorem dL_law_1099 : decode cL_law 1099 = .ok (.aload_n 2, 1) := by decide +kernel
theorem dL_law_1100 : decode cL_law 1100 = .ok (.aload_n 0, 1) := by decide +kernel
theorem dL_law_1101 : decode cL_law 1101 = .ok (.iload 4, 2) := by decide +kernel
theorem dL_law_1103 : decode cL_law 1103 = .ok (.iconst 1, 1) := by decide +kernel
theorem dL_law_1104 : decode cL_law 1104 = .ok (.iadd, 1) := by decide +kernel
theorem dL_law_1105 : decode cL_law 1105 = .ok (.iaload, 1) := by decide +kernel
theorem dL_law_1106 : decode cL_law 1106 = .ok (.invokevirtual 170, 3) := by decide +kernel
theorem dL_law_1109 : decode cL_law 1109 = .ok (.istore 6, 2) := by decide +kernel
theorem dL_law_1111 : decode cL_law 1111 = .ok (.aload_n 2, 1) := by decide +kernel
theorem dL_law_1112 : decode cL_law 1112 = .ok (.invokevirtual 113, 3) := by decide +kernel
theorem dL_law_1115 : decode cL_law 1115 = .ok (.iload 5, 2) := by decide +kernel
theorem dL_law_1117 : decode cL_law 1117 = .ok (.if_icmp .eq 5, 3) := by decide +kernel
theorem dL_law_1120 : decode cL_law 1120 = .ok (.iconst 0, 1) := by decide +kernel
theorem dL_law_1121 : decode cL_law 1121 = .ok (.ireturn, 1) := by decide +kernel
theorem dL_law_1122 : decode cL_law 1122 = .ok (.iload 5, 2) := by decide +kernel
theorem dL_law_1124 : decode cL_law 1124 = .ok (.ifCond .ne 15, 3) := by decide +kernel
theorem dL_law_1127 : decode cL_law 1127 = .ok (.aload_n 3, 1) := by decide +kernel
theorem dL_law_1128 : decode cL_law 1128 = .ok (.iconst 0, 1) := by decide +kernel
theorem dL_law_1129 : decode cL_law 1129 = .ok (.laload, 1) := by decide +kernel
theorem dL_law_1130 : decode cL_law 1130 = .ok (.iload 6, 2) := by decide +kernel
theorem dL_law_1132 : decode cL_law 1132 = .ok (.i2l, 1) := by decide +kernel
theorem dL_law_1133 : decode cL_law 1133 = .ok (.lcmp, 1) := by decide +kernel
theorem dL_law_1134 : decode cL_law 1134 = .ok (.ifCond .eq 5, 3) := by decide +kernel
theorem dL_law_1137 : decode cL_law 1137 = .ok (.iconst 0, 1) := by decide +kernel
theorem dL_law_1138 : decode cL_law 1138 = .ok (.ireturn, 1) := by decide +kernel
theorem dL_law_1139 : decode cL_law 1139 = .ok (.goto 772, 3) := by decide +kernel
theorem dL_law_1142 : decode cL_law 1142 = .ok (.aload_n 1, 1) := by decide +kernel
theorem dL_law_1143 : decode cL_law 1143 = .ok (.aload_n 0, 1) := by decide +kernel
theorem dL_law_1144 : decode cL_law 1144 = .ok (.iload 4, 2) := by decide +kernel
theorem dL_law_1146 : decode cL_law 1146 = .ok (.iconst 1, 1) := by decide +kernel
theorem dL_law_1147 : decode cL_law 1147 = .ok (.iadd, 1) := by decide +kernel
theorem dL_law_1148 : decode cL_law 1148 = .ok (.iaload, 1) := by decide +kernel
theorem dL_law_1149 : decode cL_law 1149 = .ok (.aload_n 3, 1) := by decide +kernel
theorem dL_law_1150 : decode cL_law 1150 = .ok (.invokestatic 171, 3) := by decide +kernel
theorem dL_law_1153 : decode cL_law 1153 = .ok (.istore 5, 2) := by decide +kernel
theorem dL_law_1155 : decode cL_law 1155 = .ok (.aload_n 2, 1) := by decide +kernel
theorem dL_law_1156 : decode cL_law 1156 = .ok (.aload_n 0, 1) := by decide +kernel
theorem dL_law_1157 : decode cL_law 1157 = .ok (.iload 4, 2) := by decide +kernel
theorem dL_law_1159 : decode cL_law 1159 = .ok (.iconst 1, 1) := by decide +kernel
theorem dL_law_1160 : decode cL_law 1160 = .ok (.iadd, 1) := by decide +kernel
theorem dL_law_1161 : decode cL_law 1161 = .ok (.iaload, 1) := by decide +kernel
theorem dL_law_1162 : decode cL_law 1162 = .ok (.invokevirtual 173, 3) := by decide +kernel
theorem dL_law_1165 : decode cL_law 1165 = .ok (.istore 6, 2) := by decide +kernel
theorem dL_law_1167 : decode cL_law 1167 = .ok (.aload_n 2, 1) := by decide +kernel
theorem dL_law_1168 : decode cL_law 1168 = .ok (.invokevirtual 113, 3) := by decide +kernel
theorem dL_law_1171 : decode cL_law 1171 = .ok (.iload 5, 2) := by decide +kernel
theorem dL_law_1173 : decode cL_law 1173 = .ok (.if_icmp .eq 5, 3) := by decide +kernel
theorem dL_law_1176 : decode cL_law 1176 = .ok (.iconst 0, 1) := by decide +kernel
theorem dL_law_1177 : decode cL_law 1177 = .ok (.ireturn, 1) := by decide +kernel
theorem dL_law_1178 : decode cL_law 1178 = .ok (.iload 5, 2) := by decide +kernel
theorem dL_law_1180 : decode cL_law 1180 = .ok (.ifCond .ne 15, 3) := by decide +kernel
theorem dL_law_1183 : decode cL_law 1183 = .ok (.aload_n 3, 1) := by decide +kernel
theorem dL_law_1184 : decode cL_law 1184 = .ok (.iconst 0, 1) := by decide +kernel
theorem dL_law_1185 : decode cL_law 1185 = .ok (.laload, 1) := by decide +kernel
theorem dL_law_1186 : decode cL_law 1186 = .ok (.iload 6, 2) := by decide +kernel
theorem dL_law_1188 : decode cL_law 1188 = .ok (.i2l, 1) := by decide +kernel
theorem dL_law_1189 : decode cL_law 1189 = .ok (.lcmp, 1) := by decide +kernel
theorem dL_law_1190 : decode cL_law 1190 = .ok (.ifCond .eq 5, 3) := by decide +kernel
theorem dL_law_1193 : decode cL_law 1193 = .ok (.iconst 0, 1) := by decide +kernel
theorem dL_law_1194 : decode cL_law 1194 = .ok (.ireturn, 1) := by decide +kernel
theorem dL_law_1195 : decode cL_law 1195 = .ok (.goto 716, 3) := by decide +kernel
theorem dL_law_1198 : decode cL_law 1198 = .ok (.aload_n 1, 1) := by decide +kernel
theorem dL_law_1199 : decode cL_law 1199 = .ok (.aload_n 0, 1) := by decide +kernel
theorem dL_law_1200 : decode cL_law 1200 = .ok (.iload 4, 2) := by decide +kernel
theorem dL_law_1202 : decode cL_law 1202 = .ok (.iconst 1, 1) := by decide +kernel
theorem dL_law_1203 : decode cL_law 1203 = .ok (.iadd, 1) := by decide +kernel
theorem dL_law_1204 : decode cL_law 1204 = .ok (.iaload, 1) := by decide +kernel
theorem dL_law_1205 : decode cL_law 1205 = .ok (.aload_n 3, 1) := by decide +kernel
theorem dL_law_1206 : decode cL_law 1206 = .ok (.invokestatic 174, 3) := by decide +kernel
theorem dL_law_1209 : decode cL_law 1209 = .ok (.istore 5, 2) := by decide +kernel
theorem dL_law_1211 : decode cL_law 1211 = .ok (.aload_n 2, 1) := by decide +kernel
theorem dL_law_1212 : decode cL_law 1212 = .ok (.aload_n 0, 1) := by decide +kernel
theorem dL_law_1213 : decode cL_law 1213 = .ok (.iload 4, 2) := by decide +kernel
theorem dL_law_1215 : decode cL_law 1215 = .ok (.iconst 1, 1) := by decide +kernel
theorem dL_law_1216 : decode cL_law 1216 = .ok (.iadd, 1) := by decide +kernel
theorem dL_law_1217 : decode cL_law 1217 = .ok (.iaload, 1) := by decide +kernel
theorem dL_law_1218 : decode cL_law 1218 = .ok (.invokevirtual 176, 3) := by decide +kernel
theorem dL_law_1221 : decode cL_law 1221 = .ok (.istore 6, 2) := by decide +kernel
theorem dL_law_1223 : decode cL_law 1223 = .ok (.aload_n 2, 1) := by decide +kernel
theorem dL_law_1224 : decode cL_law 1224 = .ok (.invokevirtual 113, 3) := by decide +kernel
theorem dL_law_1227 : decode cL_law 1227 = .ok (.iload 5, 2) := by decide +kernel
theorem dL_law_1229 : decode cL_law 1229 = .ok (.if_icmp .eq 5, 3) := by decide +kernel
theorem dL_law_1232 : decode cL_law 1232 = .ok (.iconst 0, 1) := by decide +kernel
theorem dL_law_1233 : decode cL_law 1233 = .ok (.ireturn, 1) := by decide +kernel
theorem dL_law_1234 : decode cL_law 1234 = .ok (.iload 5, 2) := by decide +kernel
theorem dL_law_1236 : decode cL_law 1236 = .ok (.ifCond .ne 15, 3) := by decide +kernel
theorem dL_law_1239 : decode cL_law 1239 = .ok (.aload_n 3, 1) := by decide +kernel
theorem dL_law_1240 : decode cL_law 1240 = .ok (.iconst 0, 1) := by decide +kernel
theorem dL_law_1241 : decode cL_law 1241 = .ok (.laload, 1) := by decide +kernel
theorem dL_law_1242 : decode cL_law 1242 = .ok (.iload 6, 2) := by decide +kernel
theorem dL_law_1244 : decode cL_law 1244 = .ok (.i2l, 1) := by decide +kernel
theorem dL_law_1245 : decode cL_law 1245 = .ok (.lcmp, 1) := by decide +kernel
theorem dL_law_1246 : decode cL_law 1246 = .ok (.ifCond .eq 5, 3) := by decide +kernel
theorem dL_law_1249 : decode cL_law 1249 = .ok (.iconst 0, 1) := by decide +kernel
theorem dL_law_1250 : decode cL_law 1250 = .ok (.ireturn, 1) := by decide +kernel
theorem dL_law_1251 : decode cL_law 1251 = .ok (.goto 660, 3) := by decide +kernel
theorem dL_law_1254 : decode cL_law 1254 = .ok (.aload_n 1, 1) := by decide +kernel
theorem dL_law_1255 : decode cL_law 1255 = .ok (.aload_n 0, 1) := by decide +kernel
theorem dL_law_1256 : decode cL_law 1256 = .ok (.iload 4, 2) := by decide +kernel
theorem dL_law_1258 : decode cL_law 1258 = .ok (.iconst 1, 1) := by decide +kernel
theorem dL_law_1259 : decode cL_law 1259 = .ok (.iadd, 1) := by decide +kernel
theorem dL_law_1260 : decode cL_law 1260 = .ok (.iaload, 1) := by decide +kernel
theorem dL_law_1261 : decode cL_law 1261 = .ok (.aload_n 3, 1) := by decide +kernel
theorem dL_law_1262 : decode cL_law 1262 = .ok (.invokestatic 177, 3) := by decide +kernel
theorem dL_law_1265 : decode cL_law 1265 = .ok (.istore 5, 2) := by decide +kernel
theorem dL_law_1267 : decode cL_law 1267 = .ok (.aload_n 2, 1) := by decide +kernel
theorem dL_law_1268 : decode cL_law 1268 = .ok (.aload_n 0, 1) := by decide +kernel
theorem dL_law_1269 : decode cL_law 1269 = .ok (.iload 4, 2) := by decide +kernel
theorem dL_law_1271 : decode cL_law 1271 = .ok (.iconst 1, 1) := by decide +kernel
theorem dL_law_1272 : decode cL_law 1272 = .ok (.iadd, 1) := by decide +kernel
theorem dL_law_1273 : decode cL_law 1273 = .ok (.iaload, 1) := by decide +kernel
theorem dL_law_1274 : decode cL_law 1274 = .ok (.invokevirtual 179, 3) := by decide +kernel
theorem dL_law_1277 : decode cL_law 1277 = .ok (.istore 6, 2) := by decide +kernel
theorem dL_law_1279 : decode cL_law 1279 = .ok (.aload_n 2, 1) := by decide +kernel
theorem dL_law_1280 : decode cL_law 1280 = .ok (.invokevirtual 113, 3) := by decide +kernel
theorem dL_law_1283 : decode cL_law 1283 = .ok (.iload 5, 2) := by decide +kernel
theorem dL_law_1285 : decode cL_law 1285 = .ok (.if_icmp .eq 5, 3) := by decide +kernel
theorem dL_law_1288 : decode cL_law 1288 = .ok (.iconst 0, 1) := by decide +kernel
theorem dL_law_1289 : decode cL_law 1289 = .ok (.ireturn, 1) := by decide +kernel
theorem dL_law_1290 : decode cL_law 1290 = .ok (.iload 5, 2) := by decide +kernel
theorem dL_law_1292 : decode cL_law 1292 = .ok (.ifCond .ne 15, 3) := by decide +kernel
theorem dL_law_1295 : decode cL_law 1295 = .ok (.aload_n 3, 1) := by decide +kernel
theorem dL_law_1296 : decode cL_law 1296 = .ok (.iconst 0, 1) := by decide +kernel
theorem dL_law_1297 : decode cL_law 1297 = .ok (.laload, 1) := by decide +kernel
theorem dL_law_1298 : decode cL_law 1298 = .ok (.iload 6, 2) := by decide +kernel
theorem dL_law_1300 : decode cL_law 1300 = .ok (.i2l, 1) := by decide +kernel
theorem dL_law_1301 : decode cL_law 1301 = .ok (.lcmp, 1) := by decide +kernel
theorem dL_law_1302 : decode cL_law 1302 = .ok (.ifCond .eq 5, 3) := by decide +kernel
theorem dL_law_1305 : decode cL_law 1305 = .ok (.iconst 0, 1) := by decide +kernel
theorem dL_law_1306 : decode cL_law 1306 = .ok (.ireturn, 1) := by decide +kernel
theorem dL_law_1307 : decode cL_law 1307 = .ok (.goto 604, 3) := by decide +kernel
theorem dL_law_1310 : decode cL_law 1310 = .ok (.aload_n 1, 1) := by decide +kernel
theorem dL_law_1311 : decode cL_law 1311 = .ok (.aload_n 0, 1) := by decide +kernel
theorem dL_law_1312 : decode cL_law 1312 = .ok (.iload 4, 2) := by decide +kernel
theorem dL_law_1314 : decode cL_law 1314 = .ok (.iconst 1, 1) := by decide +kernel
theorem dL_law_1315 : decode cL_law 1315 = .ok (.iadd, 1) := by decide +kernel
theorem dL_law_1316 : decode cL_law 1316 = .ok (.iaload, 1) := by decide +kernel
theorem dL_law_1317 : decode cL_law 1317 = .ok (.aload_n 3, 1) := by decide +kernel
theorem dL_law_1318 : decode cL_law 1318 = .ok (.invokestatic 180, 3) := by decide +kernel
theorem dL_law_1321 : decode cL_law 1321 = .ok (.istore 5, 2) := by decide +kernel
theorem dL_law_1323 : decode cL_law 1323 = .ok (.aload_n 2, 1) := by decide +kernel
theorem dL_law_1324 : decode cL_law 1324 = .ok (.aload_n 0, 1) := by decide +kernel
theorem dL_law_1325 : decode cL_law 1325 = .ok (.iload 4, 2) := by decide +kernel
theorem dL_law_1327 : decode cL_law 1327 = .ok (.iconst 1, 1) := by decide +kernel
theorem dL_law_1328 : decode cL_law 1328 = .ok (.iadd, 1) := by decide +kernel
theorem dL_law_1329 : decode cL_law 1329 = .ok (.iaload, 1) := by decide +kernel
theorem dL_law_1330 : decode cL_law 1330 = .ok (.invokevirtual 182, 3) := by decide +kernel
theorem dL_law_1333 : decode cL_law 1333 = .ok (.istore 6, 2) := by decide +kernel
theorem dL_law_1335 : decode cL_law 1335 = .ok (.aload_n 2, 1) := by decide +kernel
theorem dL_law_1336 : decode cL_law 1336 = .ok (.invokevirtual 113, 3) := by decide +kernel
theorem dL_law_1339 : decode cL_law 1339 = .ok (.iload 5, 2) := by decide +kernel
theorem dL_law_1341 : decode cL_law 1341 = .ok (.if_icmp .eq 5, 3) := by decide +kernel
theorem dL_law_1344 : decode cL_law 1344 = .ok (.iconst 0, 1) := by decide +kernel
theorem dL_law_1345 : decode cL_law 1345 = .ok (.ireturn, 1) := by decide +kernel
theorem dL_law_1346 : decode cL_law 1346 = .ok (.iload 5, 2) := by decide +kernel
theorem dL_law_1348 : decode cL_law 1348 = .ok (.ifCond .ne 15, 3) := by decide +kernel
theorem dL_law_1351 : decode cL_law 1351 = .ok (.aload_n 3, 1) := by decide +kernel
theorem dL_law_1352 : decode cL_law 1352 = .ok (.iconst 0, 1) := by decide +kernel
theorem dL_law_1353 : decode cL_law 1353 = .ok (.laload, 1) := by decide +kernel
theorem dL_law_1354 : decode cL_law 1354 = .ok (.iload 6, 2) := by decide +kernel
theorem dL_law_1356 : decode cL_law 1356 = .ok (.i2l, 1) := by decide +kernel
theorem dL_law_1357 : decode cL_law 1357 = .ok (.lcmp, 1) := by decide +kernel
theorem dL_law_1358 : decode cL_law 1358 = .ok (.ifCond .eq 5, 3) := by decide +kernel
theorem dL_law_1361 : decode cL_law 1361 = .ok (.iconst 0, 1) := by decide +kernel
theorem dL_law_1362 : decode cL_law 1362 = .ok (.ireturn, 1) := by decide +kernel
theorem dL_law_1363 : decode cL_law 1363 = .ok (.goto 548, 3) := by decide +kernel
theorem dL_law_1366 : decode cL_law 1366 = .ok (.aload_n 1, 1) := by decide +kernel
theorem dL_law_1367 : decode cL_law 1367 = .ok (.aload_n 0, 1) := by decide +kernel
theorem dL_law_1368 : decode cL_law 1368 = .ok (.iload 4, 2) := by decide +kernel
theorem dL_law_1370 : decode cL_law 1370 = .ok (.iconst 1, 1) := by decide +kernel
theorem dL_law_1371 : decode cL_law 1371 = .ok (.iadd, 1) := by decide +kernel
theorem dL_law_1372 : decode cL_law 1372 = .ok (.iaload, 1) := by decide +kernel
theorem dL_law_1373 : decode cL_law 1373 = .ok (.aload_n 3, 1) := by decide +kernel
theorem dL_law_1374 : decode cL_law 1374 = .ok (.invokestatic 183, 3) := by decide +kernel
theorem dL_law_1377 : decode cL_law 1377 = .ok (.istore 5, 2) := by decide +kernel
theorem dL_law_1379 : decode cL_law 1379 = .ok (.aload_n 2, 1) := by decide +kernel
theorem dL_law_1380 : decode cL_law 1380 = .ok (.aload_n 0, 1) := by decide +kernel
theorem dL_law_1381 : decode cL_law 1381 = .ok (.iload 4, 2) := by decide +kernel
theorem dL_law_1383 : decode cL_law 1383 = .ok (.iconst 1, 1) := by decide +kernel
theorem dL_law_1384 : decode cL_law 1384 = .ok (.iadd, 1) := by decide +kernel
theorem dL_law_1385 : decode cL_law 1385 = .ok (.iaload, 1) := by decide +kernel
theorem dL_law_1386 : decode cL_law 1386 = .ok (.invokevirtual 185, 3) := by decide +kernel
theorem dL_law_1389 : decode cL_law 1389 = .ok (.istore 6, 2) := by decide +kernel
theorem dL_law_1391 : decode cL_law 1391 = .ok (.aload_n 2, 1) := by decide +kernel
theorem dL_law_1392 : decode cL_law 1392 = .ok (.invokevirtual 113, 3) := by decide +kernel
theorem dL_law_1395 : decode cL_law 1395 = .ok (.iload 5, 2) := by decide +kernel
theorem dL_law_1397 : decode cL_law 1397 = .ok (.if_icmp .eq 5, 3) := by decide +kernel
theorem dL_law_1400 : decode cL_law 1400 = .ok (.iconst 0, 1) := by decide +kernel
theorem dL_law_1401 : decode cL_law 1401 = .ok (.ireturn, 1) := by decide +kernel
theorem dL_law_1402 : decode cL_law 1402 = .ok (.iload 5, 2) := by decide +kernel
theorem dL_law_1404 : decode cL_law 1404 = .ok (.ifCond .ne 22, 3) := by decide +kernel
theorem dL_law_1407 : decode cL_law 1407 = .ok (.aload_n 3, 1) := by decide +kernel
theorem dL_law_1408 : decode cL_law 1408 = .ok (.iconst 0, 1) := by decide +kernel
theorem dL_law_1409 : decode cL_law 1409 = .ok (.laload, 1) := by decide +kernel
theorem dL_law_1410 : decode cL_law 1410 = .ok (.iload 6, 2) := by decide +kernel
theorem dL_law_1412 : decode cL_law 1412 = .ok (.ifCond .eq 7, 3) := by decide +kernel
theorem dL_law_1415 : decode cL_law 1415 = .ok (.lconst 1, 1) := by decide +kernel
theorem dL_law_1416 : decode cL_law 1416 = .ok (.goto 4, 3) := by decide +kernel
theorem dL_law_1419 : decode cL_law 1419 = .ok (.lconst 0, 1) := by decide +kernel
theorem dL_law_1420 : decode cL_law 1420 = .ok (.lcmp, 1) := by decide +kernel
theorem dL_law_1421 : decode cL_law 1421 = .ok (.ifCond .eq 5, 3) := by decide +kernel
theorem dL_law_1424 : decode cL_law 1424 = .ok (.iconst 0, 1) := by decide +kernel
theorem dL_law_1425 : decode cL_law 1425 = .ok (.ireturn, 1) := by decide +kernel
theorem dL_law_1426 : decode cL_law 1426 = .ok (.goto 485, 3) := by decide +kernel
theorem dL_law_1429 : decode cL_law 1429 = .ok (.aload_n 1, 1) := by decide +kernel
theorem dL_law_1430 : decode cL_law 1430 = .ok (.aload_n 0, 1) := by decide +kernel
theorem dL_law_1431 : decode cL_law 1431 = .ok (.iload 4, 2) := by decide +kernel
theorem dL_law_1433 : decode cL_law 1433 = .ok (.iconst 1, 1) := by decide +kernel
theorem dL_law_1434 : decode cL_law 1434 = .ok (.iadd, 1) := by decide +kernel
theorem dL_law_1435 : decode cL_law 1435 = .ok (.iaload, 1) := by decide +kernel
theorem dL_law_1436 : decode cL_law 1436 = .ok (.aload_n 3, 1) := by decide +kernel
theorem dL_law_1437 : decode cL_law 1437 = .ok (.invokestatic 186, 3) := by decide +kernel
theorem dL_law_1440 : decode cL_law 1440 = .ok (.istore 5, 2) := by decide +kernel
theorem dL_law_1442 : decode cL_law 1442 = .ok (.aload_n 2, 1) := by decide +kernel
theorem dL_law_1443 : decode cL_law 1443 = .ok (.aload_n 0, 1) := by decide +kernel
theorem dL_law_1444 : decode cL_law 1444 = .ok (.iload 4, 2) := by decide +kernel
theorem dL_law_1446 : decode cL_law 1446 = .ok (.iconst 1, 1) := by decide +kernel
theorem dL_law_1447 : decode cL_law 1447 = .ok (.iadd, 1) := by decide +kernel
theorem dL_law_1448 : decode cL_law 1448 = .ok (.iaload, 1) := by decide +kernel
theorem dL_law_1449 : decode cL_law 1449 = .ok (.invokevirtual 188, 3) := by decide +kernel
theorem dL_law_1452 : decode cL_law 1452 = .ok (.istore 6, 2) := by decide +kernel
theorem dL_law_1454 : decode cL_law 1454 = .ok (.aload_n 2, 1) := by decide +kernel
theorem dL_law_1455 : decode cL_law 1455 = .ok (.invokevirtual 113, 3) := by decide +kernel
theorem dL_law_1458 : decode cL_law 1458 = .ok (.iload 5, 2) := by decide +kernel
theorem dL_law_1460 : decode cL_law 1460 = .ok (.if_icmp .eq 5, 3) := by decide +kernel
theorem dL_law_1463 : decode cL_law 1463 = .ok (.iconst 0, 1) := by decide +kernel
theorem dL_law_1464 : decode cL_law 1464 = .ok (.ireturn, 1) := by decide +kernel
theorem dL_law_1465 : decode cL_law 1465 = .ok (.iload 5, 2) := by decide +kernel
theorem dL_law_1467 : decode cL_law 1467 = .ok (.ifCond .ne 15, 3) := by decide +kernel
theorem dL_law_1470 : decode cL_law 1470 = .ok (.aload_n 3, 1) := by decide +kernel
theorem dL_law_1471 : decode cL_law 1471 = .ok (.iconst 0, 1) := by decide +kernel
theorem dL_law_1472 : decode cL_law 1472 = .ok (.laload, 1) := by decide +kernel
theorem dL_law_1473 : decode cL_law 1473 = .ok (.iload 6, 2) := by decide +kernel
theorem dL_law_1475 : decode cL_law 1475 = .ok (.i2l, 1) := by decide +kernel
theorem dL_law_1476 : decode cL_law 1476 = .ok (.lcmp, 1) := by decide +kernel
theorem dL_law_1477 : decode cL_law 1477 = .ok (.ifCond .eq 5, 3) := by decide +kernel
theorem dL_law_1480 : decode cL_law 1480 = .ok (.iconst 0, 1) := by decide +kernel
theorem dL_law_1481 : decode cL_law 1481 = .ok (.ireturn, 1) := by decide +kernel
theorem dL_law_1482 : decode cL_law 1482 = .ok (.goto 429, 3) := by decide +kernel
theorem dL_law_1485 : decode cL_law 1485 = .ok (.aload_n 1, 1) := by decide +kernel
theorem dL_law_1486 : decode cL_law 1486 = .ok (.aload_n 0, 1) := by decide +kernel
theorem dL_law_1487 : decode cL_law 1487 = .ok (.iload 4, 2) := by decide +kernel
theorem dL_law_1489 : decode cL_law 1489 = .ok (.iconst 1, 1) := by decide +kernel
theorem dL_law_1490 : decode cL_law 1490 = .ok (.iadd, 1) := by decide +kernel
theorem dL_law_1491 : decode cL_law 1491 = .ok (.iaload, 1) := by decide +kernel
theorem dL_law_1492 : decode cL_law 1492 = .ok (.aload_n 3, 1) := by decide +kernel
theorem dL_law_1493 : decode cL_law 1493 = .ok (.invokestatic 189, 3) := by decide +kernel
theorem dL_law_1496 : decode cL_law 1496 = .ok (.istore 5, 2) := by decide +kernel
theorem dL_law_1498 : decode cL_law 1498 = .ok (.aload_n 2, 1) := by decide +kernel
theorem dL_law_1499 : decode cL_law 1499 = .ok (.aload_n 0, 1) := by decide +kernel
theorem dL_law_1500 : decode cL_law 1500 = .ok (.iload 4, 2) := by decide +kernel
theorem dL_law_1502 : decode cL_law 1502 = .ok (.iconst 1, 1) := by decide +kernel
theorem dL_law_1503 : decode cL_law 1503 = .ok (.iadd, 1) := by decide +kernel
theorem dL_law_1504 : decode cL_law 1504 = .ok (.iaload, 1) := by decide +kernel
theorem dL_law_1505 : decode cL_law 1505 = .ok (.invokevirtual 191, 3) := by decide +kernel
theorem dL_law_1508 : decode cL_law 1508 = .ok (.istore 6, 2) := by decide +kernel
theorem dL_law_1510 : decode cL_law 1510 = .ok (.aload_n 2, 1) := by decide +kernel
theorem dL_law_1511 : decode cL_law 1511 = .ok (.invokevirtual 113, 3) := by decide +kernel
theorem dL_law_1514 : decode cL_law 1514 = .ok (.iload 5, 2) := by decide +kernel
theorem dL_law_1516 : decode cL_law 1516 = .ok (.if_icmp .eq 5, 3) := by decide +kernel
theorem dL_law_1519 : decode cL_law 1519 = .ok (.iconst 0, 1) := by decide +kernel
theorem dL_law_1520 : decode cL_law 1520 = .ok (.ireturn, 1) := by decide +kernel
theorem dL_law_1521 : decode cL_law 1521 = .ok (.iload 5, 2) := by decide +kernel
theorem dL_law_1523 : decode cL_law 1523 = .ok (.ifCond .ne 15, 3) := by decide +kernel
theorem dL_law_1526 : decode cL_law 1526 = .ok (.aload_n 3, 1) := by decide +kernel
theorem dL_law_1527 : decode cL_law 1527 = .ok (.iconst 0, 1) := by decide +kernel
theorem dL_law_1528 : decode cL_law 1528 = .ok (.laload, 1) := by decide +kernel
theorem dL_law_1529 : decode cL_law 1529 = .ok (.iload 6, 2) := by decide +kernel
theorem dL_law_1531 : decode cL_law 1531 = .ok (.i2l, 1) := by decide +kernel
theorem dL_law_1532 : decode cL_law 1532 = .ok (.lcmp, 1) := by decide +kernel
theorem dL_law_1533 : decode cL_law 1533 = .ok (.ifCond .eq 5, 3) := by decide +kernel
theorem dL_law_1536 : decode cL_law 1536 = .ok (.iconst 0, 1) := by decide +kernel
theorem dL_law_1537 : decode cL_law 1537 = .ok (.ireturn, 1) := by decide +kernel
theorem dL_law_1538 : decode cL_law 1538 = .ok (.goto 373, 3) := by decide +kernel
theorem dL_law_1541 : decode cL_law 1541 = .ok (.aload_n 1, 1) := by decide +kernel
theorem dL_law_1542 : decode cL_law 1542 = .ok (.aload_n 0, 1) := by decide +kernel
theorem dL_law_1543 : decode cL_law 1543 = .ok (.iload 4, 2) := by decide +kernel
theorem dL_law_1545 : decode cL_law 1545 = .ok (.iconst 1, 1) := by decide +kernel
theorem dL_law_1546 : decode cL_law 1546 = .ok (.iadd, 1) := by decide +kernel
theorem dL_law_1547 : decode cL_law 1547 = .ok (.iaload, 1) := by decide +kernel
theorem dL_law_1548 : decode cL_law 1548 = .ok (.aload_n 3, 1) := by decide +kernel
theorem dL_law_1549 : decode cL_law 1549 = .ok (.invokestatic 192, 3) := by decide +kernel
theorem dL_law_1552 : decode cL_law 1552 = .ok (.istore 5, 2) := by decide +kernel
theorem dL_law_1554 : decode cL_law 1554 = .ok (.aload_n 2, 1) := by decide +kernel
theorem dL_law_1555 : decode cL_law 1555 = .ok (.aload_n 0, 1) := by decide +kernel
theorem dL_law_1556 : decode cL_law 1556 = .ok (.iload 4, 2) := by decide +kernel
theorem dL_law_1558 : decode cL_law 1558 = .ok (.iconst 1, 1) := by decide +kernel
theorem dL_law_1559 : decode cL_law 1559 = .ok (.iadd, 1) := by decide +kernel
theorem dL_law_1560 : decode cL_law 1560 = .ok (.iaload, 1) := by decide +kernel
theorem dL_law_1561 : decode cL_law 1561 = .ok (.invokevirtual 194, 3) := by decide +kernel
theorem dL_law_1564 : decode cL_law 1564 = .ok (.istore 6, 2) := by decide +kernel
theorem dL_law_1566 : decode cL_law 1566 = .ok (.aload_n 2, 1) := by decide +kernel
theorem dL_law_1567 : decode cL_law 1567 = .ok (.invokevirtual 113, 3) := by decide +kernel
theorem dL_law_1570 : decode cL_law 1570 = .ok (.iload 5, 2) := by decide +kernel
theorem dL_law_1572 : decode cL_law 1572 = .ok (.if_icmp .eq 5, 3) := by decide +kernel
theorem dL_law_1575 : decode cL_law 1575 = .ok (.iconst 0, 1) := by decide +kernel
theorem dL_law_1576 : decode cL_law 1576 = .ok (.ireturn, 1) := by decide +kernel
theorem dL_law_1577 : decode cL_law 1577 = .ok (.iload 5, 2) := by decide +kernel
theorem dL_law_1579 : decode cL_law 1579 = .ok (.ifCond .ne 15, 3) := by decide +kernel
theorem dL_law_1582 : decode cL_law 1582 = .ok (.aload_n 3, 1) := by decide +kernel
theorem dL_law_1583 : decode cL_law 1583 = .ok (.iconst 0, 1) := by decide +kernel
theorem dL_law_1584 : decode cL_law 1584 = .ok (.laload, 1) := by decide +kernel
theorem dL_law_1585 : decode cL_law 1585 = .ok (.iload 6, 2) := by decide +kernel
theorem dL_law_1587 : decode cL_law 1587 = .ok (.i2l, 1) := by decide +kernel
theorem dL_law_1588 : decode cL_law 1588 = .ok (.lcmp, 1) := by decide +kernel
theorem dL_law_1589 : decode cL_law 1589 = .ok (.ifCond .eq 5, 3) := by decide +kernel
theorem dL_law_1592 : decode cL_law 1592 = .ok (.iconst 0, 1) := by decide +kernel
theorem dL_law_1593 : decode cL_law 1593 = .ok (.ireturn, 1) := by decide +kernel
theorem dL_law_1594 : decode cL_law 1594 = .ok (.goto 317, 3) := by decide +kernel
theorem dL_law_1597 : decode cL_law 1597 = .ok (.aload_n 1, 1) := by decide +kernel
theorem dL_law_1598 : decode cL_law 1598 = .ok (.aload_n 0, 1) := by decide +kernel
theorem dL_law_1599 : decode cL_law 1599 = .ok (.iload 4, 2) := by decide +kernel
theorem dL_law_1601 : decode cL_law 1601 = .ok (.iconst 1, 1) := by decide +kernel
theorem dL_law_1602 : decode cL_law 1602 = .ok (.iadd, 1) := by decide +kernel
theorem dL_law_1603 : decode cL_law 1603 = .ok (.iaload, 1) := by decide +kernel
theorem dL_law_1604 : decode cL_law 1604 = .ok (.aload_n 0, 1) := by decide +kernel
theorem dL_law_1605 : decode cL_law 1605 = .ok (.iload 4, 2) := by decide +kernel
theorem dL_law_1607 : decode cL_law 1607 = .ok (.iconst 2, 1) := by decide +kernel
theorem dL_law_1608 : decode cL_law 1608 = .ok (.iadd, 1) := by decide +kernel
theorem dL_law_1609 : decode cL_law 1609 = .ok (.iaload, 1) := by decide +kernel
theorem dL_law_1610 : decode cL_law 1610 = .ok (.aload_n 3, 1) := by decide +kernel
theorem dL_law_1611 : decode cL_law 1611 = .ok (.invokestatic 195, 3) := by decide +kernel
theorem dL_law_1614 : decode cL_law 1614 = .ok (.istore 5, 2) := by decide +kernel
theorem dL_law_1616 : decode cL_law 1616 = .ok (.aload_n 2, 1) := by decide +kernel
theorem dL_law_1617 : decode cL_law 1617 = .ok (.aload_n 0, 1) := by decide +kernel
theorem dL_law_1618 : decode cL_law 1618 = .ok (.iload 4, 2) := by decide +kernel
theorem dL_law_1620 : decode cL_law 1620 = .ok (.iconst 1, 1) := by decide +kernel
theorem dL_law_1621 : decode cL_law 1621 = .ok (.iadd, 1) := by decide +kernel
theorem dL_law_1622 : decode cL_law 1622 = .ok (.iaload, 1) := by decide +kernel
theorem dL_law_1623 : decode cL_law 1623 = .ok (.aload_n 0, 1) := by decide +kernel
theorem dL_law_1624 : decode cL_law 1624 = .ok (.iload 4, 2) := by decide +kernel
theorem dL_law_1626 : decode cL_law 1626 = .ok (.iconst 2, 1) := by decide +kernel
theorem dL_law_1627 : decode cL_law 1627 = .ok (.iadd, 1) := by decide +kernel
theorem dL_law_1628 : decode cL_law 1628 = .ok (.iaload, 1) := by decide +kernel
theorem dL_law_1629 : decode cL_law 1629 = .ok (.invokevirtual 197, 3) := by decide +kernel
theorem dL_law_1632 : decode cL_law 1632 = .ok (.istore 6, 2) := by decide +kernel
theorem dL_law_1634 : decode cL_law 1634 = .ok (.aload_n 2, 1) := by decide +kernel
theorem dL_law_1635 : decode cL_law 1635 = .ok (.invokevirtual 113, 3) := by decide +kernel
theorem dL_law_1638 : decode cL_law 1638 = .ok (.iload 5, 2) := by decide +kernel
theorem dL_law_1640 : decode cL_law 1640 = .ok (.if_icmp .eq 5, 3) := by decide +kernel
theorem dL_law_1643 : decode cL_law 1643 = .ok (.iconst 0, 1) := by decide +kernel
theorem dL_law_1644 : decode cL_law 1644 = .ok (.ireturn, 1) := by decide +kernel
theorem dL_law_1645 : decode cL_law 1645 = .ok (.iload 5, 2) := by decide +kernel
theorem dL_law_1647 : decode cL_law 1647 = .ok (.ifCond .ne 15, 3) := by decide +kernel
theorem dL_law_1650 : decode cL_law 1650 = .ok (.aload_n 3, 1) := by decide +kernel
theorem dL_law_1651 : decode cL_law 1651 = .ok (.iconst 0, 1) := by decide +kernel
theorem dL_law_1652 : decode cL_law 1652 = .ok (.laload, 1) := by decide +kernel
theorem dL_law_1653 : decode cL_law 1653 = .ok (.iload 6, 2) := by decide +kernel
theorem dL_law_1655 : decode cL_law 1655 = .ok (.i2l, 1) := by decide +kernel
theorem dL_law_1656 : decode cL_law 1656 = .ok (.lcmp, 1) := by decide +kernel
theorem dL_law_1657 : decode cL_law 1657 = .ok (.ifCond .eq 5, 3) := by decide +kernel
theorem dL_law_1660 : decode cL_law 1660 = .ok (.iconst 0, 1) := by decide +kernel
theorem dL_law_1661 : decode cL_law 1661 = .ok (.ireturn, 1) := by decide +kernel
theorem dL_law_1662 : decode cL_law 1662 = .ok (.goto 249, 3) := by decide +kernel
theorem dL_law_1665 : decode cL_law 1665 = .ok (.aload_n 1, 1) := by decide +kernel
theorem dL_law_1666 : decode cL_law 1666 = .ok (.aload_n 0, 1) := by decide +kernel
theorem dL_law_1667 : decode cL_law 1667 = .ok (.iload 4, 2) := by decide +kernel
theorem dL_law_1669 : decode cL_law 1669 = .ok (.iconst 1, 1) := by decide +kernel
theorem dL_law_1670 : decode cL_law 1670 = .ok (.iadd, 1) := by decide +kernel
theorem dL_law_1671 : decode cL_law 1671 = .ok (.iaload, 1) := by decide +kernel
theorem dL_law_1672 : decode cL_law 1672 = .ok (.aload_n 3, 1) := by decide +kernel
theorem dL_law_1673 : decode cL_law 1673 = .ok (.invokestatic 198, 3) := by decide +kernel
theorem dL_law_1676 : decode cL_law 1676 = .ok (.istore 5, 2) := by decide +kernel
theorem dL_law_1678 : decode cL_law 1678 = .ok (.aload_n 2, 1) := by decide +kernel
theorem dL_law_1679 : decode cL_law 1679 = .ok (.aload_n 0, 1) := by decide +kernel
theorem dL_law_1680 : decode cL_law 1680 = .ok (.iload 4, 2) := by decide +kernel
theorem dL_law_1682 : decode cL_law 1682 = .ok (.iconst 1, 1) := by decide +kernel
theorem dL_law_1683 : decode cL_law 1683 = .ok (.iadd, 1) := by decide +kernel
theorem dL_law_1684 : decode cL_law 1684 = .ok (.iaload, 1) := by decide +kernel
theorem dL_law_1685 : decode cL_law 1685 = .ok (.invokevirtual 200, 3) := by decide +kernel
theorem dL_law_1688 : decode cL_law 1688 = .ok (.istore 6, 2) := by decide +kernel
theorem dL_law_1690 : decode cL_law 1690 = .ok (.aload_n 2, 1) := by decide +kernel
theorem dL_law_1691 : decode cL_law 1691 = .ok (.invokevirtual 113, 3) := by decide +kernel
theorem dL_law_1694 : decode cL_law 1694 = .ok (.iload 5, 2) := by decide +kernel
theorem dL_law_1696 : decode cL_law 1696 = .ok (.if_icmp .eq 5, 3) := by decide +kernel
theorem dL_law_1699 : decode cL_law 1699 = .ok (.iconst 0, 1) := by decide +kernel
theorem dL_law_1700 : decode cL_law 1700 = .ok (.ireturn, 1) := by decide +kernel
theorem dL_law_1701 : decode cL_law 1701 = .ok (.iload 5, 2) := by decide +kernel
theorem dL_law_1703 : decode cL_law 1703 = .ok (.ifCond .ne 15, 3) := by decide +kernel
theorem dL_law_1706 : decode cL_law 1706 = .ok (.aload_n 3, 1) := by decide +kernel
theorem dL_law_1707 : decode cL_law 1707 = .ok (.iconst 0, 1) := by decide +kernel
theorem dL_law_1708 : decode cL_law 1708 = .ok (.laload, 1) := by decide +kernel
theorem dL_law_1709 : decode cL_law 1709 = .ok (.iload 6, 2) := by decide +kernel
theorem dL_law_1711 : decode cL_law 1711 = .ok (.i2l, 1) := by decide +kernel
theorem dL_law_1712 : decode cL_law 1712 = .ok (.lcmp, 1) := by decide +kernel
theorem dL_law_1713 : decode cL_law 1713 = .ok (.ifCond .eq 5, 3) := by decide +kernel
theorem dL_law_1716 : decode cL_law 1716 = .ok (.iconst 0, 1) := by decide +kernel
theorem dL_law_1717 : decode cL_law 1717 = .ok (.ireturn, 1) := by decide +kernel
theorem dL_law_1718 : decode cL_law 1718 = .ok (.goto 193, 3) := by decide +kernel
theorem dL_law_1721 : decode cL_law 1721 = .ok (.aload_n 1, 1) := by decide +kernel
theorem dL_law_1722 : decode cL_law 1722 = .ok (.invokevirtual 201, 3) := by decide +kernel
theorem dL_law_1725 : decode cL_law 1725 = .ok (.aload_n 2, 1) := by decide +kernel
theorem dL_law_1726 : decode cL_law 1726 = .ok (.invokevirtual 204, 3) := by decide +kernel
theorem dL_law_1729 : decode cL_law 1729 = .ok (.if_icmp .eq 182, 3) := by decide +kernel
theorem dL_law_1732 : decode cL_law 1732 = .ok (.iconst 0, 1) := by decide +kernel
theorem dL_law_1733 : decode cL_law 1733 = .ok (.ireturn, 1) := by decide +kernel
theorem dL_law_1734 : decode cL_law 1734 = .ok (.aload_n 1, 1) := by decide +kernel
theorem dL_law_1735 : decode cL_law 1735 = .ok (.invokevirtual 205, 3) := by decide +kernel
theorem dL_law_1738 : decode cL_law 1738 = .ok (.aload_n 2, 1) := by decide +kernel
theorem dL_law_1739 : decode cL_law 1739 = .ok (.invokevirtual 208, 3) := by decide +kernel
theorem dL_law_1742 : decode cL_law 1742 = .ok (.if_icmp .eq 169, 3) := by decide +kernel
theorem dL_law_1745 : decode cL_law 1745 = .ok (.iconst 0, 1) := by decide +kernel
theorem dL_law_1746 : decode cL_law 1746 = .ok (.ireturn, 1) := by decide +kernel
theorem dL_law_1747 : decode cL_law 1747 = .ok (.aload_n 1, 1) := by decide +kernel
theorem dL_law_1748 : decode cL_law 1748 = .ok (.aload_n 0, 1) := by decide +kernel
theorem dL_law_1749 : decode cL_law 1749 = .ok (.iload 4, 2) := by decide +kernel
theorem dL_law_1751 : decode cL_law 1751 = .ok (.iconst 1, 1) := by decide +kernel
theorem dL_law_1752 : decode cL_law 1752 = .ok (.iadd, 1) := by decide +kernel
theorem dL_law_1753 : decode cL_law 1753 = .ok (.iaload, 1) := by decide +kernel
theorem dL_law_1754 : decode cL_law 1754 = .ok (.aload_n 3, 1) := by decide +kernel
theorem dL_law_1755 : decode cL_law 1755 = .ok (.invokestatic 209, 3) := by decide +kernel
theorem dL_law_1758 : decode cL_law 1758 = .ok (.istore 5, 2) := by decide +kernel
theorem dL_law_1760 : decode cL_law 1760 = .ok (.aload_n 2, 1) := by decide +kernel
theorem dL_law_1761 : decode cL_law 1761 = .ok (.aload_n 0, 1) := by decide +kernel
theorem dL_law_1762 : decode cL_law 1762 = .ok (.iload 4, 2) := by decide +kernel
theorem dL_law_1764 : decode cL_law 1764 = .ok (.iconst 1, 1) := by decide +kernel
theorem dL_law_1765 : decode cL_law 1765 = .ok (.iadd, 1) := by decide +kernel
theorem dL_law_1766 : decode cL_law 1766 = .ok (.iaload, 1) := by decide +kernel
theorem dL_law_1767 : decode cL_law 1767 = .ok (.invokevirtual 211, 3) := by decide +kernel
theorem dL_law_1770 : decode cL_law 1770 = .ok (.istore 6, 2) := by decide +kernel
theorem dL_law_1772 : decode cL_law 1772 = .ok (.aload_n 2, 1) := by decide +kernel
theorem dL_law_1773 : decode cL_law 1773 = .ok (.invokevirtual 113, 3) := by decide +kernel
theorem dL_law_1776 : decode cL_law 1776 = .ok (.iload 5, 2) := by decide +kernel
theorem dL_law_1778 : decode cL_law 1778 = .ok (.if_icmp .eq 5, 3) := by decide +kernel
theorem dL_law_1781 : decode cL_law 1781 = .ok (.iconst 0, 1) := by decide +kernel
theorem dL_law_1782 : decode cL_law 1782 = .ok (.ireturn, 1) := by decide +kernel
theorem dL_law_1783 : decode cL_law 1783 = .ok (.iload 5, 2) := by decide +kernel
theorem dL_law_1785 : decode cL_law 1785 = .ok (.ifCond .ne 15, 3) := by decide +kernel
theorem dL_law_1788 : decode cL_law 1788 = .ok (.aload_n 3, 1) := by decide +kernel
theorem dL_law_1789 : decode cL_law 1789 = .ok (.iconst 0, 1) := by decide +kernel
theorem dL_law_1790 : decode cL_law 1790 = .ok (.laload, 1) := by decide +kernel
theorem dL_law_1791 : decode cL_law 1791 = .ok (.iload 6, 2) := by decide +kernel
theorem dL_law_1793 : decode cL_law 1793 = .ok (.i2l, 1) := by decide +kernel
theorem dL_law_1794 : decode cL_law 1794 = .ok (.lcmp, 1) := by decide +kernel
theorem dL_law_1795 : decode cL_law 1795 = .ok (.ifCond .eq 5, 3) := by decide +kernel
theorem dL_law_1798 : decode cL_law 1798 = .ok (.iconst 0, 1) := by decide +kernel
theorem dL_law_1799 : decode cL_law 1799 = .ok (.ireturn, 1) := by decide +kernel
theorem dL_law_1800 : decode cL_law 1800 = .ok (.goto 111, 3) := by decide +kernel
theorem dL_law_1803 : decode cL_law 1803 = .ok (.aload_n 1, 1) := by decide +kernel
theorem dL_law_1804 : decode cL_law 1804 = .ok (.invokevirtual 212, 3) := by decide +kernel
theorem dL_law_1807 : decode cL_law 1807 = .ok (.aload_n 2, 1) := by decide +kernel
theorem dL_law_1808 : decode cL_law 1808 = .ok (.invokevirtual 215, 3) := by decide +kernel
theorem dL_law_1811 : decode cL_law 1811 = .ok (.if_icmp .eq 100, 3) := by decide +kernel
theorem dL_law_1814 : decode cL_law 1814 = .ok (.iconst 0, 1) := by decide +kernel
theorem dL_law_1815 : decode cL_law 1815 = .ok (.ireturn, 1) := by decide +kernel
theorem dL_law_1816 : decode cL_law 1816 = .ok (.aload_n 1, 1) := by decide +kernel
theorem dL_law_1817 : decode cL_law 1817 = .ok (.aload_n 0, 1) := by decide +kernel
theorem dL_law_1818 : decode cL_law 1818 = .ok (.iload 4, 2) := by decide +kernel
theorem dL_law_1820 : decode cL_law 1820 = .ok (.iconst 1, 1) := by decide +kernel
theorem dL_law_1821 : decode cL_law 1821 = .ok (.iadd, 1) := by decide +kernel
theorem dL_law_1822 : decode cL_law 1822 = .ok (.iaload, 1) := by decide +kernel
theorem dL_law_1823 : decode cL_law 1823 = .ok (.aload_n 3, 1) := by decide +kernel
theorem dL_law_1824 : decode cL_law 1824 = .ok (.invokestatic 216, 3) := by decide +kernel
theorem dL_law_1827 : decode cL_law 1827 = .ok (.istore 5, 2) := by decide +kernel
theorem dL_law_1829 : decode cL_law 1829 = .ok (.aload_n 2, 1) := by decide +kernel
theorem dL_law_1830 : decode cL_law 1830 = .ok (.aload_n 0, 1) := by decide +kernel
theorem dL_law_1831 : decode cL_law 1831 = .ok (.iload 4, 2) := by decide +kernel
theorem dL_law_1833 : decode cL_law 1833 = .ok (.iconst 1, 1) := by decide +kernel
theorem dL_law_1834 : decode cL_law 1834 = .ok (.iadd, 1) := by decide +kernel
theorem dL_law_1835 : decode cL_law 1835 = .ok (.iaload, 1) := by decide +kernel
theorem dL_law_1836 : decode cL_law 1836 = .ok (.invokevirtual 218, 3) := by decide +kernel
theorem dL_law_1839 : decode cL_law 1839 = .ok (.istore 6, 2) := by decide +kernel
theorem dL_law_1841 : decode cL_law 1841 = .ok (.aload_n 2, 1) := by decide +kernel
theorem dL_law_1842 : decode cL_law 1842 = .ok (.invokevirtual 113, 3) := by decide +kernel
theorem dL_law_1845 : decode cL_law 1845 = .ok (.iload 5, 2) := by decide +kernel
theorem dL_law_1847 : decode cL_law 1847 = .ok (.if_icmp .eq 5, 3) := by decide +kernel
theorem dL_law_1850 : decode cL_law 1850 = .ok (.iconst 0, 1) := by decide +kernel
theorem dL_law_1851 : decode cL_law 1851 = .ok (.ireturn, 1) := by decide +kernel
theorem dL_law_1852 : decode cL_law 1852 = .ok (.iload 5, 2) := by decide +kernel
theorem dL_law_1854 : decode cL_law 1854 = .ok (.ifCond .ne 15, 3) := by decide +kernel
theorem dL_law_1857 : decode cL_law 1857 = .ok (.aload_n 3, 1) := by decide +kernel
theorem dL_law_1858 : decode cL_law 1858 = .ok (.iconst 0, 1) := by decide +kernel
theorem dL_law_1859 : decode cL_law 1859 = .ok (.laload, 1) := by decide +kernel
theorem dL_law_1860 : decode cL_law 1860 = .ok (.iload 6, 2) := by decide +kernel
theorem dL_law_1862 : decode cL_law 1862 = .ok (.i2l, 1) := by decide +kernel
theorem dL_law_1863 : decode cL_law 1863 = .ok (.lcmp, 1) := by decide +kernel
theorem dL_law_1864 : decode cL_law 1864 = .ok (.ifCond .eq 5, 3) := by decide +kernel
theorem dL_law_1867 : decode cL_law 1867 = .ok (.iconst 0, 1) := by decide +kernel
theorem dL_law_1868 : decode cL_law 1868 = .ok (.ireturn, 1) := by decide +kernel
theorem dL_law_1869 : decode cL_law 1869 = .ok (.goto 42, 3) := by decide +kernel
theorem dL_law_1872 : decode cL_law 1872 = .ok (.aload_n 1, 1) := by decide +kernel
theorem dL_law_1873 : decode cL_law 1873 = .ok (.invokevirtual 219, 3) := by decide +kernel
theorem dL_law_1876 : decode cL_law 1876 = .ok (.aload_n 2, 1) := by decide +kernel
theorem dL_law_1877 : decode cL_law 1877 = .ok (.invokevirtual 222, 3) := by decide +kernel
theorem dL_law_1880 : decode cL_law 1880 = .ok (.if_icmp .eq 31, 3) := by decide +kernel
theorem dL_law_1883 : decode cL_law 1883 = .ok (.iconst 0, 1) := by decide +kernel
theorem dL_law_1884 : decode cL_law 1884 = .ok (.ireturn, 1) := by decide +kernel
theorem dL_law_1885 : decode cL_law 1885 = .ok (.aload_n 1, 1) := by decide +kernel
theorem dL_law_1886 : decode cL_law 1886 = .ok (.invokevirtual 223, 3) := by decide +kernel
theorem dL_law_1889 : decode cL_law 1889 = .ok (.aload_n 2, 1) := by decide +kernel
theorem dL_law_1890 : decode cL_law 1890 = .ok (.invokevirtual 226, 3) := by decide +kernel
theorem dL_law_1893 : decode cL_law 1893 = .ok (.if_icmp .eq 18, 3) := by decide +kernel
theorem dL_law_1896 : decode cL_law 1896 = .ok (.iconst 0, 1) := by decide +kernel
theorem dL_law_1897 : decode cL_law 1897 = .ok (.ireturn, 1) := by decide +kernel
theorem dL_law_1898 : decode cL_law 1898 = .ok (.aload_n 1, 1) := by decide +kernel
theorem dL_law_1899 : decode cL_law 1899 = .ok (.invokevirtual 227, 3) := by decide +kernel
theorem dL_law_1902 : decode cL_law 1902 = .ok (.aload_n 2, 1) := by decide +kernel
theorem dL_law_1903 : decode cL_law 1903 = .ok (.invokevirtual 230, 3) := by decide +kernel
theorem dL_law_1906 : decode cL_law 1906 = .ok (.if_icmp .eq 5, 3) := by decide +kernel
theorem dL_law_1909 : decode cL_law 1909 = .ok (.iconst 0, 1) := by decide +kernel
theorem dL_law_1910 : decode cL_law 1910 = .ok (.ireturn, 1) := by decide +kernel
theorem dL_law_1911 : decode cL_law 1911 = .ok (.iinc 4 3, 3) := by decide +kernel
theorem dL_law_1914 : decode cL_law 1914 = .ok (.goto (-1891), 3) := by decide +kernel
theorem dL_law_1917 : decode cL_law 1917 = .ok (.iconst 1, 1) := by decide +kernel
theorem dL_law_1918 : decode cL_law 1918 = .ok (.ireturn, 1) := by decide +kernel
