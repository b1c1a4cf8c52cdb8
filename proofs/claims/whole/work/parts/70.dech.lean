theorem dL_store_0 : decode cL_store 0 = .ok (.aload_n 3, 1) := by decide +kernel
theorem dL_store_1 : decode cL_store 1 = .ok (.iconst 0, 1) := by decide +kernel
theorem dL_store_2 : decode cL_store 2 = .ok (.aload_n 0, 1) := by decide +kernel
theorem dL_store_3 : decode cL_store 3 = .ok (.iload_n 1, 1) := by decide +kernel
theorem dL_store_4 : decode cL_store 4 = .ok (.iload_n 2, 1) := by decide +kernel
theorem dL_store_5 : decode cL_store 5 = .ok (.invokevirtual 7, 3) := by decide +kernel
theorem dL_store_8 : decode cL_store 8 = .ok (.i2l, 1) := by decide +kernel
theorem dL_store_9 : decode cL_store 9 = .ok (.lastore, 1) := by decide +kernel
theorem dL_store_10 : decode cL_store 10 = .ok (.goto 15, 3) := by decide +kernel
theorem dL_store_13 : decode cL_store 13 = .ok (.astore 4, 2) := by decide +kernel
theorem dL_store_15 : decode cL_store 15 = .ok (.iconst 1, 1) := by decide +kernel
theorem dL_store_16 : decode cL_store 16 = .ok (.ireturn, 1) := by decide +kernel
theorem dL_store_17 : decode cL_store 17 = .ok (.astore 4, 2) := by decide +kernel
theorem dL_store_19 : decode cL_store 19 = .ok (.iconst 2, 1) := by decide +kernel
theorem dL_store_20 : decode cL_store 20 = .ok (.ireturn, 1) := by decide +kernel
theorem dL_store_21 : decode cL_store 21 = .ok (.astore 4, 2) := by decide +kernel
theorem dL_store_23 : decode cL_store 23 = .ok (.iconst 3, 1) := by decide +kernel
theorem dL_store_24 : decode cL_store 24 = .ok (.ireturn, 1) := by decide +kernel
theorem dL_store_25 : decode cL_store 25 = .ok (.iconst 0, 1) := by decide +kernel
theorem dL_store_26 : decode cL_store 26 = .ok (.ireturn, 1) := by decide +kernel
theorem dL_write_0 : decode cL_write 0 = .ok (.aload_n 3, 1) := by decide +kernel
theorem dL_write_1 : decode cL_write 1 = .ok (.iconst 0, 1) := by decide +kernel
theorem dL_write_2 : decode cL_write 2 = .ok (.aload_n 0, 1) := by decide +kernel
theorem dL_write_3 : decode cL_write 3 = .ok (.iload_n 1, 1) := by decide +kernel
theorem dL_write_4 : decode cL_write 4 = .ok (.iload_n 2, 1) := by decide +kernel
theorem dL_write_5 : decode cL_write 5 = .ok (.invokevirtual 19, 3) := by decide +kernel
theorem dL_write_8 : decode cL_write 8 = .ok (.i2l, 1) := by decide +kernel
theorem dL_write_9 : decode cL_write 9 = .ok (.lastore, 1) := by decide +kernel
theorem dL_write_10 : decode cL_write 10 = .ok (.goto 15, 3) := by decide +kernel
theorem dL_write_13 : decode cL_write 13 = .ok (.astore 4, 2) := by decide +kernel
theorem dL_write_15 : decode cL_write 15 = .ok (.iconst 1, 1) := by decide +kernel
theorem dL_write_16 : decode cL_write 16 = .ok (.ireturn, 1) := by decide +kernel
theorem dL_write_17 : decode cL_write 17 = .ok (.astore 4, 2) := by decide +kernel
theorem dL_write_19 : decode cL_write 19 = .ok (.iconst 2, 1) := by decide +kernel
theorem dL_write_20 : decode cL_write 20 = .ok (.ireturn, 1) := by decide +kernel
theorem dL_write_21 : decode cL_write 21 = .ok (.astore 4, 2) := by decide +kernel
theorem dL_write_23 : decode cL_write 23 = .ok (.iconst 3, 1) := by decide +kernel
theorem dL_write_24 : decode cL_write 24 = .ok (.ireturn, 1) := by decide +kernel
theorem dL_write_25 : decode cL_write 25 = .ok (.iconst 0, 1) := by decide +kernel
theorem dL_write_26 : decode cL_write 26 = .ok (.ireturn, 1) := by decide +kernel
theorem dL_read_0 : decode cL_read 0 = .ok (.aload_n 2, 1) := by decide +kernel
theorem dL_read_1 : decode cL_read 1 = .ok (.iconst 0, 1) := by decide +kernel
theorem dL_read_2 : decode cL_read 2 = .ok (.aload_n 0, 1) := by decide +kernel
theorem dL_read_3 : decode cL_read 3 = .ok (.iload_n 1, 1) := by decide +kernel
theorem dL_read_4 : decode cL_read 4 = .ok (.invokevirtual 22, 3) := by decide +kernel
theorem dL_read_7 : decode cL_read 7 = .ok (.i2l, 1) := by decide +kernel
theorem dL_read_8 : decode cL_read 8 = .ok (.lastore, 1) := by decide +kernel
theorem dL_read_9 : decode cL_read 9 = .ok (.goto 9, 3) := by decide +kernel
theorem dL_read_12 : decode cL_read 12 = .ok (.astore_n 3, 1) := by decide +kernel
theorem dL_read_13 : decode cL_read 13 = .ok (.iconst 1, 1) := by decide +kernel
theorem dL_read_14 : decode cL_read 14 = .ok (.ireturn, 1) := by decide +kernel
theorem dL_read_15 : decode cL_read 15 = .ok (.astore_n 3, 1) := by decide +kernel
theorem dL_read_16 : decode cL_read 16 = .ok (.iconst 2, 1) := by decide +kernel
theorem dL_read_17 : decode cL_read 17 = .ok (.ireturn, 1) := by decide +kernel
theorem dL_read_18 : decode cL_read 18 = .ok (.iconst 0, 1) := by decide +kernel
theorem dL_read_19 : decode cL_read 19 = .ok (.ireturn, 1) := by decide +kernel
theorem dL_remove_0 : decode cL_remove 0 = .ok (.aload_n 2, 1) := by decide +kernel
theorem dL_remove_1 : decode cL_remove 1 = .ok (.iconst 0, 1) := by decide +kernel
theorem dL_remove_2 : decode cL_remove 2 = .ok (.aload_n 0, 1) := by decide +kernel
theorem dL_remove_3 : decode cL_remove 3 = .ok (.iload_n 1, 1) := by decide +kernel
theorem dL_remove_4 : decode cL_remove 4 = .ok (.invokevirtual 26, 3) := by decide +kernel
theorem dL_remove_7 : decode cL_remove 7 = .ok (.i2l, 1) := by decide +kernel
theorem dL_remove_8 : decode cL_remove 8 = .ok (.lastore, 1) := by decide +kernel
theorem dL_remove_9 : decode cL_remove 9 = .ok (.goto 9, 3) := by decide +kernel
theorem dL_remove_12 : decode cL_remove 12 = .ok (.astore_n 3, 1) := by decide +kernel
theorem dL_remove_13 : decode cL_remove 13 = .ok (.iconst 1, 1) := by decide +kernel
theorem dL_remove_14 : decode cL_remove 14 = .ok (.ireturn, 1) := by decide +kernel
theorem dL_remove_15 : decode cL_remove 15 = .ok (.astore_n 3, 1) := by decide +kernel
theorem dL_remove_16 : decode cL_remove 16 = .ok (.iconst 2, 1) := by decide +kernel
theorem dL_remove_17 : decode cL_remove 17 = .ok (.ireturn, 1) := by decide +kernel
theorem dL_remove_18 : decode cL_remove 18 = .ok (.iconst 0, 1) := by decide +kernel
theorem dL_remove_19 : decode cL_remove 19 = .ok (.ireturn, 1) := by decide +kernel
theorem dL_lend_0 : decode cL_lend 0 = .ok (.aload_n 3, 1) := by decide +kernel
theorem dL_lend_1 : decode cL_lend 1 = .ok (.iconst 0, 1) := by decide +kernel
theorem dL_lend_2 : decode cL_lend 2 = .ok (.aload_n 0, 1) := by decide +kernel
theorem dL_lend_3 : decode cL_lend 3 = .ok (.iload_n 1, 1) := by decide +kernel
theorem dL_lend_4 : decode cL_lend 4 = .ok (.iload_n 2, 1) := by decide +kernel
theorem dL_lend_5 : decode cL_lend 5 = .ok (.invokevirtual 29, 3) := by decide +kernel
theorem dL_lend_8 : decode cL_lend 8 = .ok (.i2l, 1) := by decide +kernel
theorem dL_lend_9 : decode cL_lend 9 = .ok (.lastore, 1) := by decide +kernel
theorem dL_lend_10 : decode cL_lend 10 = .ok (.goto 15, 3) := by decide +kernel
theorem dL_lend_13 : decode cL_lend 13 = .ok (.astore 4, 2) := by decide +kernel
theorem dL_lend_15 : decode cL_lend 15 = .ok (.iconst 1, 1) := by decide +kernel
theorem dL_lend_16 : decode cL_lend 16 = .ok (.ireturn, 1) := by decide +kernel
theorem dL_lend_17 : decode cL_lend 17 = .ok (.astore 4, 2) := by decide +kernel
theorem dL_lend_19 : decode cL_lend 19 = .ok (.iconst 2, 1) := by decide +kernel
theorem dL_lend_20 : decode cL_lend 20 = .ok (.ireturn, 1) := by decide +kernel
theorem dL_lend_21 : decode cL_lend 21 = .ok (.astore 4, 2) := by decide +kernel
theorem dL_lend_23 : decode cL_lend 23 = .ok (.iconst 3, 1) := by decide +kernel
theorem dL_lend_24 : decode cL_lend 24 = .ok (.ireturn, 1) := by decide +kernel
theorem dL_lend_25 : decode cL_lend 25 = .ok (.iconst 0, 1) := by decide +kernel
theorem dL_lend_26 : decode cL_lend 26 = .ok (.ireturn, 1) := by decide +kernel
theorem dL_recall_0 : decode cL_recall 0 = .ok (.aload_n 3, 1) := by decide +kernel
theorem dL_recall_1 : decode cL_recall 1 = .ok (.iconst 0, 1) := by decide +kernel
theorem dL_recall_2 : decode cL_recall 2 = .ok (.aload_n 0, 1) := by decide +kernel
theorem dL_recall_3 : decode cL_recall 3 = .ok (.iload_n 1, 1) := by decide +kernel
theorem dL_recall_4 : decode cL_recall 4 = .ok (.iload_n 2, 1) := by decide +kernel
theorem dL_recall_5 : decode cL_recall 5 = .ok (.invokevirtual 32, 3) := by decide +kernel
theorem dL_recall_8 : decode cL_recall 8 = .ok (.i2l, 1) := by decide +kernel
theorem dL_recall_9 : decode cL_recall 9 = .ok (.lastore, 1) := by decide +kernel
theorem dL_recall_10 : decode cL_recall 10 = .ok (.goto 15, 3) := by decide +kernel
theorem dL_recall_13 : decode cL_recall 13 = .ok (.astore 4, 2) := by decide +kernel
theorem dL_recall_15 : decode cL_recall 15 = .ok (.iconst 1, 1) := by decide +kernel
theorem dL_recall_16 : decode cL_recall 16 = .ok (.ireturn, 1) := by decide +kernel
theorem dL_recall_17 : decode cL_recall 17 = .ok (.astore 4, 2) := by decide +kernel
theorem dL_recall_19 : decode cL_recall 19 = .ok (.iconst 2, 1) := by decide +kernel
theorem dL_recall_20 : decode cL_recall 20 = .ok (.ireturn, 1) := by decide +kernel
theorem dL_recall_21 : decode cL_recall 21 = .ok (.astore 4, 2) := by decide +kernel
theorem dL_recall_23 : decode cL_recall 23 = .ok (.iconst 3, 1) := by decide +kernel
theorem dL_recall_24 : decode cL_recall 24 = .ok (.ireturn, 1) := by decide +kernel
theorem dL_recall_25 : decode cL_recall 25 = .ok (.iconst 0, 1) := by decide +kernel
theorem dL_recall_26 : decode cL_recall 26 = .ok (.ireturn, 1) := by decide +kernel
theorem dL_disconnect_0 : decode cL_disconnect 0 = .ok (.aload_n 2, 1) := by decide +kernel
theorem dL_disconnect_1 : decode cL_disconnect 1 = .ok (.iconst 0, 1) := by decide +kernel
theorem dL_disconnect_2 : decode cL_disconnect 2 = .ok (.aload_n 0, 1) := by decide +kernel
theorem dL_disconnect_3 : decode cL_disconnect 3 = .ok (.iload_n 1, 1) := by decide +kernel
theorem dL_disconnect_4 : decode cL_disconnect 4 = .ok (.invokevirtual 35, 3) := by decide +kernel
theorem dL_disconnect_7 : decode cL_disconnect 7 = .ok (.i2l, 1) := by decide +kernel
theorem dL_disconnect_8 : decode cL_disconnect 8 = .ok (.lastore, 1) := by decide +kernel
theorem dL_disconnect_9 : decode cL_disconnect 9 = .ok (.goto 9, 3) := by decide +kernel
theorem dL_disconnect_12 : decode cL_disconnect 12 = .ok (.astore_n 3, 1) := by decide +kernel
theorem dL_disconnect_13 : decode cL_disconnect 13 = .ok (.iconst 1, 1) := by decide +kernel
theorem dL_disconnect_14 : decode cL_disconnect 14 = .ok (.ireturn, 1) := by decide +kernel
theorem dL_disconnect_15 : decode cL_disconnect 15 = .ok (.astore_n 3, 1) := by decide +kernel
theorem dL_disconnect_16 : decode cL_disconnect 16 = .ok (.iconst 2, 1) := by decide +kernel
theorem dL_disconnect_17 : decode cL_disconnect 17 = .ok (.ireturn, 1) := by decide +kernel
theorem dL_disconnect_18 : decode cL_disconnect 18 = .ok (.iconst 0, 1) := by decide +kernel
theorem dL_disconnect_19 : decode cL_disconnect 19 = .ok (.ireturn, 1) := by decide +kernel
theorem dL_reconnect_0 : decode cL_reconnect 0 = .ok (.aload_n 2, 1) := by decide +kernel
theorem dL_reconnect_1 : decode cL_reconnect 1 = .ok (.iconst 0, 1) := by decide +kernel
theorem dL_reconnect_2 : decode cL_reconnect 2 = .ok (.aload_n 0, 1) := by decide +kernel
theorem dL_reconnect_3 : decode cL_reconnect 3 = .ok (.iload_n 1, 1) := by decide +kernel
theorem dL_reconnect_4 : decode cL_reconnect 4 = .ok (.invokevirtual 38, 3) := by decide +kernel
theorem dL_reconnect_7 : decode cL_reconnect 7 = .ok (.i2l, 1) := by decide +kernel
theorem dL_reconnect_8 : decode cL_reconnect 8 = .ok (.lastore, 1) := by decide +kernel
theorem dL_reconnect_9 : decode cL_reconnect 9 = .ok (.goto 9, 3) := by decide +kernel
theorem dL_reconnect_12 : decode cL_reconnect 12 = .ok (.astore_n 3, 1) := by decide +kernel
theorem dL_reconnect_13 : decode cL_reconnect 13 = .ok (.iconst 1, 1) := by decide +kernel
theorem dL_reconnect_14 : decode cL_reconnect 14 = .ok (.ireturn, 1) := by decide +kernel
theorem dL_reconnect_15 : decode cL_reconnect 15 = .ok (.astore_n 3, 1) := by decide +kernel
theorem dL_reconnect_16 : decode cL_reconnect 16 = .ok (.iconst 2, 1) := by decide +kernel
theorem dL_reconnect_17 : decode cL_reconnect 17 = .ok (.ireturn, 1) := by decide +kernel
theorem dL_reconnect_18 : decode cL_reconnect 18 = .ok (.iconst 0, 1) := by decide +kernel
theorem dL_reconnect_19 : decode cL_reconnect 19 = .ok (.ireturn, 1) := by decide +kernel
theorem dL_crash_0 : decode cL_crash 0 = .ok (.aload_n 2, 1) := by decide +kernel
theorem dL_crash_1 : decode cL_crash 1 = .ok (.iconst 0, 1) := by decide +kernel
theorem dL_crash_2 : decode cL_crash 2 = .ok (.aload_n 0, 1) := by decide +kernel
theorem dL_crash_3 : decode cL_crash 3 = .ok (.iload_n 1, 1) := by decide +kernel
theorem dL_crash_4 : decode cL_crash 4 = .ok (.invokevirtual 41, 3) := by decide +kernel
theorem dL_crash_7 : decode cL_crash 7 = .ok (.i2l, 1) := by decide +kernel
theorem dL_crash_8 : decode cL_crash 8 = .ok (.lastore, 1) := by decide +kernel
theorem dL_crash_9 : decode cL_crash 9 = .ok (.goto 9, 3) := by decide +kernel
theorem dL_crash_12 : decode cL_crash 12 = .ok (.astore_n 3, 1) := by decide +kernel
theorem dL_crash_13 : decode cL_crash 13 = .ok (.iconst 1, 1) := by decide +kernel
theorem dL_crash_14 : decode cL_crash 14 = .ok (.ireturn, 1) := by decide +kernel
theorem dL_crash_15 : decode cL_crash 15 = .ok (.astore_n 3, 1) := by decide +kernel
theorem dL_crash_16 : decode cL_crash 16 = .ok (.iconst 2, 1) := by decide +kernel
theorem dL_crash_17 : decode cL_crash 17 = .ok (.ireturn, 1) := by decide +kernel
theorem dL_crash_18 : decode cL_crash 18 = .ok (.iconst 0, 1) := by decide +kernel
theorem dL_crash_19 : decode cL_crash 19 = .ok (.ireturn, 1) := by decide +kernel
theorem dL_pass_0 : decode cL_pass 0 = .ok (.aload_n 2, 1) := by decide +kernel
theorem dL_pass_1 : decode cL_pass 1 = .ok (.iconst 0, 1) := by decide +kernel
theorem dL_pass_2 : decode cL_pass 2 = .ok (.aload_n 0, 1) := by decide +kernel
theorem dL_pass_3 : decode cL_pass 3 = .ok (.iload_n 1, 1) := by decide +kernel
theorem dL_pass_4 : decode cL_pass 4 = .ok (.invokevirtual 44, 3) := by decide +kernel
theorem dL_pass_7 : decode cL_pass 7 = .ok (.i2l, 1) := by decide +kernel
theorem dL_pass_8 : decode cL_pass 8 = .ok (.lastore, 1) := by decide +kernel
theorem dL_pass_9 : decode cL_pass 9 = .ok (.goto 9, 3) := by decide +kernel
theorem dL_pass_12 : decode cL_pass 12 = .ok (.astore_n 3, 1) := by decide +kernel
theorem dL_pass_13 : decode cL_pass 13 = .ok (.iconst 1, 1) := by decide +kernel
theorem dL_pass_14 : decode cL_pass 14 = .ok (.ireturn, 1) := by decide +kernel
theorem dL_pass_15 : decode cL_pass 15 = .ok (.astore_n 3, 1) := by decide +kernel
theorem dL_pass_16 : decode cL_pass 16 = .ok (.iconst 2, 1) := by decide +kernel
theorem dL_pass_17 : decode cL_pass 17 = .ok (.ireturn, 1) := by decide +kernel
theorem dL_pass_18 : decode cL_pass 18 = .ok (.iconst 0, 1) := by decide +kernel
theorem dL_pass_19 : decode cL_pass 19 = .ok (.ireturn, 1) := by decide +kernel
theorem dL_setTransferTime_0 : decode cL_setTransferTime 0 = .ok (.aload_n 2, 1) := by decide +kernel
theorem dL_setTransferTime_1 : decode cL_setTransferTime 1 = .ok (.iconst 0, 1) := by decide +kernel
theorem dL_setTransferTime_2 : decode cL_setTransferTime 2 = .ok (.aload_n 0, 1) := by decide +kernel
theorem dL_setTransferTime_3 : decode cL_setTransferTime 3 = .ok (.iload_n 1, 1) := by decide +kernel
theorem dL_setTransferTime_4 : decode cL_setTransferTime 4 = .ok (.invokevirtual 47, 3) := by decide +kernel
theorem dL_setTransferTime_7 : decode cL_setTransferTime 7 = .ok (.i2l, 1) := by decide +kernel
theorem dL_setTransferTime_8 : decode cL_setTransferTime 8 = .ok (.lastore, 1) := by decide +kernel
theorem dL_setTransferTime_9 : decode cL_setTransferTime 9 = .ok (.goto 6, 3) := by decide +kernel
theorem dL_setTransferTime_12 : decode cL_setTransferTime 12 = .ok (.astore_n 3, 1) := by decide +kernel
theorem dL_setTransferTime_13 : decode cL_setTransferTime 13 = .ok (.iconst 1, 1) := by decide +kernel
theorem dL_setTransferTime_14 : decode cL_setTransferTime 14 = .ok (.ireturn, 1) := by decide +kernel
theorem dL_setTransferTime_15 : decode cL_setTransferTime 15 = .ok (.iconst 0, 1) := by decide +kernel
theorem dL_setTransferTime_16 : decode cL_setTransferTime 16 = .ok (.ireturn, 1) := by decide +kernel
theorem dL_appendText_0 : decode cL_appendText 0 = .ok (.aload_n 2, 1) := by decide +kernel
theorem dL_appendText_1 : decode cL_appendText 1 = .ok (.iconst 0, 1) := by decide +kernel
theorem dL_appendText_2 : decode cL_appendText 2 = .ok (.aload_n 0, 1) := by decide +kernel
theorem dL_appendText_3 : decode cL_appendText 3 = .ok (.iload_n 1, 1) := by decide +kernel
theorem dL_appendText_4 : decode cL_appendText 4 = .ok (.invokevirtual 50, 3) := by decide +kernel
theorem dL_appendText_7 : decode cL_appendText 7 = .ok (.i2l, 1) := by decide +kernel
theorem dL_appendText_8 : decode cL_appendText 8 = .ok (.lastore, 1) := by decide +kernel
theorem dL_appendText_9 : decode cL_appendText 9 = .ok (.goto 9, 3) := by decide +kernel
theorem dL_appendText_12 : decode cL_appendText 12 = .ok (.astore_n 3, 1) := by decide +kernel
theorem dL_appendText_13 : decode cL_appendText 13 = .ok (.iconst 1, 1) := by decide +kernel
theorem dL_appendText_14 : decode cL_appendText 14 = .ok (.ireturn, 1) := by decide +kernel
theorem dL_appendText_15 : decode cL_appendText 15 = .ok (.astore_n 3, 1) := by decide +kernel
theorem dL_appendText_16 : decode cL_appendText 16 = .ok (.iconst 2, 1) := by decide +kernel
theorem dL_appendText_17 : decode cL_appendText 17 = .ok (.ireturn, 1) := by decide +kernel
theorem dL_appendText_18 : decode cL_appendText 18 = .ok (.iconst 0, 1) := by decide +kernel
theorem dL_appendText_19 : decode cL_appendText 19 = .ok (.ireturn, 1) := by decide +kernel
theorem dL_runText_0 : decode cL_runText 0 = .ok (.aload_n 1, 1) := by decide +kernel
theorem dL_runText_1 : decode cL_runText 1 = .ok (.iconst 0, 1) := by decide +kernel
theorem dL_runText_2 : decode cL_runText 2 = .ok (.aload_n 0, 1) := by decide +kernel
theorem dL_runText_3 : decode cL_runText 3 = .ok (.invokevirtual 53, 3) := by decide +kernel
theorem dL_runText_6 : decode cL_runText 6 = .ok (.i2l, 1) := by decide +kernel
theorem dL_runText_7 : decode cL_runText 7 = .ok (.lastore, 1) := by decide +kernel
theorem dL_runText_8 : decode cL_runText 8 = .ok (.goto 6, 3) := by decide +kernel
theorem dL_runText_11 : decode cL_runText 11 = .ok (.astore_n 2, 1) := by decide +kernel
theorem dL_runText_12 : decode cL_runText 12 = .ok (.iconst 1, 1) := by decide +kernel
theorem dL_runText_13 : decode cL_runText 13 = .ok (.ireturn, 1) := by decide +kernel
theorem dL_runText_14 : decode cL_runText 14 = .ok (.iconst 0, 1) := by decide +kernel
theorem dL_runText_15 : decode cL_runText 15 = .ok (.ireturn, 1) := by decide +kernel
theorem dL_undo_0 : decode cL_undo 0 = .ok (.aload_n 1, 1) := by decide +kernel
theorem dL_undo_1 : decode cL_undo 1 = .ok (.iconst 0, 1) := by decide +kernel
theorem dL_undo_2 : decode cL_undo 2 = .ok (.aload_n 0, 1) := by decide +kernel
theorem dL_undo_3 : decode cL_undo 3 = .ok (.invokevirtual 57, 3) := by decide +kernel
theorem dL_undo_6 : decode cL_undo 6 = .ok (.i2l, 1) := by decide +kernel
theorem dL_undo_7 : decode cL_undo 7 = .ok (.lastore, 1) := by decide +kernel
theorem dL_undo_8 : decode cL_undo 8 = .ok (.goto 6, 3) := by decide +kernel
theorem dL_undo_11 : decode cL_undo 11 = .ok (.astore_n 2, 1) := by decide +kernel
theorem dL_undo_12 : decode cL_undo 12 = .ok (.iconst 1, 1) := by decide +kernel
theorem dL_undo_13 : decode cL_undo 13 = .ok (.ireturn, 1) := by decide +kernel
theorem dL_undo_14 : decode cL_undo 14 = .ok (.iconst 0, 1) := by decide +kernel
theorem dL_undo_15 : decode cL_undo 15 = .ok (.ireturn, 1) := by decide +kernel
theorem dL_save_0 : decode cL_save 0 = .ok (.aload_n 2, 1) := by decide +kernel
theorem dL_save_1 : decode cL_save 1 = .ok (.iconst 0, 1) := by decide +kernel
theorem dL_save_2 : decode cL_save 2 = .ok (.aload_n 0, 1) := by decide +kernel
theorem dL_save_3 : decode cL_save 3 = .ok (.iload_n 1, 1) := by decide +kernel
theorem dL_save_4 : decode cL_save 4 = .ok (.invokevirtual 60, 3) := by decide +kernel
theorem dL_save_7 : decode cL_save 7 = .ok (.i2l, 1) := by decide +kernel
theorem dL_save_8 : decode cL_save 8 = .ok (.lastore, 1) := by decide +kernel
theorem dL_save_9 : decode cL_save 9 = .ok (.goto 6, 3) := by decide +kernel
theorem dL_save_12 : decode cL_save 12 = .ok (.astore_n 3, 1) := by decide +kernel
theorem dL_save_13 : decode cL_save 13 = .ok (.iconst 1, 1) := by decide +kernel
theorem dL_save_14 : decode cL_save 14 = .ok (.ireturn, 1) := by decide +kernel
theorem dL_save_15 : decode cL_save 15 = .ok (.iconst 0, 1) := by decide +kernel
theorem dL_save_16 : decode cL_save 16 = .ok (.ireturn, 1) := by decide +kernel
theorem dL_restore_0 : decode cL_restore 0 = .ok (.aload_n 2, 1) := by decide +kernel
theorem dL_restore_1 : decode cL_restore 1 = .ok (.iconst 0, 1) := by decide +kernel
theorem dL_restore_2 : decode cL_restore 2 = .ok (.aload_n 0, 1) := by decide +kernel
theorem dL_restore_3 : decode cL_restore 3 = .ok (.iload_n 1, 1) := by decide +kernel
theorem dL_restore_4 : decode cL_restore 4 = .ok (.invokevirtual 63, 3) := by decide +kernel
theorem dL_restore_7 : decode cL_restore 7 = .ok (.i2l, 1) := by decide +kernel
theorem dL_restore_8 : decode cL_restore 8 = .ok (.lastore, 1) := by decide +kernel
theorem dL_restore_9 : decode cL_restore 9 = .ok (.goto 9, 3) := by decide +kernel
theorem dL_restore_12 : decode cL_restore 12 = .ok (.astore_n 3, 1) := by decide +kernel
theorem dL_restore_13 : decode cL_restore 13 = .ok (.iconst 1, 1) := by decide +kernel
theorem dL_restore_14 : decode cL_restore 14 = .ok (.ireturn, 1) := by decide +kernel
theorem dL_restore_15 : decode cL_restore 15 = .ok (.astore_n 3, 1) := by decide +kernel
theorem dL_restore_16 : decode cL_restore 16 = .ok (.iconst 2, 1) := by decide +kernel
theorem dL_restore_17 : decode cL_restore 17 = .ok (.ireturn, 1) := by decide +kernel
theorem dL_restore_18 : decode cL_restore 18 = .ok (.iconst 0, 1) := by decide +kernel
theorem dL_restore_19 : decode cL_restore 19 = .ok (.ireturn, 1) := by decide +kernel
theorem dL_status_0 : decode cL_status 0 = .ok (.aload_n 2, 1) := by decide +kernel
theorem dL_status_1 : decode cL_status 1 = .ok (.iconst 0, 1) := by decide +kernel
theorem dL_status_2 : decode cL_status 2 = .ok (.aload_n 0, 1) := by decide +kernel
theorem dL_status_3 : decode cL_status 3 = .ok (.iload_n 1, 1) := by decide +kernel
theorem dL_status_4 : decode cL_status 4 = .ok (.invokevirtual 66, 3) := by decide +kernel
theorem dL_status_7 : decode cL_status 7 = .ok (.i2l, 1) := by decide +kernel
theorem dL_status_8 : decode cL_status 8 = .ok (.lastore, 1) := by decide +kernel
theorem dL_status_9 : decode cL_status 9 = .ok (.goto 6, 3) := by decide +kernel
theorem dL_status_12 : decode cL_status 12 = .ok (.astore_n 3, 1) := by decide +kernel
theorem dL_status_13 : decode cL_status 13 = .ok (.iconst 1, 1) := by decide +kernel
theorem dL_status_14 : decode cL_status 14 = .ok (.ireturn, 1) := by decide +kernel
theorem dL_status_15 : decode cL_status 15 = .ok (.iconst 0, 1) := by decide +kernel
theorem dL_status_16 : decode cL_status 16 = .ok (.ireturn, 1) := by decide +kernel
theorem dL_copies_0 : decode cL_copies 0 = .ok (.aload_n 2, 1) := by decide +kernel
theorem dL_copies_1 : decode cL_copies 1 = .ok (.iconst 0, 1) := by decide +kernel
theorem dL_copies_2 : decode cL_copies 2 = .ok (.aload_n 0, 1) := by decide +kernel
theorem dL_copies_3 : decode cL_copies 3 = .ok (.iload_n 1, 1) := by decide +kernel
theorem dL_copies_4 : decode cL_copies 4 = .ok (.invokevirtual 69, 3) := by decide +kernel
theorem dL_copies_7 : decode cL_copies 7 = .ok (.i2l, 1) := by decide +kernel
theorem dL_copies_8 : decode cL_copies 8 = .ok (.lastore, 1) := by decide +kernel
theorem dL_copies_9 : decode cL_copies 9 = .ok (.goto 6, 3) := by decide +kernel
theorem dL_copies_12 : decode cL_copies 12 = .ok (.astore_n 3, 1) := by decide +kernel
theorem dL_copies_13 : decode cL_copies 13 = .ok (.iconst 1, 1) := by decide +kernel
theorem dL_copies_14 : decode cL_copies 14 = .ok (.ireturn, 1) := by decide +kernel
theorem dL_copies_15 : decode cL_copies 15 = .ok (.iconst 0, 1) := by decide +kernel
theorem dL_copies_16 : decode cL_copies 16 = .ok (.ireturn, 1) := by decide +kernel
theorem dL_countStatus_0 : decode cL_countStatus 0 = .ok (.aload_n 2, 1) := by decide +kernel
theorem dL_countStatus_1 : decode cL_countStatus 1 = .ok (.iconst 0, 1) := by decide +kernel
theorem dL_countStatus_2 : decode cL_countStatus 2 = .ok (.aload_n 0, 1) := by decide +kernel
theorem dL_countStatus_3 : decode cL_countStatus 3 = .ok (.iload_n 1, 1) := by decide +kernel
theorem dL_countStatus_4 : decode cL_countStatus 4 = .ok (.invokevirtual 72, 3) := by decide +kernel
theorem dL_countStatus_7 : decode cL_countStatus 7 = .ok (.i2l, 1) := by decide +kernel
theorem dL_countStatus_8 : decode cL_countStatus 8 = .ok (.lastore, 1) := by decide +kernel
theorem dL_countStatus_9 : decode cL_countStatus 9 = .ok (.goto 6, 3) := by decide +kernel
theorem dL_countStatus_12 : decode cL_countStatus 12 = .ok (.astore_n 3, 1) := by decide +kernel
theorem dL_countStatus_13 : decode cL_countStatus 13 = .ok (.iconst 1, 1) := by decide +kernel
theorem dL_countStatus_14 : decode cL_countStatus 14 = .ok (.ireturn, 1) := by decide +kernel
theorem dL_countStatus_15 : decode cL_countStatus 15 = .ok (.iconst 0, 1) := by decide +kernel
theorem dL_countStatus_16 : decode cL_countStatus 16 = .ok (.ireturn, 1) := by decide +kernel
theorem dL_mode_0 : decode cL_mode 0 = .ok (.aload_n 2, 1) := by decide +kernel
theorem dL_mode_1 : decode cL_mode 1 = .ok (.iconst 0, 1) := by decide +kernel
theorem dL_mode_2 : decode cL_mode 2 = .ok (.aload_n 0, 1) := by decide +kernel
theorem dL_mode_3 : decode cL_mode 3 = .ok (.iload_n 1, 1) := by decide +kernel
theorem dL_mode_4 : decode cL_mode 4 = .ok (.invokevirtual 75, 3) := by decide +kernel
theorem dL_mode_7 : decode cL_mode 7 = .ok (.i2l, 1) := by decide +kernel
theorem dL_mode_8 : decode cL_mode 8 = .ok (.lastore, 1) := by decide +kernel
theorem dL_mode_9 : decode cL_mode 9 = .ok (.goto 6, 3) := by decide +kernel
theorem dL_mode_12 : decode cL_mode 12 = .ok (.astore_n 3, 1) := by decide +kernel
theorem dL_mode_13 : decode cL_mode 13 = .ok (.iconst 1, 1) := by decide +kernel
theorem dL_mode_14 : decode cL_mode 14 = .ok (.ireturn, 1) := by decide +kernel
theorem dL_mode_15 : decode cL_mode 15 = .ok (.iconst 0, 1) := by decide +kernel
theorem dL_mode_16 : decode cL_mode 16 = .ok (.ireturn, 1) := by decide +kernel
theorem dL_isConnected_0 : decode cL_isConnected 0 = .ok (.aload_n 2, 1) := by decide +kernel
theorem dL_isConnected_1 : decode cL_isConnected 1 = .ok (.iconst 0, 1) := by decide +kernel
theorem dL_isConnected_2 : decode cL_isConnected 2 = .ok (.aload_n 0, 1) := by decide +kernel
theorem dL_isConnected_3 : decode cL_isConnected 3 = .ok (.iload_n 1, 1) := by decide +kernel
theorem dL_isConnected_4 : decode cL_isConnected 4 = .ok (.invokevirtual 78, 3) := by decide +kernel
theorem dL_isConnected_7 : decode cL_isConnected 7 = .ok (.ifCond .eq 7, 3) := by decide +kernel
theorem dL_isConnected_10 : decode cL_isConnected 10 = .ok (.lconst 1, 1) := by decide +kernel
theorem dL_isConnected_11 : decode cL_isConnected 11 = .ok (.goto 4, 3) := by decide +kernel
theorem dL_isConnected_14 : decode cL_isConnected 14 = .ok (.lconst 0, 1) := by decide +kernel
theorem dL_isConnected_15 : decode cL_isConnected 15 = .ok (.lastore, 1) := by decide +kernel
theorem dL_isConnected_16 : decode cL_isConnected 16 = .ok (.goto 6, 3) := by decide +kernel
theorem dL_isConnected_19 : decode cL_isConnected 19 = .ok (.astore_n 3, 1) := by decide +kernel
theorem dL_isConnected_20 : decode cL_isConnected 20 = .ok (.iconst 1, 1) := by decide +kernel
theorem dL_isConnected_21 : decode cL_isConnected 21 = .ok (.ireturn, 1) := by decide +kernel
theorem dL_isConnected_22 : decode cL_isConnected 22 = .ok (.iconst 0, 1) := by decide +kernel
theorem dL_isConnected_23 : decode cL_isConnected 23 = .ok (.ireturn, 1) := by decide +kernel
theorem dL_usedRoom_0 : decode cL_usedRoom 0 = .ok (.aload_n 2, 1) := by decide +kernel
theorem dL_usedRoom_1 : decode cL_usedRoom 1 = .ok (.iconst 0, 1) := by decide +kernel
theorem dL_usedRoom_2 : decode cL_usedRoom 2 = .ok (.aload_n 0, 1) := by decide +kernel
theorem dL_usedRoom_3 : decode cL_usedRoom 3 = .ok (.iload_n 1, 1) := by decide +kernel
theorem dL_usedRoom_4 : decode cL_usedRoom 4 = .ok (.invokevirtual 82, 3) := by decide +kernel
theorem dL_usedRoom_7 : decode cL_usedRoom 7 = .ok (.i2l, 1) := by decide +kernel
theorem dL_usedRoom_8 : decode cL_usedRoom 8 = .ok (.lastore, 1) := by decide +kernel
theorem dL_usedRoom_9 : decode cL_usedRoom 9 = .ok (.goto 6, 3) := by decide +kernel
theorem dL_usedRoom_12 : decode cL_usedRoom 12 = .ok (.astore_n 3, 1) := by decide +kernel
theorem dL_usedRoom_13 : decode cL_usedRoom 13 = .ok (.iconst 1, 1) := by decide +kernel
theorem dL_usedRoom_14 : decode cL_usedRoom 14 = .ok (.ireturn, 1) := by decide +kernel
theorem dL_usedRoom_15 : decode cL_usedRoom 15 = .ok (.iconst 0, 1) := by decide +kernel
theorem dL_usedRoom_16 : decode cL_usedRoom 16 = .ok (.ireturn, 1) := by decide +kernel
theorem dL_freeRoom_0 : decode cL_freeRoom 0 = .ok (.aload_n 2, 1) := by decide +kernel
theorem dL_freeRoom_1 : decode cL_freeRoom 1 = .ok (.iconst 0, 1) := by decide +kernel
theorem dL_freeRoom_2 : decode cL_freeRoom 2 = .ok (.aload_n 0, 1) := by decide +kernel
theorem dL_freeRoom_3 : decode cL_freeRoom 3 = .ok (.iload_n 1, 1) := by decide +kernel
theorem dL_freeRoom_4 : decode cL_freeRoom 4 = .ok (.invokevirtual 85, 3) := by decide +kernel
theorem dL_freeRoom_7 : decode cL_freeRoom 7 = .ok (.i2l, 1) := by decide +kernel
theorem dL_freeRoom_8 : decode cL_freeRoom 8 = .ok (.lastore, 1) := by decide +kernel
theorem dL_freeRoom_9 : decode cL_freeRoom 9 = .ok (.goto 6, 3) := by decide +kernel
theorem dL_freeRoom_12 : decode cL_freeRoom 12 = .ok (.astore_n 3, 1) := by decide +kernel
theorem dL_freeRoom_13 : decode cL_freeRoom 13 = .ok (.iconst 1, 1) := by decide +kernel
theorem dL_freeRoom_14 : decode cL_freeRoom 14 = .ok (.ireturn, 1) := by decide +kernel
theorem dL_freeRoom_15 : decode cL_freeRoom 15 = .ok (.iconst 0, 1) := by decide +kernel
theorem dL_freeRoom_16 : decode cL_freeRoom 16 = .ok (.ireturn, 1) := by decide +kernel
theorem dL_deadlineIn_0 : decode cL_deadlineIn 0 = .ok (.aload_n 2, 1) := by decide +kernel
theorem dL_deadlineIn_1 : decode cL_deadlineIn 1 = .ok (.iconst 0, 1) := by decide +kernel
theorem dL_deadlineIn_2 : decode cL_deadlineIn 2 = .ok (.aload_n 0, 1) := by decide +kernel
theorem dL_deadlineIn_3 : decode cL_deadlineIn 3 = .ok (.iload_n 1, 1) := by decide +kernel
theorem dL_deadlineIn_4 : decode cL_deadlineIn 4 = .ok (.invokevirtual 88, 3) := by decide +kernel
theorem dL_deadlineIn_7 : decode cL_deadlineIn 7 = .ok (.i2l, 1) := by decide +kernel
theorem dL_deadlineIn_8 : decode cL_deadlineIn 8 = .ok (.lastore, 1) := by decide +kernel
theorem dL_deadlineIn_9 : decode cL_deadlineIn 9 = .ok (.goto 6, 3) := by decide +kernel
theorem dL_deadlineIn_12 : decode cL_deadlineIn 12 = .ok (.astore_n 3, 1) := by decide +kernel
theorem dL_deadlineIn_13 : decode cL_deadlineIn 13 = .ok (.iconst 1, 1) := by decide +kernel
theorem dL_deadlineIn_14 : decode cL_deadlineIn 14 = .ok (.ireturn, 1) := by decide +kernel
theorem dL_deadlineIn_15 : decode cL_deadlineIn 15 = .ok (.iconst 0, 1) := by decide +kernel
theorem dL_deadlineIn_16 : decode cL_deadlineIn 16 = .ok (.ireturn, 1) := by decide +kernel
theorem dL_replica_0 : decode cL_replica 0 = .ok (.aload_n 3, 1) := by decide +kernel
theorem dL_replica_1 : decode cL_replica 1 = .ok (.iconst 0, 1) := by decide +kernel
theorem dL_replica_2 : decode cL_replica 2 = .ok (.aload_n 0, 1) := by decide +kernel
theorem dL_replica_3 : decode cL_replica 3 = .ok (.iload_n 1, 1) := by decide +kernel
theorem dL_replica_4 : decode cL_replica 4 = .ok (.iload_n 2, 1) := by decide +kernel
theorem dL_replica_5 : decode cL_replica 5 = .ok (.invokevirtual 91, 3) := by decide +kernel
theorem dL_replica_8 : decode cL_replica 8 = .ok (.i2l, 1) := by decide +kernel
theorem dL_replica_9 : decode cL_replica 9 = .ok (.lastore, 1) := by decide +kernel
theorem dL_replica_10 : decode cL_replica 10 = .ok (.goto 7, 3) := by decide +kernel
theorem dL_replica_13 : decode cL_replica 13 = .ok (.astore 4, 2) := by decide +kernel
theorem dL_replica_15 : decode cL_replica 15 = .ok (.iconst 1, 1) := by decide +kernel
theorem dL_replica_16 : decode cL_replica 16 = .ok (.ireturn, 1) := by decide +kernel
theorem dL_replica_17 : decode cL_replica 17 = .ok (.iconst 0, 1) := by decide +kernel
theorem dL_replica_18 : decode cL_replica 18 = .ok (.ireturn, 1) := by decide +kernel
theorem dL_transfer_0 : decode cL_transfer 0 = .ok (.aload_n 2, 1) := by decide +kernel
theorem dL_transfer_1 : decode cL_transfer 1 = .ok (.iconst 0, 1) := by decide +kernel
theorem dL_transfer_2 : decode cL_transfer 2 = .ok (.aload_n 0, 1) := by decide +kernel
theorem dL_transfer_3 : decode cL_transfer 3 = .ok (.iload_n 1, 1) := by decide +kernel
theorem dL_transfer_4 : decode cL_transfer 4 = .ok (.invokevirtual 94, 3) := by decide +kernel
theorem dL_transfer_7 : decode cL_transfer 7 = .ok (.i2l, 1) := by decide +kernel
theorem dL_transfer_8 : decode cL_transfer 8 = .ok (.lastore, 1) := by decide +kernel
theorem dL_transfer_9 : decode cL_transfer 9 = .ok (.goto 6, 3) := by decide +kernel
theorem dL_transfer_12 : decode cL_transfer 12 = .ok (.astore_n 3, 1) := by decide +kernel
theorem dL_transfer_13 : decode cL_transfer 13 = .ok (.iconst 1, 1) := by decide +kernel
theorem dL_transfer_14 : decode cL_transfer 14 = .ok (.ireturn, 1) := by decide +kernel
theorem dL_transfer_15 : decode cL_transfer 15 = .ok (.iconst 0, 1) := by decide +kernel
theorem dL_transfer_16 : decode cL_transfer 16 = .ok (.ireturn, 1) := by decide +kernel
theorem dL_lostWithout_0 : decode cL_lostWithout 0 = .ok (.aload_n 2, 1) := by decide +kernel
theorem dL_lostWithout_1 : decode cL_lostWithout 1 = .ok (.iconst 0, 1) := by decide +kernel
theorem dL_lostWithout_2 : decode cL_lostWithout 2 = .ok (.aload_n 0, 1) := by decide +kernel
theorem dL_lostWithout_3 : decode cL_lostWithout 3 = .ok (.iload_n 1, 1) := by decide +kernel
theorem dL_lostWithout_4 : decode cL_lostWithout 4 = .ok (.invokevirtual 97, 3) := by decide +kernel
theorem dL_lostWithout_7 : decode cL_lostWithout 7 = .ok (.i2l, 1) := by decide +kernel
theorem dL_lostWithout_8 : decode cL_lostWithout 8 = .ok (.lastore, 1) := by decide +kernel
theorem dL_lostWithout_9 : decode cL_lostWithout 9 = .ok (.goto 6, 3) := by decide +kernel
theorem dL_lostWithout_12 : decode cL_lostWithout 12 = .ok (.astore_n 3, 1) := by decide +kernel
theorem dL_lostWithout_13 : decode cL_lostWithout 13 = .ok (.iconst 1, 1) := by decide +kernel
theorem dL_lostWithout_14 : decode cL_lostWithout 14 = .ok (.ireturn, 1) := by decide +kernel
theorem dL_lostWithout_15 : decode cL_lostWithout 15 = .ok (.iconst 0, 1) := by decide +kernel
theorem dL_lostWithout_16 : decode cL_lostWithout 16 = .ok (.ireturn, 1) := by decide +kernel
theorem dL_lostIn_0 : decode cL_lostIn 0 = .ok (.aload_n 2, 1) := by decide +kernel
theorem dL_lostIn_1 : decode cL_lostIn 1 = .ok (.iconst 0, 1) := by decide +kernel
theorem dL_lostIn_2 : decode cL_lostIn 2 = .ok (.aload_n 0, 1) := by decide +kernel
theorem dL_lostIn_3 : decode cL_lostIn 3 = .ok (.iload_n 1, 1) := by decide +kernel
theorem dL_lostIn_4 : decode cL_lostIn 4 = .ok (.invokevirtual 100, 3) := by decide +kernel
theorem dL_lostIn_7 : decode cL_lostIn 7 = .ok (.i2l, 1) := by decide +kernel
theorem dL_lostIn_8 : decode cL_lostIn 8 = .ok (.lastore, 1) := by decide +kernel
theorem dL_lostIn_9 : decode cL_lostIn 9 = .ok (.goto 6, 3) := by decide +kernel
theorem dL_lostIn_12 : decode cL_lostIn 12 = .ok (.astore_n 3, 1) := by decide +kernel
theorem dL_lostIn_13 : decode cL_lostIn 13 = .ok (.iconst 1, 1) := by decide +kernel
theorem dL_lostIn_14 : decode cL_lostIn 14 = .ok (.ireturn, 1) := by decide +kernel
theorem dL_lostIn_15 : decode cL_lostIn 15 = .ok (.iconst 0, 1) := by decide +kernel
theorem dL_lostIn_16 : decode cL_lostIn 16 = .ok (.ireturn, 1) := by decide +kernel
