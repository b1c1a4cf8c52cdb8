theorem dX3_copiesOf_26 : decode cX3_copiesOf 26 = .ok (.iload_n 1, 1) := by decide +kernel
theorem dX3_copiesOf_27 : decode cX3_copiesOf 27 = .ok (.iload 4, 2) := by decide +kernel
theorem dX3_copiesOf_29 : decode cX3_copiesOf 29 = .ok (.iload_n 2, 1) := by decide +kernel
theorem dX3_copiesOf_30 : decode cX3_copiesOf 30 = .ok (.invokevirtual 32, 3) := by decide +kernel
theorem dX3_copiesOf_33 : decode cX3_copiesOf 33 = .ok (.ifCond .le 10, 3) := by decide +kernel
theorem dX3_copiesOf_36 : decode cX3_copiesOf 36 = .ok (.iconst 1, 1) := by decide +kernel
theorem dX3_copiesOf_37 : decode cX3_copiesOf 37 = .ok (.iload 4, 2) := by decide +kernel
theorem dX3_copiesOf_39 : decode cX3_copiesOf 39 = .ok (.ishl, 1) := by decide +kernel
theorem dX3_copiesOf_40 : decode cX3_copiesOf 40 = .ok (.goto 4, 3) := by decide +kernel
theorem dX3_copiesOf_43 : decode cX3_copiesOf 43 = .ok (.iconst 0, 1) := by decide +kernel
theorem dX3_copiesOf_44 : decode cX3_copiesOf 44 = .ok (.ior, 1) := by decide +kernel
theorem dX3_copiesOf_45 : decode cX3_copiesOf 45 = .ok (.istore_n 3, 1) := by decide +kernel
theorem dX3_copiesOf_46 : decode cX3_copiesOf 46 = .ok (.iinc 4 1, 3) := by decide +kernel
theorem dX3_copiesOf_49 : decode cX3_copiesOf 49 = .ok (.goto (-44), 3) := by decide +kernel
theorem dX3_copiesOf_52 : decode cX3_copiesOf 52 = .ok (.iload_n 3, 1) := by decide +kernel
theorem dX3_copiesOf_53 : decode cX3_copiesOf 53 = .ok (.ireturn, 1) := by decide +kernel
theorem dX3_ones_0 : decode cX3_ones 0 = .ok (.iconst 0, 1) := by decide +kernel
theorem dX3_ones_1 : decode cX3_ones 1 = .ok (.istore_n 1, 1) := by decide +kernel
theorem dX3_ones_2 : decode cX3_ones 2 = .ok (.iconst 0, 1) := by decide +kernel
theorem dX3_ones_3 : decode cX3_ones 3 = .ok (.istore_n 2, 1) := by decide +kernel
theorem dX3_ones_4 : decode cX3_ones 4 = .ok (.iload_n 2, 1) := by decide +kernel
theorem dX3_ones_5 : decode cX3_ones 5 = .ok (.bipush 6, 2) := by decide +kernel
theorem dX3_ones_7 : decode cX3_ones 7 = .ok (.if_icmp .ge 17, 3) := by decide +kernel
theorem dX3_ones_10 : decode cX3_ones 10 = .ok (.iload_n 1, 1) := by decide +kernel
theorem dX3_ones_11 : decode cX3_ones 11 = .ok (.iload_n 0, 1) := by decide +kernel
theorem dX3_ones_12 : decode cX3_ones 12 = .ok (.iload_n 2, 1) := by decide +kernel
theorem dX3_ones_13 : decode cX3_ones 13 = .ok (.ishr, 1) := by decide +kernel
theorem dX3_ones_14 : decode cX3_ones 14 = .ok (.iconst 1, 1) := by decide +kernel
theorem dX3_ones_15 : decode cX3_ones 15 = .ok (.iand, 1) := by decide +kernel
theorem dX3_ones_16 : decode cX3_ones 16 = .ok (.iadd, 1) := by decide +kernel
theorem dX3_ones_17 : decode cX3_ones 17 = .ok (.istore_n 1, 1) := by decide +kernel
theorem dX3_ones_18 : decode cX3_ones 18 = .ok (.iinc 2 1, 3) := by decide +kernel
theorem dX3_ones_21 : decode cX3_ones 21 = .ok (.goto (-17), 3) := by decide +kernel
theorem dX3_ones_24 : decode cX3_ones 24 = .ok (.iload_n 1, 1) := by decide +kernel
theorem dX3_ones_25 : decode cX3_ones 25 = .ok (.ireturn, 1) := by decide +kernel
theorem dX3_held_0 : decode cX3_held 0 = .ok (.iconst 0, 1) := by decide +kernel
theorem dX3_held_1 : decode cX3_held 1 = .ok (.istore_n 3, 1) := by decide +kernel
theorem dX3_held_2 : decode cX3_held 2 = .ok (.iconst 0, 1) := by decide +kernel
theorem dX3_held_3 : decode cX3_held 3 = .ok (.istore 4, 2) := by decide +kernel
theorem dX3_held_5 : decode cX3_held 5 = .ok (.iload 4, 2) := by decide +kernel
theorem dX3_held_7 : decode cX3_held 7 = .ok (.bipush 30, 2) := by decide +kernel
theorem dX3_held_9 : decode cX3_held 9 = .ok (.if_icmp .ge 28, 3) := by decide +kernel
theorem dX3_held_12 : decode cX3_held 12 = .ok (.iload_n 3, 1) := by decide +kernel
theorem dX3_held_13 : decode cX3_held 13 = .ok (.aload_n 0, 1) := by decide +kernel
theorem dX3_held_14 : decode cX3_held 14 = .ok (.iload_n 1, 1) := by decide +kernel
theorem dX3_held_15 : decode cX3_held 15 = .ok (.iload_n 2, 1) := by decide +kernel
theorem dX3_held_16 : decode cX3_held 16 = .ok (.iload 4, 2) := by decide +kernel
theorem dX3_held_18 : decode cX3_held 18 = .ok (.invokevirtual 32, 3) := by decide +kernel
theorem dX3_held_21 : decode cX3_held 21 = .ok (.ifCond .le 7, 3) := by decide +kernel
theorem dX3_held_24 : decode cX3_held 24 = .ok (.iconst 1, 1) := by decide +kernel
theorem dX3_held_25 : decode cX3_held 25 = .ok (.goto 4, 3) := by decide +kernel
theorem dX3_held_28 : decode cX3_held 28 = .ok (.iconst 0, 1) := by decide +kernel
theorem dX3_held_29 : decode cX3_held 29 = .ok (.iadd, 1) := by decide +kernel
theorem dX3_held_30 : decode cX3_held 30 = .ok (.istore_n 3, 1) := by decide +kernel
theorem dX3_held_31 : decode cX3_held 31 = .ok (.iinc 4 1, 3) := by decide +kernel
theorem dX3_held_34 : decode cX3_held 34 = .ok (.goto (-29), 3) := by decide +kernel
theorem dX3_held_37 : decode cX3_held 37 = .ok (.iload_n 3, 1) := by decide +kernel
theorem dX3_held_38 : decode cX3_held 38 = .ok (.ireturn, 1) := by decide +kernel
theorem dX3_used_0 : decode cX3_used 0 = .ok (.aload_n 0, 1) := by decide +kernel
theorem dX3_used_1 : decode cX3_used 1 = .ok (.iload_n 1, 1) := by decide +kernel
theorem dX3_used_2 : decode cX3_used 2 = .ok (.iload_n 2, 1) := by decide +kernel
theorem dX3_used_3 : decode cX3_used 3 = .ok (.invokevirtual 39, 3) := by decide +kernel
theorem dX3_used_6 : decode cX3_used 6 = .ok (.aload_n 0, 1) := by decide +kernel
theorem dX3_used_7 : decode cX3_used 7 = .ok (.getfield 7, 3) := by decide +kernel
theorem dX3_used_10 : decode cX3_used 10 = .ok (.iload_n 1, 1) := by decide +kernel
theorem dX3_used_11 : decode cX3_used 11 = .ok (.iconst 4, 1) := by decide +kernel
theorem dX3_used_12 : decode cX3_used 12 = .ok (.iadd, 1) := by decide +kernel
theorem dX3_used_13 : decode cX3_used 13 = .ok (.iaload, 1) := by decide +kernel
theorem dX3_used_14 : decode cX3_used 14 = .ok (.iconst (-1), 1) := by decide +kernel
theorem dX3_used_15 : decode cX3_used 15 = .ok (.if_icmp .eq 20, 3) := by decide +kernel
theorem dX3_used_18 : decode cX3_used 18 = .ok (.aload_n 0, 1) := by decide +kernel
theorem dX3_used_19 : decode cX3_used 19 = .ok (.getfield 7, 3) := by decide +kernel
theorem dX3_used_22 : decode cX3_used 22 = .ok (.iload_n 1, 1) := by decide +kernel
theorem dX3_used_23 : decode cX3_used 23 = .ok (.bipush 6, 2) := by decide +kernel
theorem dX3_used_25 : decode cX3_used 25 = .ok (.iadd, 1) := by decide +kernel
theorem dX3_used_26 : decode cX3_used 26 = .ok (.iaload, 1) := by decide +kernel
theorem dX3_used_27 : decode cX3_used 27 = .ok (.iload_n 2, 1) := by decide +kernel
theorem dX3_used_28 : decode cX3_used 28 = .ok (.if_icmp .ne 7, 3) := by decide +kernel
theorem dX3_used_31 : decode cX3_used 31 = .ok (.iconst 1, 1) := by decide +kernel
theorem dX3_used_32 : decode cX3_used 32 = .ok (.goto 4, 3) := by decide +kernel
theorem dX3_used_35 : decode cX3_used 35 = .ok (.iconst 0, 1) := by decide +kernel
theorem dX3_used_36 : decode cX3_used 36 = .ok (.iadd, 1) := by decide +kernel
theorem dX3_used_37 : decode cX3_used 37 = .ok (.ireturn, 1) := by decide +kernel
theorem dX3_free_0 : decode cX3_free 0 = .ok (.aload_n 0, 1) := by decide +kernel
theorem dX3_free_1 : decode cX3_free 1 = .ok (.iload_n 1, 1) := by decide +kernel
theorem dX3_free_2 : decode cX3_free 2 = .ok (.iload_n 2, 1) := by decide +kernel
theorem dX3_free_3 : decode cX3_free 3 = .ok (.iconst 0, 1) := by decide +kernel
theorem dX3_free_4 : decode cX3_free 4 = .ok (.invokevirtual 36, 3) := by decide +kernel
theorem dX3_free_7 : decode cX3_free 7 = .ok (.iconst 1, 1) := by decide +kernel
theorem dX3_free_8 : decode cX3_free 8 = .ok (.if_icmp .ne 18, 3) := by decide +kernel
theorem dX3_free_11 : decode cX3_free 11 = .ok (.aload_n 0, 1) := by decide +kernel
theorem dX3_free_12 : decode cX3_free 12 = .ok (.iload_n 1, 1) := by decide +kernel
theorem dX3_free_13 : decode cX3_free 13 = .ok (.iload_n 2, 1) := by decide +kernel
theorem dX3_free_14 : decode cX3_free 14 = .ok (.iconst 1, 1) := by decide +kernel
theorem dX3_free_15 : decode cX3_free 15 = .ok (.invokevirtual 36, 3) := by decide +kernel
theorem dX3_free_18 : decode cX3_free 18 = .ok (.iconst 1, 1) := by decide +kernel
theorem dX3_free_19 : decode cX3_free 19 = .ok (.if_icmp .ne 7, 3) := by decide +kernel
theorem dX3_free_22 : decode cX3_free 22 = .ok (.iconst 1, 1) := by decide +kernel
theorem dX3_free_23 : decode cX3_free 23 = .ok (.goto 4, 3) := by decide +kernel
theorem dX3_free_26 : decode cX3_free 26 = .ok (.iconst 0, 1) := by decide +kernel
theorem dX3_free_27 : decode cX3_free 27 = .ok (.istore_n 3, 1) := by decide +kernel
theorem dX3_free_28 : decode cX3_free 28 = .ok (.iload_n 3, 1) := by decide +kernel
theorem dX3_free_29 : decode cX3_free 29 = .ok (.ifCond .eq 20, 3) := by decide +kernel
theorem dX3_free_32 : decode cX3_free 32 = .ok (.aload_n 0, 1) := by decide +kernel
theorem dX3_free_33 : decode cX3_free 33 = .ok (.iload_n 1, 1) := by decide +kernel
theorem dX3_free_34 : decode cX3_free 34 = .ok (.iload_n 2, 1) := by decide +kernel
theorem dX3_free_35 : decode cX3_free 35 = .ok (.iconst 2, 1) := by decide +kernel
theorem dX3_free_36 : decode cX3_free 36 = .ok (.invokevirtual 36, 3) := by decide +kernel
theorem dX3_free_39 : decode cX3_free 39 = .ok (.aload_n 0, 1) := by decide +kernel
theorem dX3_free_40 : decode cX3_free 40 = .ok (.iload_n 1, 1) := by decide +kernel
theorem dX3_free_41 : decode cX3_free 41 = .ok (.iload_n 2, 1) := by decide +kernel
theorem dX3_free_42 : decode cX3_free 42 = .ok (.invokevirtual 43, 3) := by decide +kernel
theorem dX3_free_45 : decode cX3_free 45 = .ok (.isub, 1) := by decide +kernel
theorem dX3_free_46 : decode cX3_free 46 = .ok (.goto 4, 3) := by decide +kernel
theorem dX3_free_49 : decode cX3_free 49 = .ok (.iconst 0, 1) := by decide +kernel
theorem dX3_free_50 : decode cX3_free 50 = .ok (.ireturn, 1) := by decide +kernel
theorem dX3_bestHost_0 : decode cX3_bestHost 0 = .ok (.iconst (-1), 1) := by decide +kernel
theorem dX3_bestHost_1 : decode cX3_bestHost 1 = .ok (.istore_n 3, 1) := by decide +kernel
theorem dX3_bestHost_2 : decode cX3_bestHost 2 = .ok (.iconst 0, 1) := by decide +kernel
theorem dX3_bestHost_3 : decode cX3_bestHost 3 = .ok (.istore 4, 2) := by decide +kernel
theorem dX3_bestHost_5 : decode cX3_bestHost 5 = .ok (.iconst 0, 1) := by decide +kernel
theorem dX3_bestHost_6 : decode cX3_bestHost 6 = .ok (.istore 5, 2) := by decide +kernel
theorem dX3_bestHost_8 : decode cX3_bestHost 8 = .ok (.iload 5, 2) := by decide +kernel
theorem dX3_bestHost_10 : decode cX3_bestHost 10 = .ok (.bipush 6, 2) := by decide +kernel
theorem dX3_bestHost_12 : decode cX3_bestHost 12 = .ok (.if_icmp .ge 63, 3) := by decide +kernel
theorem dX3_bestHost_15 : decode cX3_bestHost 15 = .ok (.aload_n 0, 1) := by decide +kernel
theorem dX3_bestHost_16 : decode cX3_bestHost 16 = .ok (.iload_n 1, 1) := by decide +kernel
theorem dX3_bestHost_17 : decode cX3_bestHost 17 = .ok (.iload 5, 2) := by decide +kernel
theorem dX3_bestHost_19 : decode cX3_bestHost 19 = .ok (.iload_n 2, 1) := by decide +kernel
theorem dX3_bestHost_20 : decode cX3_bestHost 20 = .ok (.invokevirtual 32, 3) := by decide +kernel
theorem dX3_bestHost_23 : decode cX3_bestHost 23 = .ok (.ifCond .le 7, 3) := by decide +kernel
theorem dX3_bestHost_26 : decode cX3_bestHost 26 = .ok (.iconst 0, 1) := by decide +kernel
theorem dX3_bestHost_27 : decode cX3_bestHost 27 = .ok (.goto 10, 3) := by decide +kernel
theorem dX3_bestHost_30 : decode cX3_bestHost 30 = .ok (.aload_n 0, 1) := by decide +kernel
theorem dX3_bestHost_31 : decode cX3_bestHost 31 = .ok (.iload_n 1, 1) := by decide +kernel
theorem dX3_bestHost_32 : decode cX3_bestHost 32 = .ok (.iload 5, 2) := by decide +kernel
theorem dX3_bestHost_34 : decode cX3_bestHost 34 = .ok (.invokevirtual 46, 3) := by decide +kernel
theorem dX3_bestHost_37 : decode cX3_bestHost 37 = .ok (.istore 6, 2) := by decide +kernel
theorem dX3_bestHost_39 : decode cX3_bestHost 39 = .ok (.iload 6, 2) := by decide +kernel
theorem dX3_bestHost_41 : decode cX3_bestHost 41 = .ok (.iload 4, 2) := by decide +kernel
theorem dX3_bestHost_43 : decode cX3_bestHost 43 = .ok (.if_icmp .le 8, 3) := by decide +kernel
theorem dX3_bestHost_46 : decode cX3_bestHost 46 = .ok (.iload 5, 2) := by decide +kernel
theorem dX3_bestHost_48 : decode cX3_bestHost 48 = .ok (.goto 4, 3) := by decide +kernel
theorem dX3_bestHost_51 : decode cX3_bestHost 51 = .ok (.iload_n 3, 1) := by decide +kernel
theorem dX3_bestHost_52 : decode cX3_bestHost 52 = .ok (.istore_n 3, 1) := by decide +kernel
theorem dX3_bestHost_53 : decode cX3_bestHost 53 = .ok (.iload 6, 2) := by decide +kernel
theorem dX3_bestHost_55 : decode cX3_bestHost 55 = .ok (.iload 4, 2) := by decide +kernel
theorem dX3_bestHost_57 : decode cX3_bestHost 57 = .ok (.if_icmp .le 8, 3) := by decide +kernel
theorem dX3_bestHost_60 : decode cX3_bestHost 60 = .ok (.iload 6, 2) := by decide +kernel
theorem dX3_bestHost_62 : decode cX3_bestHost 62 = .ok (.goto 5, 3) := by decide +kernel
theorem dX3_bestHost_65 : decode cX3_bestHost 65 = .ok (.iload 4, 2) := by decide +kernel
theorem dX3_bestHost_67 : decode cX3_bestHost 67 = .ok (.istore 4, 2) := by decide +kernel
theorem dX3_bestHost_69 : decode cX3_bestHost 69 = .ok (.iinc 5 1, 3) := by decide +kernel
theorem dX3_bestHost_72 : decode cX3_bestHost 72 = .ok (.goto (-64), 3) := by decide +kernel
theorem dX3_bestHost_75 : decode cX3_bestHost 75 = .ok (.iload_n 3, 1) := by decide +kernel
theorem dX3_bestHost_76 : decode cX3_bestHost 76 = .ok (.ireturn, 1) := by decide +kernel
theorem dX3_statusOf_0 : decode cX3_statusOf 0 = .ok (.aload_n 0, 1) := by decide +kernel
theorem dX3_statusOf_1 : decode cX3_statusOf 1 = .ok (.iload_n 1, 1) := by decide +kernel
theorem dX3_statusOf_2 : decode cX3_statusOf 2 = .ok (.iload_n 2, 1) := by decide +kernel
theorem dX3_statusOf_3 : decode cX3_statusOf 3 = .ok (.invokevirtual 49, 3) := by decide +kernel
theorem dX3_statusOf_6 : decode cX3_statusOf 6 = .ok (.invokestatic 52, 3) := by decide +kernel
theorem dX3_statusOf_9 : decode cX3_statusOf 9 = .ok (.istore_n 3, 1) := by decide +kernel
theorem dX3_statusOf_10 : decode cX3_statusOf 10 = .ok (.iload_n 3, 1) := by decide +kernel
theorem dX3_statusOf_11 : decode cX3_statusOf 11 = .ok (.ifCond .le 14, 3) := by decide +kernel
theorem dX3_statusOf_14 : decode cX3_statusOf 14 = .ok (.iload_n 3, 1) := by decide +kernel
theorem dX3_statusOf_15 : decode cX3_statusOf 15 = .ok (.iconst 1, 1) := by decide +kernel
theorem dX3_statusOf_16 : decode cX3_statusOf 16 = .ok (.if_icmp .le 7, 3) := by decide +kernel
theorem dX3_statusOf_19 : decode cX3_statusOf 19 = .ok (.iconst 2, 1) := by decide +kernel
theorem dX3_statusOf_20 : decode cX3_statusOf 20 = .ok (.goto 4, 3) := by decide +kernel
theorem dX3_statusOf_23 : decode cX3_statusOf 23 = .ok (.iconst 1, 1) := by decide +kernel
theorem dX3_statusOf_24 : decode cX3_statusOf 24 = .ok (.ireturn, 1) := by decide +kernel
theorem dX3_statusOf_25 : decode cX3_statusOf 25 = .ok (.iconst 0, 1) := by decide +kernel
theorem dX3_statusOf_26 : decode cX3_statusOf 26 = .ok (.istore 4, 2) := by decide +kernel
theorem dX3_statusOf_28 : decode cX3_statusOf 28 = .ok (.iload 4, 2) := by decide +kernel
theorem dX3_statusOf_30 : decode cX3_statusOf 30 = .ok (.bipush 6, 2) := by decide +kernel
theorem dX3_statusOf_32 : decode cX3_statusOf 32 = .ok (.if_icmp .ge 22, 3) := by decide +kernel
theorem dX3_statusOf_35 : decode cX3_statusOf 35 = .ok (.aload_n 0, 1) := by decide +kernel
theorem dX3_statusOf_36 : decode cX3_statusOf 36 = .ok (.iload_n 1, 1) := by decide +kernel
theorem dX3_statusOf_37 : decode cX3_statusOf 37 = .ok (.iload 4, 2) := by decide +kernel
theorem dX3_statusOf_39 : decode cX3_statusOf 39 = .ok (.iload_n 2, 1) := by decide +kernel
theorem dX3_statusOf_40 : decode cX3_statusOf 40 = .ok (.invokevirtual 56, 3) := by decide +kernel
theorem dX3_statusOf_43 : decode cX3_statusOf 43 = .ok (.ifCond .eq 5, 3) := by decide +kernel
theorem dX3_statusOf_46 : decode cX3_statusOf 46 = .ok (.iconst 0, 1) := by decide +kernel
theorem dX3_statusOf_47 : decode cX3_statusOf 47 = .ok (.ireturn, 1) := by decide +kernel
theorem dX3_statusOf_48 : decode cX3_statusOf 48 = .ok (.iinc 4 1, 3) := by decide +kernel
theorem dX3_statusOf_51 : decode cX3_statusOf 51 = .ok (.goto (-23), 3) := by decide +kernel
theorem dX3_statusOf_54 : decode cX3_statusOf 54 = .ok (.bipush (-2), 2) := by decide +kernel
theorem dX3_statusOf_56 : decode cX3_statusOf 56 = .ok (.ireturn, 1) := by decide +kernel
theorem dX3_counted_0 : decode cX3_counted 0 = .ok (.iconst 0, 1) := by decide +kernel
theorem dX3_counted_1 : decode cX3_counted 1 = .ok (.istore_n 3, 1) := by decide +kernel
theorem dX3_counted_2 : decode cX3_counted 2 = .ok (.iconst 0, 1) := by decide +kernel
theorem dX3_counted_3 : decode cX3_counted 3 = .ok (.istore 4, 2) := by decide +kernel
theorem dX3_counted_5 : decode cX3_counted 5 = .ok (.iload 4, 2) := by decide +kernel
theorem dX3_counted_7 : decode cX3_counted 7 = .ok (.bipush 30, 2) := by decide +kernel
theorem dX3_counted_9 : decode cX3_counted 9 = .ok (.if_icmp .ge 38, 3) := by decide +kernel
theorem dX3_counted_12 : decode cX3_counted 12 = .ok (.iload_n 3, 1) := by decide +kernel
theorem dX3_counted_13 : decode cX3_counted 13 = .ok (.aload_n 0, 1) := by decide +kernel
theorem dX3_counted_14 : decode cX3_counted 14 = .ok (.iload_n 1, 1) := by decide +kernel
theorem dX3_counted_15 : decode cX3_counted 15 = .ok (.iload 4, 2) := by decide +kernel
theorem dX3_counted_17 : decode cX3_counted 17 = .ok (.invokevirtual 28, 3) := by decide +kernel
theorem dX3_counted_20 : decode cX3_counted 20 = .ok (.ifCond .eq 18, 3) := by decide +kernel
theorem dX3_counted_23 : decode cX3_counted 23 = .ok (.aload_n 0, 1) := by decide +kernel
theorem dX3_counted_24 : decode cX3_counted 24 = .ok (.iload_n 1, 1) := by decide +kernel
theorem dX3_counted_25 : decode cX3_counted 25 = .ok (.iload 4, 2) := by decide +kernel
theorem dX3_counted_27 : decode cX3_counted 27 = .ok (.invokevirtual 59, 3) := by decide +kernel
theorem dX3_counted_30 : decode cX3_counted 30 = .ok (.iload_n 2, 1) := by decide +kernel
theorem dX3_counted_31 : decode cX3_counted 31 = .ok (.if_icmp .ne 7, 3) := by decide +kernel
theorem dX3_counted_34 : decode cX3_counted 34 = .ok (.iconst 1, 1) := by decide +kernel
theorem dX3_counted_35 : decode cX3_counted 35 = .ok (.goto 4, 3) := by decide +kernel
theorem dX3_counted_38 : decode cX3_counted 38 = .ok (.iconst 0, 1) := by decide +kernel
theorem dX3_counted_39 : decode cX3_counted 39 = .ok (.iadd, 1) := by decide +kernel
theorem dX3_counted_40 : decode cX3_counted 40 = .ok (.istore_n 3, 1) := by decide +kernel
theorem dX3_counted_41 : decode cX3_counted 41 = .ok (.iinc 4 1, 3) := by decide +kernel
theorem dX3_counted_44 : decode cX3_counted 44 = .ok (.goto (-39), 3) := by decide +kernel
theorem dX3_counted_47 : decode cX3_counted 47 = .ok (.iload_n 3, 1) := by decide +kernel
theorem dX3_counted_48 : decode cX3_counted 48 = .ok (.ireturn, 1) := by decide +kernel
theorem dX3_clears_0 : decode cX3_clears 0 = .ok (.aload_n 0, 1) := by decide +kernel
theorem dX3_clears_1 : decode cX3_clears 1 = .ok (.iload_n 1, 1) := by decide +kernel
theorem dX3_clears_2 : decode cX3_clears 2 = .ok (.iload_n 2, 1) := by decide +kernel
theorem dX3_clears_3 : decode cX3_clears 3 = .ok (.invokevirtual 39, 3) := by decide +kernel
theorem dX3_clears_6 : decode cX3_clears 6 = .ok (.istore_n 3, 1) := by decide +kernel
theorem dX3_clears_7 : decode cX3_clears 7 = .ok (.iconst 0, 1) := by decide +kernel
theorem dX3_clears_8 : decode cX3_clears 8 = .ok (.istore 4, 2) := by decide +kernel
theorem dX3_clears_10 : decode cX3_clears 10 = .ok (.iload 4, 2) := by decide +kernel
theorem dX3_clears_12 : decode cX3_clears 12 = .ok (.bipush 30, 2) := by decide +kernel
theorem dX3_clears_14 : decode cX3_clears 14 = .ok (.if_icmp .ge 18, 3) := by decide +kernel
theorem dX3_clears_17 : decode cX3_clears 17 = .ok (.aload_n 0, 1) := by decide +kernel
theorem dX3_clears_18 : decode cX3_clears 18 = .ok (.iload_n 1, 1) := by decide +kernel
theorem dX3_clears_19 : decode cX3_clears 19 = .ok (.iload_n 2, 1) := by decide +kernel
theorem dX3_clears_20 : decode cX3_clears 20 = .ok (.iload 4, 2) := by decide +kernel
theorem dX3_clears_22 : decode cX3_clears 22 = .ok (.iconst 0, 1) := by decide +kernel
theorem dX3_clears_23 : decode cX3_clears 23 = .ok (.invokevirtual 62, 3) := by decide +kernel
theorem dX3_clears_26 : decode cX3_clears 26 = .ok (.iinc 4 1, 3) := by decide +kernel
theorem dX3_clears_29 : decode cX3_clears 29 = .ok (.goto (-19), 3) := by decide +kernel
theorem dX3_clears_32 : decode cX3_clears 32 = .ok (.iload_n 3, 1) := by decide +kernel
theorem dX3_clears_33 : decode cX3_clears 33 = .ok (.ireturn, 1) := by decide +kernel
theorem dX3_cancels_0 : decode cX3_cancels 0 = .ok (.aload_n 0, 1) := by decide +kernel
theorem dX3_cancels_1 : decode cX3_cancels 1 = .ok (.getfield 7, 3) := by decide +kernel
theorem dX3_cancels_4 : decode cX3_cancels 4 = .ok (.iload_n 1, 1) := by decide +kernel
theorem dX3_cancels_5 : decode cX3_cancels 5 = .ok (.bipush 6, 2) := by decide +kernel
theorem dX3_cancels_7 : decode cX3_cancels 7 = .ok (.iadd, 1) := by decide +kernel
theorem dX3_cancels_8 : decode cX3_cancels 8 = .ok (.iaload, 1) := by decide +kernel
theorem dX3_cancels_9 : decode cX3_cancels 9 = .ok (.iload_n 2, 1) := by decide +kernel
theorem dX3_cancels_10 : decode cX3_cancels 10 = .ok (.if_icmp .eq 19, 3) := by decide +kernel
theorem dX3_cancels_13 : decode cX3_cancels 13 = .ok (.iload_n 3, 1) := by decide +kernel
theorem dX3_cancels_14 : decode cX3_cancels 14 = .ok (.ifCond .eq 19, 3) := by decide +kernel
theorem dX3_cancels_17 : decode cX3_cancels 17 = .ok (.aload_n 0, 1) := by decide +kernel
theorem dX3_cancels_18 : decode cX3_cancels 18 = .ok (.getfield 7, 3) := by decide +kernel
theorem dX3_cancels_21 : decode cX3_cancels 21 = .ok (.iload_n 1, 1) := by decide +kernel
theorem dX3_cancels_22 : decode cX3_cancels 22 = .ok (.iconst 5, 1) := by decide +kernel
theorem dX3_cancels_23 : decode cX3_cancels 23 = .ok (.iadd, 1) := by decide +kernel
theorem dX3_cancels_24 : decode cX3_cancels 24 = .ok (.iaload, 1) := by decide +kernel
theorem dX3_cancels_25 : decode cX3_cancels 25 = .ok (.iload_n 2, 1) := by decide +kernel
theorem dX3_cancels_26 : decode cX3_cancels 26 = .ok (.if_icmp .ne 7, 3) := by decide +kernel
theorem dX3_cancels_29 : decode cX3_cancels 29 = .ok (.iconst 1, 1) := by decide +kernel
theorem dX3_cancels_30 : decode cX3_cancels 30 = .ok (.goto 4, 3) := by decide +kernel
theorem dX3_cancels_33 : decode cX3_cancels 33 = .ok (.iconst 0, 1) := by decide +kernel
theorem dX3_cancels_34 : decode cX3_cancels 34 = .ok (.istore 4, 2) := by decide +kernel
theorem dX3_cancels_36 : decode cX3_cancels 36 = .ok (.aload_n 0, 1) := by decide +kernel
theorem dX3_cancels_37 : decode cX3_cancels 37 = .ok (.getfield 7, 3) := by decide +kernel
theorem dX3_cancels_40 : decode cX3_cancels 40 = .ok (.iload_n 1, 1) := by decide +kernel
theorem dX3_cancels_41 : decode cX3_cancels 41 = .ok (.iconst 4, 1) := by decide +kernel
theorem dX3_cancels_42 : decode cX3_cancels 42 = .ok (.iadd, 1) := by decide +kernel
theorem dX3_cancels_43 : decode cX3_cancels 43 = .ok (.iload 4, 2) := by decide +kernel
theorem dX3_cancels_45 : decode cX3_cancels 45 = .ok (.ifCond .eq 7, 3) := by decide +kernel
theorem dX3_cancels_48 : decode cX3_cancels 48 = .ok (.iconst (-1), 1) := by decide +kernel
theorem dX3_cancels_49 : decode cX3_cancels 49 = .ok (.goto 11, 3) := by decide +kernel
theorem dX3_cancels_52 : decode cX3_cancels 52 = .ok (.aload_n 0, 1) := by decide +kernel
theorem dX3_cancels_53 : decode cX3_cancels 53 = .ok (.getfield 7, 3) := by decide +kernel
theorem dX3_cancels_56 : decode cX3_cancels 56 = .ok (.iload_n 1, 1) := by decide +kernel
theorem dX3_cancels_57 : decode cX3_cancels 57 = .ok (.iconst 4, 1) := by decide +kernel
theorem dX3_cancels_58 : decode cX3_cancels 58 = .ok (.iadd, 1) := by decide +kernel
theorem dX3_cancels_59 : decode cX3_cancels 59 = .ok (.iaload, 1) := by decide +kernel
theorem dX3_cancels_60 : decode cX3_cancels 60 = .ok (.iastore, 1) := by decide +kernel
theorem dX3_cancels_61 : decode cX3_cancels 61 = .ok (.return_, 1) := by decide +kernel
theorem dX3_classOf_0 : decode cX3_classOf 0 = .ok (.aload_n 0, 1) := by decide +kernel
theorem dX3_classOf_1 : decode cX3_classOf 1 = .ok (.iload_n 1, 1) := by decide +kernel
theorem dX3_classOf_2 : decode cX3_classOf 2 = .ok (.iload_n 2, 1) := by decide +kernel
theorem dX3_classOf_3 : decode cX3_classOf 3 = .ok (.invokevirtual 49, 3) := by decide +kernel
theorem dX3_classOf_6 : decode cX3_classOf 6 = .ok (.istore 4, 2) := by decide +kernel
theorem dX3_classOf_8 : decode cX3_classOf 8 = .ok (.iload 4, 2) := by decide +kernel
theorem dX3_classOf_10 : decode cX3_classOf 10 = .ok (.iload_n 3, 1) := by decide +kernel
theorem dX3_classOf_11 : decode cX3_classOf 11 = .ok (.ishr, 1) := by decide +kernel
theorem dX3_classOf_12 : decode cX3_classOf 12 = .ok (.iconst 1, 1) := by decide +kernel
theorem dX3_classOf_13 : decode cX3_classOf 13 = .ok (.iand, 1) := by decide +kernel
theorem dX3_classOf_14 : decode cX3_classOf 14 = .ok (.ifCond .eq 13, 3) := by decide +kernel
theorem dX3_classOf_17 : decode cX3_classOf 17 = .ok (.aload_n 0, 1) := by decide +kernel
theorem dX3_classOf_18 : decode cX3_classOf 18 = .ok (.iload_n 1, 1) := by decide +kernel
theorem dX3_classOf_19 : decode cX3_classOf 19 = .ok (.iload_n 2, 1) := by decide +kernel
theorem dX3_classOf_20 : decode cX3_classOf 20 = .ok (.invokevirtual 66, 3) := by decide +kernel
theorem dX3_classOf_23 : decode cX3_classOf 23 = .ok (.iconst (-1), 1) := by decide +kernel
theorem dX3_classOf_24 : decode cX3_classOf 24 = .ok (.if_icmp .ne 5, 3) := by decide +kernel
theorem dX3_classOf_27 : decode cX3_classOf 27 = .ok (.iconst 0, 1) := by decide +kernel
theorem dX3_classOf_28 : decode cX3_classOf 28 = .ok (.ireturn, 1) := by decide +kernel
theorem dX3_classOf_29 : decode cX3_classOf 29 = .ok (.aload_n 0, 1) := by decide +kernel
theorem dX3_classOf_30 : decode cX3_classOf 30 = .ok (.iload_n 1, 1) := by decide +kernel
theorem dX3_classOf_31 : decode cX3_classOf 31 = .ok (.iload_n 3, 1) := by decide +kernel
theorem dX3_classOf_32 : decode cX3_classOf 32 = .ok (.iconst 0, 1) := by decide +kernel
theorem dX3_classOf_33 : decode cX3_classOf 33 = .ok (.invokevirtual 36, 3) := by decide +kernel
theorem dX3_classOf_36 : decode cX3_classOf 36 = .ok (.iconst 2, 1) := by decide +kernel
theorem dX3_classOf_37 : decode cX3_classOf 37 = .ok (.if_icmp .ne 7, 3) := by decide +kernel
theorem dX3_classOf_40 : decode cX3_classOf 40 = .ok (.iconst 1, 1) := by decide +kernel
theorem dX3_classOf_41 : decode cX3_classOf 41 = .ok (.goto 4, 3) := by decide +kernel
theorem dX3_classOf_44 : decode cX3_classOf 44 = .ok (.iconst 0, 1) := by decide +kernel
theorem dX3_classOf_45 : decode cX3_classOf 45 = .ok (.istore 5, 2) := by decide +kernel
theorem dX3_classOf_47 : decode cX3_classOf 47 = .ok (.iload 4, 2) := by decide +kernel
theorem dX3_classOf_49 : decode cX3_classOf 49 = .ok (.invokestatic 52, 3) := by decide +kernel
theorem dX3_classOf_52 : decode cX3_classOf 52 = .ok (.iconst 1, 1) := by decide +kernel
theorem dX3_classOf_53 : decode cX3_classOf 53 = .ok (.if_icmp .ne 16, 3) := by decide +kernel
theorem dX3_classOf_56 : decode cX3_classOf 56 = .ok (.iload 5, 2) := by decide +kernel
theorem dX3_classOf_58 : decode cX3_classOf 58 = .ok (.ifCond .eq 7, 3) := by decide +kernel
theorem dX3_classOf_61 : decode cX3_classOf 61 = .ok (.iconst 1, 1) := by decide +kernel
theorem dX3_classOf_62 : decode cX3_classOf 62 = .ok (.goto 17, 3) := by decide +kernel
theorem dX3_classOf_65 : decode cX3_classOf 65 = .ok (.iconst 2, 1) := by decide +kernel
theorem dX3_classOf_66 : decode cX3_classOf 66 = .ok (.goto 13, 3) := by decide +kernel
theorem dX3_classOf_69 : decode cX3_classOf 69 = .ok (.iload 5, 2) := by decide +kernel
theorem dX3_classOf_71 : decode cX3_classOf 71 = .ok (.ifCond .eq 7, 3) := by decide +kernel
theorem dX3_classOf_74 : decode cX3_classOf 74 = .ok (.iconst 3, 1) := by decide +kernel
theorem dX3_classOf_75 : decode cX3_classOf 75 = .ok (.goto 4, 3) := by decide +kernel
theorem dX3_classOf_78 : decode cX3_classOf 78 = .ok (.iconst 0, 1) := by decide +kernel
theorem dX3_classOf_79 : decode cX3_classOf 79 = .ok (.ireturn, 1) := by decide +kernel
theorem dX3_chooses_0 : decode cX3_chooses 0 = .ok (.iconst 4, 1) := by decide +kernel
theorem dX3_chooses_1 : decode cX3_chooses 1 = .ok (.istore_n 2, 1) := by decide +kernel
theorem dX3_chooses_2 : decode cX3_chooses 2 = .ok (.iconst 0, 1) := by decide +kernel
theorem dX3_chooses_3 : decode cX3_chooses 3 = .ok (.istore_n 3, 1) := by decide +kernel
theorem dX3_chooses_4 : decode cX3_chooses 4 = .ok (.iconst 0, 1) := by decide +kernel
theorem dX3_chooses_5 : decode cX3_chooses 5 = .ok (.istore 4, 2) := by decide +kernel
theorem dX3_chooses_7 : decode cX3_chooses 7 = .ok (.iload 4, 2) := by decide +kernel
theorem dX3_chooses_9 : decode cX3_chooses 9 = .ok (.sipush 180, 3) := by decide +kernel
theorem dX3_chooses_12 : decode cX3_chooses 12 = .ok (.if_icmp .ge 105, 3) := by decide +kernel
theorem dX3_chooses_15 : decode cX3_chooses 15 = .ok (.aload_n 0, 1) := by decide +kernel
theorem dX3_chooses_16 : decode cX3_chooses 16 = .ok (.iload_n 1, 1) := by decide +kernel
theorem dX3_chooses_17 : decode cX3_chooses 17 = .ok (.iload 4, 2) := by decide +kernel
theorem dX3_chooses_19 : decode cX3_chooses 19 = .ok (.bipush 6, 2) := by decide +kernel
theorem dX3_chooses_21 : decode cX3_chooses 21 = .ok (.idiv, 1) := by decide +kernel
theorem dX3_chooses_22 : decode cX3_chooses 22 = .ok (.iload 4, 2) := by decide +kernel
theorem dX3_chooses_24 : decode cX3_chooses 24 = .ok (.bipush 6, 2) := by decide +kernel
theorem dX3_chooses_26 : decode cX3_chooses 26 = .ok (.irem, 1) := by decide +kernel
theorem dX3_chooses_27 : decode cX3_chooses 27 = .ok (.invokevirtual 69, 3) := by decide +kernel
theorem dX3_chooses_30 : decode cX3_chooses 30 = .ok (.istore 5, 2) := by decide +kernel
theorem dX3_chooses_32 : decode cX3_chooses 32 = .ok (.iload 5, 2) := by decide +kernel
theorem dX3_chooses_34 : decode cX3_chooses 34 = .ok (.iconst 2, 1) := by decide +kernel
theorem dX3_chooses_35 : decode cX3_chooses 35 = .ok (.if_icmp .ne 7, 3) := by decide +kernel
theorem dX3_chooses_38 : decode cX3_chooses 38 = .ok (.iconst 0, 1) := by decide +kernel
theorem dX3_chooses_39 : decode cX3_chooses 39 = .ok (.goto 14, 3) := by decide +kernel
theorem dX3_chooses_42 : decode cX3_chooses 42 = .ok (.aload_n 0, 1) := by decide +kernel
theorem dX3_chooses_43 : decode cX3_chooses 43 = .ok (.iload_n 1, 1) := by decide +kernel
theorem dX3_chooses_44 : decode cX3_chooses 44 = .ok (.iload 4, 2) := by decide +kernel
theorem dX3_chooses_46 : decode cX3_chooses 46 = .ok (.bipush 6, 2) := by decide +kernel
theorem dX3_chooses_48 : decode cX3_chooses 48 = .ok (.irem, 1) := by decide +kernel
theorem dX3_chooses_49 : decode cX3_chooses 49 = .ok (.iconst 3, 1) := by decide +kernel
theorem dX3_chooses_50 : decode cX3_chooses 50 = .ok (.invokevirtual 36, 3) := by decide +kernel
theorem dX3_chooses_53 : decode cX3_chooses 53 = .ok (.istore 6, 2) := by decide +kernel
theorem dX3_chooses_55 : decode cX3_chooses 55 = .ok (.iload 5, 2) := by decide +kernel
theorem dX3_chooses_57 : decode cX3_chooses 57 = .ok (.ifCond .le 54, 3) := by decide +kernel
theorem dX3_chooses_60 : decode cX3_chooses 60 = .ok (.iload 5, 2) := by decide +kernel
theorem dX3_chooses_62 : decode cX3_chooses 62 = .ok (.iload_n 2, 1) := by decide +kernel
theorem dX3_chooses_63 : decode cX3_chooses 63 = .ok (.if_icmp .lt 15, 3) := by decide +kernel
theorem dX3_chooses_66 : decode cX3_chooses 66 = .ok (.iload 5, 2) := by decide +kernel
theorem dX3_chooses_68 : decode cX3_chooses 68 = .ok (.iload_n 2, 1) := by decide +kernel
theorem dX3_chooses_69 : decode cX3_chooses 69 = .ok (.if_icmp .ne 42, 3) := by decide +kernel
theorem dX3_chooses_72 : decode cX3_chooses 72 = .ok (.iload 6, 2) := by decide +kernel
theorem dX3_chooses_74 : decode cX3_chooses 74 = .ok (.iload_n 3, 1) := by decide +kernel
theorem dX3_chooses_75 : decode cX3_chooses 75 = .ok (.if_icmp .ge 36, 3) := by decide +kernel
theorem dX3_chooses_78 : decode cX3_chooses 78 = .ok (.iload 5, 2) := by decide +kernel
theorem dX3_chooses_80 : decode cX3_chooses 80 = .ok (.istore_n 2, 1) := by decide +kernel
theorem dX3_chooses_81 : decode cX3_chooses 81 = .ok (.iload 6, 2) := by decide +kernel
theorem dX3_chooses_83 : decode cX3_chooses 83 = .ok (.istore_n 3, 1) := by decide +kernel
theorem dX3_chooses_84 : decode cX3_chooses 84 = .ok (.aload_n 0, 1) := by decide +kernel
theorem dX3_chooses_85 : decode cX3_chooses 85 = .ok (.getfield 7, 3) := by decide +kernel
theorem dX3_chooses_88 : decode cX3_chooses 88 = .ok (.iload_n 1, 1) := by decide +kernel
theorem dX3_chooses_89 : decode cX3_chooses 89 = .ok (.iconst 5, 1) := by decide +kernel
theorem dX3_chooses_90 : decode cX3_chooses 90 = .ok (.iadd, 1) := by decide +kernel
theorem dX3_chooses_91 : decode cX3_chooses 91 = .ok (.iload 4, 2) := by decide +kernel
theorem dX3_chooses_93 : decode cX3_chooses 93 = .ok (.bipush 6, 2) := by decide +kernel
theorem dX3_chooses_95 : decode cX3_chooses 95 = .ok (.irem, 1) := by decide +kernel
theorem dX3_chooses_96 : decode cX3_chooses 96 = .ok (.iastore, 1) := by decide +kernel
theorem dX3_chooses_97 : decode cX3_chooses 97 = .ok (.aload_n 0, 1) := by decide +kernel
theorem dX3_chooses_98 : decode cX3_chooses 98 = .ok (.getfield 7, 3) := by decide +kernel
theorem dX3_chooses_101 : decode cX3_chooses 101 = .ok (.iload_n 1, 1) := by decide +kernel
theorem dX3_chooses_102 : decode cX3_chooses 102 = .ok (.bipush 7, 2) := by decide +kernel
theorem dX3_chooses_104 : decode cX3_chooses 104 = .ok (.iadd, 1) := by decide +kernel
theorem dX3_chooses_105 : decode cX3_chooses 105 = .ok (.iload 4, 2) := by decide +kernel
theorem dX3_chooses_107 : decode cX3_chooses 107 = .ok (.bipush 6, 2) := by decide +kernel
theorem dX3_chooses_109 : decode cX3_chooses 109 = .ok (.idiv, 1) := by decide +kernel
theorem dX3_chooses_110 : decode cX3_chooses 110 = .ok (.iastore, 1) := by decide +kernel
theorem dX3_chooses_111 : decode cX3_chooses 111 = .ok (.iinc 4 1, 3) := by decide +kernel
theorem dX3_chooses_114 : decode cX3_chooses 114 = .ok (.goto (-107), 3) := by decide +kernel
theorem dX3_chooses_117 : decode cX3_chooses 117 = .ok (.iload_n 2, 1) := by decide +kernel
theorem dX3_chooses_118 : decode cX3_chooses 118 = .ok (.iconst 4, 1) := by decide +kernel
theorem dX3_chooses_119 : decode cX3_chooses 119 = .ok (.if_icmp .ge 66, 3) := by decide +kernel
theorem dX3_chooses_122 : decode cX3_chooses 122 = .ok (.aload_n 0, 1) := by decide +kernel
theorem dX3_chooses_123 : decode cX3_chooses 123 = .ok (.getfield 7, 3) := by decide +kernel
theorem dX3_chooses_126 : decode cX3_chooses 126 = .ok (.iload_n 1, 1) := by decide +kernel
theorem dX3_chooses_127 : decode cX3_chooses 127 = .ok (.bipush 7, 2) := by decide +kernel
theorem dX3_chooses_129 : decode cX3_chooses 129 = .ok (.iadd, 1) := by decide +kernel
theorem dX3_chooses_130 : decode cX3_chooses 130 = .ok (.iaload, 1) := by decide +kernel
theorem dX3_chooses_131 : decode cX3_chooses 131 = .ok (.istore 4, 2) := by decide +kernel
theorem dX3_chooses_133 : decode cX3_chooses 133 = .ok (.aload_n 0, 1) := by decide +kernel
theorem dX3_chooses_134 : decode cX3_chooses 134 = .ok (.getfield 7, 3) := by decide +kernel
theorem dX3_chooses_137 : decode cX3_chooses 137 = .ok (.iload_n 1, 1) := by decide +kernel
theorem dX3_chooses_138 : decode cX3_chooses 138 = .ok (.bipush 6, 2) := by decide +kernel
theorem dX3_chooses_140 : decode cX3_chooses 140 = .ok (.iadd, 1) := by decide +kernel
theorem dX3_chooses_141 : decode cX3_chooses 141 = .ok (.aload_n 0, 1) := by decide +kernel
theorem dX3_chooses_142 : decode cX3_chooses 142 = .ok (.iload_n 1, 1) := by decide +kernel
theorem dX3_chooses_143 : decode cX3_chooses 143 = .ok (.iload 4, 2) := by decide +kernel
theorem dX3_chooses_145 : decode cX3_chooses 145 = .ok (.invokevirtual 66, 3) := by decide +kernel
theorem dX3_chooses_148 : decode cX3_chooses 148 = .ok (.iastore, 1) := by decide +kernel
theorem dX3_chooses_149 : decode cX3_chooses 149 = .ok (.aload_n 0, 1) := by decide +kernel
theorem dX3_chooses_150 : decode cX3_chooses 150 = .ok (.getfield 7, 3) := by decide +kernel
theorem dX3_chooses_153 : decode cX3_chooses 153 = .ok (.iload_n 1, 1) := by decide +kernel
theorem dX3_chooses_154 : decode cX3_chooses 154 = .ok (.iconst 4, 1) := by decide +kernel
theorem dX3_chooses_155 : decode cX3_chooses 155 = .ok (.iadd, 1) := by decide +kernel
theorem dX3_chooses_156 : decode cX3_chooses 156 = .ok (.iload 4, 2) := by decide +kernel
theorem dX3_chooses_158 : decode cX3_chooses 158 = .ok (.iastore, 1) := by decide +kernel
theorem dX3_chooses_159 : decode cX3_chooses 159 = .ok (.aload_n 0, 1) := by decide +kernel
theorem dX3_chooses_160 : decode cX3_chooses 160 = .ok (.getfield 7, 3) := by decide +kernel
theorem dX3_chooses_163 : decode cX3_chooses 163 = .ok (.iload_n 1, 1) := by decide +kernel
theorem dX3_chooses_164 : decode cX3_chooses 164 = .ok (.bipush 7, 2) := by decide +kernel
theorem dX3_chooses_166 : decode cX3_chooses 166 = .ok (.iadd, 1) := by decide +kernel
theorem dX3_chooses_167 : decode cX3_chooses 167 = .ok (.aload_n 0, 1) := by decide +kernel
theorem dX3_chooses_168 : decode cX3_chooses 168 = .ok (.getfield 7, 3) := by decide +kernel
theorem dX3_chooses_171 : decode cX3_chooses 171 = .ok (.iload_n 1, 1) := by decide +kernel
theorem dX3_chooses_172 : decode cX3_chooses 172 = .ok (.iconst 0, 1) := by decide +kernel
theorem dX3_chooses_173 : decode cX3_chooses 173 = .ok (.iadd, 1) := by decide +kernel
theorem dX3_chooses_174 : decode cX3_chooses 174 = .ok (.iaload, 1) := by decide +kernel
theorem dX3_chooses_175 : decode cX3_chooses 175 = .ok (.aload_n 0, 1) := by decide +kernel
theorem dX3_chooses_176 : decode cX3_chooses 176 = .ok (.getfield 7, 3) := by decide +kernel
theorem dX3_chooses_179 : decode cX3_chooses 179 = .ok (.iload_n 1, 1) := by decide +kernel
theorem dX3_chooses_180 : decode cX3_chooses 180 = .ok (.iconst 2, 1) := by decide +kernel
theorem dX3_chooses_181 : decode cX3_chooses 181 = .ok (.iadd, 1) := by decide +kernel
theorem dX3_chooses_182 : decode cX3_chooses 182 = .ok (.iaload, 1) := by decide +kernel
theorem dX3_chooses_183 : decode cX3_chooses 183 = .ok (.iadd, 1) := by decide +kernel
theorem dX3_chooses_184 : decode cX3_chooses 184 = .ok (.iastore, 1) := by decide +kernel
theorem dX3_chooses_185 : decode cX3_chooses 185 = .ok (.return_, 1) := by decide +kernel
theorem dX3_settles_0 : decode cX3_settles 0 = .ok (.iconst 0, 1) := by decide +kernel
theorem dX3_settles_1 : decode cX3_settles 1 = .ok (.istore_n 2, 1) := by decide +kernel
theorem dX3_settles_2 : decode cX3_settles 2 = .ok (.iload_n 2, 1) := by decide +kernel
theorem dX3_settles_3 : decode cX3_settles 3 = .ok (.bipush 6, 2) := by decide +kernel
theorem dX3_settles_5 : decode cX3_settles 5 = .ok (.if_icmp .ge 68, 3) := by decide +kernel
theorem dX3_settles_8 : decode cX3_settles 8 = .ok (.aload_n 0, 1) := by decide +kernel
theorem dX3_settles_9 : decode cX3_settles 9 = .ok (.iload_n 1, 1) := by decide +kernel
theorem dX3_settles_10 : decode cX3_settles 10 = .ok (.iload_n 2, 1) := by decide +kernel
theorem dX3_settles_11 : decode cX3_settles 11 = .ok (.iconst 0, 1) := by decide +kernel
theorem dX3_settles_12 : decode cX3_settles 12 = .ok (.invokevirtual 36, 3) := by decide +kernel
theorem dX3_settles_15 : decode cX3_settles 15 = .ok (.iconst 2, 1) := by decide +kernel
theorem dX3_settles_16 : decode cX3_settles 16 = .ok (.if_icmp .ne 27, 3) := by decide +kernel
theorem dX3_settles_19 : decode cX3_settles 19 = .ok (.aload_n 0, 1) := by decide +kernel
theorem dX3_settles_20 : decode cX3_settles 20 = .ok (.iload_n 1, 1) := by decide +kernel
theorem dX3_settles_21 : decode cX3_settles 21 = .ok (.iload_n 2, 1) := by decide +kernel
theorem dX3_settles_22 : decode cX3_settles 22 = .ok (.iconst 1, 1) := by decide +kernel
theorem dX3_settles_23 : decode cX3_settles 23 = .ok (.invokevirtual 36, 3) := by decide +kernel
theorem dX3_settles_26 : decode cX3_settles 26 = .ok (.iconst 1, 1) := by decide +kernel
theorem dX3_settles_27 : decode cX3_settles 27 = .ok (.if_icmp .ne 16, 3) := by decide +kernel
theorem dX3_settles_30 : decode cX3_settles 30 = .ok (.aload_n 0, 1) := by decide +kernel
theorem dX3_settles_31 : decode cX3_settles 31 = .ok (.iload_n 1, 1) := by decide +kernel
theorem dX3_settles_32 : decode cX3_settles 32 = .ok (.iload_n 2, 1) := by decide +kernel
theorem dX3_settles_33 : decode cX3_settles 33 = .ok (.invokevirtual 39, 3) := by decide +kernel
theorem dX3_settles_36 : decode cX3_settles 36 = .ok (.ifCond .ne 7, 3) := by decide +kernel
theorem dX3_settles_39 : decode cX3_settles 39 = .ok (.iconst 1, 1) := by decide +kernel
theorem dX3_settles_40 : decode cX3_settles 40 = .ok (.goto 4, 3) := by decide +kernel
theorem dX3_settles_43 : decode cX3_settles 43 = .ok (.iconst 0, 1) := by decide +kernel
theorem dX3_settles_44 : decode cX3_settles 44 = .ok (.istore_n 3, 1) := by decide +kernel
theorem dX3_settles_45 : decode cX3_settles 45 = .ok (.aload_n 0, 1) := by decide +kernel
theorem dX3_settles_46 : decode cX3_settles 46 = .ok (.iload_n 1, 1) := by decide +kernel
theorem dX3_settles_47 : decode cX3_settles 47 = .ok (.iload_n 2, 1) := by decide +kernel
theorem dX3_settles_48 : decode cX3_settles 48 = .ok (.iconst 0, 1) := by decide +kernel
theorem dX3_settles_49 : decode cX3_settles 49 = .ok (.iload_n 3, 1) := by decide +kernel
theorem dX3_settles_50 : decode cX3_settles 50 = .ok (.ifCond .eq 7, 3) := by decide +kernel
theorem dX3_settles_53 : decode cX3_settles 53 = .ok (.iconst 0, 1) := by decide +kernel
theorem dX3_settles_54 : decode cX3_settles 54 = .ok (.goto 10, 3) := by decide +kernel
theorem dX3_settles_57 : decode cX3_settles 57 = .ok (.aload_n 0, 1) := by decide +kernel
theorem dX3_settles_58 : decode cX3_settles 58 = .ok (.iload_n 1, 1) := by decide +kernel
theorem dX3_settles_59 : decode cX3_settles 59 = .ok (.iload_n 2, 1) := by decide +kernel
theorem dX3_settles_60 : decode cX3_settles 60 = .ok (.iconst 0, 1) := by decide +kernel
theorem dX3_settles_61 : decode cX3_settles 61 = .ok (.invokevirtual 36, 3) := by decide +kernel
theorem dX3_settles_64 : decode cX3_settles 64 = .ok (.invokevirtual 72, 3) := by decide +kernel
theorem dX3_settles_67 : decode cX3_settles 67 = .ok (.iinc 2 1, 3) := by decide +kernel
theorem dX3_settles_70 : decode cX3_settles 70 = .ok (.goto (-68), 3) := by decide +kernel
theorem dX3_settles_73 : decode cX3_settles 73 = .ok (.aload_n 0, 1) := by decide +kernel
theorem dX3_settles_74 : decode cX3_settles 74 = .ok (.getfield 7, 3) := by decide +kernel
theorem dX3_settles_77 : decode cX3_settles 77 = .ok (.iload_n 1, 1) := by decide +kernel
theorem dX3_settles_78 : decode cX3_settles 78 = .ok (.iconst 4, 1) := by decide +kernel
theorem dX3_settles_79 : decode cX3_settles 79 = .ok (.iadd, 1) := by decide +kernel
theorem dX3_settles_80 : decode cX3_settles 80 = .ok (.iaload, 1) := by decide +kernel
theorem dX3_settles_81 : decode cX3_settles 81 = .ok (.iconst (-1), 1) := by decide +kernel
theorem dX3_settles_82 : decode cX3_settles 82 = .ok (.if_icmp .ne 8, 3) := by decide +kernel
theorem dX3_settles_85 : decode cX3_settles 85 = .ok (.aload_n 0, 1) := by decide +kernel
theorem dX3_settles_86 : decode cX3_settles 86 = .ok (.iload_n 1, 1) := by decide +kernel
theorem dX3_settles_87 : decode cX3_settles 87 = .ok (.invokevirtual 75, 3) := by decide +kernel
theorem dX3_settles_90 : decode cX3_settles 90 = .ok (.return_, 1) := by decide +kernel
theorem dX3_completes_0 : decode cX3_completes 0 = .ok (.aload_n 0, 1) := by decide +kernel
theorem dX3_completes_1 : decode cX3_completes 1 = .ok (.getfield 7, 3) := by decide +kernel
theorem dX3_completes_4 : decode cX3_completes 4 = .ok (.iload_n 1, 1) := by decide +kernel
theorem dX3_completes_5 : decode cX3_completes 5 = .ok (.iconst 4, 1) := by decide +kernel
theorem dX3_completes_6 : decode cX3_completes 6 = .ok (.iadd, 1) := by decide +kernel
theorem dX3_completes_7 : decode cX3_completes 7 = .ok (.iaload, 1) := by decide +kernel
theorem dX3_completes_8 : decode cX3_completes 8 = .ok (.istore_n 2, 1) := by decide +kernel
theorem dX3_completes_9 : decode cX3_completes 9 = .ok (.aload_n 0, 1) := by decide +kernel
theorem dX3_completes_10 : decode cX3_completes 10 = .ok (.getfield 7, 3) := by decide +kernel
theorem dX3_completes_13 : decode cX3_completes 13 = .ok (.iload_n 1, 1) := by decide +kernel
theorem dX3_completes_14 : decode cX3_completes 14 = .ok (.iconst 5, 1) := by decide +kernel
theorem dX3_completes_15 : decode cX3_completes 15 = .ok (.iadd, 1) := by decide +kernel
theorem dX3_completes_16 : decode cX3_completes 16 = .ok (.iaload, 1) := by decide +kernel
theorem dX3_completes_17 : decode cX3_completes 17 = .ok (.istore_n 3, 1) := by decide +kernel
theorem dX3_completes_18 : decode cX3_completes 18 = .ok (.aload_n 0, 1) := by decide +kernel
theorem dX3_completes_19 : decode cX3_completes 19 = .ok (.iload_n 1, 1) := by decide +kernel
theorem dX3_completes_20 : decode cX3_completes 20 = .ok (.iload_n 3, 1) := by decide +kernel
theorem dX3_completes_21 : decode cX3_completes 21 = .ok (.iconst 0, 1) := by decide +kernel
theorem dX3_completes_22 : decode cX3_completes 22 = .ok (.invokevirtual 36, 3) := by decide +kernel
theorem dX3_completes_25 : decode cX3_completes 25 = .ok (.iconst 2, 1) := by decide +kernel
theorem dX3_completes_26 : decode cX3_completes 26 = .ok (.if_icmp .ne 7, 3) := by decide +kernel
theorem dX3_completes_29 : decode cX3_completes 29 = .ok (.iconst 1, 1) := by decide +kernel
theorem dX3_completes_30 : decode cX3_completes 30 = .ok (.goto 4, 3) := by decide +kernel
theorem dX3_completes_33 : decode cX3_completes 33 = .ok (.iconst 0, 1) := by decide +kernel
theorem dX3_completes_34 : decode cX3_completes 34 = .ok (.istore 4, 2) := by decide +kernel
theorem dX3_completes_36 : decode cX3_completes 36 = .ok (.iload 4, 2) := by decide +kernel
theorem dX3_completes_38 : decode cX3_completes 38 = .ok (.ifCond .ne 16, 3) := by decide +kernel
theorem dX3_completes_41 : decode cX3_completes 41 = .ok (.aload_n 0, 1) := by decide +kernel
theorem dX3_completes_42 : decode cX3_completes 42 = .ok (.iload_n 1, 1) := by decide +kernel
theorem dX3_completes_43 : decode cX3_completes 43 = .ok (.iload_n 2, 1) := by decide +kernel
theorem dX3_completes_44 : decode cX3_completes 44 = .ok (.invokevirtual 49, 3) := by decide +kernel
theorem dX3_completes_47 : decode cX3_completes 47 = .ok (.invokestatic 52, 3) := by decide +kernel
theorem dX3_completes_50 : decode cX3_completes 50 = .ok (.iconst 1, 1) := by decide +kernel
theorem dX3_completes_51 : decode cX3_completes 51 = .ok (.if_icmp .ne 29, 3) := by decide +kernel
theorem dX3_completes_54 : decode cX3_completes 54 = .ok (.aload_n 0, 1) := by decide +kernel
theorem dX3_completes_55 : decode cX3_completes 55 = .ok (.iload_n 1, 1) := by decide +kernel
theorem dX3_completes_56 : decode cX3_completes 56 = .ok (.aload_n 0, 1) := by decide +kernel
theorem dX3_completes_57 : decode cX3_completes 57 = .ok (.getfield 7, 3) := by decide +kernel
theorem dX3_completes_60 : decode cX3_completes 60 = .ok (.iload_n 1, 1) := by decide +kernel
theorem dX3_completes_61 : decode cX3_completes 61 = .ok (.bipush 6, 2) := by decide +kernel
theorem dX3_completes_63 : decode cX3_completes 63 = .ok (.iadd, 1) := by decide +kernel
theorem dX3_completes_64 : decode cX3_completes 64 = .ok (.iaload, 1) := by decide +kernel
theorem dX3_completes_65 : decode cX3_completes 65 = .ok (.iload_n 2, 1) := by decide +kernel
theorem dX3_completes_66 : decode cX3_completes 66 = .ok (.aload_n 0, 1) := by decide +kernel
theorem dX3_completes_67 : decode cX3_completes 67 = .ok (.getfield 7, 3) := by decide +kernel
theorem dX3_completes_70 : decode cX3_completes 70 = .ok (.iload_n 1, 1) := by decide +kernel
theorem dX3_completes_71 : decode cX3_completes 71 = .ok (.bipush 32, 2) := by decide +kernel
theorem dX3_completes_73 : decode cX3_completes 73 = .ok (.iadd, 1) := by decide +kernel
theorem dX3_completes_74 : decode cX3_completes 74 = .ok (.iload_n 2, 1) := by decide +kernel
theorem dX3_completes_75 : decode cX3_completes 75 = .ok (.iadd, 1) := by decide +kernel
theorem dX3_completes_76 : decode cX3_completes 76 = .ok (.iaload, 1) := by decide +kernel
theorem dX3_completes_77 : decode cX3_completes 77 = .ok (.invokevirtual 62, 3) := by decide +kernel
theorem dX3_completes_80 : decode cX3_completes 80 = .ok (.iload 4, 2) := by decide +kernel
theorem dX3_completes_82 : decode cX3_completes 82 = .ok (.ifCond .eq 11, 3) := by decide +kernel
theorem dX3_completes_85 : decode cX3_completes 85 = .ok (.aload_n 0, 1) := by decide +kernel
theorem dX3_completes_86 : decode cX3_completes 86 = .ok (.iload_n 1, 1) := by decide +kernel
theorem dX3_completes_87 : decode cX3_completes 87 = .ok (.iload_n 3, 1) := by decide +kernel
theorem dX3_completes_88 : decode cX3_completes 88 = .ok (.iload_n 2, 1) := by decide +kernel
theorem dX3_completes_89 : decode cX3_completes 89 = .ok (.iconst 0, 1) := by decide +kernel
theorem dX3_completes_90 : decode cX3_completes 90 = .ok (.invokevirtual 62, 3) := by decide +kernel
theorem dX3_completes_93 : decode cX3_completes 93 = .ok (.aload_n 0, 1) := by decide +kernel
theorem dX3_completes_94 : decode cX3_completes 94 = .ok (.getfield 7, 3) := by decide +kernel
theorem dX3_completes_97 : decode cX3_completes 97 = .ok (.iload_n 1, 1) := by decide +kernel
theorem dX3_completes_98 : decode cX3_completes 98 = .ok (.iconst 4, 1) := by decide +kernel
theorem dX3_completes_99 : decode cX3_completes 99 = .ok (.iadd, 1) := by decide +kernel
theorem dX3_completes_100 : decode cX3_completes 100 = .ok (.iconst (-1), 1) := by decide +kernel
theorem dX3_completes_101 : decode cX3_completes 101 = .ok (.iastore, 1) := by decide +kernel
theorem dX3_completes_102 : decode cX3_completes 102 = .ok (.aload_n 0, 1) := by decide +kernel
theorem dX3_completes_103 : decode cX3_completes 103 = .ok (.getfield 7, 3) := by decide +kernel
theorem dX3_completes_106 : decode cX3_completes 106 = .ok (.iload_n 1, 1) := by decide +kernel
theorem dX3_completes_107 : decode cX3_completes 107 = .ok (.iconst 3, 1) := by decide +kernel
theorem dX3_completes_108 : decode cX3_completes 108 = .ok (.iadd, 1) := by decide +kernel
theorem dX3_completes_109 : decode cX3_completes 109 = .ok (.dup2, 1) := by decide +kernel
theorem dX3_completes_110 : decode cX3_completes 110 = .ok (.iaload, 1) := by decide +kernel
theorem dX3_completes_111 : decode cX3_completes 111 = .ok (.iconst 1, 1) := by decide +kernel
theorem dX3_completes_112 : decode cX3_completes 112 = .ok (.iadd, 1) := by decide +kernel
theorem dX3_completes_113 : decode cX3_completes 113 = .ok (.iastore, 1) := by decide +kernel
theorem dX3_completes_114 : decode cX3_completes 114 = .ok (.return_, 1) := by decide +kernel
theorem dX3_secondPasses_0 : decode cX3_secondPasses 0 = .ok (.aload_n 0, 1) := by decide +kernel
theorem dX3_secondPasses_1 : decode cX3_secondPasses 1 = .ok (.getfield 7, 3) := by decide +kernel
theorem dX3_secondPasses_4 : decode cX3_secondPasses 4 = .ok (.iload_n 1, 1) := by decide +kernel
theorem dX3_secondPasses_5 : decode cX3_secondPasses 5 = .ok (.iconst 0, 1) := by decide +kernel
theorem dX3_secondPasses_6 : decode cX3_secondPasses 6 = .ok (.iadd, 1) := by decide +kernel
theorem dX3_secondPasses_7 : decode cX3_secondPasses 7 = .ok (.dup2, 1) := by decide +kernel
theorem dX3_secondPasses_8 : decode cX3_secondPasses 8 = .ok (.iaload, 1) := by decide +kernel
theorem dX3_secondPasses_9 : decode cX3_secondPasses 9 = .ok (.iconst 1, 1) := by decide +kernel
theorem dX3_secondPasses_10 : decode cX3_secondPasses 10 = .ok (.iadd, 1) := by decide +kernel
theorem dX3_secondPasses_11 : decode cX3_secondPasses 11 = .ok (.iastore, 1) := by decide +kernel
theorem dX3_secondPasses_12 : decode cX3_secondPasses 12 = .ok (.aload_n 0, 1) := by decide +kernel
theorem dX3_secondPasses_13 : decode cX3_secondPasses 13 = .ok (.getfield 7, 3) := by decide +kernel
theorem dX3_secondPasses_16 : decode cX3_secondPasses 16 = .ok (.iload_n 1, 1) := by decide +kernel
theorem dX3_secondPasses_17 : decode cX3_secondPasses 17 = .ok (.iconst 4, 1) := by decide +kernel
theorem dX3_secondPasses_18 : decode cX3_secondPasses 18 = .ok (.iadd, 1) := by decide +kernel
theorem dX3_secondPasses_19 : decode cX3_secondPasses 19 = .ok (.iaload, 1) := by decide +kernel
theorem dX3_secondPasses_20 : decode cX3_secondPasses 20 = .ok (.iconst (-1), 1) := by decide +kernel
theorem dX3_secondPasses_21 : decode cX3_secondPasses 21 = .ok (.if_icmp .eq 28, 3) := by decide +kernel
theorem dX3_secondPasses_24 : decode cX3_secondPasses 24 = .ok (.aload_n 0, 1) := by decide +kernel
theorem dX3_secondPasses_25 : decode cX3_secondPasses 25 = .ok (.getfield 7, 3) := by decide +kernel
theorem dX3_secondPasses_28 : decode cX3_secondPasses 28 = .ok (.iload_n 1, 1) := by decide +kernel
theorem dX3_secondPasses_29 : decode cX3_secondPasses 29 = .ok (.bipush 7, 2) := by decide +kernel
theorem dX3_secondPasses_31 : decode cX3_secondPasses 31 = .ok (.iadd, 1) := by decide +kernel
theorem dX3_secondPasses_32 : decode cX3_secondPasses 32 = .ok (.iaload, 1) := by decide +kernel
theorem dX3_secondPasses_33 : decode cX3_secondPasses 33 = .ok (.aload_n 0, 1) := by decide +kernel
theorem dX3_secondPasses_34 : decode cX3_secondPasses 34 = .ok (.getfield 7, 3) := by decide +kernel
theorem dX3_secondPasses_37 : decode cX3_secondPasses 37 = .ok (.iload_n 1, 1) := by decide +kernel
theorem dX3_secondPasses_38 : decode cX3_secondPasses 38 = .ok (.iconst 0, 1) := by decide +kernel
theorem dX3_secondPasses_39 : decode cX3_secondPasses 39 = .ok (.iadd, 1) := by decide +kernel
theorem dX3_secondPasses_40 : decode cX3_secondPasses 40 = .ok (.iaload, 1) := by decide +kernel
theorem dX3_secondPasses_41 : decode cX3_secondPasses 41 = .ok (.if_icmp .ne 8, 3) := by decide +kernel
theorem dX3_secondPasses_44 : decode cX3_secondPasses 44 = .ok (.aload_n 0, 1) := by decide +kernel
theorem dX3_secondPasses_45 : decode cX3_secondPasses 45 = .ok (.iload_n 1, 1) := by decide +kernel
theorem dX3_secondPasses_46 : decode cX3_secondPasses 46 = .ok (.invokevirtual 79, 3) := by decide +kernel
theorem dX3_secondPasses_49 : decode cX3_secondPasses 49 = .ok (.iconst 0, 1) := by decide +kernel
theorem dX3_secondPasses_50 : decode cX3_secondPasses 50 = .ok (.istore_n 2, 1) := by decide +kernel
theorem dX3_secondPasses_51 : decode cX3_secondPasses 51 = .ok (.iload_n 2, 1) := by decide +kernel
theorem dX3_secondPasses_52 : decode cX3_secondPasses 52 = .ok (.bipush 6, 2) := by decide +kernel
theorem dX3_secondPasses_54 : decode cX3_secondPasses 54 = .ok (.if_icmp .ge 68, 3) := by decide +kernel
theorem dX3_secondPasses_57 : decode cX3_secondPasses 57 = .ok (.aload_n 0, 1) := by decide +kernel
theorem dX3_secondPasses_58 : decode cX3_secondPasses 58 = .ok (.iload_n 1, 1) := by decide +kernel
theorem dX3_secondPasses_59 : decode cX3_secondPasses 59 = .ok (.iload_n 2, 1) := by decide +kernel
theorem dX3_secondPasses_60 : decode cX3_secondPasses 60 = .ok (.iconst 0, 1) := by decide +kernel
theorem dX3_secondPasses_61 : decode cX3_secondPasses 61 = .ok (.invokevirtual 36, 3) := by decide +kernel
theorem dX3_secondPasses_64 : decode cX3_secondPasses 64 = .ok (.iconst 2, 1) := by decide +kernel
theorem dX3_secondPasses_65 : decode cX3_secondPasses 65 = .ok (.if_icmp .ne 51, 3) := by decide +kernel
theorem dX3_secondPasses_68 : decode cX3_secondPasses 68 = .ok (.aload_n 0, 1) := by decide +kernel
theorem dX3_secondPasses_69 : decode cX3_secondPasses 69 = .ok (.iload_n 1, 1) := by decide +kernel
theorem dX3_secondPasses_70 : decode cX3_secondPasses 70 = .ok (.iload_n 2, 1) := by decide +kernel
theorem dX3_secondPasses_71 : decode cX3_secondPasses 71 = .ok (.iconst 3, 1) := by decide +kernel
theorem dX3_secondPasses_72 : decode cX3_secondPasses 72 = .ok (.invokevirtual 36, 3) := by decide +kernel
theorem dX3_secondPasses_75 : decode cX3_secondPasses 75 = .ok (.aload_n 0, 1) := by decide +kernel
theorem dX3_secondPasses_76 : decode cX3_secondPasses 76 = .ok (.getfield 7, 3) := by decide +kernel
theorem dX3_secondPasses_79 : decode cX3_secondPasses 79 = .ok (.iload_n 1, 1) := by decide +kernel
theorem dX3_secondPasses_80 : decode cX3_secondPasses 80 = .ok (.iconst 0, 1) := by decide +kernel
theorem dX3_secondPasses_81 : decode cX3_secondPasses 81 = .ok (.iadd, 1) := by decide +kernel
theorem dX3_secondPasses_82 : decode cX3_secondPasses 82 = .ok (.iaload, 1) := by decide +kernel
theorem dX3_secondPasses_83 : decode cX3_secondPasses 83 = .ok (.if_icmp .ne 33, 3) := by decide +kernel
theorem dX3_secondPasses_86 : decode cX3_secondPasses 86 = .ok (.aload_n 0, 1) := by decide +kernel
theorem dX3_secondPasses_87 : decode cX3_secondPasses 87 = .ok (.iload_n 1, 1) := by decide +kernel
theorem dX3_secondPasses_88 : decode cX3_secondPasses 88 = .ok (.iload_n 2, 1) := by decide +kernel
theorem dX3_secondPasses_89 : decode cX3_secondPasses 89 = .ok (.invokevirtual 82, 3) := by decide +kernel
theorem dX3_secondPasses_92 : decode cX3_secondPasses 92 = .ok (.istore_n 3, 1) := by decide +kernel
theorem dX3_secondPasses_93 : decode cX3_secondPasses 93 = .ok (.aload_n 0, 1) := by decide +kernel
theorem dX3_secondPasses_94 : decode cX3_secondPasses 94 = .ok (.iload_n 1, 1) := by decide +kernel
theorem dX3_secondPasses_95 : decode cX3_secondPasses 95 = .ok (.iload_n 2, 1) := by decide +kernel
theorem dX3_secondPasses_96 : decode cX3_secondPasses 96 = .ok (.iconst 0, 1) := by decide +kernel
theorem dX3_secondPasses_97 : decode cX3_secondPasses 97 = .ok (.iconst 0, 1) := by decide +kernel
theorem dX3_secondPasses_98 : decode cX3_secondPasses 98 = .ok (.invokevirtual 72, 3) := by decide +kernel
theorem dX3_secondPasses_101 : decode cX3_secondPasses 101 = .ok (.aload_n 0, 1) := by decide +kernel
theorem dX3_secondPasses_102 : decode cX3_secondPasses 102 = .ok (.iload_n 1, 1) := by decide +kernel
theorem dX3_secondPasses_103 : decode cX3_secondPasses 103 = .ok (.iload_n 2, 1) := by decide +kernel
theorem dX3_secondPasses_104 : decode cX3_secondPasses 104 = .ok (.iload_n 3, 1) := by decide +kernel
theorem dX3_secondPasses_105 : decode cX3_secondPasses 105 = .ok (.ifCond .lt 7, 3) := by decide +kernel
theorem dX3_secondPasses_108 : decode cX3_secondPasses 108 = .ok (.iconst 1, 1) := by decide +kernel
theorem dX3_secondPasses_109 : decode cX3_secondPasses 109 = .ok (.goto 4, 3) := by decide +kernel
theorem dX3_secondPasses_112 : decode cX3_secondPasses 112 = .ok (.iconst 0, 1) := by decide +kernel
theorem dX3_secondPasses_113 : decode cX3_secondPasses 113 = .ok (.invokevirtual 85, 3) := by decide +kernel
theorem dX3_secondPasses_116 : decode cX3_secondPasses 116 = .ok (.iinc 2 1, 3) := by decide +kernel
theorem dX3_secondPasses_119 : decode cX3_secondPasses 119 = .ok (.goto (-68), 3) := by decide +kernel
theorem dX3_secondPasses_122 : decode cX3_secondPasses 122 = .ok (.aload_n 0, 1) := by decide +kernel
theorem dX3_secondPasses_123 : decode cX3_secondPasses 123 = .ok (.iload_n 1, 1) := by decide +kernel
theorem dX3_secondPasses_124 : decode cX3_secondPasses 124 = .ok (.invokevirtual 89, 3) := by decide +kernel
theorem dX3_secondPasses_127 : decode cX3_secondPasses 127 = .ok (.return_, 1) := by decide +kernel
theorem dX3_canStore_0 : decode cX3_canStore 0 = .ok (.aload_n 0, 1) := by decide +kernel
theorem dX3_canStore_1 : decode cX3_canStore 1 = .ok (.iconst 0, 1) := by decide +kernel
theorem dX3_canStore_2 : decode cX3_canStore 2 = .ok (.iload_n 1, 1) := by decide +kernel
theorem dX3_canStore_3 : decode cX3_canStore 3 = .ok (.invokevirtual 28, 3) := by decide +kernel
theorem dX3_canStore_6 : decode cX3_canStore 6 = .ok (.ifCond .ne 17, 3) := by decide +kernel
theorem dX3_canStore_9 : decode cX3_canStore 9 = .ok (.aload_n 0, 1) := by decide +kernel
theorem dX3_canStore_10 : decode cX3_canStore 10 = .ok (.iconst 0, 1) := by decide +kernel
theorem dX3_canStore_11 : decode cX3_canStore 11 = .ok (.iload_n 1, 1) := by decide +kernel
theorem dX3_canStore_12 : decode cX3_canStore 12 = .ok (.invokevirtual 66, 3) := by decide +kernel
theorem dX3_canStore_15 : decode cX3_canStore 15 = .ok (.iconst (-1), 1) := by decide +kernel
theorem dX3_canStore_16 : decode cX3_canStore 16 = .ok (.if_icmp .eq 7, 3) := by decide +kernel
theorem dX3_canStore_19 : decode cX3_canStore 19 = .ok (.iconst 1, 1) := by decide +kernel
theorem dX3_canStore_20 : decode cX3_canStore 20 = .ok (.goto 4, 3) := by decide +kernel
theorem dX3_canStore_23 : decode cX3_canStore 23 = .ok (.iconst 0, 1) := by decide +kernel
theorem dX3_canStore_24 : decode cX3_canStore 24 = .ok (.ireturn, 1) := by decide +kernel
theorem dX3_stores_0 : decode cX3_stores 0 = .ok (.aload_n 0, 1) := by decide +kernel
theorem dX3_stores_1 : decode cX3_stores 1 = .ok (.getfield 7, 3) := by decide +kernel
theorem dX3_stores_4 : decode cX3_stores 4 = .ok (.iconst 1, 1) := by decide +kernel
theorem dX3_stores_5 : decode cX3_stores 5 = .ok (.dup2, 1) := by decide +kernel
theorem dX3_stores_6 : decode cX3_stores 6 = .ok (.iaload, 1) := by decide +kernel
theorem dX3_stores_7 : decode cX3_stores 7 = .ok (.iconst 1, 1) := by decide +kernel
theorem dX3_stores_8 : decode cX3_stores 8 = .ok (.iadd, 1) := by decide +kernel
theorem dX3_stores_9 : decode cX3_stores 9 = .ok (.iastore, 1) := by decide +kernel
theorem dX3_stores_10 : decode cX3_stores 10 = .ok (.aload_n 0, 1) := by decide +kernel
theorem dX3_stores_11 : decode cX3_stores 11 = .ok (.getfield 7, 3) := by decide +kernel
theorem dX3_stores_14 : decode cX3_stores 14 = .ok (.bipush 32, 2) := by decide +kernel
theorem dX3_stores_16 : decode cX3_stores 16 = .ok (.iload_n 1, 1) := by decide +kernel
theorem dX3_stores_17 : decode cX3_stores 17 = .ok (.iadd, 1) := by decide +kernel
theorem dX3_stores_18 : decode cX3_stores 18 = .ok (.aload_n 0, 1) := by decide +kernel
theorem dX3_stores_19 : decode cX3_stores 19 = .ok (.getfield 7, 3) := by decide +kernel
theorem dX3_stores_22 : decode cX3_stores 22 = .ok (.iconst 1, 1) := by decide +kernel
theorem dX3_stores_23 : decode cX3_stores 23 = .ok (.iaload, 1) := by decide +kernel
theorem dX3_stores_24 : decode cX3_stores 24 = .ok (.iastore, 1) := by decide +kernel
theorem dX3_stores_25 : decode cX3_stores 25 = .ok (.aload_n 0, 1) := by decide +kernel
theorem dX3_stores_26 : decode cX3_stores 26 = .ok (.getfield 7, 3) := by decide +kernel
theorem dX3_stores_29 : decode cX3_stores 29 = .ok (.bipush 62, 2) := by decide +kernel
theorem dX3_stores_31 : decode cX3_stores 31 = .ok (.iload_n 1, 1) := by decide +kernel
theorem dX3_stores_32 : decode cX3_stores 32 = .ok (.iadd, 1) := by decide +kernel
theorem dX3_stores_33 : decode cX3_stores 33 = .ok (.iload_n 2, 1) := by decide +kernel
theorem dX3_stores_34 : decode cX3_stores 34 = .ok (.iastore, 1) := by decide +kernel
theorem dX3_stores_35 : decode cX3_stores 35 = .ok (.iconst 0, 1) := by decide +kernel
theorem dX3_stores_36 : decode cX3_stores 36 = .ok (.istore_n 3, 1) := by decide +kernel
theorem dX3_stores_37 : decode cX3_stores 37 = .ok (.iload_n 3, 1) := by decide +kernel
theorem dX3_stores_38 : decode cX3_stores 38 = .ok (.iconst 2, 1) := by decide +kernel
theorem dX3_stores_39 : decode cX3_stores 39 = .ok (.if_icmp .ge 37, 3) := by decide +kernel
theorem dX3_stores_42 : decode cX3_stores 42 = .ok (.aload_n 0, 1) := by decide +kernel
theorem dX3_stores_43 : decode cX3_stores 43 = .ok (.iconst 0, 1) := by decide +kernel
theorem dX3_stores_44 : decode cX3_stores 44 = .ok (.iload_n 1, 1) := by decide +kernel
theorem dX3_stores_45 : decode cX3_stores 45 = .ok (.invokevirtual 66, 3) := by decide +kernel
theorem dX3_stores_48 : decode cX3_stores 48 = .ok (.istore 4, 2) := by decide +kernel
theorem dX3_stores_50 : decode cX3_stores 50 = .ok (.iload 4, 2) := by decide +kernel
theorem dX3_stores_52 : decode cX3_stores 52 = .ok (.iconst (-1), 1) := by decide +kernel
theorem dX3_stores_53 : decode cX3_stores 53 = .ok (.if_icmp .eq 17, 3) := by decide +kernel
theorem dX3_stores_56 : decode cX3_stores 56 = .ok (.aload_n 0, 1) := by decide +kernel
theorem dX3_stores_57 : decode cX3_stores 57 = .ok (.iconst 0, 1) := by decide +kernel
theorem dX3_stores_58 : decode cX3_stores 58 = .ok (.iload 4, 2) := by decide +kernel
theorem dX3_stores_60 : decode cX3_stores 60 = .ok (.iload_n 1, 1) := by decide +kernel
theorem dX3_stores_61 : decode cX3_stores 61 = .ok (.aload_n 0, 1) := by decide +kernel
theorem dX3_stores_62 : decode cX3_stores 62 = .ok (.getfield 7, 3) := by decide +kernel
theorem dX3_stores_65 : decode cX3_stores 65 = .ok (.iconst 1, 1) := by decide +kernel
theorem dX3_stores_66 : decode cX3_stores 66 = .ok (.iaload, 1) := by decide +kernel
theorem dX3_stores_67 : decode cX3_stores 67 = .ok (.invokevirtual 62, 3) := by decide +kernel
theorem dX3_stores_70 : decode cX3_stores 70 = .ok (.iinc 3 1, 3) := by decide +kernel
theorem dX3_stores_73 : decode cX3_stores 73 = .ok (.goto (-36), 3) := by decide +kernel
theorem dX3_stores_76 : decode cX3_stores 76 = .ok (.aload_n 0, 1) := by decide +kernel
theorem dX3_stores_77 : decode cX3_stores 77 = .ok (.iconst 0, 1) := by decide +kernel
theorem dX3_stores_78 : decode cX3_stores 78 = .ok (.iload_n 1, 1) := by decide +kernel
theorem dX3_stores_79 : decode cX3_stores 79 = .ok (.invokevirtual 49, 3) := by decide +kernel
theorem dX3_stores_82 : decode cX3_stores 82 = .ok (.invokestatic 52, 3) := by decide +kernel
theorem dX3_stores_85 : decode cX3_stores 85 = .ok (.istore_n 3, 1) := by decide +kernel
theorem dX3_stores_86 : decode cX3_stores 86 = .ok (.aload_n 0, 1) := by decide +kernel
theorem dX3_stores_87 : decode cX3_stores 87 = .ok (.iconst 0, 1) := by decide +kernel
theorem dX3_stores_88 : decode cX3_stores 88 = .ok (.invokevirtual 89, 3) := by decide +kernel
theorem dX3_stores_91 : decode cX3_stores 91 = .ok (.iload_n 3, 1) := by decide +kernel
theorem dX3_stores_92 : decode cX3_stores 92 = .ok (.ireturn, 1) := by decide +kernel
theorem dX3_canWrite_0 : decode cX3_canWrite 0 = .ok (.aload_n 0, 1) := by decide +kernel
theorem dX3_canWrite_1 : decode cX3_canWrite 1 = .ok (.iconst 0, 1) := by decide +kernel
theorem dX3_canWrite_2 : decode cX3_canWrite 2 = .ok (.iload_n 1, 1) := by decide +kernel
theorem dX3_canWrite_3 : decode cX3_canWrite 3 = .ok (.invokevirtual 28, 3) := by decide +kernel
theorem dX3_canWrite_6 : decode cX3_canWrite 6 = .ok (.ifCond .eq 16, 3) := by decide +kernel
theorem dX3_canWrite_9 : decode cX3_canWrite 9 = .ok (.aload_n 0, 1) := by decide +kernel
theorem dX3_canWrite_10 : decode cX3_canWrite 10 = .ok (.iconst 0, 1) := by decide +kernel
theorem dX3_canWrite_11 : decode cX3_canWrite 11 = .ok (.iload_n 1, 1) := by decide +kernel
theorem dX3_canWrite_12 : decode cX3_canWrite 12 = .ok (.invokevirtual 49, 3) := by decide +kernel
theorem dX3_canWrite_15 : decode cX3_canWrite 15 = .ok (.ifCond .eq 7, 3) := by decide +kernel
theorem dX3_canWrite_18 : decode cX3_canWrite 18 = .ok (.iconst 1, 1) := by decide +kernel
theorem dX3_canWrite_19 : decode cX3_canWrite 19 = .ok (.goto 4, 3) := by decide +kernel
theorem dX3_canWrite_22 : decode cX3_canWrite 22 = .ok (.iconst 0, 1) := by decide +kernel
theorem dX3_canWrite_23 : decode cX3_canWrite 23 = .ok (.ireturn, 1) := by decide +kernel
theorem dX3_writes_0 : decode cX3_writes 0 = .ok (.aload_n 0, 1) := by decide +kernel
theorem dX3_writes_1 : decode cX3_writes 1 = .ok (.getfield 7, 3) := by decide +kernel
theorem dX3_writes_4 : decode cX3_writes 4 = .ok (.iconst 1, 1) := by decide +kernel
theorem dX3_writes_5 : decode cX3_writes 5 = .ok (.dup2, 1) := by decide +kernel
theorem dX3_writes_6 : decode cX3_writes 6 = .ok (.iaload, 1) := by decide +kernel
theorem dX3_writes_7 : decode cX3_writes 7 = .ok (.iconst 1, 1) := by decide +kernel
theorem dX3_writes_8 : decode cX3_writes 8 = .ok (.iadd, 1) := by decide +kernel
theorem dX3_writes_9 : decode cX3_writes 9 = .ok (.iastore, 1) := by decide +kernel
theorem dX3_writes_10 : decode cX3_writes 10 = .ok (.aload_n 0, 1) := by decide +kernel
theorem dX3_writes_11 : decode cX3_writes 11 = .ok (.getfield 7, 3) := by decide +kernel
theorem dX3_writes_14 : decode cX3_writes 14 = .ok (.bipush 32, 2) := by decide +kernel
theorem dX3_writes_16 : decode cX3_writes 16 = .ok (.iload_n 1, 1) := by decide +kernel
theorem dX3_writes_17 : decode cX3_writes 17 = .ok (.iadd, 1) := by decide +kernel
theorem dX3_writes_18 : decode cX3_writes 18 = .ok (.aload_n 0, 1) := by decide +kernel
theorem dX3_writes_19 : decode cX3_writes 19 = .ok (.getfield 7, 3) := by decide +kernel
theorem dX3_writes_22 : decode cX3_writes 22 = .ok (.iconst 1, 1) := by decide +kernel
theorem dX3_writes_23 : decode cX3_writes 23 = .ok (.iaload, 1) := by decide +kernel
theorem dX3_writes_24 : decode cX3_writes 24 = .ok (.iastore, 1) := by decide +kernel
theorem dX3_writes_25 : decode cX3_writes 25 = .ok (.aload_n 0, 1) := by decide +kernel
theorem dX3_writes_26 : decode cX3_writes 26 = .ok (.getfield 7, 3) := by decide +kernel
theorem dX3_writes_29 : decode cX3_writes 29 = .ok (.bipush 62, 2) := by decide +kernel
theorem dX3_writes_31 : decode cX3_writes 31 = .ok (.iload_n 1, 1) := by decide +kernel
theorem dX3_writes_32 : decode cX3_writes 32 = .ok (.iadd, 1) := by decide +kernel
theorem dX3_writes_33 : decode cX3_writes 33 = .ok (.iload_n 2, 1) := by decide +kernel
theorem dX3_writes_34 : decode cX3_writes 34 = .ok (.iastore, 1) := by decide +kernel
theorem dX3_writes_35 : decode cX3_writes 35 = .ok (.aload_n 0, 1) := by decide +kernel
theorem dX3_writes_36 : decode cX3_writes 36 = .ok (.iconst 0, 1) := by decide +kernel
theorem dX3_writes_37 : decode cX3_writes 37 = .ok (.iload_n 1, 1) := by decide +kernel
theorem dX3_writes_38 : decode cX3_writes 38 = .ok (.invokevirtual 49, 3) := by decide +kernel
theorem dX3_writes_41 : decode cX3_writes 41 = .ok (.istore_n 3, 1) := by decide +kernel
theorem dX3_writes_42 : decode cX3_writes 42 = .ok (.iconst 0, 1) := by decide +kernel
theorem dX3_writes_43 : decode cX3_writes 43 = .ok (.istore 4, 2) := by decide +kernel
theorem dX3_writes_45 : decode cX3_writes 45 = .ok (.iload 4, 2) := by decide +kernel
theorem dX3_writes_47 : decode cX3_writes 47 = .ok (.bipush 6, 2) := by decide +kernel
theorem dX3_writes_49 : decode cX3_writes 49 = .ok (.if_icmp .ge 44, 3) := by decide +kernel
theorem dX3_writes_52 : decode cX3_writes 52 = .ok (.aload_n 0, 1) := by decide +kernel
theorem dX3_writes_53 : decode cX3_writes 53 = .ok (.iconst 0, 1) := by decide +kernel
theorem dX3_writes_54 : decode cX3_writes 54 = .ok (.iload 4, 2) := by decide +kernel
theorem dX3_writes_56 : decode cX3_writes 56 = .ok (.iload_n 1, 1) := by decide +kernel
theorem dX3_writes_57 : decode cX3_writes 57 = .ok (.iload_n 3, 1) := by decide +kernel
theorem dX3_writes_58 : decode cX3_writes 58 = .ok (.iload 4, 2) := by decide +kernel
theorem dX3_writes_60 : decode cX3_writes 60 = .ok (.ishr, 1) := by decide +kernel
theorem dX3_writes_61 : decode cX3_writes 61 = .ok (.iconst 1, 1) := by decide +kernel
theorem dX3_writes_62 : decode cX3_writes 62 = .ok (.iand, 1) := by decide +kernel
theorem dX3_writes_63 : decode cX3_writes 63 = .ok (.iconst 1, 1) := by decide +kernel
theorem dX3_writes_64 : decode cX3_writes 64 = .ok (.if_icmp .ne 12, 3) := by decide +kernel
theorem dX3_writes_67 : decode cX3_writes 67 = .ok (.aload_n 0, 1) := by decide +kernel
theorem dX3_writes_68 : decode cX3_writes 68 = .ok (.getfield 7, 3) := by decide +kernel
theorem dX3_writes_71 : decode cX3_writes 71 = .ok (.iconst 1, 1) := by decide +kernel
theorem dX3_writes_72 : decode cX3_writes 72 = .ok (.iaload, 1) := by decide +kernel
theorem dX3_writes_73 : decode cX3_writes 73 = .ok (.goto 11, 3) := by decide +kernel
theorem dX3_writes_76 : decode cX3_writes 76 = .ok (.aload_n 0, 1) := by decide +kernel
theorem dX3_writes_77 : decode cX3_writes 77 = .ok (.iconst 0, 1) := by decide +kernel
theorem dX3_writes_78 : decode cX3_writes 78 = .ok (.iload 4, 2) := by decide +kernel
theorem dX3_writes_80 : decode cX3_writes 80 = .ok (.iload_n 1, 1) := by decide +kernel
theorem dX3_writes_81 : decode cX3_writes 81 = .ok (.invokevirtual 32, 3) := by decide +kernel
theorem dX3_writes_84 : decode cX3_writes 84 = .ok (.invokevirtual 62, 3) := by decide +kernel
theorem dX3_writes_87 : decode cX3_writes 87 = .ok (.iinc 4 1, 3) := by decide +kernel
theorem dX3_writes_90 : decode cX3_writes 90 = .ok (.goto (-45), 3) := by decide +kernel
theorem dX3_writes_93 : decode cX3_writes 93 = .ok (.aload_n 0, 1) := by decide +kernel
theorem dX3_writes_94 : decode cX3_writes 94 = .ok (.iconst 0, 1) := by decide +kernel
theorem dX3_writes_95 : decode cX3_writes 95 = .ok (.invokevirtual 89, 3) := by decide +kernel
theorem dX3_writes_98 : decode cX3_writes 98 = .ok (.iload_n 3, 1) := by decide +kernel
theorem dX3_writes_99 : decode cX3_writes 99 = .ok (.invokestatic 52, 3) := by decide +kernel
theorem dX3_writes_102 : decode cX3_writes 102 = .ok (.ireturn, 1) := by decide +kernel
theorem dX3_removes_0 : decode cX3_removes 0 = .ok (.aload_n 0, 1) := by decide +kernel
theorem dX3_removes_1 : decode cX3_removes 1 = .ok (.iconst 0, 1) := by decide +kernel
theorem dX3_removes_2 : decode cX3_removes 2 = .ok (.iload_n 1, 1) := by decide +kernel
theorem dX3_removes_3 : decode cX3_removes 3 = .ok (.invokevirtual 49, 3) := by decide +kernel
theorem dX3_removes_6 : decode cX3_removes 6 = .ok (.istore_n 2, 1) := by decide +kernel
theorem dX3_removes_7 : decode cX3_removes 7 = .ok (.iconst 0, 1) := by decide +kernel
theorem dX3_removes_8 : decode cX3_removes 8 = .ok (.istore_n 3, 1) := by decide +kernel
theorem dX3_removes_9 : decode cX3_removes 9 = .ok (.iload_n 3, 1) := by decide +kernel
theorem dX3_removes_10 : decode cX3_removes 10 = .ok (.bipush 6, 2) := by decide +kernel
theorem dX3_removes_12 : decode cX3_removes 12 = .ok (.if_icmp .ge 36, 3) := by decide +kernel
theorem dX3_removes_15 : decode cX3_removes 15 = .ok (.aload_n 0, 1) := by decide +kernel
theorem dX3_removes_16 : decode cX3_removes 16 = .ok (.iconst 0, 1) := by decide +kernel
theorem dX3_removes_17 : decode cX3_removes 17 = .ok (.iload_n 3, 1) := by decide +kernel
theorem dX3_removes_18 : decode cX3_removes 18 = .ok (.iload_n 1, 1) := by decide +kernel
theorem dX3_removes_19 : decode cX3_removes 19 = .ok (.iload_n 2, 1) := by decide +kernel
theorem dX3_removes_20 : decode cX3_removes 20 = .ok (.iload_n 3, 1) := by decide +kernel
theorem dX3_removes_21 : decode cX3_removes 21 = .ok (.ishr, 1) := by decide +kernel
theorem dX3_removes_22 : decode cX3_removes 22 = .ok (.iconst 1, 1) := by decide +kernel
theorem dX3_removes_23 : decode cX3_removes 23 = .ok (.iand, 1) := by decide +kernel
theorem dX3_removes_24 : decode cX3_removes 24 = .ok (.iconst 1, 1) := by decide +kernel
theorem dX3_removes_25 : decode cX3_removes 25 = .ok (.if_icmp .ne 7, 3) := by decide +kernel
theorem dX3_removes_28 : decode cX3_removes 28 = .ok (.iconst 0, 1) := by decide +kernel
theorem dX3_removes_29 : decode cX3_removes 29 = .ok (.goto 10, 3) := by decide +kernel
theorem dX3_removes_32 : decode cX3_removes 32 = .ok (.aload_n 0, 1) := by decide +kernel
theorem dX3_removes_33 : decode cX3_removes 33 = .ok (.iconst 0, 1) := by decide +kernel
theorem dX3_removes_34 : decode cX3_removes 34 = .ok (.iload_n 3, 1) := by decide +kernel
theorem dX3_removes_35 : decode cX3_removes 35 = .ok (.iload_n 1, 1) := by decide +kernel
theorem dX3_removes_36 : decode cX3_removes 36 = .ok (.invokevirtual 32, 3) := by decide +kernel
theorem dX3_removes_39 : decode cX3_removes 39 = .ok (.invokevirtual 62, 3) := by decide +kernel
theorem dX3_removes_42 : decode cX3_removes 42 = .ok (.iinc 3 1, 3) := by decide +kernel
theorem dX3_removes_45 : decode cX3_removes 45 = .ok (.goto (-36), 3) := by decide +kernel
theorem dX3_removes_48 : decode cX3_removes 48 = .ok (.aload_n 0, 1) := by decide +kernel
theorem dX3_removes_49 : decode cX3_removes 49 = .ok (.getfield 7, 3) := by decide +kernel
theorem dX3_removes_52 : decode cX3_removes 52 = .ok (.bipush 32, 2) := by decide +kernel
theorem dX3_removes_54 : decode cX3_removes 54 = .ok (.iload_n 1, 1) := by decide +kernel
theorem dX3_removes_55 : decode cX3_removes 55 = .ok (.iadd, 1) := by decide +kernel
theorem dX3_removes_56 : decode cX3_removes 56 = .ok (.iconst 0, 1) := by decide +kernel
theorem dX3_removes_57 : decode cX3_removes 57 = .ok (.iastore, 1) := by decide +kernel
theorem dX3_removes_58 : decode cX3_removes 58 = .ok (.aload_n 0, 1) := by decide +kernel
theorem dX3_removes_59 : decode cX3_removes 59 = .ok (.getfield 7, 3) := by decide +kernel
theorem dX3_removes_62 : decode cX3_removes 62 = .ok (.iconst 4, 1) := by decide +kernel
theorem dX3_removes_63 : decode cX3_removes 63 = .ok (.aload_n 0, 1) := by decide +kernel
theorem dX3_removes_64 : decode cX3_removes 64 = .ok (.getfield 7, 3) := by decide +kernel
theorem dX3_removes_67 : decode cX3_removes 67 = .ok (.iconst 4, 1) := by decide +kernel
theorem dX3_removes_68 : decode cX3_removes 68 = .ok (.iaload, 1) := by decide +kernel
theorem dX3_removes_69 : decode cX3_removes 69 = .ok (.iload_n 1, 1) := by decide +kernel
theorem dX3_removes_70 : decode cX3_removes 70 = .ok (.if_icmp .ne 7, 3) := by decide +kernel
theorem dX3_removes_73 : decode cX3_removes 73 = .ok (.iconst (-1), 1) := by decide +kernel
theorem dX3_removes_74 : decode cX3_removes 74 = .ok (.goto 9, 3) := by decide +kernel
theorem dX3_removes_77 : decode cX3_removes 77 = .ok (.aload_n 0, 1) := by decide +kernel
theorem dX3_removes_78 : decode cX3_removes 78 = .ok (.getfield 7, 3) := by decide +kernel
theorem dX3_removes_81 : decode cX3_removes 81 = .ok (.iconst 4, 1) := by decide +kernel
theorem dX3_removes_82 : decode cX3_removes 82 = .ok (.iaload, 1) := by decide +kernel
theorem dX3_removes_83 : decode cX3_removes 83 = .ok (.iastore, 1) := by decide +kernel
theorem dX3_removes_84 : decode cX3_removes 84 = .ok (.aload_n 0, 1) := by decide +kernel
theorem dX3_removes_85 : decode cX3_removes 85 = .ok (.iconst 0, 1) := by decide +kernel
theorem dX3_removes_86 : decode cX3_removes 86 = .ok (.invokevirtual 89, 3) := by decide +kernel
theorem dX3_removes_89 : decode cX3_removes 89 = .ok (.iload_n 2, 1) := by decide +kernel
theorem dX3_removes_90 : decode cX3_removes 90 = .ok (.invokestatic 52, 3) := by decide +kernel
theorem dX3_removes_93 : decode cX3_removes 93 = .ok (.ireturn, 1) := by decide +kernel
theorem dX3_canLend_0 : decode cX3_canLend 0 = .ok (.aload_n 0, 1) := by decide +kernel
theorem dX3_canLend_1 : decode cX3_canLend 1 = .ok (.iconst 0, 1) := by decide +kernel
theorem dX3_canLend_2 : decode cX3_canLend 2 = .ok (.iload_n 1, 1) := by decide +kernel
theorem dX3_canLend_3 : decode cX3_canLend 3 = .ok (.iconst 0, 1) := by decide +kernel
theorem dX3_canLend_4 : decode cX3_canLend 4 = .ok (.invokevirtual 36, 3) := by decide +kernel
theorem dX3_canLend_7 : decode cX3_canLend 7 = .ok (.ifCond .ne 18, 3) := by decide +kernel
theorem dX3_canLend_10 : decode cX3_canLend 10 = .ok (.aload_n 0, 1) := by decide +kernel
theorem dX3_canLend_11 : decode cX3_canLend 11 = .ok (.iconst 0, 1) := by decide +kernel
theorem dX3_canLend_12 : decode cX3_canLend 12 = .ok (.iload_n 1, 1) := by decide +kernel
theorem dX3_canLend_13 : decode cX3_canLend 13 = .ok (.iconst 1, 1) := by decide +kernel
theorem dX3_canLend_14 : decode cX3_canLend 14 = .ok (.invokevirtual 36, 3) := by decide +kernel
theorem dX3_canLend_17 : decode cX3_canLend 17 = .ok (.iconst 1, 1) := by decide +kernel
theorem dX3_canLend_18 : decode cX3_canLend 18 = .ok (.if_icmp .ne 7, 3) := by decide +kernel
theorem dX3_canLend_21 : decode cX3_canLend 21 = .ok (.iconst 1, 1) := by decide +kernel
theorem dX3_canLend_22 : decode cX3_canLend 22 = .ok (.goto 4, 3) := by decide +kernel
theorem dX3_canLend_25 : decode cX3_canLend 25 = .ok (.iconst 0, 1) := by decide +kernel
theorem dX3_canLend_26 : decode cX3_canLend 26 = .ok (.ireturn, 1) := by decide +kernel
theorem dX3_lends_0 : decode cX3_lends 0 = .ok (.aload_n 0, 1) := by decide +kernel
theorem dX3_lends_1 : decode cX3_lends 1 = .ok (.iconst 0, 1) := by decide +kernel
theorem dX3_lends_2 : decode cX3_lends 2 = .ok (.iload_n 1, 1) := by decide +kernel
theorem dX3_lends_3 : decode cX3_lends 3 = .ok (.iconst 0, 1) := by decide +kernel
theorem dX3_lends_4 : decode cX3_lends 4 = .ok (.iconst 1, 1) := by decide +kernel
theorem dX3_lends_5 : decode cX3_lends 5 = .ok (.invokevirtual 72, 3) := by decide +kernel
theorem dX3_lends_8 : decode cX3_lends 8 = .ok (.aload_n 0, 1) := by decide +kernel
theorem dX3_lends_9 : decode cX3_lends 9 = .ok (.iconst 0, 1) := by decide +kernel
theorem dX3_lends_10 : decode cX3_lends 10 = .ok (.iload_n 1, 1) := by decide +kernel
theorem dX3_lends_11 : decode cX3_lends 11 = .ok (.iconst 2, 1) := by decide +kernel
theorem dX3_lends_12 : decode cX3_lends 12 = .ok (.iload_n 2, 1) := by decide +kernel
theorem dX3_lends_13 : decode cX3_lends 13 = .ok (.invokevirtual 72, 3) := by decide +kernel
theorem dX3_lends_16 : decode cX3_lends 16 = .ok (.iconst 0, 1) := by decide +kernel
theorem dX3_lends_17 : decode cX3_lends 17 = .ok (.istore_n 3, 1) := by decide +kernel
theorem dX3_lends_18 : decode cX3_lends 18 = .ok (.iconst 0, 1) := by decide +kernel
theorem dX3_lends_19 : decode cX3_lends 19 = .ok (.istore 4, 2) := by decide +kernel
theorem dX3_lends_21 : decode cX3_lends 21 = .ok (.iload 4, 2) := by decide +kernel
theorem dX3_lends_23 : decode cX3_lends 23 = .ok (.bipush 6, 2) := by decide +kernel
theorem dX3_lends_25 : decode cX3_lends 25 = .ok (.if_icmp .ge 19, 3) := by decide +kernel
theorem dX3_lends_28 : decode cX3_lends 28 = .ok (.iload_n 3, 1) := by decide +kernel
theorem dX3_lends_29 : decode cX3_lends 29 = .ok (.aload_n 0, 1) := by decide +kernel
theorem dX3_lends_30 : decode cX3_lends 30 = .ok (.iconst 0, 1) := by decide +kernel
theorem dX3_lends_31 : decode cX3_lends 31 = .ok (.iload 4, 2) := by decide +kernel
theorem dX3_lends_33 : decode cX3_lends 33 = .ok (.invokevirtual 46, 3) := by decide +kernel
theorem dX3_lends_36 : decode cX3_lends 36 = .ok (.iadd, 1) := by decide +kernel
theorem dX3_lends_37 : decode cX3_lends 37 = .ok (.istore_n 3, 1) := by decide +kernel
theorem dX3_lends_38 : decode cX3_lends 38 = .ok (.iinc 4 1, 3) := by decide +kernel
theorem dX3_lends_41 : decode cX3_lends 41 = .ok (.goto (-20), 3) := by decide +kernel
theorem dX3_lends_44 : decode cX3_lends 44 = .ok (.aload_n 0, 1) := by decide +kernel
theorem dX3_lends_45 : decode cX3_lends 45 = .ok (.iconst 0, 1) := by decide +kernel
theorem dX3_lends_46 : decode cX3_lends 46 = .ok (.invokevirtual 89, 3) := by decide +kernel
theorem dX3_lends_49 : decode cX3_lends 49 = .ok (.iload_n 3, 1) := by decide +kernel
theorem dX3_lends_50 : decode cX3_lends 50 = .ok (.ireturn, 1) := by decide +kernel
theorem dX3_canRecall_0 : decode cX3_canRecall 0 = .ok (.aload_n 0, 1) := by decide +kernel
theorem dX3_canRecall_1 : decode cX3_canRecall 1 = .ok (.iconst 0, 1) := by decide +kernel
theorem dX3_canRecall_2 : decode cX3_canRecall 2 = .ok (.iload_n 1, 1) := by decide +kernel
theorem dX3_canRecall_3 : decode cX3_canRecall 3 = .ok (.iconst 0, 1) := by decide +kernel
theorem dX3_canRecall_4 : decode cX3_canRecall 4 = .ok (.invokevirtual 36, 3) := by decide +kernel
theorem dX3_canRecall_7 : decode cX3_canRecall 7 = .ok (.iconst 1, 1) := by decide +kernel
theorem dX3_canRecall_8 : decode cX3_canRecall 8 = .ok (.if_icmp .ne 18, 3) := by decide +kernel
theorem dX3_canRecall_11 : decode cX3_canRecall 11 = .ok (.aload_n 0, 1) := by decide +kernel
theorem dX3_canRecall_12 : decode cX3_canRecall 12 = .ok (.iconst 0, 1) := by decide +kernel
theorem dX3_canRecall_13 : decode cX3_canRecall 13 = .ok (.iload_n 1, 1) := by decide +kernel
theorem dX3_canRecall_14 : decode cX3_canRecall 14 = .ok (.iconst 1, 1) := by decide +kernel
theorem dX3_canRecall_15 : decode cX3_canRecall 15 = .ok (.invokevirtual 36, 3) := by decide +kernel
theorem dX3_canRecall_18 : decode cX3_canRecall 18 = .ok (.iconst 1, 1) := by decide +kernel
theorem dX3_canRecall_19 : decode cX3_canRecall 19 = .ok (.if_icmp .ne 7, 3) := by decide +kernel
theorem dX3_canRecall_22 : decode cX3_canRecall 22 = .ok (.iconst 1, 1) := by decide +kernel
theorem dX3_canRecall_23 : decode cX3_canRecall 23 = .ok (.goto 4, 3) := by decide +kernel
theorem dX3_canRecall_26 : decode cX3_canRecall 26 = .ok (.iconst 0, 1) := by decide +kernel
theorem dX3_canRecall_27 : decode cX3_canRecall 27 = .ok (.ireturn, 1) := by decide +kernel
theorem dX3_recalls_0 : decode cX3_recalls 0 = .ok (.aload_n 0, 1) := by decide +kernel
theorem dX3_recalls_1 : decode cX3_recalls 1 = .ok (.iconst 0, 1) := by decide +kernel
theorem dX3_recalls_2 : decode cX3_recalls 2 = .ok (.iload_n 1, 1) := by decide +kernel
theorem dX3_recalls_3 : decode cX3_recalls 3 = .ok (.iconst 0, 1) := by decide +kernel
theorem dX3_recalls_4 : decode cX3_recalls 4 = .ok (.iconst 2, 1) := by decide +kernel
theorem dX3_recalls_5 : decode cX3_recalls 5 = .ok (.invokevirtual 72, 3) := by decide +kernel
theorem dX3_recalls_8 : decode cX3_recalls 8 = .ok (.aload_n 0, 1) := by decide +kernel
theorem dX3_recalls_9 : decode cX3_recalls 9 = .ok (.iconst 0, 1) := by decide +kernel
theorem dX3_recalls_10 : decode cX3_recalls 10 = .ok (.iload_n 1, 1) := by decide +kernel
theorem dX3_recalls_11 : decode cX3_recalls 11 = .ok (.iconst 3, 1) := by decide +kernel
theorem dX3_recalls_12 : decode cX3_recalls 12 = .ok (.aload_n 0, 1) := by decide +kernel
theorem dX3_recalls_13 : decode cX3_recalls 13 = .ok (.getfield 7, 3) := by decide +kernel
theorem dX3_recalls_16 : decode cX3_recalls 16 = .ok (.iconst 0, 1) := by decide +kernel
theorem dX3_recalls_17 : decode cX3_recalls 17 = .ok (.iaload, 1) := by decide +kernel
theorem dX3_recalls_18 : decode cX3_recalls 18 = .ok (.iload_n 2, 1) := by decide +kernel
theorem dX3_recalls_19 : decode cX3_recalls 19 = .ok (.iadd, 1) := by decide +kernel
theorem dX3_recalls_20 : decode cX3_recalls 20 = .ok (.invokevirtual 72, 3) := by decide +kernel
theorem dX3_recalls_23 : decode cX3_recalls 23 = .ok (.aload_n 0, 1) := by decide +kernel
theorem dX3_recalls_24 : decode cX3_recalls 24 = .ok (.iconst 0, 1) := by decide +kernel
theorem dX3_recalls_25 : decode cX3_recalls 25 = .ok (.iload_n 1, 1) := by decide +kernel
theorem dX3_recalls_26 : decode cX3_recalls 26 = .ok (.iconst 0, 1) := by decide +kernel
theorem dX3_recalls_27 : decode cX3_recalls 27 = .ok (.invokevirtual 85, 3) := by decide +kernel
theorem dX3_recalls_30 : decode cX3_recalls 30 = .ok (.aload_n 0, 1) := by decide +kernel
theorem dX3_recalls_31 : decode cX3_recalls 31 = .ok (.iconst 0, 1) := by decide +kernel
theorem dX3_recalls_32 : decode cX3_recalls 32 = .ok (.iload_n 1, 1) := by decide +kernel
theorem dX3_recalls_33 : decode cX3_recalls 33 = .ok (.invokevirtual 39, 3) := by decide +kernel
theorem dX3_recalls_36 : decode cX3_recalls 36 = .ok (.istore_n 3, 1) := by decide +kernel
theorem dX3_recalls_37 : decode cX3_recalls 37 = .ok (.aload_n 0, 1) := by decide +kernel
theorem dX3_recalls_38 : decode cX3_recalls 38 = .ok (.iconst 0, 1) := by decide +kernel
theorem dX3_recalls_39 : decode cX3_recalls 39 = .ok (.invokevirtual 89, 3) := by decide +kernel
theorem dX3_recalls_42 : decode cX3_recalls 42 = .ok (.iload_n 3, 1) := by decide +kernel
theorem dX3_recalls_43 : decode cX3_recalls 43 = .ok (.ireturn, 1) := by decide +kernel
theorem dX3_canDisconnect_0 : decode cX3_canDisconnect 0 = .ok (.aload_n 0, 1) := by decide +kernel
theorem dX3_canDisconnect_1 : decode cX3_canDisconnect 1 = .ok (.iconst 0, 1) := by decide +kernel
theorem dX3_canDisconnect_2 : decode cX3_canDisconnect 2 = .ok (.iload_n 1, 1) := by decide +kernel
theorem dX3_canDisconnect_3 : decode cX3_canDisconnect 3 = .ok (.iconst 0, 1) := by decide +kernel
theorem dX3_canDisconnect_4 : decode cX3_canDisconnect 4 = .ok (.invokevirtual 36, 3) := by decide +kernel
theorem dX3_canDisconnect_7 : decode cX3_canDisconnect 7 = .ok (.ifCond .eq 18, 3) := by decide +kernel
theorem dX3_canDisconnect_10 : decode cX3_canDisconnect 10 = .ok (.aload_n 0, 1) := by decide +kernel
theorem dX3_canDisconnect_11 : decode cX3_canDisconnect 11 = .ok (.iconst 0, 1) := by decide +kernel
theorem dX3_canDisconnect_12 : decode cX3_canDisconnect 12 = .ok (.iload_n 1, 1) := by decide +kernel
theorem dX3_canDisconnect_13 : decode cX3_canDisconnect 13 = .ok (.iconst 1, 1) := by decide +kernel
theorem dX3_canDisconnect_14 : decode cX3_canDisconnect 14 = .ok (.invokevirtual 36, 3) := by decide +kernel
theorem dX3_canDisconnect_17 : decode cX3_canDisconnect 17 = .ok (.iconst 1, 1) := by decide +kernel
theorem dX3_canDisconnect_18 : decode cX3_canDisconnect 18 = .ok (.if_icmp .ne 7, 3) := by decide +kernel
theorem dX3_canDisconnect_21 : decode cX3_canDisconnect 21 = .ok (.iconst 1, 1) := by decide +kernel
theorem dX3_canDisconnect_22 : decode cX3_canDisconnect 22 = .ok (.goto 4, 3) := by decide +kernel
theorem dX3_canDisconnect_25 : decode cX3_canDisconnect 25 = .ok (.iconst 0, 1) := by decide +kernel
theorem dX3_canDisconnect_26 : decode cX3_canDisconnect 26 = .ok (.ireturn, 1) := by decide +kernel
theorem dX3_disconnects_0 : decode cX3_disconnects 0 = .ok (.aload_n 0, 1) := by decide +kernel
theorem dX3_disconnects_1 : decode cX3_disconnects 1 = .ok (.iconst 0, 1) := by decide +kernel
theorem dX3_disconnects_2 : decode cX3_disconnects 2 = .ok (.iload_n 1, 1) := by decide +kernel
theorem dX3_disconnects_3 : decode cX3_disconnects 3 = .ok (.iconst 1, 1) := by decide +kernel
theorem dX3_disconnects_4 : decode cX3_disconnects 4 = .ok (.iconst 0, 1) := by decide +kernel
theorem dX3_disconnects_5 : decode cX3_disconnects 5 = .ok (.invokevirtual 72, 3) := by decide +kernel
theorem dX3_disconnects_8 : decode cX3_disconnects 8 = .ok (.aload_n 0, 1) := by decide +kernel
theorem dX3_disconnects_9 : decode cX3_disconnects 9 = .ok (.iconst 0, 1) := by decide +kernel
theorem dX3_disconnects_10 : decode cX3_disconnects 10 = .ok (.iload_n 1, 1) := by decide +kernel
theorem dX3_disconnects_11 : decode cX3_disconnects 11 = .ok (.iconst 1, 1) := by decide +kernel
theorem dX3_disconnects_12 : decode cX3_disconnects 12 = .ok (.invokevirtual 85, 3) := by decide +kernel
theorem dX3_disconnects_15 : decode cX3_disconnects 15 = .ok (.aload_n 0, 1) := by decide +kernel
theorem dX3_disconnects_16 : decode cX3_disconnects 16 = .ok (.iconst 0, 1) := by decide +kernel
theorem dX3_disconnects_17 : decode cX3_disconnects 17 = .ok (.iload_n 1, 1) := by decide +kernel
theorem dX3_disconnects_18 : decode cX3_disconnects 18 = .ok (.invokevirtual 39, 3) := by decide +kernel
theorem dX3_disconnects_21 : decode cX3_disconnects 21 = .ok (.istore_n 2, 1) := by decide +kernel
theorem dX3_disconnects_22 : decode cX3_disconnects 22 = .ok (.aload_n 0, 1) := by decide +kernel
theorem dX3_disconnects_23 : decode cX3_disconnects 23 = .ok (.iconst 0, 1) := by decide +kernel
theorem dX3_disconnects_24 : decode cX3_disconnects 24 = .ok (.invokevirtual 89, 3) := by decide +kernel
theorem dX3_disconnects_27 : decode cX3_disconnects 27 = .ok (.iload_n 2, 1) := by decide +kernel
theorem dX3_disconnects_28 : decode cX3_disconnects 28 = .ok (.ireturn, 1) := by decide +kernel
theorem dX3_reconnects_0 : decode cX3_reconnects 0 = .ok (.aload_n 0, 1) := by decide +kernel
theorem dX3_reconnects_1 : decode cX3_reconnects 1 = .ok (.iconst 0, 1) := by decide +kernel
theorem dX3_reconnects_2 : decode cX3_reconnects 2 = .ok (.iload_n 1, 1) := by decide +kernel
theorem dX3_reconnects_3 : decode cX3_reconnects 3 = .ok (.iconst 1, 1) := by decide +kernel
theorem dX3_reconnects_4 : decode cX3_reconnects 4 = .ok (.iconst 1, 1) := by decide +kernel
theorem dX3_reconnects_5 : decode cX3_reconnects 5 = .ok (.invokevirtual 72, 3) := by decide +kernel
theorem dX3_reconnects_8 : decode cX3_reconnects 8 = .ok (.iconst 0, 1) := by decide +kernel
theorem dX3_reconnects_9 : decode cX3_reconnects 9 = .ok (.istore_n 2, 1) := by decide +kernel
theorem dX3_reconnects_10 : decode cX3_reconnects 10 = .ok (.iconst 0, 1) := by decide +kernel
theorem dX3_reconnects_11 : decode cX3_reconnects 11 = .ok (.istore_n 3, 1) := by decide +kernel
theorem dX3_reconnects_12 : decode cX3_reconnects 12 = .ok (.iload_n 3, 1) := by decide +kernel
theorem dX3_reconnects_13 : decode cX3_reconnects 13 = .ok (.bipush 30, 2) := by decide +kernel
theorem dX3_reconnects_15 : decode cX3_reconnects 15 = .ok (.if_icmp .ge 96, 3) := by decide +kernel
theorem dX3_reconnects_18 : decode cX3_reconnects 18 = .ok (.aload_n 0, 1) := by decide +kernel
theorem dX3_reconnects_19 : decode cX3_reconnects 19 = .ok (.iconst 0, 1) := by decide +kernel
theorem dX3_reconnects_20 : decode cX3_reconnects 20 = .ok (.iload_n 3, 1) := by decide +kernel
theorem dX3_reconnects_21 : decode cX3_reconnects 21 = .ok (.invokevirtual 49, 3) := by decide +kernel
theorem dX3_reconnects_24 : decode cX3_reconnects 24 = .ok (.bipush 63, 2) := by decide +kernel
theorem dX3_reconnects_26 : decode cX3_reconnects 26 = .ok (.iconst 1, 1) := by decide +kernel
theorem dX3_reconnects_27 : decode cX3_reconnects 27 = .ok (.iload_n 1, 1) := by decide +kernel
theorem dX3_reconnects_28 : decode cX3_reconnects 28 = .ok (.ishl, 1) := by decide +kernel
theorem dX3_reconnects_29 : decode cX3_reconnects 29 = .ok (.isub, 1) := by decide +kernel
theorem dX3_reconnects_30 : decode cX3_reconnects 30 = .ok (.iand, 1) := by decide +kernel
theorem dX3_reconnects_31 : decode cX3_reconnects 31 = .ok (.istore 4, 2) := by decide +kernel
theorem dX3_reconnects_33 : decode cX3_reconnects 33 = .ok (.aload_n 0, 1) := by decide +kernel
theorem dX3_reconnects_34 : decode cX3_reconnects 34 = .ok (.iconst 0, 1) := by decide +kernel
theorem dX3_reconnects_35 : decode cX3_reconnects 35 = .ok (.iload_n 1, 1) := by decide +kernel
theorem dX3_reconnects_36 : decode cX3_reconnects 36 = .ok (.iload_n 3, 1) := by decide +kernel
theorem dX3_reconnects_37 : decode cX3_reconnects 37 = .ok (.invokevirtual 32, 3) := by decide +kernel
theorem dX3_reconnects_40 : decode cX3_reconnects 40 = .ok (.ifCond .le 26, 3) := by decide +kernel
theorem dX3_reconnects_43 : decode cX3_reconnects 43 = .ok (.aload_n 0, 1) := by decide +kernel
theorem dX3_reconnects_44 : decode cX3_reconnects 44 = .ok (.iconst 0, 1) := by decide +kernel
theorem dX3_reconnects_45 : decode cX3_reconnects 45 = .ok (.iload_n 1, 1) := by decide +kernel
theorem dX3_reconnects_46 : decode cX3_reconnects 46 = .ok (.iload_n 3, 1) := by decide +kernel
theorem dX3_reconnects_47 : decode cX3_reconnects 47 = .ok (.invokevirtual 56, 3) := by decide +kernel
theorem dX3_reconnects_50 : decode cX3_reconnects 50 = .ok (.ifCond .eq 12, 3) := by decide +kernel
theorem dX3_reconnects_53 : decode cX3_reconnects 53 = .ok (.iload 4, 2) := by decide +kernel
theorem dX3_reconnects_55 : decode cX3_reconnects 55 = .ok (.invokestatic 52, 3) := by decide +kernel
theorem dX3_reconnects_58 : decode cX3_reconnects 58 = .ok (.iconst 2, 1) := by decide +kernel
theorem dX3_reconnects_59 : decode cX3_reconnects 59 = .ok (.if_icmp .lt 7, 3) := by decide +kernel
theorem dX3_reconnects_62 : decode cX3_reconnects 62 = .ok (.iconst 1, 1) := by decide +kernel
theorem dX3_reconnects_63 : decode cX3_reconnects 63 = .ok (.goto 4, 3) := by decide +kernel
theorem dX3_reconnects_66 : decode cX3_reconnects 66 = .ok (.iconst 0, 1) := by decide +kernel
theorem dX3_reconnects_67 : decode cX3_reconnects 67 = .ok (.istore 5, 2) := by decide +kernel
theorem dX3_reconnects_69 : decode cX3_reconnects 69 = .ok (.aload_n 0, 1) := by decide +kernel
theorem dX3_reconnects_70 : decode cX3_reconnects 70 = .ok (.iconst 0, 1) := by decide +kernel
theorem dX3_reconnects_71 : decode cX3_reconnects 71 = .ok (.iload_n 1, 1) := by decide +kernel
theorem dX3_reconnects_72 : decode cX3_reconnects 72 = .ok (.iload_n 3, 1) := by decide +kernel
theorem dX3_reconnects_73 : decode cX3_reconnects 73 = .ok (.iload 5, 2) := by decide +kernel
theorem dX3_reconnects_75 : decode cX3_reconnects 75 = .ok (.ifCond .eq 7, 3) := by decide +kernel
theorem dX3_reconnects_78 : decode cX3_reconnects 78 = .ok (.iconst 0, 1) := by decide +kernel
theorem dX3_reconnects_79 : decode cX3_reconnects 79 = .ok (.goto 10, 3) := by decide +kernel
theorem dX3_reconnects_82 : decode cX3_reconnects 82 = .ok (.aload_n 0, 1) := by decide +kernel
theorem dX3_reconnects_83 : decode cX3_reconnects 83 = .ok (.iconst 0, 1) := by decide +kernel
theorem dX3_reconnects_84 : decode cX3_reconnects 84 = .ok (.iload_n 1, 1) := by decide +kernel
theorem dX3_reconnects_85 : decode cX3_reconnects 85 = .ok (.iload_n 3, 1) := by decide +kernel
theorem dX3_reconnects_86 : decode cX3_reconnects 86 = .ok (.invokevirtual 32, 3) := by decide +kernel
theorem dX3_reconnects_89 : decode cX3_reconnects 89 = .ok (.invokevirtual 62, 3) := by decide +kernel
theorem dX3_reconnects_92 : decode cX3_reconnects 92 = .ok (.iload_n 2, 1) := by decide +kernel
theorem dX3_reconnects_93 : decode cX3_reconnects 93 = .ok (.iload 5, 2) := by decide +kernel
theorem dX3_reconnects_95 : decode cX3_reconnects 95 = .ok (.ifCond .eq 7, 3) := by decide +kernel
theorem dX3_reconnects_98 : decode cX3_reconnects 98 = .ok (.iconst 1, 1) := by decide +kernel
theorem dX3_reconnects_99 : decode cX3_reconnects 99 = .ok (.goto 4, 3) := by decide +kernel
theorem dX3_reconnects_102 : decode cX3_reconnects 102 = .ok (.iconst 0, 1) := by decide +kernel
theorem dX3_reconnects_103 : decode cX3_reconnects 103 = .ok (.iadd, 1) := by decide +kernel
theorem dX3_reconnects_104 : decode cX3_reconnects 104 = .ok (.istore_n 2, 1) := by decide +kernel
theorem dX3_reconnects_105 : decode cX3_reconnects 105 = .ok (.iinc 3 1, 3) := by decide +kernel
theorem dX3_reconnects_108 : decode cX3_reconnects 108 = .ok (.goto (-96), 3) := by decide +kernel
theorem dX3_reconnects_111 : decode cX3_reconnects 111 = .ok (.aload_n 0, 1) := by decide +kernel
theorem dX3_reconnects_112 : decode cX3_reconnects 112 = .ok (.iconst 0, 1) := by decide +kernel
theorem dX3_reconnects_113 : decode cX3_reconnects 113 = .ok (.invokevirtual 89, 3) := by decide +kernel
theorem dX3_reconnects_116 : decode cX3_reconnects 116 = .ok (.iload_n 2, 1) := by decide +kernel
theorem dX3_reconnects_117 : decode cX3_reconnects 117 = .ok (.ireturn, 1) := by decide +kernel
theorem dX3_crashes_0 : decode cX3_crashes 0 = .ok (.aload_n 0, 1) := by decide +kernel
theorem dX3_crashes_1 : decode cX3_crashes 1 = .ok (.iconst 0, 1) := by decide +kernel
theorem dX3_crashes_2 : decode cX3_crashes 2 = .ok (.iload_n 1, 1) := by decide +kernel
theorem dX3_crashes_3 : decode cX3_crashes 3 = .ok (.invokevirtual 82, 3) := by decide +kernel
theorem dX3_crashes_6 : decode cX3_crashes 6 = .ok (.istore_n 2, 1) := by decide +kernel
theorem dX3_crashes_7 : decode cX3_crashes 7 = .ok (.aload_n 0, 1) := by decide +kernel
theorem dX3_crashes_8 : decode cX3_crashes 8 = .ok (.iconst 0, 1) := by decide +kernel
theorem dX3_crashes_9 : decode cX3_crashes 9 = .ok (.iload_n 1, 1) := by decide +kernel
theorem dX3_crashes_10 : decode cX3_crashes 10 = .ok (.iconst 0, 1) := by decide +kernel
theorem dX3_crashes_11 : decode cX3_crashes 11 = .ok (.iconst 0, 1) := by decide +kernel
theorem dX3_crashes_12 : decode cX3_crashes 12 = .ok (.invokevirtual 72, 3) := by decide +kernel
theorem dX3_crashes_15 : decode cX3_crashes 15 = .ok (.aload_n 0, 1) := by decide +kernel
theorem dX3_crashes_16 : decode cX3_crashes 16 = .ok (.iconst 0, 1) := by decide +kernel
theorem dX3_crashes_17 : decode cX3_crashes 17 = .ok (.iload_n 1, 1) := by decide +kernel
theorem dX3_crashes_18 : decode cX3_crashes 18 = .ok (.iconst 1, 1) := by decide +kernel
theorem dX3_crashes_19 : decode cX3_crashes 19 = .ok (.iconst 1, 1) := by decide +kernel
theorem dX3_crashes_20 : decode cX3_crashes 20 = .ok (.invokevirtual 72, 3) := by decide +kernel
theorem dX3_crashes_23 : decode cX3_crashes 23 = .ok (.aload_n 0, 1) := by decide +kernel
theorem dX3_crashes_24 : decode cX3_crashes 24 = .ok (.iconst 0, 1) := by decide +kernel
theorem dX3_crashes_25 : decode cX3_crashes 25 = .ok (.iload_n 1, 1) := by decide +kernel
theorem dX3_crashes_26 : decode cX3_crashes 26 = .ok (.iconst 1, 1) := by decide +kernel
theorem dX3_crashes_27 : decode cX3_crashes 27 = .ok (.invokevirtual 85, 3) := by decide +kernel
theorem dX3_crashes_30 : decode cX3_crashes 30 = .ok (.aload_n 0, 1) := by decide +kernel
theorem dX3_crashes_31 : decode cX3_crashes 31 = .ok (.iconst 0, 1) := by decide +kernel
theorem dX3_crashes_32 : decode cX3_crashes 32 = .ok (.invokevirtual 89, 3) := by decide +kernel
theorem dX3_crashes_35 : decode cX3_crashes 35 = .ok (.iload_n 2, 1) := by decide +kernel
theorem dX3_crashes_36 : decode cX3_crashes 36 = .ok (.ireturn, 1) := by decide +kernel
theorem dX3_passes_0 : decode cX3_passes 0 = .ok (.aload_n 0, 1) := by decide +kernel
theorem dX3_passes_1 : decode cX3_passes 1 = .ok (.getfield 7, 3) := by decide +kernel
theorem dX3_passes_4 : decode cX3_passes 4 = .ok (.iconst 3, 1) := by decide +kernel
theorem dX3_passes_5 : decode cX3_passes 5 = .ok (.iaload, 1) := by decide +kernel
theorem dX3_passes_6 : decode cX3_passes 6 = .ok (.istore_n 2, 1) := by decide +kernel
theorem dX3_passes_7 : decode cX3_passes 7 = .ok (.iconst 0, 1) := by decide +kernel
theorem dX3_passes_8 : decode cX3_passes 8 = .ok (.istore_n 3, 1) := by decide +kernel
theorem dX3_passes_9 : decode cX3_passes 9 = .ok (.iload_n 3, 1) := by decide +kernel
theorem dX3_passes_10 : decode cX3_passes 10 = .ok (.iload_n 1, 1) := by decide +kernel
theorem dX3_passes_11 : decode cX3_passes 11 = .ok (.if_icmp .ge 14, 3) := by decide +kernel
theorem dX3_passes_14 : decode cX3_passes 14 = .ok (.aload_n 0, 1) := by decide +kernel
theorem dX3_passes_15 : decode cX3_passes 15 = .ok (.iconst 0, 1) := by decide +kernel
theorem dX3_passes_16 : decode cX3_passes 16 = .ok (.invokevirtual 92, 3) := by decide +kernel
theorem dX3_passes_19 : decode cX3_passes 19 = .ok (.iinc 3 1, 3) := by decide +kernel
theorem dX3_passes_22 : decode cX3_passes 22 = .ok (.goto (-13), 3) := by decide +kernel
theorem dX3_passes_25 : decode cX3_passes 25 = .ok (.aload_n 0, 1) := by decide +kernel
theorem dX3_passes_26 : decode cX3_passes 26 = .ok (.getfield 7, 3) := by decide +kernel
theorem dX3_passes_29 : decode cX3_passes 29 = .ok (.iconst 3, 1) := by decide +kernel
theorem dX3_passes_30 : decode cX3_passes 30 = .ok (.iaload, 1) := by decide +kernel
theorem dX3_passes_31 : decode cX3_passes 31 = .ok (.iload_n 2, 1) := by decide +kernel
theorem dX3_passes_32 : decode cX3_passes 32 = .ok (.isub, 1) := by decide +kernel
theorem dX3_passes_33 : decode cX3_passes 33 = .ok (.ireturn, 1) := by decide +kernel
theorem dX3_carries_0 : decode cX3_carries 0 = .ok (.iconst 0, 1) := by decide +kernel
theorem dX3_carries_1 : decode cX3_carries 1 = .ok (.istore_n 3, 1) := by decide +kernel
theorem dX3_carries_2 : decode cX3_carries 2 = .ok (.iload_n 3, 1) := by decide +kernel
theorem dX3_carries_3 : decode cX3_carries 3 = .ok (.sipush 272, 3) := by decide +kernel
theorem dX3_carries_6 : decode cX3_carries 6 = .ok (.if_icmp .ge 33, 3) := by decide +kernel
theorem dX3_carries_9 : decode cX3_carries 9 = .ok (.aload_n 0, 1) := by decide +kernel
theorem dX3_carries_10 : decode cX3_carries 10 = .ok (.getfield 7, 3) := by decide +kernel
theorem dX3_carries_13 : decode cX3_carries 13 = .ok (.sipush 272, 3) := by decide +kernel
theorem dX3_carries_16 : decode cX3_carries 16 = .ok (.iload_n 2, 1) := by decide +kernel
theorem dX3_carries_17 : decode cX3_carries 17 = .ok (.imul, 1) := by decide +kernel
theorem dX3_carries_18 : decode cX3_carries 18 = .ok (.iload_n 3, 1) := by decide +kernel
theorem dX3_carries_19 : decode cX3_carries 19 = .ok (.iadd, 1) := by decide +kernel
theorem dX3_carries_20 : decode cX3_carries 20 = .ok (.aload_n 0, 1) := by decide +kernel
theorem dX3_carries_21 : decode cX3_carries 21 = .ok (.getfield 7, 3) := by decide +kernel
theorem dX3_carries_24 : decode cX3_carries 24 = .ok (.sipush 272, 3) := by decide +kernel
theorem dX3_carries_27 : decode cX3_carries 27 = .ok (.iload_n 1, 1) := by decide +kernel
theorem dX3_carries_28 : decode cX3_carries 28 = .ok (.imul, 1) := by decide +kernel
theorem dX3_carries_29 : decode cX3_carries 29 = .ok (.iload_n 3, 1) := by decide +kernel
theorem dX3_carries_30 : decode cX3_carries 30 = .ok (.iadd, 1) := by decide +kernel
theorem dX3_carries_31 : decode cX3_carries 31 = .ok (.iaload, 1) := by decide +kernel
theorem dX3_carries_32 : decode cX3_carries 32 = .ok (.iastore, 1) := by decide +kernel
theorem dX3_carries_33 : decode cX3_carries 33 = .ok (.iinc 3 1, 3) := by decide +kernel
theorem dX3_carries_36 : decode cX3_carries 36 = .ok (.goto (-34), 3) := by decide +kernel
theorem dX3_carries_39 : decode cX3_carries 39 = .ok (.return_, 1) := by decide +kernel
theorem dX3_keeps_0 : decode cX3_keeps 0 = .ok (.iconst 1, 1) := by decide +kernel
theorem dX3_keeps_1 : decode cX3_keeps 1 = .ok (.istore_n 1, 1) := by decide +kernel
theorem dX3_keeps_2 : decode cX3_keeps 2 = .ok (.iload_n 1, 1) := by decide +kernel
theorem dX3_keeps_3 : decode cX3_keeps 3 = .ok (.bipush 6, 2) := by decide +kernel
theorem dX3_keeps_5 : decode cX3_keeps 5 = .ok (.if_icmp .ge 26, 3) := by decide +kernel
theorem dX3_keeps_8 : decode cX3_keeps 8 = .ok (.aload_n 0, 1) := by decide +kernel
theorem dX3_keeps_9 : decode cX3_keeps 9 = .ok (.getfield 95, 3) := by decide +kernel
theorem dX3_keeps_12 : decode cX3_keeps 12 = .ok (.bipush 6, 2) := by decide +kernel
theorem dX3_keeps_14 : decode cX3_keeps 14 = .ok (.if_icmp .ne 17, 3) := by decide +kernel
theorem dX3_keeps_17 : decode cX3_keeps 17 = .ok (.aload_n 0, 1) := by decide +kernel
theorem dX3_keeps_18 : decode cX3_keeps 18 = .ok (.iload_n 1, 1) := by decide +kernel
theorem dX3_keeps_19 : decode cX3_keeps 19 = .ok (.iconst 1, 1) := by decide +kernel
theorem dX3_keeps_20 : decode cX3_keeps 20 = .ok (.iadd, 1) := by decide +kernel
theorem dX3_keeps_21 : decode cX3_keeps 21 = .ok (.iload_n 1, 1) := by decide +kernel
theorem dX3_keeps_22 : decode cX3_keeps 22 = .ok (.invokevirtual 98, 3) := by decide +kernel
theorem dX3_keeps_25 : decode cX3_keeps 25 = .ok (.iinc 1 1, 3) := by decide +kernel
theorem dX3_keeps_28 : decode cX3_keeps 28 = .ok (.goto (-26), 3) := by decide +kernel
theorem dX3_keeps_31 : decode cX3_keeps 31 = .ok (.aload_n 0, 1) := by decide +kernel
theorem dX3_keeps_32 : decode cX3_keeps 32 = .ok (.dup, 1) := by decide +kernel
theorem dX3_keeps_33 : decode cX3_keeps 33 = .ok (.getfield 95, 3) := by decide +kernel
theorem dX3_keeps_36 : decode cX3_keeps 36 = .ok (.aload_n 0, 1) := by decide +kernel
theorem dX3_keeps_37 : decode cX3_keeps 37 = .ok (.getfield 95, 3) := by decide +kernel
theorem dX3_keeps_40 : decode cX3_keeps 40 = .ok (.bipush 6, 2) := by decide +kernel
theorem dX3_keeps_42 : decode cX3_keeps 42 = .ok (.if_icmp .ge 7, 3) := by decide +kernel
theorem dX3_keeps_45 : decode cX3_keeps 45 = .ok (.iconst 1, 1) := by decide +kernel
theorem dX3_keeps_46 : decode cX3_keeps 46 = .ok (.goto 4, 3) := by decide +kernel
theorem dX3_keeps_49 : decode cX3_keeps 49 = .ok (.iconst 0, 1) := by decide +kernel
theorem dX3_keeps_50 : decode cX3_keeps 50 = .ok (.iadd, 1) := by decide +kernel
theorem dX3_keeps_51 : decode cX3_keeps 51 = .ok (.putfield 95, 3) := by decide +kernel
theorem dX3_keeps_54 : decode cX3_keeps 54 = .ok (.aload_n 0, 1) := by decide +kernel
theorem dX3_keeps_55 : decode cX3_keeps 55 = .ok (.iconst 0, 1) := by decide +kernel
theorem dX3_keeps_56 : decode cX3_keeps 56 = .ok (.aload_n 0, 1) := by decide +kernel
theorem dX3_keeps_57 : decode cX3_keeps 57 = .ok (.getfield 95, 3) := by decide +kernel
theorem dX3_keeps_60 : decode cX3_keeps 60 = .ok (.invokevirtual 98, 3) := by decide +kernel
theorem dX3_keeps_63 : decode cX3_keeps 63 = .ok (.return_, 1) := by decide +kernel
theorem dX3_store_0 : decode cX3_store 0 = .ok (.iload_n 1, 1) := by decide +kernel
theorem dX3_store_1 : decode cX3_store 1 = .ok (.invokestatic 102, 3) := by decide +kernel
theorem dX3_store_4 : decode cX3_store 4 = .ok (.istore_n 3, 1) := by decide +kernel
theorem dX3_store_5 : decode cX3_store 5 = .ok (.aload_n 0, 1) := by decide +kernel
theorem dX3_store_6 : decode cX3_store 6 = .ok (.iload_n 3, 1) := by decide +kernel
theorem dX3_store_7 : decode cX3_store 7 = .ok (.ifCond .ne 7, 3) := by decide +kernel
theorem dX3_store_10 : decode cX3_store 10 = .ok (.iconst 1, 1) := by decide +kernel
theorem dX3_store_11 : decode cX3_store 11 = .ok (.goto 31, 3) := by decide +kernel
theorem dX3_store_14 : decode cX3_store 14 = .ok (.iload_n 2, 1) := by decide +kernel
theorem dX3_store_15 : decode cX3_store 15 = .ok (.iconst 0, 1) := by decide +kernel
theorem dX3_store_16 : decode cX3_store 16 = .ok (.sipush 9999, 3) := by decide +kernel
theorem dX3_store_19 : decode cX3_store 19 = .ok (.invokestatic 24, 3) := by decide +kernel
theorem dX3_store_22 : decode cX3_store 22 = .ok (.ifCond .ne 7, 3) := by decide +kernel
theorem dX3_store_25 : decode cX3_store 25 = .ok (.iconst 2, 1) := by decide +kernel
theorem dX3_store_26 : decode cX3_store 26 = .ok (.goto 16, 3) := by decide +kernel
theorem dX3_store_29 : decode cX3_store 29 = .ok (.aload_n 0, 1) := by decide +kernel
theorem dX3_store_30 : decode cX3_store 30 = .ok (.iload_n 1, 1) := by decide +kernel
theorem dX3_store_31 : decode cX3_store 31 = .ok (.invokevirtual 106, 3) := by decide +kernel
theorem dX3_store_34 : decode cX3_store 34 = .ok (.ifCond .ne 7, 3) := by decide +kernel
theorem dX3_store_37 : decode cX3_store 37 = .ok (.iconst 3, 1) := by decide +kernel
theorem dX3_store_38 : decode cX3_store 38 = .ok (.goto 4, 3) := by decide +kernel
theorem dX3_store_41 : decode cX3_store 41 = .ok (.iconst 0, 1) := by decide +kernel
theorem dX3_store_42 : decode cX3_store 42 = .ok (.invokevirtual 109, 3) := by decide +kernel
theorem dX3_store_45 : decode cX3_store 45 = .ok (.ifCond .ne 5, 3) := by decide +kernel
theorem dX3_store_48 : decode cX3_store 48 = .ok (.iconst 0, 1) := by decide +kernel
theorem dX3_store_49 : decode cX3_store 49 = .ok (.ireturn, 1) := by decide +kernel
theorem dX3_store_50 : decode cX3_store 50 = .ok (.aload_n 0, 1) := by decide +kernel
theorem dX3_store_51 : decode cX3_store 51 = .ok (.invokevirtual 112, 3) := by decide +kernel
theorem dX3_store_54 : decode cX3_store 54 = .ok (.aload_n 0, 1) := by decide +kernel
theorem dX3_store_55 : decode cX3_store 55 = .ok (.iload_n 1, 1) := by decide +kernel
theorem dX3_store_56 : decode cX3_store 56 = .ok (.iload_n 2, 1) := by decide +kernel
theorem dX3_store_57 : decode cX3_store 57 = .ok (.invokevirtual 115, 3) := by decide +kernel
theorem dX3_store_60 : decode cX3_store 60 = .ok (.ireturn, 1) := by decide +kernel
theorem dX3_write_0 : decode cX3_write 0 = .ok (.iload_n 1, 1) := by decide +kernel
theorem dX3_write_1 : decode cX3_write 1 = .ok (.invokestatic 102, 3) := by decide +kernel
theorem dX3_write_4 : decode cX3_write 4 = .ok (.istore_n 3, 1) := by decide +kernel
theorem dX3_write_5 : decode cX3_write 5 = .ok (.aload_n 0, 1) := by decide +kernel
theorem dX3_write_6 : decode cX3_write 6 = .ok (.iload_n 3, 1) := by decide +kernel
theorem dX3_write_7 : decode cX3_write 7 = .ok (.ifCond .ne 7, 3) := by decide +kernel
theorem dX3_write_10 : decode cX3_write 10 = .ok (.iconst 1, 1) := by decide +kernel
theorem dX3_write_11 : decode cX3_write 11 = .ok (.goto 31, 3) := by decide +kernel
theorem dX3_write_14 : decode cX3_write 14 = .ok (.iload_n 2, 1) := by decide +kernel
theorem dX3_write_15 : decode cX3_write 15 = .ok (.iconst 0, 1) := by decide +kernel
theorem dX3_write_16 : decode cX3_write 16 = .ok (.sipush 9999, 3) := by decide +kernel
theorem dX3_write_19 : decode cX3_write 19 = .ok (.invokestatic 24, 3) := by decide +kernel
theorem dX3_write_22 : decode cX3_write 22 = .ok (.ifCond .ne 7, 3) := by decide +kernel
theorem dX3_write_25 : decode cX3_write 25 = .ok (.iconst 2, 1) := by decide +kernel
theorem dX3_write_26 : decode cX3_write 26 = .ok (.goto 16, 3) := by decide +kernel
theorem dX3_write_29 : decode cX3_write 29 = .ok (.aload_n 0, 1) := by decide +kernel
theorem dX3_write_30 : decode cX3_write 30 = .ok (.iload_n 1, 1) := by decide +kernel
theorem dX3_write_31 : decode cX3_write 31 = .ok (.invokevirtual 118, 3) := by decide +kernel
theorem dX3_write_34 : decode cX3_write 34 = .ok (.ifCond .ne 7, 3) := by decide +kernel
theorem dX3_write_37 : decode cX3_write 37 = .ok (.iconst 3, 1) := by decide +kernel
theorem dX3_write_38 : decode cX3_write 38 = .ok (.goto 4, 3) := by decide +kernel
theorem dX3_write_41 : decode cX3_write 41 = .ok (.iconst 0, 1) := by decide +kernel
theorem dX3_write_42 : decode cX3_write 42 = .ok (.invokevirtual 109, 3) := by decide +kernel
theorem dX3_write_45 : decode cX3_write 45 = .ok (.ifCond .ne 5, 3) := by decide +kernel
theorem dX3_write_48 : decode cX3_write 48 = .ok (.iconst 0, 1) := by decide +kernel
theorem dX3_write_49 : decode cX3_write 49 = .ok (.ireturn, 1) := by decide +kernel
theorem dX3_write_50 : decode cX3_write 50 = .ok (.aload_n 0, 1) := by decide +kernel
theorem dX3_write_51 : decode cX3_write 51 = .ok (.invokevirtual 112, 3) := by decide +kernel
theorem dX3_write_54 : decode cX3_write 54 = .ok (.aload_n 0, 1) := by decide +kernel
theorem dX3_write_55 : decode cX3_write 55 = .ok (.iload_n 1, 1) := by decide +kernel
theorem dX3_write_56 : decode cX3_write 56 = .ok (.iload_n 2, 1) := by decide +kernel
theorem dX3_write_57 : decode cX3_write 57 = .ok (.invokevirtual 121, 3) := by decide +kernel
theorem dX3_write_60 : decode cX3_write 60 = .ok (.ireturn, 1) := by decide +kernel
theorem dX3_read_0 : decode cX3_read 0 = .ok (.aload_n 0, 1) := by decide +kernel
theorem dX3_read_1 : decode cX3_read 1 = .ok (.iload_n 1, 1) := by decide +kernel
theorem dX3_read_2 : decode cX3_read 2 = .ok (.invokestatic 102, 3) := by decide +kernel
theorem dX3_read_5 : decode cX3_read 5 = .ok (.ifCond .ne 7, 3) := by decide +kernel
theorem dX3_read_8 : decode cX3_read 8 = .ok (.iconst 1, 1) := by decide +kernel
theorem dX3_read_9 : decode cX3_read 9 = .ok (.goto 16, 3) := by decide +kernel
theorem dX3_read_12 : decode cX3_read 12 = .ok (.aload_n 0, 1) := by decide +kernel
theorem dX3_read_13 : decode cX3_read 13 = .ok (.iload_n 1, 1) := by decide +kernel
theorem dX3_read_14 : decode cX3_read 14 = .ok (.invokevirtual 118, 3) := by decide +kernel
theorem dX3_read_17 : decode cX3_read 17 = .ok (.ifCond .ne 7, 3) := by decide +kernel
theorem dX3_read_20 : decode cX3_read 20 = .ok (.iconst 2, 1) := by decide +kernel
theorem dX3_read_21 : decode cX3_read 21 = .ok (.goto 4, 3) := by decide +kernel
theorem dX3_read_24 : decode cX3_read 24 = .ok (.iconst 0, 1) := by decide +kernel
theorem dX3_read_25 : decode cX3_read 25 = .ok (.invokevirtual 109, 3) := by decide +kernel
theorem dX3_read_28 : decode cX3_read 28 = .ok (.ifCond .eq 15, 3) := by decide +kernel
theorem dX3_read_31 : decode cX3_read 31 = .ok (.aload_n 0, 1) := by decide +kernel
theorem dX3_read_32 : decode cX3_read 32 = .ok (.getfield 7, 3) := by decide +kernel
theorem dX3_read_35 : decode cX3_read 35 = .ok (.bipush 62, 2) := by decide +kernel
theorem dX3_read_37 : decode cX3_read 37 = .ok (.iload_n 1, 1) := by decide +kernel
theorem dX3_read_38 : decode cX3_read 38 = .ok (.iadd, 1) := by decide +kernel
theorem dX3_read_39 : decode cX3_read 39 = .ok (.iaload, 1) := by decide +kernel
theorem dX3_read_40 : decode cX3_read 40 = .ok (.goto 4, 3) := by decide +kernel
theorem dX3_read_43 : decode cX3_read 43 = .ok (.iconst 0, 1) := by decide +kernel
theorem dX3_read_44 : decode cX3_read 44 = .ok (.ireturn, 1) := by decide +kernel
theorem dX3_remove_0 : decode cX3_remove 0 = .ok (.aload_n 0, 1) := by decide +kernel
theorem dX3_remove_1 : decode cX3_remove 1 = .ok (.iload_n 1, 1) := by decide +kernel
theorem dX3_remove_2 : decode cX3_remove 2 = .ok (.invokestatic 102, 3) := by decide +kernel
theorem dX3_remove_5 : decode cX3_remove 5 = .ok (.ifCond .ne 7, 3) := by decide +kernel
theorem dX3_remove_8 : decode cX3_remove 8 = .ok (.iconst 1, 1) := by decide +kernel
theorem dX3_remove_9 : decode cX3_remove 9 = .ok (.goto 17, 3) := by decide +kernel
theorem dX3_remove_12 : decode cX3_remove 12 = .ok (.aload_n 0, 1) := by decide +kernel
theorem dX3_remove_13 : decode cX3_remove 13 = .ok (.iconst 0, 1) := by decide +kernel
theorem dX3_remove_14 : decode cX3_remove 14 = .ok (.iload_n 1, 1) := by decide +kernel
theorem dX3_remove_15 : decode cX3_remove 15 = .ok (.invokevirtual 28, 3) := by decide +kernel
theorem dX3_remove_18 : decode cX3_remove 18 = .ok (.ifCond .ne 7, 3) := by decide +kernel
theorem dX3_remove_21 : decode cX3_remove 21 = .ok (.iconst 2, 1) := by decide +kernel
theorem dX3_remove_22 : decode cX3_remove 22 = .ok (.goto 4, 3) := by decide +kernel
theorem dX3_remove_25 : decode cX3_remove 25 = .ok (.iconst 0, 1) := by decide +kernel
theorem dX3_remove_26 : decode cX3_remove 26 = .ok (.invokevirtual 109, 3) := by decide +kernel
theorem dX3_remove_29 : decode cX3_remove 29 = .ok (.ifCond .ne 5, 3) := by decide +kernel
theorem dX3_remove_32 : decode cX3_remove 32 = .ok (.iconst 0, 1) := by decide +kernel
theorem dX3_remove_33 : decode cX3_remove 33 = .ok (.ireturn, 1) := by decide +kernel
theorem dX3_remove_34 : decode cX3_remove 34 = .ok (.aload_n 0, 1) := by decide +kernel
theorem dX3_remove_35 : decode cX3_remove 35 = .ok (.invokevirtual 112, 3) := by decide +kernel
theorem dX3_remove_38 : decode cX3_remove 38 = .ok (.aload_n 0, 1) := by decide +kernel
theorem dX3_remove_39 : decode cX3_remove 39 = .ok (.iload_n 1, 1) := by decide +kernel
theorem dX3_remove_40 : decode cX3_remove 40 = .ok (.invokevirtual 124, 3) := by decide +kernel
theorem dX3_remove_43 : decode cX3_remove 43 = .ok (.ireturn, 1) := by decide +kernel
theorem dX3_lend_0 : decode cX3_lend 0 = .ok (.aload_n 0, 1) := by decide +kernel
theorem dX3_lend_1 : decode cX3_lend 1 = .ok (.iload_n 1, 1) := by decide +kernel
theorem dX3_lend_2 : decode cX3_lend 2 = .ok (.invokestatic 127, 3) := by decide +kernel
theorem dX3_lend_5 : decode cX3_lend 5 = .ok (.ifCond .ne 7, 3) := by decide +kernel
theorem dX3_lend_8 : decode cX3_lend 8 = .ok (.iconst 1, 1) := by decide +kernel
theorem dX3_lend_9 : decode cX3_lend 9 = .ok (.goto 30, 3) := by decide +kernel
theorem dX3_lend_12 : decode cX3_lend 12 = .ok (.iload_n 2, 1) := by decide +kernel
theorem dX3_lend_13 : decode cX3_lend 13 = .ok (.iconst 1, 1) := by decide +kernel
theorem dX3_lend_14 : decode cX3_lend 14 = .ok (.bipush 20, 2) := by decide +kernel
theorem dX3_lend_16 : decode cX3_lend 16 = .ok (.invokestatic 24, 3) := by decide +kernel
theorem dX3_lend_19 : decode cX3_lend 19 = .ok (.ifCond .ne 7, 3) := by decide +kernel
theorem dX3_lend_22 : decode cX3_lend 22 = .ok (.iconst 2, 1) := by decide +kernel
theorem dX3_lend_23 : decode cX3_lend 23 = .ok (.goto 16, 3) := by decide +kernel
theorem dX3_lend_26 : decode cX3_lend 26 = .ok (.aload_n 0, 1) := by decide +kernel
theorem dX3_lend_27 : decode cX3_lend 27 = .ok (.iload_n 1, 1) := by decide +kernel
theorem dX3_lend_28 : decode cX3_lend 28 = .ok (.invokevirtual 130, 3) := by decide +kernel
theorem dX3_lend_31 : decode cX3_lend 31 = .ok (.ifCond .ne 7, 3) := by decide +kernel
theorem dX3_lend_34 : decode cX3_lend 34 = .ok (.iconst 3, 1) := by decide +kernel
theorem dX3_lend_35 : decode cX3_lend 35 = .ok (.goto 4, 3) := by decide +kernel
theorem dX3_lend_38 : decode cX3_lend 38 = .ok (.iconst 0, 1) := by decide +kernel
theorem dX3_lend_39 : decode cX3_lend 39 = .ok (.invokevirtual 109, 3) := by decide +kernel
theorem dX3_lend_42 : decode cX3_lend 42 = .ok (.ifCond .ne 5, 3) := by decide +kernel
theorem dX3_lend_45 : decode cX3_lend 45 = .ok (.iconst 0, 1) := by decide +kernel
theorem dX3_lend_46 : decode cX3_lend 46 = .ok (.ireturn, 1) := by decide +kernel
theorem dX3_lend_47 : decode cX3_lend 47 = .ok (.aload_n 0, 1) := by decide +kernel
theorem dX3_lend_48 : decode cX3_lend 48 = .ok (.invokevirtual 112, 3) := by decide +kernel
theorem dX3_lend_51 : decode cX3_lend 51 = .ok (.aload_n 0, 1) := by decide +kernel
theorem dX3_lend_52 : decode cX3_lend 52 = .ok (.iload_n 1, 1) := by decide +kernel
theorem dX3_lend_53 : decode cX3_lend 53 = .ok (.iload_n 2, 1) := by decide +kernel
theorem dX3_lend_54 : decode cX3_lend 54 = .ok (.invokevirtual 133, 3) := by decide +kernel
theorem dX3_lend_57 : decode cX3_lend 57 = .ok (.ireturn, 1) := by decide +kernel
theorem dX3_recall_0 : decode cX3_recall 0 = .ok (.aload_n 0, 1) := by decide +kernel
theorem dX3_recall_1 : decode cX3_recall 1 = .ok (.iload_n 1, 1) := by decide +kernel
theorem dX3_recall_2 : decode cX3_recall 2 = .ok (.invokestatic 127, 3) := by decide +kernel
theorem dX3_recall_5 : decode cX3_recall 5 = .ok (.ifCond .ne 7, 3) := by decide +kernel
theorem dX3_recall_8 : decode cX3_recall 8 = .ok (.iconst 1, 1) := by decide +kernel
theorem dX3_recall_9 : decode cX3_recall 9 = .ok (.goto 31, 3) := by decide +kernel
theorem dX3_recall_12 : decode cX3_recall 12 = .ok (.iload_n 2, 1) := by decide +kernel
theorem dX3_recall_13 : decode cX3_recall 13 = .ok (.iconst 1, 1) := by decide +kernel
theorem dX3_recall_14 : decode cX3_recall 14 = .ok (.sipush 600, 3) := by decide +kernel
theorem dX3_recall_17 : decode cX3_recall 17 = .ok (.invokestatic 24, 3) := by decide +kernel
theorem dX3_recall_20 : decode cX3_recall 20 = .ok (.ifCond .ne 7, 3) := by decide +kernel
theorem dX3_recall_23 : decode cX3_recall 23 = .ok (.iconst 2, 1) := by decide +kernel
theorem dX3_recall_24 : decode cX3_recall 24 = .ok (.goto 16, 3) := by decide +kernel
theorem dX3_recall_27 : decode cX3_recall 27 = .ok (.aload_n 0, 1) := by decide +kernel
theorem dX3_recall_28 : decode cX3_recall 28 = .ok (.iload_n 1, 1) := by decide +kernel
theorem dX3_recall_29 : decode cX3_recall 29 = .ok (.invokevirtual 136, 3) := by decide +kernel
theorem dX3_recall_32 : decode cX3_recall 32 = .ok (.ifCond .ne 7, 3) := by decide +kernel
theorem dX3_recall_35 : decode cX3_recall 35 = .ok (.iconst 3, 1) := by decide +kernel
theorem dX3_recall_36 : decode cX3_recall 36 = .ok (.goto 4, 3) := by decide +kernel
theorem dX3_recall_39 : decode cX3_recall 39 = .ok (.iconst 0, 1) := by decide +kernel
theorem dX3_recall_40 : decode cX3_recall 40 = .ok (.invokevirtual 109, 3) := by decide +kernel
theorem dX3_recall_43 : decode cX3_recall 43 = .ok (.ifCond .ne 5, 3) := by decide +kernel
theorem dX3_recall_46 : decode cX3_recall 46 = .ok (.iconst 0, 1) := by decide +kernel
theorem dX3_recall_47 : decode cX3_recall 47 = .ok (.ireturn, 1) := by decide +kernel
theorem dX3_recall_48 : decode cX3_recall 48 = .ok (.aload_n 0, 1) := by decide +kernel
theorem dX3_recall_49 : decode cX3_recall 49 = .ok (.invokevirtual 112, 3) := by decide +kernel
theorem dX3_recall_52 : decode cX3_recall 52 = .ok (.aload_n 0, 1) := by decide +kernel
theorem dX3_recall_53 : decode cX3_recall 53 = .ok (.iload_n 1, 1) := by decide +kernel
theorem dX3_recall_54 : decode cX3_recall 54 = .ok (.iload_n 2, 1) := by decide +kernel
theorem dX3_recall_55 : decode cX3_recall 55 = .ok (.invokevirtual 139, 3) := by decide +kernel
theorem dX3_recall_58 : decode cX3_recall 58 = .ok (.ireturn, 1) := by decide +kernel
theorem dX3_disconnect_0 : decode cX3_disconnect 0 = .ok (.aload_n 0, 1) := by decide +kernel
theorem dX3_disconnect_1 : decode cX3_disconnect 1 = .ok (.iload_n 1, 1) := by decide +kernel
theorem dX3_disconnect_2 : decode cX3_disconnect 2 = .ok (.invokestatic 127, 3) := by decide +kernel
theorem dX3_disconnect_5 : decode cX3_disconnect 5 = .ok (.ifCond .ne 7, 3) := by decide +kernel
theorem dX3_disconnect_8 : decode cX3_disconnect 8 = .ok (.iconst 1, 1) := by decide +kernel
theorem dX3_disconnect_9 : decode cX3_disconnect 9 = .ok (.goto 16, 3) := by decide +kernel
theorem dX3_disconnect_12 : decode cX3_disconnect 12 = .ok (.aload_n 0, 1) := by decide +kernel
theorem dX3_disconnect_13 : decode cX3_disconnect 13 = .ok (.iload_n 1, 1) := by decide +kernel
theorem dX3_disconnect_14 : decode cX3_disconnect 14 = .ok (.invokevirtual 142, 3) := by decide +kernel
theorem dX3_disconnect_17 : decode cX3_disconnect 17 = .ok (.ifCond .ne 7, 3) := by decide +kernel
theorem dX3_disconnect_20 : decode cX3_disconnect 20 = .ok (.iconst 2, 1) := by decide +kernel
theorem dX3_disconnect_21 : decode cX3_disconnect 21 = .ok (.goto 4, 3) := by decide +kernel
theorem dX3_disconnect_24 : decode cX3_disconnect 24 = .ok (.iconst 0, 1) := by decide +kernel
theorem dX3_disconnect_25 : decode cX3_disconnect 25 = .ok (.invokevirtual 109, 3) := by decide +kernel
theorem dX3_disconnect_28 : decode cX3_disconnect 28 = .ok (.ifCond .ne 5, 3) := by decide +kernel
theorem dX3_disconnect_31 : decode cX3_disconnect 31 = .ok (.iconst 0, 1) := by decide +kernel
theorem dX3_disconnect_32 : decode cX3_disconnect 32 = .ok (.ireturn, 1) := by decide +kernel
theorem dX3_disconnect_33 : decode cX3_disconnect 33 = .ok (.aload_n 0, 1) := by decide +kernel
theorem dX3_disconnect_34 : decode cX3_disconnect 34 = .ok (.invokevirtual 112, 3) := by decide +kernel
theorem dX3_disconnect_37 : decode cX3_disconnect 37 = .ok (.aload_n 0, 1) := by decide +kernel
theorem dX3_disconnect_38 : decode cX3_disconnect 38 = .ok (.iload_n 1, 1) := by decide +kernel
theorem dX3_disconnect_39 : decode cX3_disconnect 39 = .ok (.invokevirtual 145, 3) := by decide +kernel
theorem dX3_disconnect_42 : decode cX3_disconnect 42 = .ok (.ireturn, 1) := by decide +kernel
theorem dX3_reconnect_0 : decode cX3_reconnect 0 = .ok (.aload_n 0, 1) := by decide +kernel
theorem dX3_reconnect_1 : decode cX3_reconnect 1 = .ok (.iload_n 1, 1) := by decide +kernel
theorem dX3_reconnect_2 : decode cX3_reconnect 2 = .ok (.invokestatic 127, 3) := by decide +kernel
theorem dX3_reconnect_5 : decode cX3_reconnect 5 = .ok (.ifCond .ne 7, 3) := by decide +kernel
theorem dX3_reconnect_8 : decode cX3_reconnect 8 = .ok (.iconst 1, 1) := by decide +kernel
theorem dX3_reconnect_9 : decode cX3_reconnect 9 = .ok (.goto 19, 3) := by decide +kernel
theorem dX3_reconnect_12 : decode cX3_reconnect 12 = .ok (.aload_n 0, 1) := by decide +kernel
theorem dX3_reconnect_13 : decode cX3_reconnect 13 = .ok (.iconst 0, 1) := by decide +kernel
theorem dX3_reconnect_14 : decode cX3_reconnect 14 = .ok (.iload_n 1, 1) := by decide +kernel
theorem dX3_reconnect_15 : decode cX3_reconnect 15 = .ok (.iconst 1, 1) := by decide +kernel
theorem dX3_reconnect_16 : decode cX3_reconnect 16 = .ok (.invokevirtual 36, 3) := by decide +kernel
theorem dX3_reconnect_19 : decode cX3_reconnect 19 = .ok (.iconst 1, 1) := by decide +kernel
theorem dX3_reconnect_20 : decode cX3_reconnect 20 = .ok (.if_icmp .ne 7, 3) := by decide +kernel
theorem dX3_reconnect_23 : decode cX3_reconnect 23 = .ok (.iconst 2, 1) := by decide +kernel
theorem dX3_reconnect_24 : decode cX3_reconnect 24 = .ok (.goto 4, 3) := by decide +kernel
theorem dX3_reconnect_27 : decode cX3_reconnect 27 = .ok (.iconst 0, 1) := by decide +kernel
theorem dX3_reconnect_28 : decode cX3_reconnect 28 = .ok (.invokevirtual 109, 3) := by decide +kernel
theorem dX3_reconnect_31 : decode cX3_reconnect 31 = .ok (.ifCond .ne 5, 3) := by decide +kernel
theorem dX3_reconnect_34 : decode cX3_reconnect 34 = .ok (.iconst 0, 1) := by decide +kernel
theorem dX3_reconnect_35 : decode cX3_reconnect 35 = .ok (.ireturn, 1) := by decide +kernel
theorem dX3_reconnect_36 : decode cX3_reconnect 36 = .ok (.aload_n 0, 1) := by decide +kernel
theorem dX3_reconnect_37 : decode cX3_reconnect 37 = .ok (.invokevirtual 112, 3) := by decide +kernel
theorem dX3_reconnect_40 : decode cX3_reconnect 40 = .ok (.aload_n 0, 1) := by decide +kernel
theorem dX3_reconnect_41 : decode cX3_reconnect 41 = .ok (.iload_n 1, 1) := by decide +kernel
theorem dX3_reconnect_42 : decode cX3_reconnect 42 = .ok (.invokevirtual 148, 3) := by decide +kernel
theorem dX3_reconnect_45 : decode cX3_reconnect 45 = .ok (.ireturn, 1) := by decide +kernel
theorem dX3_crash_0 : decode cX3_crash 0 = .ok (.aload_n 0, 1) := by decide +kernel
theorem dX3_crash_1 : decode cX3_crash 1 = .ok (.iload_n 1, 1) := by decide +kernel
theorem dX3_crash_2 : decode cX3_crash 2 = .ok (.invokestatic 127, 3) := by decide +kernel
theorem dX3_crash_5 : decode cX3_crash 5 = .ok (.ifCond .ne 7, 3) := by decide +kernel
theorem dX3_crash_8 : decode cX3_crash 8 = .ok (.iconst 1, 1) := by decide +kernel
theorem dX3_crash_9 : decode cX3_crash 9 = .ok (.goto 18, 3) := by decide +kernel
theorem dX3_crash_12 : decode cX3_crash 12 = .ok (.aload_n 0, 1) := by decide +kernel
theorem dX3_crash_13 : decode cX3_crash 13 = .ok (.iconst 0, 1) := by decide +kernel
theorem dX3_crash_14 : decode cX3_crash 14 = .ok (.iload_n 1, 1) := by decide +kernel
theorem dX3_crash_15 : decode cX3_crash 15 = .ok (.iconst 0, 1) := by decide +kernel
theorem dX3_crash_16 : decode cX3_crash 16 = .ok (.invokevirtual 36, 3) := by decide +kernel
theorem dX3_crash_19 : decode cX3_crash 19 = .ok (.ifCond .ne 7, 3) := by decide +kernel
theorem dX3_crash_22 : decode cX3_crash 22 = .ok (.iconst 2, 1) := by decide +kernel
theorem dX3_crash_23 : decode cX3_crash 23 = .ok (.goto 4, 3) := by decide +kernel
theorem dX3_crash_26 : decode cX3_crash 26 = .ok (.iconst 0, 1) := by decide +kernel
theorem dX3_crash_27 : decode cX3_crash 27 = .ok (.invokevirtual 109, 3) := by decide +kernel
theorem dX3_crash_30 : decode cX3_crash 30 = .ok (.ifCond .ne 5, 3) := by decide +kernel
theorem dX3_crash_33 : decode cX3_crash 33 = .ok (.iconst 0, 1) := by decide +kernel
theorem dX3_crash_34 : decode cX3_crash 34 = .ok (.ireturn, 1) := by decide +kernel
theorem dX3_crash_35 : decode cX3_crash 35 = .ok (.aload_n 0, 1) := by decide +kernel
theorem dX3_crash_36 : decode cX3_crash 36 = .ok (.invokevirtual 112, 3) := by decide +kernel
theorem dX3_crash_39 : decode cX3_crash 39 = .ok (.aload_n 0, 1) := by decide +kernel
theorem dX3_crash_40 : decode cX3_crash 40 = .ok (.iload_n 1, 1) := by decide +kernel
theorem dX3_crash_41 : decode cX3_crash 41 = .ok (.invokevirtual 151, 3) := by decide +kernel
theorem dX3_crash_44 : decode cX3_crash 44 = .ok (.ireturn, 1) := by decide +kernel
theorem dX3_pass_0 : decode cX3_pass 0 = .ok (.aload_n 0, 1) := by decide +kernel
theorem dX3_pass_1 : decode cX3_pass 1 = .ok (.iload_n 1, 1) := by decide +kernel
theorem dX3_pass_2 : decode cX3_pass 2 = .ok (.iconst 1, 1) := by decide +kernel
theorem dX3_pass_3 : decode cX3_pass 3 = .ok (.sipush 600, 3) := by decide +kernel
theorem dX3_pass_6 : decode cX3_pass 6 = .ok (.invokestatic 24, 3) := by decide +kernel
theorem dX3_pass_9 : decode cX3_pass 9 = .ok (.ifCond .ne 7, 3) := by decide +kernel
theorem dX3_pass_12 : decode cX3_pass 12 = .ok (.iconst 1, 1) := by decide +kernel
theorem dX3_pass_13 : decode cX3_pass 13 = .ok (.goto 21, 3) := by decide +kernel
theorem dX3_pass_16 : decode cX3_pass 16 = .ok (.aload_n 0, 1) := by decide +kernel
theorem dX3_pass_17 : decode cX3_pass 17 = .ok (.getfield 7, 3) := by decide +kernel
theorem dX3_pass_20 : decode cX3_pass 20 = .ok (.iconst 0, 1) := by decide +kernel
theorem dX3_pass_21 : decode cX3_pass 21 = .ok (.iaload, 1) := by decide +kernel
theorem dX3_pass_22 : decode cX3_pass 22 = .ok (.iload_n 1, 1) := by decide +kernel
theorem dX3_pass_23 : decode cX3_pass 23 = .ok (.iadd, 1) := by decide +kernel
theorem dX3_pass_24 : decode cX3_pass 24 = .ok (.ldc 154, 2) := by decide +kernel
theorem dX3_pass_26 : decode cX3_pass 26 = .ok (.if_icmp .le 7, 3) := by decide +kernel
theorem dX3_pass_29 : decode cX3_pass 29 = .ok (.iconst 2, 1) := by decide +kernel
theorem dX3_pass_30 : decode cX3_pass 30 = .ok (.goto 4, 3) := by decide +kernel
theorem dX3_pass_33 : decode cX3_pass 33 = .ok (.iconst 0, 1) := by decide +kernel
theorem dX3_pass_34 : decode cX3_pass 34 = .ok (.invokevirtual 109, 3) := by decide +kernel
theorem dX3_pass_37 : decode cX3_pass 37 = .ok (.ifCond .ne 5, 3) := by decide +kernel
theorem dX3_pass_40 : decode cX3_pass 40 = .ok (.iconst 0, 1) := by decide +kernel
theorem dX3_pass_41 : decode cX3_pass 41 = .ok (.ireturn, 1) := by decide +kernel
theorem dX3_pass_42 : decode cX3_pass 42 = .ok (.aload_n 0, 1) := by decide +kernel
theorem dX3_pass_43 : decode cX3_pass 43 = .ok (.invokevirtual 112, 3) := by decide +kernel
theorem dX3_pass_46 : decode cX3_pass 46 = .ok (.aload_n 0, 1) := by decide +kernel
theorem dX3_pass_47 : decode cX3_pass 47 = .ok (.iload_n 1, 1) := by decide +kernel
theorem dX3_pass_48 : decode cX3_pass 48 = .ok (.invokevirtual 155, 3) := by decide +kernel
theorem dX3_pass_51 : decode cX3_pass 51 = .ok (.ireturn, 1) := by decide +kernel
theorem dX3_setTransferTime_0 : decode cX3_setTransferTime 0 = .ok (.aload_n 0, 1) := by decide +kernel
theorem dX3_setTransferTime_1 : decode cX3_setTransferTime 1 = .ok (.iload_n 1, 1) := by decide +kernel
theorem dX3_setTransferTime_2 : decode cX3_setTransferTime 2 = .ok (.iconst 1, 1) := by decide +kernel
theorem dX3_setTransferTime_3 : decode cX3_setTransferTime 3 = .ok (.bipush 60, 2) := by decide +kernel
theorem dX3_setTransferTime_5 : decode cX3_setTransferTime 5 = .ok (.invokestatic 24, 3) := by decide +kernel
theorem dX3_setTransferTime_8 : decode cX3_setTransferTime 8 = .ok (.ifCond .eq 7, 3) := by decide +kernel
theorem dX3_setTransferTime_11 : decode cX3_setTransferTime 11 = .ok (.iconst 0, 1) := by decide +kernel
theorem dX3_setTransferTime_12 : decode cX3_setTransferTime 12 = .ok (.goto 4, 3) := by decide +kernel
theorem dX3_setTransferTime_15 : decode cX3_setTransferTime 15 = .ok (.iconst 1, 1) := by decide +kernel
theorem dX3_setTransferTime_16 : decode cX3_setTransferTime 16 = .ok (.invokevirtual 109, 3) := by decide +kernel
theorem dX3_setTransferTime_19 : decode cX3_setTransferTime 19 = .ok (.ifCond .ne 5, 3) := by decide +kernel
theorem dX3_setTransferTime_22 : decode cX3_setTransferTime 22 = .ok (.iconst 0, 1) := by decide +kernel
theorem dX3_setTransferTime_23 : decode cX3_setTransferTime 23 = .ok (.ireturn, 1) := by decide +kernel
theorem dX3_setTransferTime_24 : decode cX3_setTransferTime 24 = .ok (.aload_n 0, 1) := by decide +kernel
theorem dX3_setTransferTime_25 : decode cX3_setTransferTime 25 = .ok (.invokevirtual 112, 3) := by decide +kernel
theorem dX3_setTransferTime_28 : decode cX3_setTransferTime 28 = .ok (.aload_n 0, 1) := by decide +kernel
theorem dX3_setTransferTime_29 : decode cX3_setTransferTime 29 = .ok (.getfield 7, 3) := by decide +kernel
theorem dX3_setTransferTime_32 : decode cX3_setTransferTime 32 = .ok (.iconst 2, 1) := by decide +kernel
theorem dX3_setTransferTime_33 : decode cX3_setTransferTime 33 = .ok (.iaload, 1) := by decide +kernel
theorem dX3_setTransferTime_34 : decode cX3_setTransferTime 34 = .ok (.istore_n 2, 1) := by decide +kernel
theorem dX3_setTransferTime_35 : decode cX3_setTransferTime 35 = .ok (.aload_n 0, 1) := by decide +kernel
theorem dX3_setTransferTime_36 : decode cX3_setTransferTime 36 = .ok (.getfield 7, 3) := by decide +kernel
theorem dX3_setTransferTime_39 : decode cX3_setTransferTime 39 = .ok (.iconst 2, 1) := by decide +kernel
theorem dX3_setTransferTime_40 : decode cX3_setTransferTime 40 = .ok (.iload_n 1, 1) := by decide +kernel
theorem dX3_setTransferTime_41 : decode cX3_setTransferTime 41 = .ok (.iastore, 1) := by decide +kernel
theorem dX3_setTransferTime_42 : decode cX3_setTransferTime 42 = .ok (.iload_n 2, 1) := by decide +kernel
theorem dX3_setTransferTime_43 : decode cX3_setTransferTime 43 = .ok (.ireturn, 1) := by decide +kernel
theorem dX3_appendText_0 : decode cX3_appendText 0 = .ok (.aload_n 0, 1) := by decide +kernel
theorem dX3_appendText_1 : decode cX3_appendText 1 = .ok (.iload_n 1, 1) := by decide +kernel
theorem dX3_appendText_2 : decode cX3_appendText 2 = .ok (.bipush 32, 2) := by decide +kernel
theorem dX3_appendText_4 : decode cX3_appendText 4 = .ok (.bipush 126, 2) := by decide +kernel
theorem dX3_appendText_6 : decode cX3_appendText 6 = .ok (.invokestatic 24, 3) := by decide +kernel
theorem dX3_appendText_9 : decode cX3_appendText 9 = .ok (.ifCond .ne 7, 3) := by decide +kernel
theorem dX3_appendText_12 : decode cX3_appendText 12 = .ok (.iconst 1, 1) := by decide +kernel
theorem dX3_appendText_13 : decode cX3_appendText 13 = .ok (.goto 17, 3) := by decide +kernel
theorem dX3_appendText_16 : decode cX3_appendText 16 = .ok (.aload_n 0, 1) := by decide +kernel
theorem dX3_appendText_17 : decode cX3_appendText 17 = .ok (.getfield 158, 3) := by decide +kernel
theorem dX3_appendText_20 : decode cX3_appendText 20 = .ok (.bipush 80, 2) := by decide +kernel
theorem dX3_appendText_22 : decode cX3_appendText 22 = .ok (.if_icmp .ne 7, 3) := by decide +kernel
theorem dX3_appendText_25 : decode cX3_appendText 25 = .ok (.iconst 2, 1) := by decide +kernel
theorem dX3_appendText_26 : decode cX3_appendText 26 = .ok (.goto 4, 3) := by decide +kernel
theorem dX3_appendText_29 : decode cX3_appendText 29 = .ok (.iconst 0, 1) := by decide +kernel
theorem dX3_appendText_30 : decode cX3_appendText 30 = .ok (.invokevirtual 109, 3) := by decide +kernel
theorem dX3_appendText_33 : decode cX3_appendText 33 = .ok (.ifCond .ne 5, 3) := by decide +kernel
theorem dX3_appendText_36 : decode cX3_appendText 36 = .ok (.iconst 0, 1) := by decide +kernel
theorem dX3_appendText_37 : decode cX3_appendText 37 = .ok (.ireturn, 1) := by decide +kernel
theorem dX3_appendText_38 : decode cX3_appendText 38 = .ok (.aload_n 0, 1) := by decide +kernel
theorem dX3_appendText_39 : decode cX3_appendText 39 = .ok (.getfield 17, 3) := by decide +kernel
theorem dX3_appendText_42 : decode cX3_appendText 42 = .ok (.aload_n 0, 1) := by decide +kernel
theorem dX3_appendText_43 : decode cX3_appendText 43 = .ok (.getfield 158, 3) := by decide +kernel
theorem dX3_appendText_46 : decode cX3_appendText 46 = .ok (.iload_n 1, 1) := by decide +kernel
theorem dX3_appendText_47 : decode cX3_appendText 47 = .ok (.iastore, 1) := by decide +kernel
theorem dX3_appendText_48 : decode cX3_appendText 48 = .ok (.aload_n 0, 1) := by decide +kernel
theorem dX3_appendText_49 : decode cX3_appendText 49 = .ok (.dup, 1) := by decide +kernel
theorem dX3_appendText_50 : decode cX3_appendText 50 = .ok (.getfield 158, 3) := by decide +kernel
theorem dX3_appendText_53 : decode cX3_appendText 53 = .ok (.iconst 1, 1) := by decide +kernel
theorem dX3_appendText_54 : decode cX3_appendText 54 = .ok (.iadd, 1) := by decide +kernel
theorem dX3_appendText_55 : decode cX3_appendText 55 = .ok (.putfield 158, 3) := by decide +kernel
theorem dX3_appendText_58 : decode cX3_appendText 58 = .ok (.aload_n 0, 1) := by decide +kernel
theorem dX3_appendText_59 : decode cX3_appendText 59 = .ok (.getfield 158, 3) := by decide +kernel
theorem dX3_appendText_62 : decode cX3_appendText 62 = .ok (.ireturn, 1) := by decide +kernel
theorem dX3_clearText_0 : decode cX3_clearText 0 = .ok (.aload_n 0, 1) := by decide +kernel
theorem dX3_clearText_1 : decode cX3_clearText 1 = .ok (.iconst 0, 1) := by decide +kernel
theorem dX3_clearText_2 : decode cX3_clearText 2 = .ok (.putfield 20, 3) := by decide +kernel
theorem dX3_clearText_5 : decode cX3_clearText 5 = .ok (.aload_n 0, 1) := by decide +kernel
theorem dX3_clearText_6 : decode cX3_clearText 6 = .ok (.getfield 158, 3) := by decide +kernel
theorem dX3_clearText_9 : decode cX3_clearText 9 = .ok (.istore_n 1, 1) := by decide +kernel
theorem dX3_clearText_10 : decode cX3_clearText 10 = .ok (.aload_n 0, 1) := by decide +kernel
theorem dX3_clearText_11 : decode cX3_clearText 11 = .ok (.iconst 0, 1) := by decide +kernel
theorem dX3_clearText_12 : decode cX3_clearText 12 = .ok (.putfield 158, 3) := by decide +kernel
theorem dX3_clearText_15 : decode cX3_clearText 15 = .ok (.iload_n 1, 1) := by decide +kernel
theorem dX3_clearText_16 : decode cX3_clearText 16 = .ok (.ireturn, 1) := by decide +kernel
theorem dX3_sign_0 : decode cX3_sign 0 = .ok (.aload_n 0, 1) := by decide +kernel
theorem dX3_sign_1 : decode cX3_sign 1 = .ok (.getfield 161, 3) := by decide +kernel
theorem dX3_sign_4 : decode cX3_sign 4 = .ok (.aload_n 0, 1) := by decide +kernel
theorem dX3_sign_5 : decode cX3_sign 5 = .ok (.getfield 158, 3) := by decide +kernel
theorem dX3_sign_8 : decode cX3_sign 8 = .ok (.if_icmp .ge 15, 3) := by decide +kernel
theorem dX3_sign_11 : decode cX3_sign 11 = .ok (.aload_n 0, 1) := by decide +kernel
theorem dX3_sign_12 : decode cX3_sign 12 = .ok (.getfield 17, 3) := by decide +kernel
theorem dX3_sign_15 : decode cX3_sign 15 = .ok (.aload_n 0, 1) := by decide +kernel
theorem dX3_sign_16 : decode cX3_sign 16 = .ok (.getfield 161, 3) := by decide +kernel
theorem dX3_sign_19 : decode cX3_sign 19 = .ok (.iaload, 1) := by decide +kernel
theorem dX3_sign_20 : decode cX3_sign 20 = .ok (.goto 4, 3) := by decide +kernel
theorem dX3_sign_23 : decode cX3_sign 23 = .ok (.iconst 0, 1) := by decide +kernel
theorem dX3_sign_24 : decode cX3_sign 24 = .ok (.ireturn, 1) := by decide +kernel
theorem dX3_takes_0 : decode cX3_takes 0 = .ok (.aload_n 0, 1) := by decide +kernel
theorem dX3_takes_1 : decode cX3_takes 1 = .ok (.invokevirtual 164, 3) := by decide +kernel
theorem dX3_takes_4 : decode cX3_takes 4 = .ok (.iload_n 1, 1) := by decide +kernel
theorem dX3_takes_5 : decode cX3_takes 5 = .ok (.if_icmp .ne 7, 3) := by decide +kernel
theorem dX3_takes_8 : decode cX3_takes 8 = .ok (.iconst 1, 1) := by decide +kernel
theorem dX3_takes_9 : decode cX3_takes 9 = .ok (.goto 4, 3) := by decide +kernel
theorem dX3_takes_12 : decode cX3_takes 12 = .ok (.iconst 0, 1) := by decide +kernel
theorem dX3_takes_13 : decode cX3_takes 13 = .ok (.istore_n 2, 1) := by decide +kernel
theorem dX3_takes_14 : decode cX3_takes 14 = .ok (.aload_n 0, 1) := by decide +kernel
theorem dX3_takes_15 : decode cX3_takes 15 = .ok (.dup, 1) := by decide +kernel
theorem dX3_takes_16 : decode cX3_takes 16 = .ok (.getfield 161, 3) := by decide +kernel
theorem dX3_takes_19 : decode cX3_takes 19 = .ok (.iload_n 2, 1) := by decide +kernel
theorem dX3_takes_20 : decode cX3_takes 20 = .ok (.ifCond .eq 7, 3) := by decide +kernel
theorem dX3_takes_23 : decode cX3_takes 23 = .ok (.iconst 1, 1) := by decide +kernel
theorem dX3_takes_24 : decode cX3_takes 24 = .ok (.goto 4, 3) := by decide +kernel
theorem dX3_takes_27 : decode cX3_takes 27 = .ok (.iconst 0, 1) := by decide +kernel
theorem dX3_takes_28 : decode cX3_takes 28 = .ok (.iadd, 1) := by decide +kernel
theorem dX3_takes_29 : decode cX3_takes 29 = .ok (.putfield 161, 3) := by decide +kernel
theorem dX3_takes_32 : decode cX3_takes 32 = .ok (.iload_n 2, 1) := by decide +kernel
theorem dX3_takes_33 : decode cX3_takes 33 = .ok (.ireturn, 1) := by decide +kernel
theorem dX3_number_0 : decode cX3_number 0 = .ok (.aload_n 0, 1) := by decide +kernel
theorem dX3_number_1 : decode cX3_number 1 = .ok (.invokevirtual 164, 3) := by decide +kernel
theorem dX3_number_4 : decode cX3_number 4 = .ok (.bipush 48, 2) := by decide +kernel
theorem dX3_number_6 : decode cX3_number 6 = .ok (.iload_n 1, 1) := by decide +kernel
theorem dX3_number_7 : decode cX3_number 7 = .ok (.iadd, 1) := by decide +kernel
theorem dX3_number_8 : decode cX3_number 8 = .ok (.bipush 57, 2) := by decide +kernel
theorem dX3_number_10 : decode cX3_number 10 = .ok (.invokestatic 24, 3) := by decide +kernel
theorem dX3_number_13 : decode cX3_number 13 = .ok (.ifCond .eq 14, 3) := by decide +kernel
theorem dX3_number_16 : decode cX3_number 16 = .ok (.aload_n 0, 1) := by decide +kernel
theorem dX3_number_17 : decode cX3_number 17 = .ok (.invokevirtual 164, 3) := by decide +kernel
theorem dX3_number_20 : decode cX3_number 20 = .ok (.bipush 48, 2) := by decide +kernel
theorem dX3_number_22 : decode cX3_number 22 = .ok (.isub, 1) := by decide +kernel
theorem dX3_number_23 : decode cX3_number 23 = .ok (.iload_n 2, 1) := by decide +kernel
theorem dX3_number_24 : decode cX3_number 24 = .ok (.if_icmp .le 5, 3) := by decide +kernel
theorem dX3_number_27 : decode cX3_number 27 = .ok (.iconst (-1), 1) := by decide +kernel
theorem dX3_number_28 : decode cX3_number 28 = .ok (.ireturn, 1) := by decide +kernel
theorem dX3_number_29 : decode cX3_number 29 = .ok (.aload_n 0, 1) := by decide +kernel
theorem dX3_number_30 : decode cX3_number 30 = .ok (.invokevirtual 164, 3) := by decide +kernel
theorem dX3_number_33 : decode cX3_number 33 = .ok (.bipush 48, 2) := by decide +kernel
theorem dX3_number_35 : decode cX3_number 35 = .ok (.isub, 1) := by decide +kernel
theorem dX3_number_36 : decode cX3_number 36 = .ok (.istore_n 3, 1) := by decide +kernel
theorem dX3_number_37 : decode cX3_number 37 = .ok (.aload_n 0, 1) := by decide +kernel
theorem dX3_number_38 : decode cX3_number 38 = .ok (.dup, 1) := by decide +kernel
theorem dX3_number_39 : decode cX3_number 39 = .ok (.getfield 161, 3) := by decide +kernel
theorem dX3_number_42 : decode cX3_number 42 = .ok (.iconst 1, 1) := by decide +kernel
theorem dX3_number_43 : decode cX3_number 43 = .ok (.iadd, 1) := by decide +kernel
theorem dX3_number_44 : decode cX3_number 44 = .ok (.putfield 161, 3) := by decide +kernel
theorem dX3_number_47 : decode cX3_number 47 = .ok (.iload_n 3, 1) := by decide +kernel
theorem dX3_number_48 : decode cX3_number 48 = .ok (.ifCond .le 59, 3) := by decide +kernel
theorem dX3_number_51 : decode cX3_number 51 = .ok (.aload_n 0, 1) := by decide +kernel
theorem dX3_number_52 : decode cX3_number 52 = .ok (.invokevirtual 164, 3) := by decide +kernel
theorem dX3_number_55 : decode cX3_number 55 = .ok (.bipush 48, 2) := by decide +kernel
theorem dX3_number_57 : decode cX3_number 57 = .ok (.bipush 57, 2) := by decide +kernel
theorem dX3_number_59 : decode cX3_number 59 = .ok (.invokestatic 24, 3) := by decide +kernel
theorem dX3_number_62 : decode cX3_number 62 = .ok (.ifCond .eq 45, 3) := by decide +kernel
theorem dX3_number_65 : decode cX3_number 65 = .ok (.bipush 10, 2) := by decide +kernel
theorem dX3_number_67 : decode cX3_number 67 = .ok (.iload_n 3, 1) := by decide +kernel
theorem dX3_number_68 : decode cX3_number 68 = .ok (.imul, 1) := by decide +kernel
theorem dX3_number_69 : decode cX3_number 69 = .ok (.aload_n 0, 1) := by decide +kernel
theorem dX3_number_70 : decode cX3_number 70 = .ok (.invokevirtual 164, 3) := by decide +kernel
theorem dX3_number_73 : decode cX3_number 73 = .ok (.iadd, 1) := by decide +kernel
theorem dX3_number_74 : decode cX3_number 74 = .ok (.bipush 48, 2) := by decide +kernel
theorem dX3_number_76 : decode cX3_number 76 = .ok (.isub, 1) := by decide +kernel
theorem dX3_number_77 : decode cX3_number 77 = .ok (.iload_n 2, 1) := by decide +kernel
theorem dX3_number_78 : decode cX3_number 78 = .ok (.if_icmp .gt 29, 3) := by decide +kernel
theorem dX3_number_81 : decode cX3_number 81 = .ok (.bipush 10, 2) := by decide +kernel
theorem dX3_number_83 : decode cX3_number 83 = .ok (.iload_n 3, 1) := by decide +kernel
theorem dX3_number_84 : decode cX3_number 84 = .ok (.imul, 1) := by decide +kernel
theorem dX3_number_85 : decode cX3_number 85 = .ok (.aload_n 0, 1) := by decide +kernel
theorem dX3_number_86 : decode cX3_number 86 = .ok (.invokevirtual 164, 3) := by decide +kernel
theorem dX3_number_89 : decode cX3_number 89 = .ok (.iadd, 1) := by decide +kernel
theorem dX3_number_90 : decode cX3_number 90 = .ok (.bipush 48, 2) := by decide +kernel
theorem dX3_number_92 : decode cX3_number 92 = .ok (.isub, 1) := by decide +kernel
theorem dX3_number_93 : decode cX3_number 93 = .ok (.istore_n 3, 1) := by decide +kernel
theorem dX3_number_94 : decode cX3_number 94 = .ok (.aload_n 0, 1) := by decide +kernel
theorem dX3_number_95 : decode cX3_number 95 = .ok (.dup, 1) := by decide +kernel
theorem dX3_number_96 : decode cX3_number 96 = .ok (.getfield 161, 3) := by decide +kernel
theorem dX3_number_99 : decode cX3_number 99 = .ok (.iconst 1, 1) := by decide +kernel
theorem dX3_number_100 : decode cX3_number 100 = .ok (.iadd, 1) := by decide +kernel
theorem dX3_number_101 : decode cX3_number 101 = .ok (.putfield 161, 3) := by decide +kernel
theorem dX3_number_104 : decode cX3_number 104 = .ok (.goto (-57), 3) := by decide +kernel
theorem dX3_number_107 : decode cX3_number 107 = .ok (.iload_n 3, 1) := by decide +kernel
theorem dX3_number_108 : decode cX3_number 108 = .ok (.ireturn, 1) := by decide +kernel
theorem dX3_readsTwo_0 : decode cX3_readsTwo 0 = .ok (.aload_n 0, 1) := by decide +kernel
theorem dX3_readsTwo_1 : decode cX3_readsTwo 1 = .ok (.aload_n 0, 1) := by decide +kernel
theorem dX3_readsTwo_2 : decode cX3_readsTwo 2 = .ok (.iconst 0, 1) := by decide +kernel
theorem dX3_readsTwo_3 : decode cX3_readsTwo 3 = .ok (.iload_n 1, 1) := by decide +kernel
theorem dX3_readsTwo_4 : decode cX3_readsTwo 4 = .ok (.invokevirtual 168, 3) := by decide +kernel
theorem dX3_readsTwo_7 : decode cX3_readsTwo 7 = .ok (.putfield 171, 3) := by decide +kernel
theorem dX3_readsTwo_10 : decode cX3_readsTwo 10 = .ok (.aload_n 0, 1) := by decide +kernel
theorem dX3_readsTwo_11 : decode cX3_readsTwo 11 = .ok (.aload_n 0, 1) := by decide +kernel
theorem dX3_readsTwo_12 : decode cX3_readsTwo 12 = .ok (.getfield 171, 3) := by decide +kernel
theorem dX3_readsTwo_15 : decode cX3_readsTwo 15 = .ok (.iconst (-1), 1) := by decide +kernel
theorem dX3_readsTwo_16 : decode cX3_readsTwo 16 = .ok (.if_icmp .eq 21, 3) := by decide +kernel
theorem dX3_readsTwo_19 : decode cX3_readsTwo 19 = .ok (.aload_n 0, 1) := by decide +kernel
theorem dX3_readsTwo_20 : decode cX3_readsTwo 20 = .ok (.bipush 44, 2) := by decide +kernel
theorem dX3_readsTwo_22 : decode cX3_readsTwo 22 = .ok (.invokevirtual 174, 3) := by decide +kernel
theorem dX3_readsTwo_25 : decode cX3_readsTwo 25 = .ok (.ifCond .eq 12, 3) := by decide +kernel
theorem dX3_readsTwo_28 : decode cX3_readsTwo 28 = .ok (.aload_n 0, 1) := by decide +kernel
theorem dX3_readsTwo_29 : decode cX3_readsTwo 29 = .ok (.iload_n 2, 1) := by decide +kernel
theorem dX3_readsTwo_30 : decode cX3_readsTwo 30 = .ok (.iload_n 3, 1) := by decide +kernel
theorem dX3_readsTwo_31 : decode cX3_readsTwo 31 = .ok (.invokevirtual 168, 3) := by decide +kernel
theorem dX3_readsTwo_34 : decode cX3_readsTwo 34 = .ok (.goto 4, 3) := by decide +kernel
theorem dX3_readsTwo_37 : decode cX3_readsTwo 37 = .ok (.iconst (-1), 1) := by decide +kernel
theorem dX3_readsTwo_38 : decode cX3_readsTwo 38 = .ok (.putfield 177, 3) := by decide +kernel
theorem dX3_readsTwo_41 : decode cX3_readsTwo 41 = .ok (.aload_n 0, 1) := by decide +kernel
theorem dX3_readsTwo_42 : decode cX3_readsTwo 42 = .ok (.getfield 177, 3) := by decide +kernel
theorem dX3_readsTwo_45 : decode cX3_readsTwo 45 = .ok (.iconst (-1), 1) := by decide +kernel
theorem dX3_readsTwo_46 : decode cX3_readsTwo 46 = .ok (.if_icmp .eq 7, 3) := by decide +kernel
theorem dX3_readsTwo_49 : decode cX3_readsTwo 49 = .ok (.iconst 1, 1) := by decide +kernel
theorem dX3_readsTwo_50 : decode cX3_readsTwo 50 = .ok (.goto 4, 3) := by decide +kernel
theorem dX3_readsTwo_53 : decode cX3_readsTwo 53 = .ok (.iconst 0, 1) := by decide +kernel
theorem dX3_readsTwo_54 : decode cX3_readsTwo 54 = .ok (.ireturn, 1) := by decide +kernel
theorem dX3_readsOne_0 : decode cX3_readsOne 0 = .ok (.aload_n 0, 1) := by decide +kernel
theorem dX3_readsOne_1 : decode cX3_readsOne 1 = .ok (.aload_n 0, 1) := by decide +kernel
theorem dX3_readsOne_2 : decode cX3_readsOne 2 = .ok (.iload_n 1, 1) := by decide +kernel
theorem dX3_readsOne_3 : decode cX3_readsOne 3 = .ok (.iload_n 2, 1) := by decide +kernel
theorem dX3_readsOne_4 : decode cX3_readsOne 4 = .ok (.invokevirtual 168, 3) := by decide +kernel
theorem dX3_readsOne_7 : decode cX3_readsOne 7 = .ok (.putfield 171, 3) := by decide +kernel
theorem dX3_readsOne_10 : decode cX3_readsOne 10 = .ok (.aload_n 0, 1) := by decide +kernel
theorem dX3_readsOne_11 : decode cX3_readsOne 11 = .ok (.getfield 171, 3) := by decide +kernel
theorem dX3_readsOne_14 : decode cX3_readsOne 14 = .ok (.iconst (-1), 1) := by decide +kernel
theorem dX3_readsOne_15 : decode cX3_readsOne 15 = .ok (.if_icmp .eq 7, 3) := by decide +kernel
theorem dX3_readsOne_18 : decode cX3_readsOne 18 = .ok (.iconst 1, 1) := by decide +kernel
theorem dX3_readsOne_19 : decode cX3_readsOne 19 = .ok (.goto 4, 3) := by decide +kernel
theorem dX3_readsOne_22 : decode cX3_readsOne 22 = .ok (.iconst 0, 1) := by decide +kernel
theorem dX3_readsOne_23 : decode cX3_readsOne 23 = .ok (.ireturn, 1) := by decide +kernel
theorem dX3_readsCommand_0 : decode cX3_readsCommand 0 = .ok (.aload_n 0, 1) := by decide +kernel
theorem dX3_readsCommand_1 : decode cX3_readsCommand 1 = .ok (.aload_n 0, 1) := by decide +kernel
theorem dX3_readsCommand_2 : decode cX3_readsCommand 2 = .ok (.invokevirtual 164, 3) := by decide +kernel
theorem dX3_readsCommand_5 : decode cX3_readsCommand 5 = .ok (.putfield 180, 3) := by decide +kernel
theorem dX3_readsCommand_8 : decode cX3_readsCommand 8 = .ok (.aload_n 0, 1) := by decide +kernel
theorem dX3_readsCommand_9 : decode cX3_readsCommand 9 = .ok (.dup, 1) := by decide +kernel
theorem dX3_readsCommand_10 : decode cX3_readsCommand 10 = .ok (.getfield 161, 3) := by decide +kernel
theorem dX3_readsCommand_13 : decode cX3_readsCommand 13 = .ok (.iconst 1, 1) := by decide +kernel
theorem dX3_readsCommand_14 : decode cX3_readsCommand 14 = .ok (.iadd, 1) := by decide +kernel
theorem dX3_readsCommand_15 : decode cX3_readsCommand 15 = .ok (.putfield 161, 3) := by decide +kernel
theorem dX3_readsCommand_18 : decode cX3_readsCommand 18 = .ok (.aload_n 0, 1) := by decide +kernel
theorem dX3_readsCommand_19 : decode cX3_readsCommand 19 = .ok (.getfield 180, 3) := by decide +kernel
theorem dX3_readsCommand_22 : decode cX3_readsCommand 22 = .ok (.tableswitch 156 99 120 #[140, 113, 156, 156, 156, 156, 156, 156, 156, 121, 156, 156, 140, 156, 156, 130, 102, 147, 156, 156, 102, 140], 102) := by decide +kernel
theorem dX3_readsCommand_124 : decode cX3_readsCommand 124 = .ok (.aload_n 0, 1) := by decide +kernel
theorem dX3_readsCommand_125 : decode cX3_readsCommand 125 = .ok (.bipush 29, 2) := by decide +kernel
theorem dX3_readsCommand_127 : decode cX3_readsCommand 127 = .ok (.iconst 0, 1) := by decide +kernel
theorem dX3_readsCommand_128 : decode cX3_readsCommand 128 = .ok (.sipush 9999, 3) := by decide +kernel
theorem dX3_readsCommand_131 : decode cX3_readsCommand 131 = .ok (.invokevirtual 183, 3) := by decide +kernel
theorem dX3_readsCommand_134 : decode cX3_readsCommand 134 = .ok (.ireturn, 1) := by decide +kernel
theorem dX3_readsCommand_135 : decode cX3_readsCommand 135 = .ok (.aload_n 0, 1) := by decide +kernel
theorem dX3_readsCommand_136 : decode cX3_readsCommand 136 = .ok (.iconst 0, 1) := by decide +kernel
theorem dX3_readsCommand_137 : decode cX3_readsCommand 137 = .ok (.bipush 29, 2) := by decide +kernel
theorem dX3_readsCommand_139 : decode cX3_readsCommand 139 = .ok (.invokevirtual 186, 3) := by decide +kernel
theorem dX3_readsCommand_142 : decode cX3_readsCommand 142 = .ok (.ireturn, 1) := by decide +kernel
theorem dX3_readsCommand_143 : decode cX3_readsCommand 143 = .ok (.aload_n 0, 1) := by decide +kernel
theorem dX3_readsCommand_144 : decode cX3_readsCommand 144 = .ok (.iconst 5, 1) := by decide +kernel
theorem dX3_readsCommand_145 : decode cX3_readsCommand 145 = .ok (.iconst 1, 1) := by decide +kernel
theorem dX3_readsCommand_146 : decode cX3_readsCommand 146 = .ok (.bipush 20, 2) := by decide +kernel
theorem dX3_readsCommand_148 : decode cX3_readsCommand 148 = .ok (.invokevirtual 183, 3) := by decide +kernel
theorem dX3_readsCommand_151 : decode cX3_readsCommand 151 = .ok (.ireturn, 1) := by decide +kernel
theorem dX3_readsCommand_152 : decode cX3_readsCommand 152 = .ok (.aload_n 0, 1) := by decide +kernel
theorem dX3_readsCommand_153 : decode cX3_readsCommand 153 = .ok (.iconst 5, 1) := by decide +kernel
theorem dX3_readsCommand_154 : decode cX3_readsCommand 154 = .ok (.iconst 1, 1) := by decide +kernel
theorem dX3_readsCommand_155 : decode cX3_readsCommand 155 = .ok (.sipush 600, 3) := by decide +kernel
theorem dX3_readsCommand_158 : decode cX3_readsCommand 158 = .ok (.invokevirtual 183, 3) := by decide +kernel
theorem dX3_readsCommand_161 : decode cX3_readsCommand 161 = .ok (.ireturn, 1) := by decide +kernel
theorem dX3_readsCommand_162 : decode cX3_readsCommand 162 = .ok (.aload_n 0, 1) := by decide +kernel
theorem dX3_readsCommand_163 : decode cX3_readsCommand 163 = .ok (.iconst 0, 1) := by decide +kernel
theorem dX3_readsCommand_164 : decode cX3_readsCommand 164 = .ok (.iconst 5, 1) := by decide +kernel
theorem dX3_readsCommand_165 : decode cX3_readsCommand 165 = .ok (.invokevirtual 186, 3) := by decide +kernel
theorem dX3_readsCommand_168 : decode cX3_readsCommand 168 = .ok (.ireturn, 1) := by decide +kernel
theorem dX3_readsCommand_169 : decode cX3_readsCommand 169 = .ok (.aload_n 0, 1) := by decide +kernel
theorem dX3_readsCommand_170 : decode cX3_readsCommand 170 = .ok (.iconst 1, 1) := by decide +kernel
theorem dX3_readsCommand_171 : decode cX3_readsCommand 171 = .ok (.sipush 600, 3) := by decide +kernel
theorem dX3_readsCommand_174 : decode cX3_readsCommand 174 = .ok (.invokevirtual 186, 3) := by decide +kernel
theorem dX3_readsCommand_177 : decode cX3_readsCommand 177 = .ok (.ireturn, 1) := by decide +kernel
theorem dX3_readsCommand_178 : decode cX3_readsCommand 178 = .ok (.aload_n 0, 1) := by decide +kernel
theorem dX3_readsCommand_179 : decode cX3_readsCommand 179 = .ok (.dup, 1) := by decide +kernel
theorem dX3_readsCommand_180 : decode cX3_readsCommand 180 = .ok (.getfield 161, 3) := by decide +kernel
theorem dX3_readsCommand_183 : decode cX3_readsCommand 183 = .ok (.iconst 1, 1) := by decide +kernel
theorem dX3_readsCommand_184 : decode cX3_readsCommand 184 = .ok (.isub, 1) := by decide +kernel
theorem dX3_readsCommand_185 : decode cX3_readsCommand 185 = .ok (.putfield 161, 3) := by decide +kernel
theorem dX3_readsCommand_188 : decode cX3_readsCommand 188 = .ok (.iconst 0, 1) := by decide +kernel
theorem dX3_readsCommand_189 : decode cX3_readsCommand 189 = .ok (.ireturn, 1) := by decide +kernel
theorem dX3_isValid_0 : decode cX3_isValid 0 = .ok (.aload_n 0, 1) := by decide +kernel
theorem dX3_isValid_1 : decode cX3_isValid 1 = .ok (.iconst 0, 1) := by decide +kernel
theorem dX3_isValid_2 : decode cX3_isValid 2 = .ok (.putfield 161, 3) := by decide +kernel
theorem dX3_isValid_5 : decode cX3_isValid 5 = .ok (.aload_n 0, 1) := by decide +kernel
theorem dX3_isValid_6 : decode cX3_isValid 6 = .ok (.invokevirtual 189, 3) := by decide +kernel
theorem dX3_isValid_9 : decode cX3_isValid 9 = .ok (.ifCond .eq 27, 3) := by decide +kernel
theorem dX3_isValid_12 : decode cX3_isValid 12 = .ok (.aload_n 0, 1) := by decide +kernel
theorem dX3_isValid_13 : decode cX3_isValid 13 = .ok (.getfield 161, 3) := by decide +kernel
theorem dX3_isValid_16 : decode cX3_isValid 16 = .ok (.aload_n 0, 1) := by decide +kernel
theorem dX3_isValid_17 : decode cX3_isValid 17 = .ok (.getfield 158, 3) := by decide +kernel
theorem dX3_isValid_20 : decode cX3_isValid 20 = .ok (.if_icmp .ne 5, 3) := by decide +kernel
theorem dX3_isValid_23 : decode cX3_isValid 23 = .ok (.iconst 1, 1) := by decide +kernel
theorem dX3_isValid_24 : decode cX3_isValid 24 = .ok (.ireturn, 1) := by decide +kernel
theorem dX3_isValid_25 : decode cX3_isValid 25 = .ok (.aload_n 0, 1) := by decide +kernel
theorem dX3_isValid_26 : decode cX3_isValid 26 = .ok (.bipush 59, 2) := by decide +kernel
theorem dX3_isValid_28 : decode cX3_isValid 28 = .ok (.invokevirtual 174, 3) := by decide +kernel
theorem dX3_isValid_31 : decode cX3_isValid 31 = .ok (.ifCond .ne (-26), 3) := by decide +kernel
theorem dX3_isValid_34 : decode cX3_isValid 34 = .ok (.iconst 0, 1) := by decide +kernel
theorem dX3_isValid_35 : decode cX3_isValid 35 = .ok (.ireturn, 1) := by decide +kernel
theorem dX3_isValid_36 : decode cX3_isValid 36 = .ok (.iconst 0, 1) := by decide +kernel
theorem dX3_isValid_37 : decode cX3_isValid 37 = .ok (.ireturn, 1) := by decide +kernel
theorem dX3_errorPosition_0 : decode cX3_errorPosition 0 = .ok (.aload_n 0, 1) := by decide +kernel
theorem dX3_errorPosition_1 : decode cX3_errorPosition 1 = .ok (.iconst 0, 1) := by decide +kernel
theorem dX3_errorPosition_2 : decode cX3_errorPosition 2 = .ok (.putfield 20, 3) := by decide +kernel
theorem dX3_errorPosition_5 : decode cX3_errorPosition 5 = .ok (.aload_n 0, 1) := by decide +kernel
theorem dX3_errorPosition_6 : decode cX3_errorPosition 6 = .ok (.invokevirtual 193, 3) := by decide +kernel
theorem dX3_errorPosition_9 : decode cX3_errorPosition 9 = .ok (.ifCond .eq 7, 3) := by decide +kernel
theorem dX3_errorPosition_12 : decode cX3_errorPosition 12 = .ok (.iconst (-1), 1) := by decide +kernel
theorem dX3_errorPosition_13 : decode cX3_errorPosition 13 = .ok (.goto 7, 3) := by decide +kernel
theorem dX3_errorPosition_16 : decode cX3_errorPosition 16 = .ok (.aload_n 0, 1) := by decide +kernel
theorem dX3_errorPosition_17 : decode cX3_errorPosition 17 = .ok (.getfield 161, 3) := by decide +kernel
theorem dX3_errorPosition_20 : decode cX3_errorPosition 20 = .ok (.ireturn, 1) := by decide +kernel
theorem dX3_can_0 : decode cX3_can 0 = .ok (.aload_n 0, 1) := by decide +kernel
theorem dX3_can_1 : decode cX3_can 1 = .ok (.getfield 180, 3) := by decide +kernel
theorem dX3_can_4 : decode cX3_can 4 = .ok (.tableswitch 197 99 120 #[159, 122, 197, 197, 197, 197, 197, 197, 197, 132, 197, 197, 150, 197, 197, 141, 104, 197, 197, 197, 113, 178], 104) := by decide +kernel
theorem dX3_can_108 : decode cX3_can 108 = .ok (.aload_n 0, 1) := by decide +kernel
theorem dX3_can_109 : decode cX3_can 109 = .ok (.aload_n 0, 1) := by decide +kernel
theorem dX3_can_110 : decode cX3_can 110 = .ok (.getfield 171, 3) := by decide +kernel
theorem dX3_can_113 : decode cX3_can 113 = .ok (.invokevirtual 106, 3) := by decide +kernel
theorem dX3_can_116 : decode cX3_can 116 = .ok (.ireturn, 1) := by decide +kernel
theorem dX3_can_117 : decode cX3_can 117 = .ok (.aload_n 0, 1) := by decide +kernel
theorem dX3_can_118 : decode cX3_can 118 = .ok (.aload_n 0, 1) := by decide +kernel
theorem dX3_can_119 : decode cX3_can 119 = .ok (.getfield 171, 3) := by decide +kernel
theorem dX3_can_122 : decode cX3_can 122 = .ok (.invokevirtual 118, 3) := by decide +kernel
theorem dX3_can_125 : decode cX3_can 125 = .ok (.ireturn, 1) := by decide +kernel
theorem dX3_can_126 : decode cX3_can 126 = .ok (.aload_n 0, 1) := by decide +kernel
theorem dX3_can_127 : decode cX3_can 127 = .ok (.iconst 0, 1) := by decide +kernel
theorem dX3_can_128 : decode cX3_can 128 = .ok (.aload_n 0, 1) := by decide +kernel
theorem dX3_can_129 : decode cX3_can 129 = .ok (.getfield 171, 3) := by decide +kernel
theorem dX3_can_132 : decode cX3_can 132 = .ok (.invokevirtual 28, 3) := by decide +kernel
theorem dX3_can_135 : decode cX3_can 135 = .ok (.ireturn, 1) := by decide +kernel
theorem dX3_can_136 : decode cX3_can 136 = .ok (.aload_n 0, 1) := by decide +kernel
theorem dX3_can_137 : decode cX3_can 137 = .ok (.aload_n 0, 1) := by decide +kernel
theorem dX3_can_138 : decode cX3_can 138 = .ok (.getfield 171, 3) := by decide +kernel
theorem dX3_can_141 : decode cX3_can 141 = .ok (.invokevirtual 130, 3) := by decide +kernel
theorem dX3_can_144 : decode cX3_can 144 = .ok (.ireturn, 1) := by decide +kernel
theorem dX3_can_145 : decode cX3_can 145 = .ok (.aload_n 0, 1) := by decide +kernel
theorem dX3_can_146 : decode cX3_can 146 = .ok (.aload_n 0, 1) := by decide +kernel
theorem dX3_can_147 : decode cX3_can 147 = .ok (.getfield 171, 3) := by decide +kernel
theorem dX3_can_150 : decode cX3_can 150 = .ok (.invokevirtual 136, 3) := by decide +kernel
theorem dX3_can_153 : decode cX3_can 153 = .ok (.ireturn, 1) := by decide +kernel
theorem dX3_can_154 : decode cX3_can 154 = .ok (.aload_n 0, 1) := by decide +kernel
theorem dX3_can_155 : decode cX3_can 155 = .ok (.aload_n 0, 1) := by decide +kernel
theorem dX3_can_156 : decode cX3_can 156 = .ok (.getfield 171, 3) := by decide +kernel
theorem dX3_can_159 : decode cX3_can 159 = .ok (.invokevirtual 142, 3) := by decide +kernel
theorem dX3_can_162 : decode cX3_can 162 = .ok (.ireturn, 1) := by decide +kernel
theorem dX3_can_163 : decode cX3_can 163 = .ok (.aload_n 0, 1) := by decide +kernel
theorem dX3_can_164 : decode cX3_can 164 = .ok (.iconst 0, 1) := by decide +kernel
theorem dX3_can_165 : decode cX3_can 165 = .ok (.aload_n 0, 1) := by decide +kernel
theorem dX3_can_166 : decode cX3_can 166 = .ok (.getfield 171, 3) := by decide +kernel
theorem dX3_can_169 : decode cX3_can 169 = .ok (.iconst 1, 1) := by decide +kernel
theorem dX3_can_170 : decode cX3_can 170 = .ok (.invokevirtual 36, 3) := by decide +kernel
theorem dX3_can_173 : decode cX3_can 173 = .ok (.ifCond .ne 7, 3) := by decide +kernel
theorem dX3_can_176 : decode cX3_can 176 = .ok (.iconst 1, 1) := by decide +kernel
theorem dX3_can_177 : decode cX3_can 177 = .ok (.goto 4, 3) := by decide +kernel
theorem dX3_can_180 : decode cX3_can 180 = .ok (.iconst 0, 1) := by decide +kernel
theorem dX3_can_181 : decode cX3_can 181 = .ok (.ireturn, 1) := by decide +kernel
theorem dX3_can_182 : decode cX3_can 182 = .ok (.aload_n 0, 1) := by decide +kernel
theorem dX3_can_183 : decode cX3_can 183 = .ok (.iconst 0, 1) := by decide +kernel
theorem dX3_can_184 : decode cX3_can 184 = .ok (.aload_n 0, 1) := by decide +kernel
theorem dX3_can_185 : decode cX3_can 185 = .ok (.getfield 171, 3) := by decide +kernel
theorem dX3_can_188 : decode cX3_can 188 = .ok (.iconst 0, 1) := by decide +kernel
theorem dX3_can_189 : decode cX3_can 189 = .ok (.invokevirtual 36, 3) := by decide +kernel
theorem dX3_can_192 : decode cX3_can 192 = .ok (.ifCond .eq 7, 3) := by decide +kernel
theorem dX3_can_195 : decode cX3_can 195 = .ok (.iconst 1, 1) := by decide +kernel
theorem dX3_can_196 : decode cX3_can 196 = .ok (.goto 4, 3) := by decide +kernel
theorem dX3_can_199 : decode cX3_can 199 = .ok (.iconst 0, 1) := by decide +kernel
theorem dX3_can_200 : decode cX3_can 200 = .ok (.ireturn, 1) := by decide +kernel
theorem dX3_can_201 : decode cX3_can 201 = .ok (.aload_n 0, 1) := by decide +kernel
theorem dX3_can_202 : decode cX3_can 202 = .ok (.getfield 7, 3) := by decide +kernel
theorem dX3_can_205 : decode cX3_can 205 = .ok (.iconst 0, 1) := by decide +kernel
theorem dX3_can_206 : decode cX3_can 206 = .ok (.iaload, 1) := by decide +kernel
theorem dX3_can_207 : decode cX3_can 207 = .ok (.aload_n 0, 1) := by decide +kernel
theorem dX3_can_208 : decode cX3_can 208 = .ok (.getfield 171, 3) := by decide +kernel
theorem dX3_can_211 : decode cX3_can 211 = .ok (.iadd, 1) := by decide +kernel
theorem dX3_can_212 : decode cX3_can 212 = .ok (.ldc 154, 2) := by decide +kernel
theorem dX3_can_214 : decode cX3_can 214 = .ok (.if_icmp .gt 7, 3) := by decide +kernel
theorem dX3_can_217 : decode cX3_can 217 = .ok (.iconst 1, 1) := by decide +kernel
theorem dX3_can_218 : decode cX3_can 218 = .ok (.goto 4, 3) := by decide +kernel
theorem dX3_can_221 : decode cX3_can 221 = .ok (.iconst 0, 1) := by decide +kernel
theorem dX3_can_222 : decode cX3_can 222 = .ok (.ireturn, 1) := by decide +kernel
theorem dX3_does_0 : decode cX3_does 0 = .ok (.aload_n 0, 1) := by decide +kernel
theorem dX3_does_1 : decode cX3_does 1 = .ok (.getfield 180, 3) := by decide +kernel
theorem dX3_does_4 : decode cX3_does 4 = .ok (.tableswitch 192 99 120 #[174, 130, 192, 192, 192, 192, 192, 192, 192, 139, 192, 192, 165, 192, 192, 152, 104, 192, 192, 192, 117, 183], 104) := by decide +kernel
theorem dX3_does_108 : decode cX3_does 108 = .ok (.aload_n 0, 1) := by decide +kernel
theorem dX3_does_109 : decode cX3_does 109 = .ok (.aload_n 0, 1) := by decide +kernel
theorem dX3_does_110 : decode cX3_does 110 = .ok (.getfield 171, 3) := by decide +kernel
theorem dX3_does_113 : decode cX3_does 113 = .ok (.aload_n 0, 1) := by decide +kernel
theorem dX3_does_114 : decode cX3_does 114 = .ok (.getfield 177, 3) := by decide +kernel
theorem dX3_does_117 : decode cX3_does 117 = .ok (.invokevirtual 115, 3) := by decide +kernel
theorem dX3_does_120 : decode cX3_does 120 = .ok (.ireturn, 1) := by decide +kernel
theorem dX3_does_121 : decode cX3_does 121 = .ok (.aload_n 0, 1) := by decide +kernel
theorem dX3_does_122 : decode cX3_does 122 = .ok (.aload_n 0, 1) := by decide +kernel
theorem dX3_does_123 : decode cX3_does 123 = .ok (.getfield 171, 3) := by decide +kernel
theorem dX3_does_126 : decode cX3_does 126 = .ok (.aload_n 0, 1) := by decide +kernel
theorem dX3_does_127 : decode cX3_does 127 = .ok (.getfield 177, 3) := by decide +kernel
theorem dX3_does_130 : decode cX3_does 130 = .ok (.invokevirtual 121, 3) := by decide +kernel
theorem dX3_does_133 : decode cX3_does 133 = .ok (.ireturn, 1) := by decide +kernel
theorem dX3_does_134 : decode cX3_does 134 = .ok (.aload_n 0, 1) := by decide +kernel
theorem dX3_does_135 : decode cX3_does 135 = .ok (.aload_n 0, 1) := by decide +kernel
theorem dX3_does_136 : decode cX3_does 136 = .ok (.getfield 171, 3) := by decide +kernel
theorem dX3_does_139 : decode cX3_does 139 = .ok (.invokevirtual 124, 3) := by decide +kernel
theorem dX3_does_142 : decode cX3_does 142 = .ok (.ireturn, 1) := by decide +kernel
theorem dX3_does_143 : decode cX3_does 143 = .ok (.aload_n 0, 1) := by decide +kernel
theorem dX3_does_144 : decode cX3_does 144 = .ok (.aload_n 0, 1) := by decide +kernel
theorem dX3_does_145 : decode cX3_does 145 = .ok (.getfield 171, 3) := by decide +kernel
theorem dX3_does_148 : decode cX3_does 148 = .ok (.aload_n 0, 1) := by decide +kernel
theorem dX3_does_149 : decode cX3_does 149 = .ok (.getfield 177, 3) := by decide +kernel
theorem dX3_does_152 : decode cX3_does 152 = .ok (.invokevirtual 133, 3) := by decide +kernel
theorem dX3_does_155 : decode cX3_does 155 = .ok (.ireturn, 1) := by decide +kernel
theorem dX3_does_156 : decode cX3_does 156 = .ok (.aload_n 0, 1) := by decide +kernel
theorem dX3_does_157 : decode cX3_does 157 = .ok (.aload_n 0, 1) := by decide +kernel
theorem dX3_does_158 : decode cX3_does 158 = .ok (.getfield 171, 3) := by decide +kernel
theorem dX3_does_161 : decode cX3_does 161 = .ok (.aload_n 0, 1) := by decide +kernel
theorem dX3_does_162 : decode cX3_does 162 = .ok (.getfield 177, 3) := by decide +kernel
theorem dX3_does_165 : decode cX3_does 165 = .ok (.invokevirtual 139, 3) := by decide +kernel
theorem dX3_does_168 : decode cX3_does 168 = .ok (.ireturn, 1) := by decide +kernel
theorem dX3_does_169 : decode cX3_does 169 = .ok (.aload_n 0, 1) := by decide +kernel
theorem dX3_does_170 : decode cX3_does 170 = .ok (.aload_n 0, 1) := by decide +kernel
theorem dX3_does_171 : decode cX3_does 171 = .ok (.getfield 171, 3) := by decide +kernel
theorem dX3_does_174 : decode cX3_does 174 = .ok (.invokevirtual 145, 3) := by decide +kernel
theorem dX3_does_177 : decode cX3_does 177 = .ok (.ireturn, 1) := by decide +kernel
theorem dX3_does_178 : decode cX3_does 178 = .ok (.aload_n 0, 1) := by decide +kernel
theorem dX3_does_179 : decode cX3_does 179 = .ok (.aload_n 0, 1) := by decide +kernel
theorem dX3_does_180 : decode cX3_does 180 = .ok (.getfield 171, 3) := by decide +kernel
theorem dX3_does_183 : decode cX3_does 183 = .ok (.invokevirtual 148, 3) := by decide +kernel
theorem dX3_does_186 : decode cX3_does 186 = .ok (.ireturn, 1) := by decide +kernel
theorem dX3_does_187 : decode cX3_does 187 = .ok (.aload_n 0, 1) := by decide +kernel
theorem dX3_does_188 : decode cX3_does 188 = .ok (.aload_n 0, 1) := by decide +kernel
theorem dX3_does_189 : decode cX3_does 189 = .ok (.getfield 171, 3) := by decide +kernel
theorem dX3_does_192 : decode cX3_does 192 = .ok (.invokevirtual 151, 3) := by decide +kernel
theorem dX3_does_195 : decode cX3_does 195 = .ok (.ireturn, 1) := by decide +kernel
theorem dX3_does_196 : decode cX3_does 196 = .ok (.aload_n 0, 1) := by decide +kernel
theorem dX3_does_197 : decode cX3_does 197 = .ok (.aload_n 0, 1) := by decide +kernel
theorem dX3_does_198 : decode cX3_does 198 = .ok (.getfield 171, 3) := by decide +kernel
theorem dX3_does_201 : decode cX3_does 201 = .ok (.invokevirtual 155, 3) := by decide +kernel
theorem dX3_does_204 : decode cX3_does 204 = .ok (.ireturn, 1) := by decide +kernel
theorem dX3_runText_0 : decode cX3_runText 0 = .ok (.aload_n 0, 1) := by decide +kernel
theorem dX3_runText_1 : decode cX3_runText 1 = .ok (.aload_n 0, 1) := by decide +kernel
theorem dX3_runText_2 : decode cX3_runText 2 = .ok (.invokevirtual 193, 3) := by decide +kernel
theorem dX3_runText_5 : decode cX3_runText 5 = .ok (.ifCond .eq 7, 3) := by decide +kernel
theorem dX3_runText_8 : decode cX3_runText 8 = .ok (.iconst 0, 1) := by decide +kernel
theorem dX3_runText_9 : decode cX3_runText 9 = .ok (.goto 4, 3) := by decide +kernel
theorem dX3_runText_12 : decode cX3_runText 12 = .ok (.iconst 1, 1) := by decide +kernel
theorem dX3_runText_13 : decode cX3_runText 13 = .ok (.invokevirtual 109, 3) := by decide +kernel
theorem dX3_runText_16 : decode cX3_runText 16 = .ok (.ifCond .ne 5, 3) := by decide +kernel
theorem dX3_runText_19 : decode cX3_runText 19 = .ok (.iconst 0, 1) := by decide +kernel
theorem dX3_runText_20 : decode cX3_runText 20 = .ok (.ireturn, 1) := by decide +kernel
theorem dX3_runText_21 : decode cX3_runText 21 = .ok (.aload_n 0, 1) := by decide +kernel
theorem dX3_runText_22 : decode cX3_runText 22 = .ok (.invokevirtual 112, 3) := by decide +kernel
theorem dX3_runText_25 : decode cX3_runText 25 = .ok (.aload_n 0, 1) := by decide +kernel
theorem dX3_runText_26 : decode cX3_runText 26 = .ok (.iconst 0, 1) := by decide +kernel
theorem dX3_runText_27 : decode cX3_runText 27 = .ok (.putfield 161, 3) := by decide +kernel
theorem dX3_runText_30 : decode cX3_runText 30 = .ok (.iconst 0, 1) := by decide +kernel
theorem dX3_runText_31 : decode cX3_runText 31 = .ok (.istore_n 1, 1) := by decide +kernel
theorem dX3_runText_32 : decode cX3_runText 32 = .ok (.aload_n 0, 1) := by decide +kernel
theorem dX3_runText_33 : decode cX3_runText 33 = .ok (.invokevirtual 189, 3) := by decide +kernel
theorem dX3_runText_36 : decode cX3_runText 36 = .ok (.ifCond .eq 35, 3) := by decide +kernel
theorem dX3_runText_39 : decode cX3_runText 39 = .ok (.aload_n 0, 1) := by decide +kernel
theorem dX3_runText_40 : decode cX3_runText 40 = .ok (.invokevirtual 196, 3) := by decide +kernel
theorem dX3_runText_43 : decode cX3_runText 43 = .ok (.ifCond .eq 28, 3) := by decide +kernel
theorem dX3_runText_46 : decode cX3_runText 46 = .ok (.iload_n 1, 1) := by decide +kernel
theorem dX3_runText_47 : decode cX3_runText 47 = .ok (.aload_n 0, 1) := by decide +kernel
theorem dX3_runText_48 : decode cX3_runText 48 = .ok (.invokevirtual 199, 3) := by decide +kernel
theorem dX3_runText_51 : decode cX3_runText 51 = .ok (.ifCond .lt 7, 3) := by decide +kernel
theorem dX3_runText_54 : decode cX3_runText 54 = .ok (.iconst 1, 1) := by decide +kernel
theorem dX3_runText_55 : decode cX3_runText 55 = .ok (.goto 4, 3) := by decide +kernel
theorem dX3_runText_58 : decode cX3_runText 58 = .ok (.iconst 0, 1) := by decide +kernel
theorem dX3_runText_59 : decode cX3_runText 59 = .ok (.iadd, 1) := by decide +kernel
theorem dX3_runText_60 : decode cX3_runText 60 = .ok (.istore_n 1, 1) := by decide +kernel
theorem dX3_runText_61 : decode cX3_runText 61 = .ok (.aload_n 0, 1) := by decide +kernel
theorem dX3_runText_62 : decode cX3_runText 62 = .ok (.bipush 59, 2) := by decide +kernel
theorem dX3_runText_64 : decode cX3_runText 64 = .ok (.invokevirtual 174, 3) := by decide +kernel
theorem dX3_runText_67 : decode cX3_runText 67 = .ok (.pop, 1) := by decide +kernel
theorem dX3_runText_68 : decode cX3_runText 68 = .ok (.goto (-36), 3) := by decide +kernel
theorem dX3_runText_71 : decode cX3_runText 71 = .ok (.iload_n 1, 1) := by decide +kernel
theorem dX3_runText_72 : decode cX3_runText 72 = .ok (.ireturn, 1) := by decide +kernel
theorem dX3_undo_0 : decode cX3_undo 0 = .ok (.aload_n 0, 1) := by decide +kernel
theorem dX3_undo_1 : decode cX3_undo 1 = .ok (.aload_n 0, 1) := by decide +kernel
theorem dX3_undo_2 : decode cX3_undo 2 = .ok (.getfield 95, 3) := by decide +kernel
theorem dX3_undo_5 : decode cX3_undo 5 = .ok (.ifCond .le 7, 3) := by decide +kernel
theorem dX3_undo_8 : decode cX3_undo 8 = .ok (.iconst 0, 1) := by decide +kernel
theorem dX3_undo_9 : decode cX3_undo 9 = .ok (.goto 4, 3) := by decide +kernel
theorem dX3_undo_12 : decode cX3_undo 12 = .ok (.iconst 1, 1) := by decide +kernel
theorem dX3_undo_13 : decode cX3_undo 13 = .ok (.invokevirtual 109, 3) := by decide +kernel
theorem dX3_undo_16 : decode cX3_undo 16 = .ok (.ifCond .ne 5, 3) := by decide +kernel
theorem dX3_undo_19 : decode cX3_undo 19 = .ok (.iconst 0, 1) := by decide +kernel
theorem dX3_undo_20 : decode cX3_undo 20 = .ok (.ireturn, 1) := by decide +kernel
theorem dX3_undo_21 : decode cX3_undo 21 = .ok (.aload_n 0, 1) := by decide +kernel
theorem dX3_undo_22 : decode cX3_undo 22 = .ok (.aload_n 0, 1) := by decide +kernel
theorem dX3_undo_23 : decode cX3_undo 23 = .ok (.getfield 95, 3) := by decide +kernel
theorem dX3_undo_26 : decode cX3_undo 26 = .ok (.iconst 0, 1) := by decide +kernel
theorem dX3_undo_27 : decode cX3_undo 27 = .ok (.invokevirtual 98, 3) := by decide +kernel
theorem dX3_undo_30 : decode cX3_undo 30 = .ok (.aload_n 0, 1) := by decide +kernel
theorem dX3_undo_31 : decode cX3_undo 31 = .ok (.dup, 1) := by decide +kernel
theorem dX3_undo_32 : decode cX3_undo 32 = .ok (.getfield 95, 3) := by decide +kernel
theorem dX3_undo_35 : decode cX3_undo 35 = .ok (.iconst 1, 1) := by decide +kernel
theorem dX3_undo_36 : decode cX3_undo 36 = .ok (.isub, 1) := by decide +kernel
theorem dX3_undo_37 : decode cX3_undo 37 = .ok (.putfield 95, 3) := by decide +kernel
theorem dX3_undo_40 : decode cX3_undo 40 = .ok (.aload_n 0, 1) := by decide +kernel
theorem dX3_undo_41 : decode cX3_undo 41 = .ok (.getfield 95, 3) := by decide +kernel
theorem dX3_undo_44 : decode cX3_undo 44 = .ok (.ireturn, 1) := by decide +kernel
theorem dX3_save_0 : decode cX3_save 0 = .ok (.aload_n 0, 1) := by decide +kernel
theorem dX3_save_1 : decode cX3_save 1 = .ok (.iload_n 1, 1) := by decide +kernel
theorem dX3_save_2 : decode cX3_save 2 = .ok (.iconst 0, 1) := by decide +kernel
theorem dX3_save_3 : decode cX3_save 3 = .ok (.iconst 1, 1) := by decide +kernel
theorem dX3_save_4 : decode cX3_save 4 = .ok (.invokestatic 24, 3) := by decide +kernel
theorem dX3_save_7 : decode cX3_save 7 = .ok (.ifCond .eq 7, 3) := by decide +kernel
theorem dX3_save_10 : decode cX3_save 10 = .ok (.iconst 0, 1) := by decide +kernel
theorem dX3_save_11 : decode cX3_save 11 = .ok (.goto 4, 3) := by decide +kernel
theorem dX3_save_14 : decode cX3_save 14 = .ok (.iconst 1, 1) := by decide +kernel
theorem dX3_save_15 : decode cX3_save 15 = .ok (.invokevirtual 109, 3) := by decide +kernel
theorem dX3_save_18 : decode cX3_save 18 = .ok (.ifCond .ne 5, 3) := by decide +kernel
theorem dX3_save_21 : decode cX3_save 21 = .ok (.iconst 0, 1) := by decide +kernel
theorem dX3_save_22 : decode cX3_save 22 = .ok (.ireturn, 1) := by decide +kernel
theorem dX3_save_23 : decode cX3_save 23 = .ok (.aload_n 0, 1) := by decide +kernel
theorem dX3_save_24 : decode cX3_save 24 = .ok (.iconst 0, 1) := by decide +kernel
theorem dX3_save_25 : decode cX3_save 25 = .ok (.bipush 7, 2) := by decide +kernel
theorem dX3_save_27 : decode cX3_save 27 = .ok (.iload_n 1, 1) := by decide +kernel
theorem dX3_save_28 : decode cX3_save 28 = .ok (.iadd, 1) := by decide +kernel
theorem dX3_save_29 : decode cX3_save 29 = .ok (.invokevirtual 98, 3) := by decide +kernel
theorem dX3_save_32 : decode cX3_save 32 = .ok (.aload_n 0, 1) := by decide +kernel
theorem dX3_save_33 : decode cX3_save 33 = .ok (.getfield 13, 3) := by decide +kernel
theorem dX3_save_36 : decode cX3_save 36 = .ok (.iload_n 1, 1) := by decide +kernel
theorem dX3_save_37 : decode cX3_save 37 = .ok (.iconst 1, 1) := by decide +kernel
theorem dX3_save_38 : decode cX3_save 38 = .ok (.bastore, 1) := by decide +kernel
theorem dX3_save_39 : decode cX3_save 39 = .ok (.aload_n 0, 1) := by decide +kernel
theorem dX3_save_40 : decode cX3_save 40 = .ok (.getfield 7, 3) := by decide +kernel
theorem dX3_save_43 : decode cX3_save 43 = .ok (.iconst 0, 1) := by decide +kernel
theorem dX3_save_44 : decode cX3_save 44 = .ok (.iaload, 1) := by decide +kernel
theorem dX3_save_45 : decode cX3_save 45 = .ok (.ireturn, 1) := by decide +kernel
theorem dX3_restore_0 : decode cX3_restore 0 = .ok (.aload_n 0, 1) := by decide +kernel
theorem dX3_restore_1 : decode cX3_restore 1 = .ok (.iload_n 1, 1) := by decide +kernel
theorem dX3_restore_2 : decode cX3_restore 2 = .ok (.iconst 0, 1) := by decide +kernel
theorem dX3_restore_3 : decode cX3_restore 3 = .ok (.iconst 1, 1) := by decide +kernel
theorem dX3_restore_4 : decode cX3_restore 4 = .ok (.invokestatic 24, 3) := by decide +kernel
theorem dX3_restore_7 : decode cX3_restore 7 = .ok (.ifCond .ne 7, 3) := by decide +kernel
theorem dX3_restore_10 : decode cX3_restore 10 = .ok (.iconst 1, 1) := by decide +kernel
theorem dX3_restore_11 : decode cX3_restore 11 = .ok (.goto 17, 3) := by decide +kernel
theorem dX3_restore_14 : decode cX3_restore 14 = .ok (.aload_n 0, 1) := by decide +kernel
theorem dX3_restore_15 : decode cX3_restore 15 = .ok (.getfield 13, 3) := by decide +kernel
theorem dX3_restore_18 : decode cX3_restore 18 = .ok (.iload_n 1, 1) := by decide +kernel
theorem dX3_restore_19 : decode cX3_restore 19 = .ok (.baload, 1) := by decide +kernel
theorem dX3_restore_20 : decode cX3_restore 20 = .ok (.ifCond .ne 7, 3) := by decide +kernel
theorem dX3_restore_23 : decode cX3_restore 23 = .ok (.iconst 2, 1) := by decide +kernel
theorem dX3_restore_24 : decode cX3_restore 24 = .ok (.goto 4, 3) := by decide +kernel
theorem dX3_restore_27 : decode cX3_restore 27 = .ok (.iconst 0, 1) := by decide +kernel
theorem dX3_restore_28 : decode cX3_restore 28 = .ok (.invokevirtual 109, 3) := by decide +kernel
theorem dX3_restore_31 : decode cX3_restore 31 = .ok (.ifCond .ne 5, 3) := by decide +kernel
theorem dX3_restore_34 : decode cX3_restore 34 = .ok (.iconst 0, 1) := by decide +kernel
theorem dX3_restore_35 : decode cX3_restore 35 = .ok (.ireturn, 1) := by decide +kernel
theorem dX3_restore_36 : decode cX3_restore 36 = .ok (.aload_n 0, 1) := by decide +kernel
theorem dX3_restore_37 : decode cX3_restore 37 = .ok (.invokevirtual 112, 3) := by decide +kernel
theorem dX3_restore_40 : decode cX3_restore 40 = .ok (.aload_n 0, 1) := by decide +kernel
theorem dX3_restore_41 : decode cX3_restore 41 = .ok (.bipush 7, 2) := by decide +kernel
theorem dX3_restore_43 : decode cX3_restore 43 = .ok (.iload_n 1, 1) := by decide +kernel
theorem dX3_restore_44 : decode cX3_restore 44 = .ok (.iadd, 1) := by decide +kernel
theorem dX3_restore_45 : decode cX3_restore 45 = .ok (.iconst 0, 1) := by decide +kernel
theorem dX3_restore_46 : decode cX3_restore 46 = .ok (.invokevirtual 98, 3) := by decide +kernel
theorem dX3_restore_49 : decode cX3_restore 49 = .ok (.aload_n 0, 1) := by decide +kernel
theorem dX3_restore_50 : decode cX3_restore 50 = .ok (.getfield 7, 3) := by decide +kernel
theorem dX3_restore_53 : decode cX3_restore 53 = .ok (.iconst 0, 1) := by decide +kernel
theorem dX3_restore_54 : decode cX3_restore 54 = .ok (.iaload, 1) := by decide +kernel
theorem dX3_restore_55 : decode cX3_restore 55 = .ok (.ireturn, 1) := by decide +kernel
theorem dX3_status_0 : decode cX3_status 0 = .ok (.aload_n 0, 1) := by decide +kernel
theorem dX3_status_1 : decode cX3_status 1 = .ok (.iload_n 1, 1) := by decide +kernel
theorem dX3_status_2 : decode cX3_status 2 = .ok (.invokestatic 102, 3) := by decide +kernel
theorem dX3_status_5 : decode cX3_status 5 = .ok (.ifCond .eq 7, 3) := by decide +kernel
theorem dX3_status_8 : decode cX3_status 8 = .ok (.iconst 0, 1) := by decide +kernel
theorem dX3_status_9 : decode cX3_status 9 = .ok (.goto 4, 3) := by decide +kernel
theorem dX3_status_12 : decode cX3_status 12 = .ok (.iconst 1, 1) := by decide +kernel
theorem dX3_status_13 : decode cX3_status 13 = .ok (.invokevirtual 109, 3) := by decide +kernel
theorem dX3_status_16 : decode cX3_status 16 = .ok (.ifCond .ne 5, 3) := by decide +kernel
theorem dX3_status_19 : decode cX3_status 19 = .ok (.iconst 0, 1) := by decide +kernel
theorem dX3_status_20 : decode cX3_status 20 = .ok (.ireturn, 1) := by decide +kernel
theorem dX3_status_21 : decode cX3_status 21 = .ok (.aload_n 0, 1) := by decide +kernel
theorem dX3_status_22 : decode cX3_status 22 = .ok (.iconst 0, 1) := by decide +kernel
theorem dX3_status_23 : decode cX3_status 23 = .ok (.iload_n 1, 1) := by decide +kernel
theorem dX3_status_24 : decode cX3_status 24 = .ok (.invokevirtual 28, 3) := by decide +kernel
theorem dX3_status_27 : decode cX3_status 27 = .ok (.ifCond .eq 12, 3) := by decide +kernel
theorem dX3_status_30 : decode cX3_status 30 = .ok (.aload_n 0, 1) := by decide +kernel
theorem dX3_status_31 : decode cX3_status 31 = .ok (.iconst 0, 1) := by decide +kernel
theorem dX3_status_32 : decode cX3_status 32 = .ok (.iload_n 1, 1) := by decide +kernel
theorem dX3_status_33 : decode cX3_status 33 = .ok (.invokevirtual 59, 3) := by decide +kernel
theorem dX3_status_36 : decode cX3_status 36 = .ok (.goto 4, 3) := by decide +kernel
theorem dX3_status_39 : decode cX3_status 39 = .ok (.iconst (-1), 1) := by decide +kernel
theorem dX3_status_40 : decode cX3_status 40 = .ok (.ireturn, 1) := by decide +kernel
theorem dX3_copies_0 : decode cX3_copies 0 = .ok (.aload_n 0, 1) := by decide +kernel
theorem dX3_copies_1 : decode cX3_copies 1 = .ok (.iload_n 1, 1) := by decide +kernel
theorem dX3_copies_2 : decode cX3_copies 2 = .ok (.invokestatic 102, 3) := by decide +kernel
theorem dX3_copies_5 : decode cX3_copies 5 = .ok (.ifCond .eq 7, 3) := by decide +kernel
theorem dX3_copies_8 : decode cX3_copies 8 = .ok (.iconst 0, 1) := by decide +kernel
theorem dX3_copies_9 : decode cX3_copies 9 = .ok (.goto 4, 3) := by decide +kernel
theorem dX3_copies_12 : decode cX3_copies 12 = .ok (.iconst 1, 1) := by decide +kernel
theorem dX3_copies_13 : decode cX3_copies 13 = .ok (.invokevirtual 109, 3) := by decide +kernel
theorem dX3_copies_16 : decode cX3_copies 16 = .ok (.ifCond .eq 12, 3) := by decide +kernel
theorem dX3_copies_19 : decode cX3_copies 19 = .ok (.aload_n 0, 1) := by decide +kernel
theorem dX3_copies_20 : decode cX3_copies 20 = .ok (.iconst 0, 1) := by decide +kernel
theorem dX3_copies_21 : decode cX3_copies 21 = .ok (.iload_n 1, 1) := by decide +kernel
theorem dX3_copies_22 : decode cX3_copies 22 = .ok (.invokevirtual 49, 3) := by decide +kernel
theorem dX3_copies_25 : decode cX3_copies 25 = .ok (.goto 4, 3) := by decide +kernel
theorem dX3_copies_28 : decode cX3_copies 28 = .ok (.iconst 0, 1) := by decide +kernel
theorem dX3_copies_29 : decode cX3_copies 29 = .ok (.ireturn, 1) := by decide +kernel
theorem dX3_countStatus_0 : decode cX3_countStatus 0 = .ok (.aload_n 0, 1) := by decide +kernel
theorem dX3_countStatus_1 : decode cX3_countStatus 1 = .ok (.iload_n 1, 1) := by decide +kernel
theorem dX3_countStatus_2 : decode cX3_countStatus 2 = .ok (.iconst 0, 1) := by decide +kernel
theorem dX3_countStatus_3 : decode cX3_countStatus 3 = .ok (.iconst 2, 1) := by decide +kernel
theorem dX3_countStatus_4 : decode cX3_countStatus 4 = .ok (.invokestatic 24, 3) := by decide +kernel
theorem dX3_countStatus_7 : decode cX3_countStatus 7 = .ok (.ifCond .ne 9, 3) := by decide +kernel
theorem dX3_countStatus_10 : decode cX3_countStatus 10 = .ok (.iload_n 1, 1) := by decide +kernel
theorem dX3_countStatus_11 : decode cX3_countStatus 11 = .ok (.bipush (-2), 2) := by decide +kernel
theorem dX3_countStatus_13 : decode cX3_countStatus 13 = .ok (.if_icmp .ne 7, 3) := by decide +kernel
theorem dX3_countStatus_16 : decode cX3_countStatus 16 = .ok (.iconst 0, 1) := by decide +kernel
theorem dX3_countStatus_17 : decode cX3_countStatus 17 = .ok (.goto 4, 3) := by decide +kernel
theorem dX3_countStatus_20 : decode cX3_countStatus 20 = .ok (.iconst 1, 1) := by decide +kernel
theorem dX3_countStatus_21 : decode cX3_countStatus 21 = .ok (.invokevirtual 109, 3) := by decide +kernel
theorem dX3_countStatus_24 : decode cX3_countStatus 24 = .ok (.ifCond .eq 12, 3) := by decide +kernel
theorem dX3_countStatus_27 : decode cX3_countStatus 27 = .ok (.aload_n 0, 1) := by decide +kernel
theorem dX3_countStatus_28 : decode cX3_countStatus 28 = .ok (.iconst 0, 1) := by decide +kernel
theorem dX3_countStatus_29 : decode cX3_countStatus 29 = .ok (.iload_n 1, 1) := by decide +kernel
theorem dX3_countStatus_30 : decode cX3_countStatus 30 = .ok (.invokevirtual 202, 3) := by decide +kernel
theorem dX3_countStatus_33 : decode cX3_countStatus 33 = .ok (.goto 4, 3) := by decide +kernel
theorem dX3_countStatus_36 : decode cX3_countStatus 36 = .ok (.iconst 0, 1) := by decide +kernel
theorem dX3_countStatus_37 : decode cX3_countStatus 37 = .ok (.ireturn, 1) := by decide +kernel
theorem dX3_mode_0 : decode cX3_mode 0 = .ok (.aload_n 0, 1) := by decide +kernel
theorem dX3_mode_1 : decode cX3_mode 1 = .ok (.iload_n 1, 1) := by decide +kernel
theorem dX3_mode_2 : decode cX3_mode 2 = .ok (.invokestatic 127, 3) := by decide +kernel
theorem dX3_mode_5 : decode cX3_mode 5 = .ok (.ifCond .eq 7, 3) := by decide +kernel
theorem dX3_mode_8 : decode cX3_mode 8 = .ok (.iconst 0, 1) := by decide +kernel
theorem dX3_mode_9 : decode cX3_mode 9 = .ok (.goto 4, 3) := by decide +kernel
theorem dX3_mode_12 : decode cX3_mode 12 = .ok (.iconst 1, 1) := by decide +kernel
theorem dX3_mode_13 : decode cX3_mode 13 = .ok (.invokevirtual 109, 3) := by decide +kernel
theorem dX3_mode_16 : decode cX3_mode 16 = .ok (.ifCond .eq 13, 3) := by decide +kernel
theorem dX3_mode_19 : decode cX3_mode 19 = .ok (.aload_n 0, 1) := by decide +kernel
theorem dX3_mode_20 : decode cX3_mode 20 = .ok (.iconst 0, 1) := by decide +kernel
theorem dX3_mode_21 : decode cX3_mode 21 = .ok (.iload_n 1, 1) := by decide +kernel
theorem dX3_mode_22 : decode cX3_mode 22 = .ok (.iconst 0, 1) := by decide +kernel
theorem dX3_mode_23 : decode cX3_mode 23 = .ok (.invokevirtual 36, 3) := by decide +kernel
theorem dX3_mode_26 : decode cX3_mode 26 = .ok (.goto 4, 3) := by decide +kernel
theorem dX3_mode_29 : decode cX3_mode 29 = .ok (.iconst 0, 1) := by decide +kernel
theorem dX3_mode_30 : decode cX3_mode 30 = .ok (.ireturn, 1) := by decide +kernel
theorem dX3_isConnected_0 : decode cX3_isConnected 0 = .ok (.aload_n 0, 1) := by decide +kernel
theorem dX3_isConnected_1 : decode cX3_isConnected 1 = .ok (.iload_n 1, 1) := by decide +kernel
theorem dX3_isConnected_2 : decode cX3_isConnected 2 = .ok (.invokestatic 127, 3) := by decide +kernel
theorem dX3_isConnected_5 : decode cX3_isConnected 5 = .ok (.ifCond .eq 7, 3) := by decide +kernel
theorem dX3_isConnected_8 : decode cX3_isConnected 8 = .ok (.iconst 0, 1) := by decide +kernel
theorem dX3_isConnected_9 : decode cX3_isConnected 9 = .ok (.goto 4, 3) := by decide +kernel
theorem dX3_isConnected_12 : decode cX3_isConnected 12 = .ok (.iconst 1, 1) := by decide +kernel
theorem dX3_isConnected_13 : decode cX3_isConnected 13 = .ok (.invokevirtual 109, 3) := by decide +kernel
theorem dX3_isConnected_16 : decode cX3_isConnected 16 = .ok (.ifCond .eq 18, 3) := by decide +kernel
theorem dX3_isConnected_19 : decode cX3_isConnected 19 = .ok (.aload_n 0, 1) := by decide +kernel
theorem dX3_isConnected_20 : decode cX3_isConnected 20 = .ok (.iconst 0, 1) := by decide +kernel
theorem dX3_isConnected_21 : decode cX3_isConnected 21 = .ok (.iload_n 1, 1) := by decide +kernel
theorem dX3_isConnected_22 : decode cX3_isConnected 22 = .ok (.iconst 1, 1) := by decide +kernel
theorem dX3_isConnected_23 : decode cX3_isConnected 23 = .ok (.invokevirtual 36, 3) := by decide +kernel
theorem dX3_isConnected_26 : decode cX3_isConnected 26 = .ok (.iconst 1, 1) := by decide +kernel
theorem dX3_isConnected_27 : decode cX3_isConnected 27 = .ok (.if_icmp .ne 7, 3) := by decide +kernel
theorem dX3_isConnected_30 : decode cX3_isConnected 30 = .ok (.iconst 1, 1) := by decide +kernel
theorem dX3_isConnected_31 : decode cX3_isConnected 31 = .ok (.goto 4, 3) := by decide +kernel
theorem dX3_isConnected_34 : decode cX3_isConnected 34 = .ok (.iconst 0, 1) := by decide +kernel
theorem dX3_isConnected_35 : decode cX3_isConnected 35 = .ok (.ireturn, 1) := by decide +kernel
theorem dX3_usedRoom_0 : decode cX3_usedRoom 0 = .ok (.aload_n 0, 1) := by decide +kernel
theorem dX3_usedRoom_1 : decode cX3_usedRoom 1 = .ok (.iload_n 1, 1) := by decide +kernel
theorem dX3_usedRoom_2 : decode cX3_usedRoom 2 = .ok (.invokestatic 127, 3) := by decide +kernel
theorem dX3_usedRoom_5 : decode cX3_usedRoom 5 = .ok (.ifCond .eq 7, 3) := by decide +kernel
theorem dX3_usedRoom_8 : decode cX3_usedRoom 8 = .ok (.iconst 0, 1) := by decide +kernel
theorem dX3_usedRoom_9 : decode cX3_usedRoom 9 = .ok (.goto 4, 3) := by decide +kernel
theorem dX3_usedRoom_12 : decode cX3_usedRoom 12 = .ok (.iconst 1, 1) := by decide +kernel
theorem dX3_usedRoom_13 : decode cX3_usedRoom 13 = .ok (.invokevirtual 109, 3) := by decide +kernel
theorem dX3_usedRoom_16 : decode cX3_usedRoom 16 = .ok (.ifCond .eq 12, 3) := by decide +kernel
theorem dX3_usedRoom_19 : decode cX3_usedRoom 19 = .ok (.aload_n 0, 1) := by decide +kernel
theorem dX3_usedRoom_20 : decode cX3_usedRoom 20 = .ok (.iconst 0, 1) := by decide +kernel
theorem dX3_usedRoom_21 : decode cX3_usedRoom 21 = .ok (.iload_n 1, 1) := by decide +kernel
theorem dX3_usedRoom_22 : decode cX3_usedRoom 22 = .ok (.invokevirtual 43, 3) := by decide +kernel
theorem dX3_usedRoom_25 : decode cX3_usedRoom 25 = .ok (.goto 4, 3) := by decide +kernel
theorem dX3_usedRoom_28 : decode cX3_usedRoom 28 = .ok (.iconst 0, 1) := by decide +kernel
theorem dX3_usedRoom_29 : decode cX3_usedRoom 29 = .ok (.ireturn, 1) := by decide +kernel
theorem dX3_freeRoom_0 : decode cX3_freeRoom 0 = .ok (.aload_n 0, 1) := by decide +kernel
theorem dX3_freeRoom_1 : decode cX3_freeRoom 1 = .ok (.iload_n 1, 1) := by decide +kernel
theorem dX3_freeRoom_2 : decode cX3_freeRoom 2 = .ok (.invokestatic 127, 3) := by decide +kernel
theorem dX3_freeRoom_5 : decode cX3_freeRoom 5 = .ok (.ifCond .eq 7, 3) := by decide +kernel
theorem dX3_freeRoom_8 : decode cX3_freeRoom 8 = .ok (.iconst 0, 1) := by decide +kernel
theorem dX3_freeRoom_9 : decode cX3_freeRoom 9 = .ok (.goto 4, 3) := by decide +kernel
theorem dX3_freeRoom_12 : decode cX3_freeRoom 12 = .ok (.iconst 1, 1) := by decide +kernel
theorem dX3_freeRoom_13 : decode cX3_freeRoom 13 = .ok (.invokevirtual 109, 3) := by decide +kernel
theorem dX3_freeRoom_16 : decode cX3_freeRoom 16 = .ok (.ifCond .eq 12, 3) := by decide +kernel
theorem dX3_freeRoom_19 : decode cX3_freeRoom 19 = .ok (.aload_n 0, 1) := by decide +kernel
theorem dX3_freeRoom_20 : decode cX3_freeRoom 20 = .ok (.iconst 0, 1) := by decide +kernel
theorem dX3_freeRoom_21 : decode cX3_freeRoom 21 = .ok (.iload_n 1, 1) := by decide +kernel
theorem dX3_freeRoom_22 : decode cX3_freeRoom 22 = .ok (.invokevirtual 46, 3) := by decide +kernel
theorem dX3_freeRoom_25 : decode cX3_freeRoom 25 = .ok (.goto 4, 3) := by decide +kernel
theorem dX3_freeRoom_28 : decode cX3_freeRoom 28 = .ok (.iconst 0, 1) := by decide +kernel
theorem dX3_freeRoom_29 : decode cX3_freeRoom 29 = .ok (.ireturn, 1) := by decide +kernel
theorem dX3_deadlineIn_0 : decode cX3_deadlineIn 0 = .ok (.aload_n 0, 1) := by decide +kernel
theorem dX3_deadlineIn_1 : decode cX3_deadlineIn 1 = .ok (.iload_n 1, 1) := by decide +kernel
theorem dX3_deadlineIn_2 : decode cX3_deadlineIn 2 = .ok (.invokestatic 127, 3) := by decide +kernel
theorem dX3_deadlineIn_5 : decode cX3_deadlineIn 5 = .ok (.ifCond .eq 7, 3) := by decide +kernel
theorem dX3_deadlineIn_8 : decode cX3_deadlineIn 8 = .ok (.iconst 0, 1) := by decide +kernel
theorem dX3_deadlineIn_9 : decode cX3_deadlineIn 9 = .ok (.goto 4, 3) := by decide +kernel
theorem dX3_deadlineIn_12 : decode cX3_deadlineIn 12 = .ok (.iconst 1, 1) := by decide +kernel
theorem dX3_deadlineIn_13 : decode cX3_deadlineIn 13 = .ok (.invokevirtual 109, 3) := by decide +kernel
theorem dX3_deadlineIn_16 : decode cX3_deadlineIn 16 = .ok (.ifCond .ne 5, 3) := by decide +kernel
theorem dX3_deadlineIn_19 : decode cX3_deadlineIn 19 = .ok (.iconst 0, 1) := by decide +kernel
theorem dX3_deadlineIn_20 : decode cX3_deadlineIn 20 = .ok (.ireturn, 1) := by decide +kernel
theorem dX3_deadlineIn_21 : decode cX3_deadlineIn 21 = .ok (.aload_n 0, 1) := by decide +kernel
theorem dX3_deadlineIn_22 : decode cX3_deadlineIn 22 = .ok (.iconst 0, 1) := by decide +kernel
theorem dX3_deadlineIn_23 : decode cX3_deadlineIn 23 = .ok (.iload_n 1, 1) := by decide +kernel
theorem dX3_deadlineIn_24 : decode cX3_deadlineIn 24 = .ok (.iconst 0, 1) := by decide +kernel
theorem dX3_deadlineIn_25 : decode cX3_deadlineIn 25 = .ok (.invokevirtual 36, 3) := by decide +kernel
theorem dX3_deadlineIn_28 : decode cX3_deadlineIn 28 = .ok (.iconst 2, 1) := by decide +kernel
theorem dX3_deadlineIn_29 : decode cX3_deadlineIn 29 = .ok (.if_icmp .ne 20, 3) := by decide +kernel
theorem dX3_deadlineIn_32 : decode cX3_deadlineIn 32 = .ok (.aload_n 0, 1) := by decide +kernel
theorem dX3_deadlineIn_33 : decode cX3_deadlineIn 33 = .ok (.iconst 0, 1) := by decide +kernel
theorem dX3_deadlineIn_34 : decode cX3_deadlineIn 34 = .ok (.iload_n 1, 1) := by decide +kernel
theorem dX3_deadlineIn_35 : decode cX3_deadlineIn 35 = .ok (.iconst 3, 1) := by decide +kernel
theorem dX3_deadlineIn_36 : decode cX3_deadlineIn 36 = .ok (.invokevirtual 36, 3) := by decide +kernel
theorem dX3_deadlineIn_39 : decode cX3_deadlineIn 39 = .ok (.aload_n 0, 1) := by decide +kernel
theorem dX3_deadlineIn_40 : decode cX3_deadlineIn 40 = .ok (.getfield 7, 3) := by decide +kernel
theorem dX3_deadlineIn_43 : decode cX3_deadlineIn 43 = .ok (.iconst 0, 1) := by decide +kernel
theorem dX3_deadlineIn_44 : decode cX3_deadlineIn 44 = .ok (.iaload, 1) := by decide +kernel
theorem dX3_deadlineIn_45 : decode cX3_deadlineIn 45 = .ok (.isub, 1) := by decide +kernel
theorem dX3_deadlineIn_46 : decode cX3_deadlineIn 46 = .ok (.goto 4, 3) := by decide +kernel
theorem dX3_deadlineIn_49 : decode cX3_deadlineIn 49 = .ok (.iconst (-1), 1) := by decide +kernel
theorem dX3_deadlineIn_50 : decode cX3_deadlineIn 50 = .ok (.ireturn, 1) := by decide +kernel
theorem dX3_replica_0 : decode cX3_replica 0 = .ok (.aload_n 0, 1) := by decide +kernel
theorem dX3_replica_1 : decode cX3_replica 1 = .ok (.iload_n 1, 1) := by decide +kernel
theorem dX3_replica_2 : decode cX3_replica 2 = .ok (.invokestatic 127, 3) := by decide +kernel
theorem dX3_replica_5 : decode cX3_replica 5 = .ok (.ifCond .eq 14, 3) := by decide +kernel
theorem dX3_replica_8 : decode cX3_replica 8 = .ok (.iload_n 2, 1) := by decide +kernel
theorem dX3_replica_9 : decode cX3_replica 9 = .ok (.invokestatic 102, 3) := by decide +kernel
theorem dX3_replica_12 : decode cX3_replica 12 = .ok (.ifCond .eq 7, 3) := by decide +kernel
theorem dX3_replica_15 : decode cX3_replica 15 = .ok (.iconst 0, 1) := by decide +kernel
theorem dX3_replica_16 : decode cX3_replica 16 = .ok (.goto 4, 3) := by decide +kernel
theorem dX3_replica_19 : decode cX3_replica 19 = .ok (.iconst 1, 1) := by decide +kernel
theorem dX3_replica_20 : decode cX3_replica 20 = .ok (.invokevirtual 109, 3) := by decide +kernel
theorem dX3_replica_23 : decode cX3_replica 23 = .ok (.ifCond .ne 5, 3) := by decide +kernel
theorem dX3_replica_26 : decode cX3_replica 26 = .ok (.iconst 0, 1) := by decide +kernel
theorem dX3_replica_27 : decode cX3_replica 27 = .ok (.ireturn, 1) := by decide +kernel
theorem dX3_replica_28 : decode cX3_replica 28 = .ok (.aload_n 0, 1) := by decide +kernel
theorem dX3_replica_29 : decode cX3_replica 29 = .ok (.iconst 0, 1) := by decide +kernel
theorem dX3_replica_30 : decode cX3_replica 30 = .ok (.iload_n 1, 1) := by decide +kernel
theorem dX3_replica_31 : decode cX3_replica 31 = .ok (.iload_n 2, 1) := by decide +kernel
theorem dX3_replica_32 : decode cX3_replica 32 = .ok (.invokevirtual 32, 3) := by decide +kernel
theorem dX3_replica_35 : decode cX3_replica 35 = .ok (.ifCond .ne 7, 3) := by decide +kernel
theorem dX3_replica_38 : decode cX3_replica 38 = .ok (.iconst 0, 1) := by decide +kernel
theorem dX3_replica_39 : decode cX3_replica 39 = .ok (.goto 18, 3) := by decide +kernel
theorem dX3_replica_42 : decode cX3_replica 42 = .ok (.aload_n 0, 1) := by decide +kernel
theorem dX3_replica_43 : decode cX3_replica 43 = .ok (.iconst 0, 1) := by decide +kernel
theorem dX3_replica_44 : decode cX3_replica 44 = .ok (.iload_n 1, 1) := by decide +kernel
theorem dX3_replica_45 : decode cX3_replica 45 = .ok (.iload_n 2, 1) := by decide +kernel
theorem dX3_replica_46 : decode cX3_replica 46 = .ok (.invokevirtual 56, 3) := by decide +kernel
theorem dX3_replica_49 : decode cX3_replica 49 = .ok (.ifCond .eq 7, 3) := by decide +kernel
theorem dX3_replica_52 : decode cX3_replica 52 = .ok (.iconst 1, 1) := by decide +kernel
theorem dX3_replica_53 : decode cX3_replica 53 = .ok (.goto 4, 3) := by decide +kernel
theorem dX3_replica_56 : decode cX3_replica 56 = .ok (.iconst 2, 1) := by decide +kernel
theorem dX3_replica_57 : decode cX3_replica 57 = .ok (.ireturn, 1) := by decide +kernel
theorem dX3_transfer_0 : decode cX3_transfer 0 = .ok (.aload_n 0, 1) := by decide +kernel
theorem dX3_transfer_1 : decode cX3_transfer 1 = .ok (.iload_n 1, 1) := by decide +kernel
theorem dX3_transfer_2 : decode cX3_transfer 2 = .ok (.iconst 0, 1) := by decide +kernel
theorem dX3_transfer_3 : decode cX3_transfer 3 = .ok (.iconst 3, 1) := by decide +kernel
theorem dX3_transfer_4 : decode cX3_transfer 4 = .ok (.invokestatic 24, 3) := by decide +kernel
theorem dX3_transfer_7 : decode cX3_transfer 7 = .ok (.ifCond .eq 7, 3) := by decide +kernel
theorem dX3_transfer_10 : decode cX3_transfer 10 = .ok (.iconst 0, 1) := by decide +kernel
theorem dX3_transfer_11 : decode cX3_transfer 11 = .ok (.goto 4, 3) := by decide +kernel
theorem dX3_transfer_14 : decode cX3_transfer 14 = .ok (.iconst 1, 1) := by decide +kernel
theorem dX3_transfer_15 : decode cX3_transfer 15 = .ok (.invokevirtual 109, 3) := by decide +kernel
theorem dX3_transfer_18 : decode cX3_transfer 18 = .ok (.ifCond .ne 5, 3) := by decide +kernel
theorem dX3_transfer_21 : decode cX3_transfer 21 = .ok (.iconst 0, 1) := by decide +kernel
theorem dX3_transfer_22 : decode cX3_transfer 22 = .ok (.ireturn, 1) := by decide +kernel
theorem dX3_transfer_23 : decode cX3_transfer 23 = .ok (.aload_n 0, 1) := by decide +kernel
theorem dX3_transfer_24 : decode cX3_transfer 24 = .ok (.getfield 7, 3) := by decide +kernel
theorem dX3_transfer_27 : decode cX3_transfer 27 = .ok (.iconst 4, 1) := by decide +kernel
theorem dX3_transfer_28 : decode cX3_transfer 28 = .ok (.iaload, 1) := by decide +kernel
theorem dX3_transfer_29 : decode cX3_transfer 29 = .ok (.iconst (-1), 1) := by decide +kernel
theorem dX3_transfer_30 : decode cX3_transfer 30 = .ok (.if_icmp .ne 7, 3) := by decide +kernel
theorem dX3_transfer_33 : decode cX3_transfer 33 = .ok (.iconst (-1), 1) := by decide +kernel
theorem dX3_transfer_34 : decode cX3_transfer 34 = .ok (.goto 33, 3) := by decide +kernel
theorem dX3_transfer_37 : decode cX3_transfer 37 = .ok (.iload_n 1, 1) := by decide +kernel
theorem dX3_transfer_38 : decode cX3_transfer 38 = .ok (.iconst 3, 1) := by decide +kernel
theorem dX3_transfer_39 : decode cX3_transfer 39 = .ok (.if_icmp .ne 20, 3) := by decide +kernel
theorem dX3_transfer_42 : decode cX3_transfer 42 = .ok (.aload_n 0, 1) := by decide +kernel
theorem dX3_transfer_43 : decode cX3_transfer 43 = .ok (.getfield 7, 3) := by decide +kernel
theorem dX3_transfer_46 : decode cX3_transfer 46 = .ok (.bipush 7, 2) := by decide +kernel
theorem dX3_transfer_48 : decode cX3_transfer 48 = .ok (.iaload, 1) := by decide +kernel
theorem dX3_transfer_49 : decode cX3_transfer 49 = .ok (.aload_n 0, 1) := by decide +kernel
theorem dX3_transfer_50 : decode cX3_transfer 50 = .ok (.getfield 7, 3) := by decide +kernel
theorem dX3_transfer_53 : decode cX3_transfer 53 = .ok (.iconst 0, 1) := by decide +kernel
theorem dX3_transfer_54 : decode cX3_transfer 54 = .ok (.iaload, 1) := by decide +kernel
theorem dX3_transfer_55 : decode cX3_transfer 55 = .ok (.isub, 1) := by decide +kernel
theorem dX3_transfer_56 : decode cX3_transfer 56 = .ok (.goto 11, 3) := by decide +kernel
theorem dX3_transfer_59 : decode cX3_transfer 59 = .ok (.aload_n 0, 1) := by decide +kernel
theorem dX3_transfer_60 : decode cX3_transfer 60 = .ok (.getfield 7, 3) := by decide +kernel
theorem dX3_transfer_63 : decode cX3_transfer 63 = .ok (.iconst 4, 1) := by decide +kernel
theorem dX3_transfer_64 : decode cX3_transfer 64 = .ok (.iload_n 1, 1) := by decide +kernel
theorem dX3_transfer_65 : decode cX3_transfer 65 = .ok (.iadd, 1) := by decide +kernel
theorem dX3_transfer_66 : decode cX3_transfer 66 = .ok (.iaload, 1) := by decide +kernel
theorem dX3_transfer_67 : decode cX3_transfer 67 = .ok (.ireturn, 1) := by decide +kernel
theorem dX3_completedTransfers_0 : decode cX3_completedTransfers 0 = .ok (.aload_n 0, 1) := by decide +kernel
theorem dX3_completedTransfers_1 : decode cX3_completedTransfers 1 = .ok (.iconst 0, 1) := by decide +kernel
theorem dX3_completedTransfers_2 : decode cX3_completedTransfers 2 = .ok (.putfield 20, 3) := by decide +kernel
theorem dX3_completedTransfers_5 : decode cX3_completedTransfers 5 = .ok (.aload_n 0, 1) := by decide +kernel
theorem dX3_completedTransfers_6 : decode cX3_completedTransfers 6 = .ok (.getfield 7, 3) := by decide +kernel
theorem dX3_completedTransfers_9 : decode cX3_completedTransfers 9 = .ok (.iconst 3, 1) := by decide +kernel
theorem dX3_completedTransfers_10 : decode cX3_completedTransfers 10 = .ok (.iaload, 1) := by decide +kernel
theorem dX3_completedTransfers_11 : decode cX3_completedTransfers 11 = .ok (.ireturn, 1) := by decide +kernel
theorem dX3_time_0 : decode cX3_time 0 = .ok (.aload_n 0, 1) := by decide +kernel
theorem dX3_time_1 : decode cX3_time 1 = .ok (.iconst 0, 1) := by decide +kernel
theorem dX3_time_2 : decode cX3_time 2 = .ok (.putfield 20, 3) := by decide +kernel
theorem dX3_time_5 : decode cX3_time 5 = .ok (.aload_n 0, 1) := by decide +kernel
theorem dX3_time_6 : decode cX3_time 6 = .ok (.getfield 7, 3) := by decide +kernel
theorem dX3_time_9 : decode cX3_time 9 = .ok (.iconst 0, 1) := by decide +kernel
theorem dX3_time_10 : decode cX3_time 10 = .ok (.iaload, 1) := by decide +kernel
theorem dX3_time_11 : decode cX3_time 11 = .ok (.ireturn, 1) := by decide +kernel
theorem dX3_lostBy_0 : decode cX3_lostBy 0 = .ok (.iconst 0, 1) := by decide +kernel
theorem dX3_lostBy_1 : decode cX3_lostBy 1 = .ok (.istore_n 2, 1) := by decide +kernel
theorem dX3_lostBy_2 : decode cX3_lostBy 2 = .ok (.iconst 0, 1) := by decide +kernel
theorem dX3_lostBy_3 : decode cX3_lostBy 3 = .ok (.istore_n 3, 1) := by decide +kernel
theorem dX3_lostBy_4 : decode cX3_lostBy 4 = .ok (.iload_n 3, 1) := by decide +kernel
theorem dX3_lostBy_5 : decode cX3_lostBy 5 = .ok (.bipush 30, 2) := by decide +kernel
theorem dX3_lostBy_7 : decode cX3_lostBy 7 = .ok (.if_icmp .ge 74, 3) := by decide +kernel
theorem dX3_lostBy_10 : decode cX3_lostBy 10 = .ok (.iconst 0, 1) := by decide +kernel
theorem dX3_lostBy_11 : decode cX3_lostBy 11 = .ok (.istore 4, 2) := by decide +kernel
theorem dX3_lostBy_13 : decode cX3_lostBy 13 = .ok (.iconst 0, 1) := by decide +kernel
theorem dX3_lostBy_14 : decode cX3_lostBy 14 = .ok (.istore 5, 2) := by decide +kernel
theorem dX3_lostBy_16 : decode cX3_lostBy 16 = .ok (.iload 5, 2) := by decide +kernel
theorem dX3_lostBy_18 : decode cX3_lostBy 18 = .ok (.bipush 6, 2) := by decide +kernel
theorem dX3_lostBy_20 : decode cX3_lostBy 20 = .ok (.if_icmp .ge 33, 3) := by decide +kernel
theorem dX3_lostBy_23 : decode cX3_lostBy 23 = .ok (.iload 4, 2) := by decide +kernel
theorem dX3_lostBy_25 : decode cX3_lostBy 25 = .ok (.aload_n 0, 1) := by decide +kernel
theorem dX3_lostBy_26 : decode cX3_lostBy 26 = .ok (.iconst 0, 1) := by decide +kernel
theorem dX3_lostBy_27 : decode cX3_lostBy 27 = .ok (.iload 5, 2) := by decide +kernel
theorem dX3_lostBy_29 : decode cX3_lostBy 29 = .ok (.iload_n 3, 1) := by decide +kernel
theorem dX3_lostBy_30 : decode cX3_lostBy 30 = .ok (.invokevirtual 56, 3) := by decide +kernel
theorem dX3_lostBy_33 : decode cX3_lostBy 33 = .ok (.ifCond .eq 10, 3) := by decide +kernel
theorem dX3_lostBy_36 : decode cX3_lostBy 36 = .ok (.iconst 1, 1) := by decide +kernel
theorem dX3_lostBy_37 : decode cX3_lostBy 37 = .ok (.iload 5, 2) := by decide +kernel
theorem dX3_lostBy_39 : decode cX3_lostBy 39 = .ok (.ishl, 1) := by decide +kernel
theorem dX3_lostBy_40 : decode cX3_lostBy 40 = .ok (.goto 4, 3) := by decide +kernel
theorem dX3_lostBy_43 : decode cX3_lostBy 43 = .ok (.iconst 0, 1) := by decide +kernel
theorem dX3_lostBy_44 : decode cX3_lostBy 44 = .ok (.ior, 1) := by decide +kernel
theorem dX3_lostBy_45 : decode cX3_lostBy 45 = .ok (.istore 4, 2) := by decide +kernel
theorem dX3_lostBy_47 : decode cX3_lostBy 47 = .ok (.iinc 5 1, 3) := by decide +kernel
theorem dX3_lostBy_50 : decode cX3_lostBy 50 = .ok (.goto (-34), 3) := by decide +kernel
theorem dX3_lostBy_53 : decode cX3_lostBy 53 = .ok (.iload_n 2, 1) := by decide +kernel
theorem dX3_lostBy_54 : decode cX3_lostBy 54 = .ok (.iload 4, 2) := by decide +kernel
theorem dX3_lostBy_56 : decode cX3_lostBy 56 = .ok (.ifCond .eq 16, 3) := by decide +kernel
theorem dX3_lostBy_59 : decode cX3_lostBy 59 = .ok (.iload 4, 2) := by decide +kernel
theorem dX3_lostBy_61 : decode cX3_lostBy 61 = .ok (.iload_n 1, 1) := by decide +kernel
theorem dX3_lostBy_62 : decode cX3_lostBy 62 = .ok (.iand, 1) := by decide +kernel
theorem dX3_lostBy_63 : decode cX3_lostBy 63 = .ok (.iload 4, 2) := by decide +kernel
theorem dX3_lostBy_65 : decode cX3_lostBy 65 = .ok (.if_icmp .ne 7, 3) := by decide +kernel
theorem dX3_lostBy_68 : decode cX3_lostBy 68 = .ok (.iconst 1, 1) := by decide +kernel
theorem dX3_lostBy_69 : decode cX3_lostBy 69 = .ok (.goto 4, 3) := by decide +kernel
theorem dX3_lostBy_72 : decode cX3_lostBy 72 = .ok (.iconst 0, 1) := by decide +kernel
theorem dX3_lostBy_73 : decode cX3_lostBy 73 = .ok (.iadd, 1) := by decide +kernel
theorem dX3_lostBy_74 : decode cX3_lostBy 74 = .ok (.istore_n 2, 1) := by decide +kernel
theorem dX3_lostBy_75 : decode cX3_lostBy 75 = .ok (.iinc 3 1, 3) := by decide +kernel
theorem dX3_lostBy_78 : decode cX3_lostBy 78 = .ok (.goto (-74), 3) := by decide +kernel
theorem dX3_lostBy_81 : decode cX3_lostBy 81 = .ok (.iload_n 2, 1) := by decide +kernel
theorem dX3_lostBy_82 : decode cX3_lostBy 82 = .ok (.ireturn, 1) := by decide +kernel
theorem dX3_lostWithout_0 : decode cX3_lostWithout 0 = .ok (.aload_n 0, 1) := by decide +kernel
theorem dX3_lostWithout_1 : decode cX3_lostWithout 1 = .ok (.iload_n 1, 1) := by decide +kernel
theorem dX3_lostWithout_2 : decode cX3_lostWithout 2 = .ok (.iconst 0, 1) := by decide +kernel
theorem dX3_lostWithout_3 : decode cX3_lostWithout 3 = .ok (.bipush 63, 2) := by decide +kernel
theorem dX3_lostWithout_5 : decode cX3_lostWithout 5 = .ok (.invokestatic 24, 3) := by decide +kernel
theorem dX3_lostWithout_8 : decode cX3_lostWithout 8 = .ok (.ifCond .eq 7, 3) := by decide +kernel
theorem dX3_lostWithout_11 : decode cX3_lostWithout 11 = .ok (.iconst 0, 1) := by decide +kernel
theorem dX3_lostWithout_12 : decode cX3_lostWithout 12 = .ok (.goto 4, 3) := by decide +kernel
theorem dX3_lostWithout_15 : decode cX3_lostWithout 15 = .ok (.iconst 1, 1) := by decide +kernel
theorem dX3_lostWithout_16 : decode cX3_lostWithout 16 = .ok (.invokevirtual 109, 3) := by decide +kernel
theorem dX3_lostWithout_19 : decode cX3_lostWithout 19 = .ok (.ifCond .eq 11, 3) := by decide +kernel
theorem dX3_lostWithout_22 : decode cX3_lostWithout 22 = .ok (.aload_n 0, 1) := by decide +kernel
theorem dX3_lostWithout_23 : decode cX3_lostWithout 23 = .ok (.iload_n 1, 1) := by decide +kernel
theorem dX3_lostWithout_24 : decode cX3_lostWithout 24 = .ok (.invokevirtual 205, 3) := by decide +kernel
theorem dX3_lostWithout_27 : decode cX3_lostWithout 27 = .ok (.goto 4, 3) := by decide +kernel
theorem dX3_lostWithout_30 : decode cX3_lostWithout 30 = .ok (.iconst 0, 1) := by decide +kernel
theorem dX3_lostWithout_31 : decode cX3_lostWithout 31 = .ok (.ireturn, 1) := by decide +kernel
theorem dX3_worstPair_0 : decode cX3_worstPair 0 = .ok (.aload_n 0, 1) := by decide +kernel
theorem dX3_worstPair_1 : decode cX3_worstPair 1 = .ok (.iconst 0, 1) := by decide +kernel
theorem dX3_worstPair_2 : decode cX3_worstPair 2 = .ok (.putfield 20, 3) := by decide +kernel
theorem dX3_worstPair_5 : decode cX3_worstPair 5 = .ok (.iconst 1, 1) := by decide +kernel
theorem dX3_worstPair_6 : decode cX3_worstPair 6 = .ok (.istore_n 1, 1) := by decide +kernel
theorem dX3_worstPair_7 : decode cX3_worstPair 7 = .ok (.iconst 0, 1) := by decide +kernel
theorem dX3_worstPair_8 : decode cX3_worstPair 8 = .ok (.istore_n 2, 1) := by decide +kernel
theorem dX3_worstPair_9 : decode cX3_worstPair 9 = .ok (.iload_n 2, 1) := by decide +kernel
theorem dX3_worstPair_10 : decode cX3_worstPair 10 = .ok (.bipush 6, 2) := by decide +kernel
theorem dX3_worstPair_12 : decode cX3_worstPair 12 = .ok (.if_icmp .ge 79, 3) := by decide +kernel
theorem dX3_worstPair_15 : decode cX3_worstPair 15 = .ok (.iload_n 2, 1) := by decide +kernel
theorem dX3_worstPair_16 : decode cX3_worstPair 16 = .ok (.iconst 1, 1) := by decide +kernel
theorem dX3_worstPair_17 : decode cX3_worstPair 17 = .ok (.iadd, 1) := by decide +kernel
theorem dX3_worstPair_18 : decode cX3_worstPair 18 = .ok (.istore_n 3, 1) := by decide +kernel
theorem dX3_worstPair_19 : decode cX3_worstPair 19 = .ok (.iload_n 3, 1) := by decide +kernel
theorem dX3_worstPair_20 : decode cX3_worstPair 20 = .ok (.bipush 6, 2) := by decide +kernel
theorem dX3_worstPair_22 : decode cX3_worstPair 22 = .ok (.if_icmp .ge 63, 3) := by decide +kernel
theorem dX3_worstPair_25 : decode cX3_worstPair 25 = .ok (.aload_n 0, 1) := by decide +kernel
theorem dX3_worstPair_26 : decode cX3_worstPair 26 = .ok (.iconst 1, 1) := by decide +kernel
theorem dX3_worstPair_27 : decode cX3_worstPair 27 = .ok (.iload_n 2, 1) := by decide +kernel
theorem dX3_worstPair_28 : decode cX3_worstPair 28 = .ok (.ishl, 1) := by decide +kernel
theorem dX3_worstPair_29 : decode cX3_worstPair 29 = .ok (.iconst 1, 1) := by decide +kernel
theorem dX3_worstPair_30 : decode cX3_worstPair 30 = .ok (.iload_n 3, 1) := by decide +kernel
theorem dX3_worstPair_31 : decode cX3_worstPair 31 = .ok (.ishl, 1) := by decide +kernel
theorem dX3_worstPair_32 : decode cX3_worstPair 32 = .ok (.ior, 1) := by decide +kernel
theorem dX3_worstPair_33 : decode cX3_worstPair 33 = .ok (.invokevirtual 205, 3) := by decide +kernel
theorem dX3_worstPair_36 : decode cX3_worstPair 36 = .ok (.aload_n 0, 1) := by decide +kernel
theorem dX3_worstPair_37 : decode cX3_worstPair 37 = .ok (.iconst 1, 1) := by decide +kernel
theorem dX3_worstPair_38 : decode cX3_worstPair 38 = .ok (.iload_n 1, 1) := by decide +kernel
theorem dX3_worstPair_39 : decode cX3_worstPair 39 = .ok (.bipush 6, 2) := by decide +kernel
theorem dX3_worstPair_41 : decode cX3_worstPair 41 = .ok (.idiv, 1) := by decide +kernel
theorem dX3_worstPair_42 : decode cX3_worstPair 42 = .ok (.ishl, 1) := by decide +kernel
theorem dX3_worstPair_43 : decode cX3_worstPair 43 = .ok (.iconst 1, 1) := by decide +kernel
theorem dX3_worstPair_44 : decode cX3_worstPair 44 = .ok (.iload_n 1, 1) := by decide +kernel
theorem dX3_worstPair_45 : decode cX3_worstPair 45 = .ok (.bipush 6, 2) := by decide +kernel
theorem dX3_worstPair_47 : decode cX3_worstPair 47 = .ok (.irem, 1) := by decide +kernel
theorem dX3_worstPair_48 : decode cX3_worstPair 48 = .ok (.ishl, 1) := by decide +kernel
theorem dX3_worstPair_49 : decode cX3_worstPair 49 = .ok (.ior, 1) := by decide +kernel
theorem dX3_worstPair_50 : decode cX3_worstPair 50 = .ok (.invokevirtual 205, 3) := by decide +kernel
theorem dX3_worstPair_53 : decode cX3_worstPair 53 = .ok (.if_icmp .le 7, 3) := by decide +kernel
theorem dX3_worstPair_56 : decode cX3_worstPair 56 = .ok (.iconst 1, 1) := by decide +kernel
theorem dX3_worstPair_57 : decode cX3_worstPair 57 = .ok (.goto 4, 3) := by decide +kernel
theorem dX3_worstPair_60 : decode cX3_worstPair 60 = .ok (.iconst 0, 1) := by decide +kernel
theorem dX3_worstPair_61 : decode cX3_worstPair 61 = .ok (.istore 4, 2) := by decide +kernel
theorem dX3_worstPair_63 : decode cX3_worstPair 63 = .ok (.iload 4, 2) := by decide +kernel
theorem dX3_worstPair_65 : decode cX3_worstPair 65 = .ok (.ifCond .eq 12, 3) := by decide +kernel
theorem dX3_worstPair_68 : decode cX3_worstPair 68 = .ok (.bipush 6, 2) := by decide +kernel
theorem dX3_worstPair_70 : decode cX3_worstPair 70 = .ok (.iload_n 2, 1) := by decide +kernel
theorem dX3_worstPair_71 : decode cX3_worstPair 71 = .ok (.imul, 1) := by decide +kernel
theorem dX3_worstPair_72 : decode cX3_worstPair 72 = .ok (.iload_n 3, 1) := by decide +kernel
theorem dX3_worstPair_73 : decode cX3_worstPair 73 = .ok (.iadd, 1) := by decide +kernel
theorem dX3_worstPair_74 : decode cX3_worstPair 74 = .ok (.goto 4, 3) := by decide +kernel
theorem dX3_worstPair_77 : decode cX3_worstPair 77 = .ok (.iload_n 1, 1) := by decide +kernel
theorem dX3_worstPair_78 : decode cX3_worstPair 78 = .ok (.istore_n 1, 1) := by decide +kernel
theorem dX3_worstPair_79 : decode cX3_worstPair 79 = .ok (.iinc 3 1, 3) := by decide +kernel
theorem dX3_worstPair_82 : decode cX3_worstPair 82 = .ok (.goto (-63), 3) := by decide +kernel
theorem dX3_worstPair_85 : decode cX3_worstPair 85 = .ok (.iinc 2 1, 3) := by decide +kernel
theorem dX3_worstPair_88 : decode cX3_worstPair 88 = .ok (.goto (-79), 3) := by decide +kernel
theorem dX3_worstPair_91 : decode cX3_worstPair 91 = .ok (.iload_n 1, 1) := by decide +kernel
theorem dX3_worstPair_92 : decode cX3_worstPair 92 = .ok (.ireturn, 1) := by decide +kernel
theorem dX3_lostIn_0 : decode cX3_lostIn 0 = .ok (.aload_n 0, 1) := by decide +kernel
theorem dX3_lostIn_1 : decode cX3_lostIn 1 = .ok (.iload_n 1, 1) := by decide +kernel
theorem dX3_lostIn_2 : decode cX3_lostIn 2 = .ok (.iconst 1, 1) := by decide +kernel
theorem dX3_lostIn_3 : decode cX3_lostIn 3 = .ok (.sipush 600, 3) := by decide +kernel
theorem dX3_lostIn_6 : decode cX3_lostIn 6 = .ok (.invokestatic 24, 3) := by decide +kernel
theorem dX3_lostIn_9 : decode cX3_lostIn 9 = .ok (.ifCond .eq 7, 3) := by decide +kernel
theorem dX3_lostIn_12 : decode cX3_lostIn 12 = .ok (.iconst 0, 1) := by decide +kernel
theorem dX3_lostIn_13 : decode cX3_lostIn 13 = .ok (.goto 4, 3) := by decide +kernel
theorem dX3_lostIn_16 : decode cX3_lostIn 16 = .ok (.iconst 1, 1) := by decide +kernel
theorem dX3_lostIn_17 : decode cX3_lostIn 17 = .ok (.invokevirtual 109, 3) := by decide +kernel
theorem dX3_lostIn_20 : decode cX3_lostIn 20 = .ok (.ifCond .ne 5, 3) := by decide +kernel
theorem dX3_lostIn_23 : decode cX3_lostIn 23 = .ok (.iconst 0, 1) := by decide +kernel
theorem dX3_lostIn_24 : decode cX3_lostIn 24 = .ok (.ireturn, 1) := by decide +kernel
theorem dX3_lostIn_25 : decode cX3_lostIn 25 = .ok (.aload_n 0, 1) := by decide +kernel
theorem dX3_lostIn_26 : decode cX3_lostIn 26 = .ok (.iconst 0, 1) := by decide +kernel
theorem dX3_lostIn_27 : decode cX3_lostIn 27 = .ok (.bipush 9, 2) := by decide +kernel
theorem dX3_lostIn_29 : decode cX3_lostIn 29 = .ok (.invokevirtual 98, 3) := by decide +kernel
theorem dX3_lostIn_32 : decode cX3_lostIn 32 = .ok (.iconst 0, 1) := by decide +kernel
theorem dX3_lostIn_33 : decode cX3_lostIn 33 = .ok (.istore_n 2, 1) := by decide +kernel
theorem dX3_lostIn_34 : decode cX3_lostIn 34 = .ok (.iload_n 2, 1) := by decide +kernel
theorem dX3_lostIn_35 : decode cX3_lostIn 35 = .ok (.iload_n 1, 1) := by decide +kernel
theorem dX3_lostIn_36 : decode cX3_lostIn 36 = .ok (.if_icmp .ge 16, 3) := by decide +kernel
theorem dX3_lostIn_39 : decode cX3_lostIn 39 = .ok (.aload_n 0, 1) := by decide +kernel
theorem dX3_lostIn_40 : decode cX3_lostIn 40 = .ok (.sipush 2448, 3) := by decide +kernel
theorem dX3_lostIn_43 : decode cX3_lostIn 43 = .ok (.invokevirtual 92, 3) := by decide +kernel
theorem dX3_lostIn_46 : decode cX3_lostIn 46 = .ok (.iinc 2 1, 3) := by decide +kernel
theorem dX3_lostIn_49 : decode cX3_lostIn 49 = .ok (.goto (-15), 3) := by decide +kernel
theorem dX3_lostIn_52 : decode cX3_lostIn 52 = .ok (.aload_n 0, 1) := by decide +kernel
theorem dX3_lostIn_53 : decode cX3_lostIn 53 = .ok (.sipush 2448, 3) := by decide +kernel
theorem dX3_lostIn_56 : decode cX3_lostIn 56 = .ok (.bipush (-2), 2) := by decide +kernel
theorem dX3_lostIn_58 : decode cX3_lostIn 58 = .ok (.invokevirtual 202, 3) := by decide +kernel
theorem dX3_lostIn_61 : decode cX3_lostIn 61 = .ok (.ireturn, 1) := by decide +kernel
theorem dX3_rests_0 : decode cX3_rests 0 = .ok (.aload_n 0, 1) := by decide +kernel
theorem dX3_rests_1 : decode cX3_rests 1 = .ok (.getfield 7, 3) := by decide +kernel
theorem dX3_rests_4 : decode cX3_rests 4 = .ok (.iload_n 1, 1) := by decide +kernel
theorem dX3_rests_5 : decode cX3_rests 5 = .ok (.iconst 4, 1) := by decide +kernel
theorem dX3_rests_6 : decode cX3_rests 6 = .ok (.iadd, 1) := by decide +kernel
theorem dX3_rests_7 : decode cX3_rests 7 = .ok (.iaload, 1) := by decide +kernel
theorem dX3_rests_8 : decode cX3_rests 8 = .ok (.iconst (-1), 1) := by decide +kernel
theorem dX3_rests_9 : decode cX3_rests 9 = .ok (.if_icmp .ne 7, 3) := by decide +kernel
theorem dX3_rests_12 : decode cX3_rests 12 = .ok (.iconst 1, 1) := by decide +kernel
theorem dX3_rests_13 : decode cX3_rests 13 = .ok (.goto 4, 3) := by decide +kernel
theorem dX3_rests_16 : decode cX3_rests 16 = .ok (.iconst 0, 1) := by decide +kernel
theorem dX3_rests_17 : decode cX3_rests 17 = .ok (.istore_n 2, 1) := by decide +kernel
theorem dX3_rests_18 : decode cX3_rests 18 = .ok (.iconst 0, 1) := by decide +kernel
theorem dX3_rests_19 : decode cX3_rests 19 = .ok (.istore_n 3, 1) := by decide +kernel
theorem dX3_rests_20 : decode cX3_rests 20 = .ok (.iload_n 3, 1) := by decide +kernel
theorem dX3_rests_21 : decode cX3_rests 21 = .ok (.bipush 6, 2) := by decide +kernel
theorem dX3_rests_23 : decode cX3_rests 23 = .ok (.if_icmp .ge 30, 3) := by decide +kernel
theorem dX3_rests_26 : decode cX3_rests 26 = .ok (.iload_n 2, 1) := by decide +kernel
theorem dX3_rests_27 : decode cX3_rests 27 = .ok (.ifCond .eq 18, 3) := by decide +kernel
theorem dX3_rests_30 : decode cX3_rests 30 = .ok (.aload_n 0, 1) := by decide +kernel
theorem dX3_rests_31 : decode cX3_rests 31 = .ok (.iload_n 1, 1) := by decide +kernel
theorem dX3_rests_32 : decode cX3_rests 32 = .ok (.iload_n 3, 1) := by decide +kernel
theorem dX3_rests_33 : decode cX3_rests 33 = .ok (.iconst 0, 1) := by decide +kernel
theorem dX3_rests_34 : decode cX3_rests 34 = .ok (.invokevirtual 36, 3) := by decide +kernel
theorem dX3_rests_37 : decode cX3_rests 37 = .ok (.iconst 2, 1) := by decide +kernel
theorem dX3_rests_38 : decode cX3_rests 38 = .ok (.if_icmp .eq 7, 3) := by decide +kernel
theorem dX3_rests_41 : decode cX3_rests 41 = .ok (.iconst 1, 1) := by decide +kernel
theorem dX3_rests_42 : decode cX3_rests 42 = .ok (.goto 4, 3) := by decide +kernel
theorem dX3_rests_45 : decode cX3_rests 45 = .ok (.iconst 0, 1) := by decide +kernel
theorem dX3_rests_46 : decode cX3_rests 46 = .ok (.istore_n 2, 1) := by decide +kernel
theorem dX3_rests_47 : decode cX3_rests 47 = .ok (.iinc 3 1, 3) := by decide +kernel
theorem dX3_rests_50 : decode cX3_rests 50 = .ok (.goto (-30), 3) := by decide +kernel
theorem dX3_rests_53 : decode cX3_rests 53 = .ok (.iload_n 2, 1) := by decide +kernel
theorem dX3_rests_54 : decode cX3_rests 54 = .ok (.ireturn, 1) := by decide +kernel
theorem dX3_restsIn_0 : decode cX3_restsIn 0 = .ok (.aload_n 0, 1) := by decide +kernel
theorem dX3_restsIn_1 : decode cX3_restsIn 1 = .ok (.iconst 0, 1) := by decide +kernel
theorem dX3_restsIn_2 : decode cX3_restsIn 2 = .ok (.putfield 20, 3) := by decide +kernel
theorem dX3_restsIn_5 : decode cX3_restsIn 5 = .ok (.aload_n 0, 1) := by decide +kernel
theorem dX3_restsIn_6 : decode cX3_restsIn 6 = .ok (.iconst 0, 1) := by decide +kernel
theorem dX3_restsIn_7 : decode cX3_restsIn 7 = .ok (.bipush 9, 2) := by decide +kernel
theorem dX3_restsIn_9 : decode cX3_restsIn 9 = .ok (.invokevirtual 98, 3) := by decide +kernel
theorem dX3_restsIn_12 : decode cX3_restsIn 12 = .ok (.iconst 0, 1) := by decide +kernel
theorem dX3_restsIn_13 : decode cX3_restsIn 13 = .ok (.istore_n 1, 1) := by decide +kernel
theorem dX3_restsIn_14 : decode cX3_restsIn 14 = .ok (.iload_n 1, 1) := by decide +kernel
theorem dX3_restsIn_15 : decode cX3_restsIn 15 = .ok (.sipush 600, 3) := by decide +kernel
theorem dX3_restsIn_18 : decode cX3_restsIn 18 = .ok (.if_icmp .ge 26, 3) := by decide +kernel
theorem dX3_restsIn_21 : decode cX3_restsIn 21 = .ok (.aload_n 0, 1) := by decide +kernel
theorem dX3_restsIn_22 : decode cX3_restsIn 22 = .ok (.sipush 2448, 3) := by decide +kernel
theorem dX3_restsIn_25 : decode cX3_restsIn 25 = .ok (.invokevirtual 208, 3) := by decide +kernel
theorem dX3_restsIn_28 : decode cX3_restsIn 28 = .ok (.ifCond .ne 16, 3) := by decide +kernel
theorem dX3_restsIn_31 : decode cX3_restsIn 31 = .ok (.aload_n 0, 1) := by decide +kernel
theorem dX3_restsIn_32 : decode cX3_restsIn 32 = .ok (.sipush 2448, 3) := by decide +kernel
theorem dX3_restsIn_35 : decode cX3_restsIn 35 = .ok (.invokevirtual 92, 3) := by decide +kernel
theorem dX3_restsIn_38 : decode cX3_restsIn 38 = .ok (.iinc 1 1, 3) := by decide +kernel
theorem dX3_restsIn_41 : decode cX3_restsIn 41 = .ok (.goto (-27), 3) := by decide +kernel
theorem dX3_restsIn_44 : decode cX3_restsIn 44 = .ok (.aload_n 0, 1) := by decide +kernel
theorem dX3_restsIn_45 : decode cX3_restsIn 45 = .ok (.sipush 2448, 3) := by decide +kernel
theorem dX3_restsIn_48 : decode cX3_restsIn 48 = .ok (.invokevirtual 208, 3) := by decide +kernel
theorem dX3_restsIn_51 : decode cX3_restsIn 51 = .ok (.ifCond .eq 7, 3) := by decide +kernel
theorem dX3_restsIn_54 : decode cX3_restsIn 54 = .ok (.iload_n 1, 1) := by decide +kernel
theorem dX3_restsIn_55 : decode cX3_restsIn 55 = .ok (.goto 4, 3) := by decide +kernel
theorem dX3_restsIn_58 : decode cX3_restsIn 58 = .ok (.iconst (-1), 1) := by decide +kernel
theorem dX3_restsIn_59 : decode cX3_restsIn 59 = .ok (.ireturn, 1) := by decide +kernel
theorem dX3_savedStates_0 : decode cX3_savedStates 0 = .ok (.aload_n 0, 1) := by decide +kernel
theorem dX3_savedStates_1 : decode cX3_savedStates 1 = .ok (.iconst 0, 1) := by decide +kernel
theorem dX3_savedStates_2 : decode cX3_savedStates 2 = .ok (.putfield 20, 3) := by decide +kernel
theorem dX3_savedStates_5 : decode cX3_savedStates 5 = .ok (.aload_n 0, 1) := by decide +kernel
theorem dX3_savedStates_6 : decode cX3_savedStates 6 = .ok (.getfield 95, 3) := by decide +kernel
theorem dX3_savedStates_9 : decode cX3_savedStates 9 = .ok (.ireturn, 1) := by decide +kernel
theorem dX3_textLength_0 : decode cX3_textLength 0 = .ok (.aload_n 0, 1) := by decide +kernel
theorem dX3_textLength_1 : decode cX3_textLength 1 = .ok (.iconst 0, 1) := by decide +kernel
theorem dX3_textLength_2 : decode cX3_textLength 2 = .ok (.putfield 20, 3) := by decide +kernel
theorem dX3_textLength_5 : decode cX3_textLength 5 = .ok (.aload_n 0, 1) := by decide +kernel
theorem dX3_textLength_6 : decode cX3_textLength 6 = .ok (.getfield 158, 3) := by decide +kernel
theorem dX3_textLength_9 : decode cX3_textLength 9 = .ok (.ireturn, 1) := by decide +kernel
theorem dJ6_bitCount_0f7a4_0 : decode cJ6_bitCount_0f7a4 0 = .ok (.iload_n 0, 1) := by decide +kernel
theorem dJ6_bitCount_0f7a4_1 : decode cJ6_bitCount_0f7a4 1 = .ok (.iload_n 0, 1) := by decide +kernel
theorem dJ6_bitCount_0f7a4_2 : decode cJ6_bitCount_0f7a4 2 = .ok (.iconst 1, 1) := by decide +kernel
theorem dJ6_bitCount_0f7a4_3 : decode cJ6_bitCount_0f7a4 3 = .ok (.iushr, 1) := by decide +kernel
theorem dJ6_bitCount_0f7a4_4 : decode cJ6_bitCount_0f7a4 4 = .ok (.ldc_w 265, 3) := by decide +kernel
theorem dJ6_bitCount_0f7a4_7 : decode cJ6_bitCount_0f7a4 7 = .ok (.iand, 1) := by decide +kernel
theorem dJ6_bitCount_0f7a4_8 : decode cJ6_bitCount_0f7a4 8 = .ok (.isub, 1) := by decide +kernel
theorem dJ6_bitCount_0f7a4_9 : decode cJ6_bitCount_0f7a4 9 = .ok (.istore_n 0, 1) := by decide +kernel
theorem dJ6_bitCount_0f7a4_10 : decode cJ6_bitCount_0f7a4 10 = .ok (.iload_n 0, 1) := by decide +kernel
theorem dJ6_bitCount_0f7a4_11 : decode cJ6_bitCount_0f7a4 11 = .ok (.ldc_w 266, 3) := by decide +kernel
theorem dJ6_bitCount_0f7a4_14 : decode cJ6_bitCount_0f7a4 14 = .ok (.iand, 1) := by decide +kernel
theorem dJ6_bitCount_0f7a4_15 : decode cJ6_bitCount_0f7a4 15 = .ok (.iload_n 0, 1) := by decide +kernel
theorem dJ6_bitCount_0f7a4_16 : decode cJ6_bitCount_0f7a4 16 = .ok (.iconst 2, 1) := by decide +kernel
theorem dJ6_bitCount_0f7a4_17 : decode cJ6_bitCount_0f7a4 17 = .ok (.iushr, 1) := by decide +kernel
theorem dJ6_bitCount_0f7a4_18 : decode cJ6_bitCount_0f7a4 18 = .ok (.ldc_w 266, 3) := by decide +kernel
theorem dJ6_bitCount_0f7a4_21 : decode cJ6_bitCount_0f7a4 21 = .ok (.iand, 1) := by decide +kernel
theorem dJ6_bitCount_0f7a4_22 : decode cJ6_bitCount_0f7a4 22 = .ok (.iadd, 1) := by decide +kernel
theorem dJ6_bitCount_0f7a4_23 : decode cJ6_bitCount_0f7a4 23 = .ok (.istore_n 0, 1) := by decide +kernel
theorem dJ6_bitCount_0f7a4_24 : decode cJ6_bitCount_0f7a4 24 = .ok (.iload_n 0, 1) := by decide +kernel
theorem dJ6_bitCount_0f7a4_25 : decode cJ6_bitCount_0f7a4 25 = .ok (.iload_n 0, 1) := by decide +kernel
theorem dJ6_bitCount_0f7a4_26 : decode cJ6_bitCount_0f7a4 26 = .ok (.iconst 4, 1) := by decide +kernel
theorem dJ6_bitCount_0f7a4_27 : decode cJ6_bitCount_0f7a4 27 = .ok (.iushr, 1) := by decide +kernel
theorem dJ6_bitCount_0f7a4_28 : decode cJ6_bitCount_0f7a4 28 = .ok (.iadd, 1) := by decide +kernel
theorem dJ6_bitCount_0f7a4_29 : decode cJ6_bitCount_0f7a4 29 = .ok (.ldc_w 267, 3) := by decide +kernel
theorem dJ6_bitCount_0f7a4_32 : decode cJ6_bitCount_0f7a4 32 = .ok (.iand, 1) := by decide +kernel
theorem dJ6_bitCount_0f7a4_33 : decode cJ6_bitCount_0f7a4 33 = .ok (.istore_n 0, 1) := by decide +kernel
theorem dJ6_bitCount_0f7a4_34 : decode cJ6_bitCount_0f7a4 34 = .ok (.iload_n 0, 1) := by decide +kernel
theorem dJ6_bitCount_0f7a4_35 : decode cJ6_bitCount_0f7a4 35 = .ok (.iload_n 0, 1) := by decide +kernel
theorem dJ6_bitCount_0f7a4_36 : decode cJ6_bitCount_0f7a4 36 = .ok (.bipush 8, 2) := by decide +kernel
theorem dJ6_bitCount_0f7a4_38 : decode cJ6_bitCount_0f7a4 38 = .ok (.iushr, 1) := by decide +kernel
theorem dJ6_bitCount_0f7a4_39 : decode cJ6_bitCount_0f7a4 39 = .ok (.iadd, 1) := by decide +kernel
theorem dJ6_bitCount_0f7a4_40 : decode cJ6_bitCount_0f7a4 40 = .ok (.istore_n 0, 1) := by decide +kernel
theorem dJ6_bitCount_0f7a4_41 : decode cJ6_bitCount_0f7a4 41 = .ok (.iload_n 0, 1) := by decide +kernel
theorem dJ6_bitCount_0f7a4_42 : decode cJ6_bitCount_0f7a4 42 = .ok (.iload_n 0, 1) := by decide +kernel
theorem dJ6_bitCount_0f7a4_43 : decode cJ6_bitCount_0f7a4 43 = .ok (.bipush 16, 2) := by decide +kernel
theorem dJ6_bitCount_0f7a4_45 : decode cJ6_bitCount_0f7a4 45 = .ok (.iushr, 1) := by decide +kernel
theorem dJ6_bitCount_0f7a4_46 : decode cJ6_bitCount_0f7a4 46 = .ok (.iadd, 1) := by decide +kernel
theorem dJ6_bitCount_0f7a4_47 : decode cJ6_bitCount_0f7a4 47 = .ok (.istore_n 0, 1) := by decide +kernel
theorem dJ6_bitCount_0f7a4_48 : decode cJ6_bitCount_0f7a4 48 = .ok (.iload_n 0, 1) := by decide +kernel
theorem dJ6_bitCount_0f7a4_49 : decode cJ6_bitCount_0f7a4 49 = .ok (.bipush 63, 2) := by decide +kernel
theorem dJ6_bitCount_0f7a4_51 : decode cJ6_bitCount_0f7a4 51 = .ok (.iand, 1) := by decide +kernel
theorem dJ6_bitCount_0f7a4_52 : decode cJ6_bitCount_0f7a4 52 = .ok (.ireturn, 1) := by decide +kernel
