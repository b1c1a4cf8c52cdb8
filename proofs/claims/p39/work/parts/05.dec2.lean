theorem dX1_advance_42 : decode cX1_advance 42 = .ok (.iconst (-1), 1) := by decide +kernel
theorem dX1_advance_43 : decode cX1_advance 43 = .ok (.if_icmp .eq 18, 3) := by decide +kernel
theorem dX1_advance_46 : decode cX1_advance 46 = .ok (.aload_n 0, 1) := by decide +kernel
theorem dX1_advance_47 : decode cX1_advance 47 = .ok (.getfield 55, 3) := by decide +kernel
theorem dX1_advance_50 : decode cX1_advance 50 = .ok (.aload_n 0, 1) := by decide +kernel
theorem dX1_advance_51 : decode cX1_advance 51 = .ok (.getfield 37, 3) := by decide +kernel
theorem dX1_advance_54 : decode cX1_advance 54 = .ok (.if_icmp .ne 7, 3) := by decide +kernel
theorem dX1_advance_57 : decode cX1_advance 57 = .ok (.aload_n 0, 1) := by decide +kernel
theorem dX1_advance_58 : decode cX1_advance 58 = .ok (.invokevirtual 135, 3) := by decide +kernel
theorem dX1_advance_61 : decode cX1_advance 61 = .ok (.iconst 0, 1) := by decide +kernel
theorem dX1_advance_62 : decode cX1_advance 62 = .ok (.istore 5, 2) := by decide +kernel
theorem dX1_advance_64 : decode cX1_advance 64 = .ok (.iload 5, 2) := by decide +kernel
theorem dX1_advance_66 : decode cX1_advance 66 = .ok (.bipush 6, 2) := by decide +kernel
theorem dX1_advance_68 : decode cX1_advance 68 = .ok (.if_icmp .ge 46, 3) := by decide +kernel
theorem dX1_advance_71 : decode cX1_advance 71 = .ok (.aload_n 0, 1) := by decide +kernel
theorem dX1_advance_72 : decode cX1_advance 72 = .ok (.getfield 9, 3) := by decide +kernel
theorem dX1_advance_75 : decode cX1_advance 75 = .ok (.iload 5, 2) := by decide +kernel
theorem dX1_advance_77 : decode cX1_advance 77 = .ok (.iaload, 1) := by decide +kernel
theorem dX1_advance_78 : decode cX1_advance 78 = .ok (.iconst 2, 1) := by decide +kernel
theorem dX1_advance_79 : decode cX1_advance 79 = .ok (.if_icmp .ne 29, 3) := by decide +kernel
theorem dX1_advance_82 : decode cX1_advance 82 = .ok (.aload_n 0, 1) := by decide +kernel
theorem dX1_advance_83 : decode cX1_advance 83 = .ok (.getfield 18, 3) := by decide +kernel
theorem dX1_advance_86 : decode cX1_advance 86 = .ok (.iload 5, 2) := by decide +kernel
theorem dX1_advance_88 : decode cX1_advance 88 = .ok (.iaload, 1) := by decide +kernel
theorem dX1_advance_89 : decode cX1_advance 89 = .ok (.aload_n 0, 1) := by decide +kernel
theorem dX1_advance_90 : decode cX1_advance 90 = .ok (.getfield 37, 3) := by decide +kernel
theorem dX1_advance_93 : decode cX1_advance 93 = .ok (.if_icmp .ne 15, 3) := by decide +kernel
theorem dX1_advance_96 : decode cX1_advance 96 = .ok (.aload_n 0, 1) := by decide +kernel
theorem dX1_advance_97 : decode cX1_advance 97 = .ok (.iload 5, 2) := by decide +kernel
theorem dX1_advance_99 : decode cX1_advance 99 = .ok (.invokevirtual 129, 3) := by decide +kernel
theorem dX1_advance_102 : decode cX1_advance 102 = .ok (.aload_n 0, 1) := by decide +kernel
theorem dX1_advance_103 : decode cX1_advance 103 = .ok (.iload 5, 2) := by decide +kernel
theorem dX1_advance_105 : decode cX1_advance 105 = .ok (.invokevirtual 122, 3) := by decide +kernel
theorem dX1_advance_108 : decode cX1_advance 108 = .ok (.iinc 5 1, 3) := by decide +kernel
theorem dX1_advance_111 : decode cX1_advance 111 = .ok (.goto (-47), 3) := by decide +kernel
theorem dX1_advance_114 : decode cX1_advance 114 = .ok (.aload_n 0, 1) := by decide +kernel
theorem dX1_advance_115 : decode cX1_advance 115 = .ok (.invokevirtual 110, 3) := by decide +kernel
theorem dX1_advance_118 : decode cX1_advance 118 = .ok (.iinc 4 1, 3) := by decide +kernel
theorem dX1_advance_121 : decode cX1_advance 121 = .ok (.goto (-106), 3) := by decide +kernel
theorem dX1_advance_124 : decode cX1_advance 124 = .ok (.aload_n 0, 1) := by decide +kernel
theorem dX1_advance_125 : decode cX1_advance 125 = .ok (.getfield 43, 3) := by decide +kernel
theorem dX1_advance_128 : decode cX1_advance 128 = .ok (.iload_n 2, 1) := by decide +kernel
theorem dX1_advance_129 : decode cX1_advance 129 = .ok (.isub, 1) := by decide +kernel
theorem dX1_advance_130 : decode cX1_advance 130 = .ok (.ireturn, 1) := by decide +kernel
theorem dX1_completeTransfer_0 : decode cX1_completeTransfer 0 = .ok (.aload_n 0, 1) := by decide +kernel
theorem dX1_completeTransfer_1 : decode cX1_completeTransfer 1 = .ok (.getfield 46, 3) := by decide +kernel
theorem dX1_completeTransfer_4 : decode cX1_completeTransfer 4 = .ok (.istore_n 1, 1) := by decide +kernel
theorem dX1_completeTransfer_5 : decode cX1_completeTransfer 5 = .ok (.aload_n 0, 1) := by decide +kernel
theorem dX1_completeTransfer_6 : decode cX1_completeTransfer 6 = .ok (.getfield 49, 3) := by decide +kernel
theorem dX1_completeTransfer_9 : decode cX1_completeTransfer 9 = .ok (.istore_n 2, 1) := by decide +kernel
theorem dX1_completeTransfer_10 : decode cX1_completeTransfer 10 = .ok (.aload_n 0, 1) := by decide +kernel
theorem dX1_completeTransfer_11 : decode cX1_completeTransfer 11 = .ok (.getfield 52, 3) := by decide +kernel
theorem dX1_completeTransfer_14 : decode cX1_completeTransfer 14 = .ok (.istore_n 3, 1) := by decide +kernel
theorem dX1_completeTransfer_15 : decode cX1_completeTransfer 15 = .ok (.aload_n 0, 1) := by decide +kernel
theorem dX1_completeTransfer_16 : decode cX1_completeTransfer 16 = .ok (.invokevirtual 116, 3) := by decide +kernel
theorem dX1_completeTransfer_19 : decode cX1_completeTransfer 19 = .ok (.aload_n 0, 1) := by decide +kernel
theorem dX1_completeTransfer_20 : decode cX1_completeTransfer 20 = .ok (.dup, 1) := by decide +kernel
theorem dX1_completeTransfer_21 : decode cX1_completeTransfer 21 = .ok (.getfield 43, 3) := by decide +kernel
theorem dX1_completeTransfer_24 : decode cX1_completeTransfer 24 = .ok (.iconst 1, 1) := by decide +kernel
theorem dX1_completeTransfer_25 : decode cX1_completeTransfer 25 = .ok (.iadd, 1) := by decide +kernel
theorem dX1_completeTransfer_26 : decode cX1_completeTransfer 26 = .ok (.putfield 43, 3) := by decide +kernel
theorem dX1_completeTransfer_29 : decode cX1_completeTransfer 29 = .ok (.iload_n 1, 1) := by decide +kernel
theorem dX1_completeTransfer_30 : decode cX1_completeTransfer 30 = .ok (.invokestatic 64, 3) := by decide +kernel
theorem dX1_completeTransfer_33 : decode cX1_completeTransfer 33 = .ok (.ifCond .eq 17, 3) := by decide +kernel
theorem dX1_completeTransfer_36 : decode cX1_completeTransfer 36 = .ok (.iload_n 2, 1) := by decide +kernel
theorem dX1_completeTransfer_37 : decode cX1_completeTransfer 37 = .ok (.invokestatic 82, 3) := by decide +kernel
theorem dX1_completeTransfer_40 : decode cX1_completeTransfer 40 = .ok (.ifCond .eq 10, 3) := by decide +kernel
theorem dX1_completeTransfer_43 : decode cX1_completeTransfer 43 = .ok (.iload_n 3, 1) := by decide +kernel
theorem dX1_completeTransfer_44 : decode cX1_completeTransfer 44 = .ok (.invokestatic 82, 3) := by decide +kernel
theorem dX1_completeTransfer_47 : decode cX1_completeTransfer 47 = .ok (.ifCond .ne 4, 3) := by decide +kernel
theorem dX1_completeTransfer_50 : decode cX1_completeTransfer 50 = .ok (.return_, 1) := by decide +kernel
theorem dX1_completeTransfer_51 : decode cX1_completeTransfer 51 = .ok (.aload_n 0, 1) := by decide +kernel
theorem dX1_completeTransfer_52 : decode cX1_completeTransfer 52 = .ok (.getfield 9, 3) := by decide +kernel
theorem dX1_completeTransfer_55 : decode cX1_completeTransfer 55 = .ok (.iload_n 2, 1) := by decide +kernel
theorem dX1_completeTransfer_56 : decode cX1_completeTransfer 56 = .ok (.iaload, 1) := by decide +kernel
theorem dX1_completeTransfer_57 : decode cX1_completeTransfer 57 = .ok (.iconst 2, 1) := by decide +kernel
theorem dX1_completeTransfer_58 : decode cX1_completeTransfer 58 = .ok (.if_icmp .ne 32, 3) := by decide +kernel
theorem dX1_completeTransfer_61 : decode cX1_completeTransfer 61 = .ok (.aload_n 0, 1) := by decide +kernel
theorem dX1_completeTransfer_62 : decode cX1_completeTransfer 62 = .ok (.getfield 21, 3) := by decide +kernel
theorem dX1_completeTransfer_65 : decode cX1_completeTransfer 65 = .ok (.iload_n 2, 1) := by decide +kernel
theorem dX1_completeTransfer_66 : decode cX1_completeTransfer 66 = .ok (.dup2, 1) := by decide +kernel
theorem dX1_completeTransfer_67 : decode cX1_completeTransfer 67 = .ok (.iaload, 1) := by decide +kernel
theorem dX1_completeTransfer_68 : decode cX1_completeTransfer 68 = .ok (.iconst 1, 1) := by decide +kernel
theorem dX1_completeTransfer_69 : decode cX1_completeTransfer 69 = .ok (.iload_n 1, 1) := by decide +kernel
theorem dX1_completeTransfer_70 : decode cX1_completeTransfer 70 = .ok (.ishl, 1) := by decide +kernel
theorem dX1_completeTransfer_71 : decode cX1_completeTransfer 71 = .ok (.iconst (-1), 1) := by decide +kernel
theorem dX1_completeTransfer_72 : decode cX1_completeTransfer 72 = .ok (.ixor, 1) := by decide +kernel
theorem dX1_completeTransfer_73 : decode cX1_completeTransfer 73 = .ok (.iand, 1) := by decide +kernel
theorem dX1_completeTransfer_74 : decode cX1_completeTransfer 74 = .ok (.iastore, 1) := by decide +kernel
theorem dX1_completeTransfer_75 : decode cX1_completeTransfer 75 = .ok (.aload_n 0, 1) := by decide +kernel
theorem dX1_completeTransfer_76 : decode cX1_completeTransfer 76 = .ok (.getfield 21, 3) := by decide +kernel
theorem dX1_completeTransfer_79 : decode cX1_completeTransfer 79 = .ok (.iload_n 3, 1) := by decide +kernel
theorem dX1_completeTransfer_80 : decode cX1_completeTransfer 80 = .ok (.dup2, 1) := by decide +kernel
theorem dX1_completeTransfer_81 : decode cX1_completeTransfer 81 = .ok (.iaload, 1) := by decide +kernel
theorem dX1_completeTransfer_82 : decode cX1_completeTransfer 82 = .ok (.iconst 1, 1) := by decide +kernel
theorem dX1_completeTransfer_83 : decode cX1_completeTransfer 83 = .ok (.iload_n 1, 1) := by decide +kernel
theorem dX1_completeTransfer_84 : decode cX1_completeTransfer 84 = .ok (.ishl, 1) := by decide +kernel
theorem dX1_completeTransfer_85 : decode cX1_completeTransfer 85 = .ok (.ior, 1) := by decide +kernel
theorem dX1_completeTransfer_86 : decode cX1_completeTransfer 86 = .ok (.iastore, 1) := by decide +kernel
theorem dX1_completeTransfer_87 : decode cX1_completeTransfer 87 = .ok (.goto 27, 3) := by decide +kernel
theorem dX1_completeTransfer_90 : decode cX1_completeTransfer 90 = .ok (.aload_n 0, 1) := by decide +kernel
theorem dX1_completeTransfer_91 : decode cX1_completeTransfer 91 = .ok (.iload_n 1, 1) := by decide +kernel
theorem dX1_completeTransfer_92 : decode cX1_completeTransfer 92 = .ok (.invokevirtual 75, 3) := by decide +kernel
theorem dX1_completeTransfer_95 : decode cX1_completeTransfer 95 = .ok (.invokestatic 89, 3) := by decide +kernel
theorem dX1_completeTransfer_98 : decode cX1_completeTransfer 98 = .ok (.iconst 1, 1) := by decide +kernel
theorem dX1_completeTransfer_99 : decode cX1_completeTransfer 99 = .ok (.if_icmp .ne 15, 3) := by decide +kernel
theorem dX1_completeTransfer_102 : decode cX1_completeTransfer 102 = .ok (.aload_n 0, 1) := by decide +kernel
theorem dX1_completeTransfer_103 : decode cX1_completeTransfer 103 = .ok (.getfield 21, 3) := by decide +kernel
theorem dX1_completeTransfer_106 : decode cX1_completeTransfer 106 = .ok (.iload_n 3, 1) := by decide +kernel
theorem dX1_completeTransfer_107 : decode cX1_completeTransfer 107 = .ok (.dup2, 1) := by decide +kernel
theorem dX1_completeTransfer_108 : decode cX1_completeTransfer 108 = .ok (.iaload, 1) := by decide +kernel
theorem dX1_completeTransfer_109 : decode cX1_completeTransfer 109 = .ok (.iconst 1, 1) := by decide +kernel
theorem dX1_completeTransfer_110 : decode cX1_completeTransfer 110 = .ok (.iload_n 1, 1) := by decide +kernel
theorem dX1_completeTransfer_111 : decode cX1_completeTransfer 111 = .ok (.ishl, 1) := by decide +kernel
theorem dX1_completeTransfer_112 : decode cX1_completeTransfer 112 = .ok (.ior, 1) := by decide +kernel
theorem dX1_completeTransfer_113 : decode cX1_completeTransfer 113 = .ok (.iastore, 1) := by decide +kernel
theorem dX1_completeTransfer_114 : decode cX1_completeTransfer 114 = .ok (.return_, 1) := by decide +kernel
theorem dX1_settle_0 : decode cX1_settle 0 = .ok (.aload_n 0, 1) := by decide +kernel
theorem dX1_settle_1 : decode cX1_settle 1 = .ok (.invokevirtual 138, 3) := by decide +kernel
theorem dX1_settle_4 : decode cX1_settle 4 = .ok (.aload_n 0, 1) := by decide +kernel
theorem dX1_settle_5 : decode cX1_settle 5 = .ok (.getfield 46, 3) := by decide +kernel
theorem dX1_settle_8 : decode cX1_settle 8 = .ok (.iconst (-1), 1) := by decide +kernel
theorem dX1_settle_9 : decode cX1_settle 9 = .ok (.if_icmp .eq 4, 3) := by decide +kernel
theorem dX1_settle_12 : decode cX1_settle 12 = .ok (.return_, 1) := by decide +kernel
theorem dX1_settle_13 : decode cX1_settle 13 = .ok (.ldc 141, 2) := by decide +kernel
theorem dX1_settle_15 : decode cX1_settle 15 = .ok (.istore_n 1, 1) := by decide +kernel
theorem dX1_settle_16 : decode cX1_settle 16 = .ok (.iconst (-1), 1) := by decide +kernel
theorem dX1_settle_17 : decode cX1_settle 17 = .ok (.istore_n 2, 1) := by decide +kernel
theorem dX1_settle_18 : decode cX1_settle 18 = .ok (.iconst (-1), 1) := by decide +kernel
theorem dX1_settle_19 : decode cX1_settle 19 = .ok (.istore_n 3, 1) := by decide +kernel
theorem dX1_settle_20 : decode cX1_settle 20 = .ok (.iconst 0, 1) := by decide +kernel
theorem dX1_settle_21 : decode cX1_settle 21 = .ok (.istore 4, 2) := by decide +kernel
theorem dX1_settle_23 : decode cX1_settle 23 = .ok (.iload 4, 2) := by decide +kernel
theorem dX1_settle_25 : decode cX1_settle 25 = .ok (.bipush 30, 2) := by decide +kernel
theorem dX1_settle_27 : decode cX1_settle 27 = .ok (.if_icmp .ge 68, 3) := by decide +kernel
theorem dX1_settle_30 : decode cX1_settle 30 = .ok (.aload_n 0, 1) := by decide +kernel
theorem dX1_settle_31 : decode cX1_settle 31 = .ok (.iload 4, 2) := by decide +kernel
theorem dX1_settle_33 : decode cX1_settle 33 = .ok (.invokevirtual 75, 3) := by decide +kernel
theorem dX1_settle_36 : decode cX1_settle 36 = .ok (.istore 5, 2) := by decide +kernel
theorem dX1_settle_38 : decode cX1_settle 38 = .ok (.iconst 0, 1) := by decide +kernel
theorem dX1_settle_39 : decode cX1_settle 39 = .ok (.istore 6, 2) := by decide +kernel
theorem dX1_settle_41 : decode cX1_settle 41 = .ok (.iload 6, 2) := by decide +kernel
theorem dX1_settle_43 : decode cX1_settle 43 = .ok (.bipush 6, 2) := by decide +kernel
theorem dX1_settle_45 : decode cX1_settle 45 = .ok (.if_icmp .ge 44, 3) := by decide +kernel
theorem dX1_settle_48 : decode cX1_settle 48 = .ok (.aload_n 0, 1) := by decide +kernel
theorem dX1_settle_49 : decode cX1_settle 49 = .ok (.iload 6, 2) := by decide +kernel
theorem dX1_settle_51 : decode cX1_settle 51 = .ok (.iload 5, 2) := by decide +kernel
theorem dX1_settle_53 : decode cX1_settle 53 = .ok (.invokevirtual 142, 3) := by decide +kernel
theorem dX1_settle_56 : decode cX1_settle 56 = .ok (.istore 7, 2) := by decide +kernel
theorem dX1_settle_58 : decode cX1_settle 58 = .ok (.iload 7, 2) := by decide +kernel
theorem dX1_settle_60 : decode cX1_settle 60 = .ok (.iload_n 1, 1) := by decide +kernel
theorem dX1_settle_61 : decode cX1_settle 61 = .ok (.if_icmp .ge 22, 3) := by decide +kernel
theorem dX1_settle_64 : decode cX1_settle 64 = .ok (.aload_n 0, 1) := by decide +kernel
theorem dX1_settle_65 : decode cX1_settle 65 = .ok (.iload 4, 2) := by decide +kernel
theorem dX1_settle_67 : decode cX1_settle 67 = .ok (.invokevirtual 79, 3) := by decide +kernel
theorem dX1_settle_70 : decode cX1_settle 70 = .ok (.iconst (-1), 1) := by decide +kernel
theorem dX1_settle_71 : decode cX1_settle 71 = .ok (.if_icmp .eq 12, 3) := by decide +kernel
theorem dX1_settle_74 : decode cX1_settle 74 = .ok (.iload 7, 2) := by decide +kernel
theorem dX1_settle_76 : decode cX1_settle 76 = .ok (.istore_n 1, 1) := by decide +kernel
theorem dX1_settle_77 : decode cX1_settle 77 = .ok (.iload 4, 2) := by decide +kernel
theorem dX1_settle_79 : decode cX1_settle 79 = .ok (.istore_n 2, 1) := by decide +kernel
theorem dX1_settle_80 : decode cX1_settle 80 = .ok (.iload 6, 2) := by decide +kernel
theorem dX1_settle_82 : decode cX1_settle 82 = .ok (.istore_n 3, 1) := by decide +kernel
theorem dX1_settle_83 : decode cX1_settle 83 = .ok (.iinc 6 1, 3) := by decide +kernel
theorem dX1_settle_86 : decode cX1_settle 86 = .ok (.goto (-45), 3) := by decide +kernel
theorem dX1_settle_89 : decode cX1_settle 89 = .ok (.iinc 4 1, 3) := by decide +kernel
theorem dX1_settle_92 : decode cX1_settle 92 = .ok (.goto (-69), 3) := by decide +kernel
theorem dX1_settle_95 : decode cX1_settle 95 = .ok (.iload_n 2, 1) := by decide +kernel
theorem dX1_settle_96 : decode cX1_settle 96 = .ok (.iconst (-1), 1) := by decide +kernel
theorem dX1_settle_97 : decode cX1_settle 97 = .ok (.if_icmp .eq 35, 3) := by decide +kernel
theorem dX1_settle_100 : decode cX1_settle 100 = .ok (.aload_n 0, 1) := by decide +kernel
theorem dX1_settle_101 : decode cX1_settle 101 = .ok (.aload_n 0, 1) := by decide +kernel
theorem dX1_settle_102 : decode cX1_settle 102 = .ok (.iload_n 2, 1) := by decide +kernel
theorem dX1_settle_103 : decode cX1_settle 103 = .ok (.invokevirtual 79, 3) := by decide +kernel
theorem dX1_settle_106 : decode cX1_settle 106 = .ok (.putfield 52, 3) := by decide +kernel
theorem dX1_settle_109 : decode cX1_settle 109 = .ok (.aload_n 0, 1) := by decide +kernel
theorem dX1_settle_110 : decode cX1_settle 110 = .ok (.iload_n 2, 1) := by decide +kernel
theorem dX1_settle_111 : decode cX1_settle 111 = .ok (.putfield 46, 3) := by decide +kernel
theorem dX1_settle_114 : decode cX1_settle 114 = .ok (.aload_n 0, 1) := by decide +kernel
theorem dX1_settle_115 : decode cX1_settle 115 = .ok (.iload_n 3, 1) := by decide +kernel
theorem dX1_settle_116 : decode cX1_settle 116 = .ok (.putfield 49, 3) := by decide +kernel
theorem dX1_settle_119 : decode cX1_settle 119 = .ok (.aload_n 0, 1) := by decide +kernel
theorem dX1_settle_120 : decode cX1_settle 120 = .ok (.aload_n 0, 1) := by decide +kernel
theorem dX1_settle_121 : decode cX1_settle 121 = .ok (.getfield 37, 3) := by decide +kernel
theorem dX1_settle_124 : decode cX1_settle 124 = .ok (.aload_n 0, 1) := by decide +kernel
theorem dX1_settle_125 : decode cX1_settle 125 = .ok (.getfield 40, 3) := by decide +kernel
theorem dX1_settle_128 : decode cX1_settle 128 = .ok (.iadd, 1) := by decide +kernel
theorem dX1_settle_129 : decode cX1_settle 129 = .ok (.putfield 55, 3) := by decide +kernel
theorem dX1_settle_132 : decode cX1_settle 132 = .ok (.return_, 1) := by decide +kernel
theorem dX1_releaseHosts_0 : decode cX1_releaseHosts 0 = .ok (.iconst 0, 1) := by decide +kernel
theorem dX1_releaseHosts_1 : decode cX1_releaseHosts 1 = .ok (.istore_n 1, 1) := by decide +kernel
theorem dX1_releaseHosts_2 : decode cX1_releaseHosts 2 = .ok (.iload_n 1, 1) := by decide +kernel
theorem dX1_releaseHosts_3 : decode cX1_releaseHosts 3 = .ok (.bipush 6, 2) := by decide +kernel
theorem dX1_releaseHosts_5 : decode cX1_releaseHosts 5 = .ok (.if_icmp .ge 45, 3) := by decide +kernel
theorem dX1_releaseHosts_8 : decode cX1_releaseHosts 8 = .ok (.aload_n 0, 1) := by decide +kernel
theorem dX1_releaseHosts_9 : decode cX1_releaseHosts 9 = .ok (.getfield 9, 3) := by decide +kernel
theorem dX1_releaseHosts_12 : decode cX1_releaseHosts 12 = .ok (.iload_n 1, 1) := by decide +kernel
theorem dX1_releaseHosts_13 : decode cX1_releaseHosts 13 = .ok (.iaload, 1) := by decide +kernel
theorem dX1_releaseHosts_14 : decode cX1_releaseHosts 14 = .ok (.iconst 2, 1) := by decide +kernel
theorem dX1_releaseHosts_15 : decode cX1_releaseHosts 15 = .ok (.if_icmp .ne 29, 3) := by decide +kernel
theorem dX1_releaseHosts_18 : decode cX1_releaseHosts 18 = .ok (.aload_n 0, 1) := by decide +kernel
theorem dX1_releaseHosts_19 : decode cX1_releaseHosts 19 = .ok (.getfield 34, 3) := by decide +kernel
theorem dX1_releaseHosts_22 : decode cX1_releaseHosts 22 = .ok (.iload_n 1, 1) := by decide +kernel
theorem dX1_releaseHosts_23 : decode cX1_releaseHosts 23 = .ok (.invokestatic 68, 3) := by decide +kernel
theorem dX1_releaseHosts_26 : decode cX1_releaseHosts 26 = .ok (.ifCond .eq 18, 3) := by decide +kernel
theorem dX1_releaseHosts_29 : decode cX1_releaseHosts 29 = .ok (.aload_n 0, 1) := by decide +kernel
theorem dX1_releaseHosts_30 : decode cX1_releaseHosts 30 = .ok (.iload_n 1, 1) := by decide +kernel
theorem dX1_releaseHosts_31 : decode cX1_releaseHosts 31 = .ok (.invokevirtual 119, 3) := by decide +kernel
theorem dX1_releaseHosts_34 : decode cX1_releaseHosts 34 = .ok (.ifCond .ne 10, 3) := by decide +kernel
theorem dX1_releaseHosts_37 : decode cX1_releaseHosts 37 = .ok (.aload_n 0, 1) := by decide +kernel
theorem dX1_releaseHosts_38 : decode cX1_releaseHosts 38 = .ok (.getfield 9, 3) := by decide +kernel
theorem dX1_releaseHosts_41 : decode cX1_releaseHosts 41 = .ok (.iload_n 1, 1) := by decide +kernel
theorem dX1_releaseHosts_42 : decode cX1_releaseHosts 42 = .ok (.iconst 0, 1) := by decide +kernel
theorem dX1_releaseHosts_43 : decode cX1_releaseHosts 43 = .ok (.iastore, 1) := by decide +kernel
theorem dX1_releaseHosts_44 : decode cX1_releaseHosts 44 = .ok (.iinc 1 1, 3) := by decide +kernel
theorem dX1_releaseHosts_47 : decode cX1_releaseHosts 47 = .ok (.goto (-45), 3) := by decide +kernel
theorem dX1_releaseHosts_50 : decode cX1_releaseHosts 50 = .ok (.return_, 1) := by decide +kernel
theorem dX1_rankOf_0 : decode cX1_rankOf 0 = .ok (.iload_n 2, 1) := by decide +kernel
theorem dX1_rankOf_1 : decode cX1_rankOf 1 = .ok (.iload_n 1, 1) := by decide +kernel
theorem dX1_rankOf_2 : decode cX1_rankOf 2 = .ok (.invokestatic 68, 3) := by decide +kernel
theorem dX1_rankOf_5 : decode cX1_rankOf 5 = .ok (.ifCond .eq 10, 3) := by decide +kernel
theorem dX1_rankOf_8 : decode cX1_rankOf 8 = .ok (.iload_n 1, 1) := by decide +kernel
theorem dX1_rankOf_9 : decode cX1_rankOf 9 = .ok (.invokestatic 82, 3) := by decide +kernel
theorem dX1_rankOf_12 : decode cX1_rankOf 12 = .ok (.ifCond .ne 6, 3) := by decide +kernel
theorem dX1_rankOf_15 : decode cX1_rankOf 15 = .ok (.ldc 141, 2) := by decide +kernel
theorem dX1_rankOf_17 : decode cX1_rankOf 17 = .ok (.ireturn, 1) := by decide +kernel
theorem dX1_rankOf_18 : decode cX1_rankOf 18 = .ok (.iload_n 2, 1) := by decide +kernel
theorem dX1_rankOf_19 : decode cX1_rankOf 19 = .ok (.iconst 1, 1) := by decide +kernel
theorem dX1_rankOf_20 : decode cX1_rankOf 20 = .ok (.iload_n 1, 1) := by decide +kernel
theorem dX1_rankOf_21 : decode cX1_rankOf 21 = .ok (.ishl, 1) := by decide +kernel
theorem dX1_rankOf_22 : decode cX1_rankOf 22 = .ok (.if_icmp .ne 7, 3) := by decide +kernel
theorem dX1_rankOf_25 : decode cX1_rankOf 25 = .ok (.iconst 1, 1) := by decide +kernel
theorem dX1_rankOf_26 : decode cX1_rankOf 26 = .ok (.goto 4, 3) := by decide +kernel
theorem dX1_rankOf_29 : decode cX1_rankOf 29 = .ok (.iconst 0, 1) := by decide +kernel
theorem dX1_rankOf_30 : decode cX1_rankOf 30 = .ok (.istore_n 3, 1) := by decide +kernel
theorem dX1_rankOf_31 : decode cX1_rankOf 31 = .ok (.aload_n 0, 1) := by decide +kernel
theorem dX1_rankOf_32 : decode cX1_rankOf 32 = .ok (.getfield 9, 3) := by decide +kernel
theorem dX1_rankOf_35 : decode cX1_rankOf 35 = .ok (.iload_n 1, 1) := by decide +kernel
theorem dX1_rankOf_36 : decode cX1_rankOf 36 = .ok (.iaload, 1) := by decide +kernel
theorem dX1_rankOf_37 : decode cX1_rankOf 37 = .ok (.iconst 2, 1) := by decide +kernel
theorem dX1_rankOf_38 : decode cX1_rankOf 38 = .ok (.if_icmp .ne 23, 3) := by decide +kernel
theorem dX1_rankOf_41 : decode cX1_rankOf 41 = .ok (.iload_n 3, 1) := by decide +kernel
theorem dX1_rankOf_42 : decode cX1_rankOf 42 = .ok (.ifCond .eq 7, 3) := by decide +kernel
theorem dX1_rankOf_45 : decode cX1_rankOf 45 = .ok (.iconst 1, 1) := by decide +kernel
theorem dX1_rankOf_46 : decode cX1_rankOf 46 = .ok (.goto 4, 3) := by decide +kernel
theorem dX1_rankOf_49 : decode cX1_rankOf 49 = .ok (.iconst 3, 1) := by decide +kernel
theorem dX1_rankOf_50 : decode cX1_rankOf 50 = .ok (.ldc 146, 2) := by decide +kernel
theorem dX1_rankOf_52 : decode cX1_rankOf 52 = .ok (.imul, 1) := by decide +kernel
theorem dX1_rankOf_53 : decode cX1_rankOf 53 = .ok (.aload_n 0, 1) := by decide +kernel
theorem dX1_rankOf_54 : decode cX1_rankOf 54 = .ok (.getfield 18, 3) := by decide +kernel
theorem dX1_rankOf_57 : decode cX1_rankOf 57 = .ok (.iload_n 1, 1) := by decide +kernel
theorem dX1_rankOf_58 : decode cX1_rankOf 58 = .ok (.iaload, 1) := by decide +kernel
theorem dX1_rankOf_59 : decode cX1_rankOf 59 = .ok (.iadd, 1) := by decide +kernel
theorem dX1_rankOf_60 : decode cX1_rankOf 60 = .ok (.ireturn, 1) := by decide +kernel
theorem dX1_rankOf_61 : decode cX1_rankOf 61 = .ok (.iload_n 3, 1) := by decide +kernel
theorem dX1_rankOf_62 : decode cX1_rankOf 62 = .ok (.ifCond .eq 8, 3) := by decide +kernel
theorem dX1_rankOf_65 : decode cX1_rankOf 65 = .ok (.ldc 147, 2) := by decide +kernel
theorem dX1_rankOf_67 : decode cX1_rankOf 67 = .ok (.goto 5, 3) := by decide +kernel
theorem dX1_rankOf_70 : decode cX1_rankOf 70 = .ok (.ldc 141, 2) := by decide +kernel
theorem dX1_rankOf_72 : decode cX1_rankOf 72 = .ok (.ireturn, 1) := by decide +kernel
theorem dX2_init_0 : decode cX2_init 0 = .ok (.aload_n 0, 1) := by decide +kernel
theorem dX2_init_1 : decode cX2_init 1 = .ok (.invokespecial 3, 3) := by decide +kernel
theorem dX2_init_4 : decode cX2_init 4 = .ok (.aload_n 0, 1) := by decide +kernel
theorem dX2_init_5 : decode cX2_init 5 = .ok (.new 9, 3) := by decide +kernel
theorem dX2_init_8 : decode cX2_init 8 = .ok (.dup, 1) := by decide +kernel
theorem dX2_init_9 : decode cX2_init 9 = .ok (.invokespecial 11, 3) := by decide +kernel
theorem dX2_init_12 : decode cX2_init 12 = .ok (.putfield 12, 3) := by decide +kernel
theorem dX2_init_15 : decode cX2_init 15 = .ok (.aload_n 0, 1) := by decide +kernel
theorem dX2_init_16 : decode cX2_init 16 = .ok (.new 9, 3) := by decide +kernel
theorem dX2_init_19 : decode cX2_init 19 = .ok (.dup, 1) := by decide +kernel
theorem dX2_init_20 : decode cX2_init 20 = .ok (.invokespecial 11, 3) := by decide +kernel
theorem dX2_init_23 : decode cX2_init 23 = .ok (.putfield 16, 3) := by decide +kernel
theorem dX2_init_26 : decode cX2_init 26 = .ok (.aload_n 0, 1) := by decide +kernel
theorem dX2_init_27 : decode cX2_init 27 = .ok (.bipush 6, 2) := by decide +kernel
theorem dX2_init_29 : decode cX2_init 29 = .ok (.anewarray 9, 3) := by decide +kernel
theorem dX2_init_32 : decode cX2_init 32 = .ok (.putfield 19, 3) := by decide +kernel
theorem dX2_init_35 : decode cX2_init 35 = .ok (.aload_n 0, 1) := by decide +kernel
theorem dX2_init_36 : decode cX2_init 36 = .ok (.iconst 0, 1) := by decide +kernel
theorem dX2_init_37 : decode cX2_init 37 = .ok (.putfield 23, 3) := by decide +kernel
theorem dX2_init_40 : decode cX2_init 40 = .ok (.aload_n 0, 1) := by decide +kernel
theorem dX2_init_41 : decode cX2_init 41 = .ok (.iconst 2, 1) := by decide +kernel
theorem dX2_init_42 : decode cX2_init 42 = .ok (.anewarray 9, 3) := by decide +kernel
theorem dX2_init_45 : decode cX2_init 45 = .ok (.putfield 27, 3) := by decide +kernel
theorem dX2_init_48 : decode cX2_init 48 = .ok (.aload_n 0, 1) := by decide +kernel
theorem dX2_init_49 : decode cX2_init 49 = .ok (.iconst 0, 1) := by decide +kernel
theorem dX2_init_50 : decode cX2_init 50 = .ok (.putfield 30, 3) := by decide +kernel
theorem dX2_init_53 : decode cX2_init 53 = .ok (.aload_n 0, 1) := by decide +kernel
theorem dX2_init_54 : decode cX2_init 54 = .ok (.bipush 80, 2) := by decide +kernel
theorem dX2_init_56 : decode cX2_init 56 = .ok (.newarray .char, 2) := by decide +kernel
theorem dX2_init_58 : decode cX2_init 58 = .ok (.putfield 33, 3) := by decide +kernel
theorem dX2_init_61 : decode cX2_init 61 = .ok (.aload_n 0, 1) := by decide +kernel
theorem dX2_init_62 : decode cX2_init 62 = .ok (.iconst 0, 1) := by decide +kernel
theorem dX2_init_63 : decode cX2_init 63 = .ok (.putfield 37, 3) := by decide +kernel
theorem dX2_init_66 : decode cX2_init 66 = .ok (.aload_n 0, 1) := by decide +kernel
theorem dX2_init_67 : decode cX2_init 67 = .ok (.new 40, 3) := by decide +kernel
theorem dX2_init_70 : decode cX2_init 70 = .ok (.dup, 1) := by decide +kernel
theorem dX2_init_71 : decode cX2_init 71 = .ok (.invokespecial 42, 3) := by decide +kernel
theorem dX2_init_74 : decode cX2_init 74 = .ok (.putfield 43, 3) := by decide +kernel
theorem dX2_init_77 : decode cX2_init 77 = .ok (.iconst 0, 1) := by decide +kernel
theorem dX2_init_78 : decode cX2_init 78 = .ok (.istore_n 1, 1) := by decide +kernel
theorem dX2_init_79 : decode cX2_init 79 = .ok (.iload_n 1, 1) := by decide +kernel
theorem dX2_init_80 : decode cX2_init 80 = .ok (.bipush 6, 2) := by decide +kernel
theorem dX2_init_82 : decode cX2_init 82 = .ok (.if_icmp .ge 22, 3) := by decide +kernel
theorem dX2_init_85 : decode cX2_init 85 = .ok (.aload_n 0, 1) := by decide +kernel
theorem dX2_init_86 : decode cX2_init 86 = .ok (.getfield 19, 3) := by decide +kernel
theorem dX2_init_89 : decode cX2_init 89 = .ok (.iload_n 1, 1) := by decide +kernel
theorem dX2_init_90 : decode cX2_init 90 = .ok (.new 9, 3) := by decide +kernel
theorem dX2_init_93 : decode cX2_init 93 = .ok (.dup, 1) := by decide +kernel
theorem dX2_init_94 : decode cX2_init 94 = .ok (.invokespecial 11, 3) := by decide +kernel
theorem dX2_init_97 : decode cX2_init 97 = .ok (.aastore, 1) := by decide +kernel
theorem dX2_init_98 : decode cX2_init 98 = .ok (.iinc 1 1, 3) := by decide +kernel
theorem dX2_init_101 : decode cX2_init 101 = .ok (.goto (-22), 3) := by decide +kernel
theorem dX2_init_104 : decode cX2_init 104 = .ok (.iconst 0, 1) := by decide +kernel
theorem dX2_init_105 : decode cX2_init 105 = .ok (.istore_n 1, 1) := by decide +kernel
theorem dX2_init_106 : decode cX2_init 106 = .ok (.iload_n 1, 1) := by decide +kernel
theorem dX2_init_107 : decode cX2_init 107 = .ok (.iconst 2, 1) := by decide +kernel
theorem dX2_init_108 : decode cX2_init 108 = .ok (.if_icmp .ge 22, 3) := by decide +kernel
theorem dX2_init_111 : decode cX2_init 111 = .ok (.aload_n 0, 1) := by decide +kernel
theorem dX2_init_112 : decode cX2_init 112 = .ok (.getfield 27, 3) := by decide +kernel
theorem dX2_init_115 : decode cX2_init 115 = .ok (.iload_n 1, 1) := by decide +kernel
theorem dX2_init_116 : decode cX2_init 116 = .ok (.new 9, 3) := by decide +kernel
theorem dX2_init_119 : decode cX2_init 119 = .ok (.dup, 1) := by decide +kernel
theorem dX2_init_120 : decode cX2_init 120 = .ok (.invokespecial 11, 3) := by decide +kernel
theorem dX2_init_123 : decode cX2_init 123 = .ok (.aastore, 1) := by decide +kernel
theorem dX2_init_124 : decode cX2_init 124 = .ok (.iinc 1 1, 3) := by decide +kernel
theorem dX2_init_127 : decode cX2_init 127 = .ok (.goto (-21), 3) := by decide +kernel
theorem dX2_init_130 : decode cX2_init 130 = .ok (.return_, 1) := by decide +kernel
theorem dX2_store_0 : decode cX2_store 0 = .ok (.iload_n 1, 1) := by decide +kernel
theorem dX2_store_1 : decode cX2_store 1 = .ok (.invokestatic 47, 3) := by decide +kernel
theorem dX2_store_4 : decode cX2_store 4 = .ok (.iload_n 2, 1) := by decide +kernel
theorem dX2_store_5 : decode cX2_store 5 = .ok (.iconst 0, 1) := by decide +kernel
theorem dX2_store_6 : decode cX2_store 6 = .ok (.sipush 9999, 3) := by decide +kernel
theorem dX2_store_9 : decode cX2_store 9 = .ok (.invokestatic 51, 3) := by decide +kernel
theorem dX2_store_12 : decode cX2_store 12 = .ok (.aload_n 0, 1) := by decide +kernel
theorem dX2_store_13 : decode cX2_store 13 = .ok (.getfield 12, 3) := by decide +kernel
theorem dX2_store_16 : decode cX2_store 16 = .ok (.iload_n 1, 1) := by decide +kernel
theorem dX2_store_17 : decode cX2_store 17 = .ok (.invokevirtual 55, 3) := by decide +kernel
theorem dX2_store_20 : decode cX2_store 20 = .ok (.invokestatic 59, 3) := by decide +kernel
theorem dX2_store_23 : decode cX2_store 23 = .ok (.aload_n 0, 1) := by decide +kernel
theorem dX2_store_24 : decode cX2_store 24 = .ok (.invokevirtual 63, 3) := by decide +kernel
theorem dX2_store_27 : decode cX2_store 27 = .ok (.aload_n 0, 1) := by decide +kernel
theorem dX2_store_28 : decode cX2_store 28 = .ok (.getfield 12, 3) := by decide +kernel
theorem dX2_store_31 : decode cX2_store 31 = .ok (.iload_n 1, 1) := by decide +kernel
theorem dX2_store_32 : decode cX2_store 32 = .ok (.iload_n 2, 1) := by decide +kernel
theorem dX2_store_33 : decode cX2_store 33 = .ok (.invokevirtual 66, 3) := by decide +kernel
theorem dX2_store_36 : decode cX2_store 36 = .ok (.ireturn, 1) := by decide +kernel
theorem dX2_write_0 : decode cX2_write 0 = .ok (.iload_n 1, 1) := by decide +kernel
theorem dX2_write_1 : decode cX2_write 1 = .ok (.invokestatic 47, 3) := by decide +kernel
theorem dX2_write_4 : decode cX2_write 4 = .ok (.iload_n 2, 1) := by decide +kernel
theorem dX2_write_5 : decode cX2_write 5 = .ok (.iconst 0, 1) := by decide +kernel
theorem dX2_write_6 : decode cX2_write 6 = .ok (.sipush 9999, 3) := by decide +kernel
theorem dX2_write_9 : decode cX2_write 9 = .ok (.invokestatic 51, 3) := by decide +kernel
theorem dX2_write_12 : decode cX2_write 12 = .ok (.aload_n 0, 1) := by decide +kernel
theorem dX2_write_13 : decode cX2_write 13 = .ok (.getfield 12, 3) := by decide +kernel
theorem dX2_write_16 : decode cX2_write 16 = .ok (.iload_n 1, 1) := by decide +kernel
theorem dX2_write_17 : decode cX2_write 17 = .ok (.invokevirtual 70, 3) := by decide +kernel
theorem dX2_write_20 : decode cX2_write 20 = .ok (.invokestatic 59, 3) := by decide +kernel
theorem dX2_write_23 : decode cX2_write 23 = .ok (.aload_n 0, 1) := by decide +kernel
theorem dX2_write_24 : decode cX2_write 24 = .ok (.invokevirtual 63, 3) := by decide +kernel
theorem dX2_write_27 : decode cX2_write 27 = .ok (.aload_n 0, 1) := by decide +kernel
theorem dX2_write_28 : decode cX2_write 28 = .ok (.getfield 12, 3) := by decide +kernel
theorem dX2_write_31 : decode cX2_write 31 = .ok (.iload_n 1, 1) := by decide +kernel
theorem dX2_write_32 : decode cX2_write 32 = .ok (.iload_n 2, 1) := by decide +kernel
theorem dX2_write_33 : decode cX2_write 33 = .ok (.invokevirtual 73, 3) := by decide +kernel
theorem dX2_write_36 : decode cX2_write 36 = .ok (.ireturn, 1) := by decide +kernel
theorem dX2_read_0 : decode cX2_read 0 = .ok (.iload_n 1, 1) := by decide +kernel
theorem dX2_read_1 : decode cX2_read 1 = .ok (.invokestatic 47, 3) := by decide +kernel
theorem dX2_read_4 : decode cX2_read 4 = .ok (.aload_n 0, 1) := by decide +kernel
theorem dX2_read_5 : decode cX2_read 5 = .ok (.getfield 12, 3) := by decide +kernel
theorem dX2_read_8 : decode cX2_read 8 = .ok (.iload_n 1, 1) := by decide +kernel
theorem dX2_read_9 : decode cX2_read 9 = .ok (.invokevirtual 70, 3) := by decide +kernel
theorem dX2_read_12 : decode cX2_read 12 = .ok (.invokestatic 59, 3) := by decide +kernel
theorem dX2_read_15 : decode cX2_read 15 = .ok (.aload_n 0, 1) := by decide +kernel
theorem dX2_read_16 : decode cX2_read 16 = .ok (.getfield 12, 3) := by decide +kernel
theorem dX2_read_19 : decode cX2_read 19 = .ok (.getfield 76, 3) := by decide +kernel
theorem dX2_read_22 : decode cX2_read 22 = .ok (.iload_n 1, 1) := by decide +kernel
theorem dX2_read_23 : decode cX2_read 23 = .ok (.iaload, 1) := by decide +kernel
theorem dX2_read_24 : decode cX2_read 24 = .ok (.ireturn, 1) := by decide +kernel
theorem dX2_remove_0 : decode cX2_remove 0 = .ok (.iload_n 1, 1) := by decide +kernel
theorem dX2_remove_1 : decode cX2_remove 1 = .ok (.invokestatic 47, 3) := by decide +kernel
theorem dX2_remove_4 : decode cX2_remove 4 = .ok (.aload_n 0, 1) := by decide +kernel
theorem dX2_remove_5 : decode cX2_remove 5 = .ok (.getfield 12, 3) := by decide +kernel
theorem dX2_remove_8 : decode cX2_remove 8 = .ok (.iload_n 1, 1) := by decide +kernel
theorem dX2_remove_9 : decode cX2_remove 9 = .ok (.invokevirtual 80, 3) := by decide +kernel
theorem dX2_remove_12 : decode cX2_remove 12 = .ok (.invokestatic 59, 3) := by decide +kernel
theorem dX2_remove_15 : decode cX2_remove 15 = .ok (.aload_n 0, 1) := by decide +kernel
theorem dX2_remove_16 : decode cX2_remove 16 = .ok (.invokevirtual 63, 3) := by decide +kernel
theorem dX2_remove_19 : decode cX2_remove 19 = .ok (.aload_n 0, 1) := by decide +kernel
theorem dX2_remove_20 : decode cX2_remove 20 = .ok (.getfield 12, 3) := by decide +kernel
theorem dX2_remove_23 : decode cX2_remove 23 = .ok (.iload_n 1, 1) := by decide +kernel
theorem dX2_remove_24 : decode cX2_remove 24 = .ok (.invokevirtual 83, 3) := by decide +kernel
theorem dX2_remove_27 : decode cX2_remove 27 = .ok (.ireturn, 1) := by decide +kernel
theorem dX2_lend_0 : decode cX2_lend 0 = .ok (.iload_n 1, 1) := by decide +kernel
theorem dX2_lend_1 : decode cX2_lend 1 = .ok (.invokestatic 87, 3) := by decide +kernel
theorem dX2_lend_4 : decode cX2_lend 4 = .ok (.iload_n 2, 1) := by decide +kernel
theorem dX2_lend_5 : decode cX2_lend 5 = .ok (.iconst 1, 1) := by decide +kernel
theorem dX2_lend_6 : decode cX2_lend 6 = .ok (.bipush 20, 2) := by decide +kernel
theorem dX2_lend_8 : decode cX2_lend 8 = .ok (.invokestatic 51, 3) := by decide +kernel
theorem dX2_lend_11 : decode cX2_lend 11 = .ok (.aload_n 0, 1) := by decide +kernel
theorem dX2_lend_12 : decode cX2_lend 12 = .ok (.getfield 12, 3) := by decide +kernel
theorem dX2_lend_15 : decode cX2_lend 15 = .ok (.iload_n 1, 1) := by decide +kernel
theorem dX2_lend_16 : decode cX2_lend 16 = .ok (.invokevirtual 90, 3) := by decide +kernel
theorem dX2_lend_19 : decode cX2_lend 19 = .ok (.invokestatic 59, 3) := by decide +kernel
theorem dX2_lend_22 : decode cX2_lend 22 = .ok (.aload_n 0, 1) := by decide +kernel
theorem dX2_lend_23 : decode cX2_lend 23 = .ok (.invokevirtual 63, 3) := by decide +kernel
theorem dX2_lend_26 : decode cX2_lend 26 = .ok (.aload_n 0, 1) := by decide +kernel
theorem dX2_lend_27 : decode cX2_lend 27 = .ok (.getfield 12, 3) := by decide +kernel
theorem dX2_lend_30 : decode cX2_lend 30 = .ok (.iload_n 1, 1) := by decide +kernel
theorem dX2_lend_31 : decode cX2_lend 31 = .ok (.iload_n 2, 1) := by decide +kernel
theorem dX2_lend_32 : decode cX2_lend 32 = .ok (.invokevirtual 93, 3) := by decide +kernel
theorem dX2_lend_35 : decode cX2_lend 35 = .ok (.ireturn, 1) := by decide +kernel
theorem dX2_recall_0 : decode cX2_recall 0 = .ok (.iload_n 1, 1) := by decide +kernel
theorem dX2_recall_1 : decode cX2_recall 1 = .ok (.invokestatic 87, 3) := by decide +kernel
theorem dX2_recall_4 : decode cX2_recall 4 = .ok (.iload_n 2, 1) := by decide +kernel
theorem dX2_recall_5 : decode cX2_recall 5 = .ok (.iconst 1, 1) := by decide +kernel
theorem dX2_recall_6 : decode cX2_recall 6 = .ok (.sipush 600, 3) := by decide +kernel
theorem dX2_recall_9 : decode cX2_recall 9 = .ok (.invokestatic 51, 3) := by decide +kernel
theorem dX2_recall_12 : decode cX2_recall 12 = .ok (.aload_n 0, 1) := by decide +kernel
theorem dX2_recall_13 : decode cX2_recall 13 = .ok (.getfield 12, 3) := by decide +kernel
theorem dX2_recall_16 : decode cX2_recall 16 = .ok (.iload_n 1, 1) := by decide +kernel
theorem dX2_recall_17 : decode cX2_recall 17 = .ok (.invokevirtual 96, 3) := by decide +kernel
theorem dX2_recall_20 : decode cX2_recall 20 = .ok (.invokestatic 59, 3) := by decide +kernel
theorem dX2_recall_23 : decode cX2_recall 23 = .ok (.aload_n 0, 1) := by decide +kernel
theorem dX2_recall_24 : decode cX2_recall 24 = .ok (.invokevirtual 63, 3) := by decide +kernel
theorem dX2_recall_27 : decode cX2_recall 27 = .ok (.aload_n 0, 1) := by decide +kernel
theorem dX2_recall_28 : decode cX2_recall 28 = .ok (.getfield 12, 3) := by decide +kernel
theorem dX2_recall_31 : decode cX2_recall 31 = .ok (.iload_n 1, 1) := by decide +kernel
theorem dX2_recall_32 : decode cX2_recall 32 = .ok (.iload_n 2, 1) := by decide +kernel
theorem dX2_recall_33 : decode cX2_recall 33 = .ok (.invokevirtual 99, 3) := by decide +kernel
theorem dX2_recall_36 : decode cX2_recall 36 = .ok (.ireturn, 1) := by decide +kernel
theorem dX2_disconnect_0 : decode cX2_disconnect 0 = .ok (.iload_n 1, 1) := by decide +kernel
theorem dX2_disconnect_1 : decode cX2_disconnect 1 = .ok (.invokestatic 87, 3) := by decide +kernel
theorem dX2_disconnect_4 : decode cX2_disconnect 4 = .ok (.aload_n 0, 1) := by decide +kernel
theorem dX2_disconnect_5 : decode cX2_disconnect 5 = .ok (.getfield 12, 3) := by decide +kernel
theorem dX2_disconnect_8 : decode cX2_disconnect 8 = .ok (.iload_n 1, 1) := by decide +kernel
theorem dX2_disconnect_9 : decode cX2_disconnect 9 = .ok (.invokevirtual 102, 3) := by decide +kernel
theorem dX2_disconnect_12 : decode cX2_disconnect 12 = .ok (.invokestatic 59, 3) := by decide +kernel
theorem dX2_disconnect_15 : decode cX2_disconnect 15 = .ok (.aload_n 0, 1) := by decide +kernel
theorem dX2_disconnect_16 : decode cX2_disconnect 16 = .ok (.invokevirtual 63, 3) := by decide +kernel
theorem dX2_disconnect_19 : decode cX2_disconnect 19 = .ok (.aload_n 0, 1) := by decide +kernel
theorem dX2_disconnect_20 : decode cX2_disconnect 20 = .ok (.getfield 12, 3) := by decide +kernel
theorem dX2_disconnect_23 : decode cX2_disconnect 23 = .ok (.iload_n 1, 1) := by decide +kernel
theorem dX2_disconnect_24 : decode cX2_disconnect 24 = .ok (.invokevirtual 105, 3) := by decide +kernel
theorem dX2_disconnect_27 : decode cX2_disconnect 27 = .ok (.ireturn, 1) := by decide +kernel
theorem dX2_reconnect_0 : decode cX2_reconnect 0 = .ok (.iload_n 1, 1) := by decide +kernel
theorem dX2_reconnect_1 : decode cX2_reconnect 1 = .ok (.invokestatic 87, 3) := by decide +kernel
theorem dX2_reconnect_4 : decode cX2_reconnect 4 = .ok (.aload_n 0, 1) := by decide +kernel
theorem dX2_reconnect_5 : decode cX2_reconnect 5 = .ok (.getfield 12, 3) := by decide +kernel
theorem dX2_reconnect_8 : decode cX2_reconnect 8 = .ok (.iload_n 1, 1) := by decide +kernel
theorem dX2_reconnect_9 : decode cX2_reconnect 9 = .ok (.invokevirtual 108, 3) := by decide +kernel
theorem dX2_reconnect_12 : decode cX2_reconnect 12 = .ok (.invokestatic 59, 3) := by decide +kernel
theorem dX2_reconnect_15 : decode cX2_reconnect 15 = .ok (.aload_n 0, 1) := by decide +kernel
theorem dX2_reconnect_16 : decode cX2_reconnect 16 = .ok (.invokevirtual 63, 3) := by decide +kernel
theorem dX2_reconnect_19 : decode cX2_reconnect 19 = .ok (.aload_n 0, 1) := by decide +kernel
theorem dX2_reconnect_20 : decode cX2_reconnect 20 = .ok (.getfield 12, 3) := by decide +kernel
theorem dX2_reconnect_23 : decode cX2_reconnect 23 = .ok (.iload_n 1, 1) := by decide +kernel
theorem dX2_reconnect_24 : decode cX2_reconnect 24 = .ok (.invokevirtual 111, 3) := by decide +kernel
theorem dX2_reconnect_27 : decode cX2_reconnect 27 = .ok (.ireturn, 1) := by decide +kernel
theorem dX2_crash_0 : decode cX2_crash 0 = .ok (.iload_n 1, 1) := by decide +kernel
theorem dX2_crash_1 : decode cX2_crash 1 = .ok (.invokestatic 87, 3) := by decide +kernel
theorem dX2_crash_4 : decode cX2_crash 4 = .ok (.aload_n 0, 1) := by decide +kernel
theorem dX2_crash_5 : decode cX2_crash 5 = .ok (.getfield 12, 3) := by decide +kernel
theorem dX2_crash_8 : decode cX2_crash 8 = .ok (.iload_n 1, 1) := by decide +kernel
theorem dX2_crash_9 : decode cX2_crash 9 = .ok (.invokevirtual 114, 3) := by decide +kernel
theorem dX2_crash_12 : decode cX2_crash 12 = .ok (.invokestatic 59, 3) := by decide +kernel
theorem dX2_crash_15 : decode cX2_crash 15 = .ok (.aload_n 0, 1) := by decide +kernel
theorem dX2_crash_16 : decode cX2_crash 16 = .ok (.invokevirtual 63, 3) := by decide +kernel
theorem dX2_crash_19 : decode cX2_crash 19 = .ok (.aload_n 0, 1) := by decide +kernel
theorem dX2_crash_20 : decode cX2_crash 20 = .ok (.getfield 12, 3) := by decide +kernel
theorem dX2_crash_23 : decode cX2_crash 23 = .ok (.iload_n 1, 1) := by decide +kernel
theorem dX2_crash_24 : decode cX2_crash 24 = .ok (.invokevirtual 117, 3) := by decide +kernel
theorem dX2_crash_27 : decode cX2_crash 27 = .ok (.ireturn, 1) := by decide +kernel
theorem dX2_pass_0 : decode cX2_pass 0 = .ok (.iload_n 1, 1) := by decide +kernel
theorem dX2_pass_1 : decode cX2_pass 1 = .ok (.iconst 1, 1) := by decide +kernel
theorem dX2_pass_2 : decode cX2_pass 2 = .ok (.sipush 600, 3) := by decide +kernel
theorem dX2_pass_5 : decode cX2_pass 5 = .ok (.invokestatic 51, 3) := by decide +kernel
theorem dX2_pass_8 : decode cX2_pass 8 = .ok (.aload_n 0, 1) := by decide +kernel
theorem dX2_pass_9 : decode cX2_pass 9 = .ok (.getfield 12, 3) := by decide +kernel
theorem dX2_pass_12 : decode cX2_pass 12 = .ok (.iload_n 1, 1) := by decide +kernel
theorem dX2_pass_13 : decode cX2_pass 13 = .ok (.invokevirtual 120, 3) := by decide +kernel
theorem dX2_pass_16 : decode cX2_pass 16 = .ok (.invokestatic 59, 3) := by decide +kernel
theorem dX2_pass_19 : decode cX2_pass 19 = .ok (.aload_n 0, 1) := by decide +kernel
theorem dX2_pass_20 : decode cX2_pass 20 = .ok (.invokevirtual 63, 3) := by decide +kernel
theorem dX2_pass_23 : decode cX2_pass 23 = .ok (.aload_n 0, 1) := by decide +kernel
theorem dX2_pass_24 : decode cX2_pass 24 = .ok (.getfield 12, 3) := by decide +kernel
theorem dX2_pass_27 : decode cX2_pass 27 = .ok (.iload_n 1, 1) := by decide +kernel
theorem dX2_pass_28 : decode cX2_pass 28 = .ok (.invokevirtual 123, 3) := by decide +kernel
theorem dX2_pass_31 : decode cX2_pass 31 = .ok (.ireturn, 1) := by decide +kernel
theorem dX2_setTransferTime_0 : decode cX2_setTransferTime 0 = .ok (.iload_n 1, 1) := by decide +kernel
theorem dX2_setTransferTime_1 : decode cX2_setTransferTime 1 = .ok (.iconst 1, 1) := by decide +kernel
theorem dX2_setTransferTime_2 : decode cX2_setTransferTime 2 = .ok (.bipush 60, 2) := by decide +kernel
theorem dX2_setTransferTime_4 : decode cX2_setTransferTime 4 = .ok (.invokestatic 51, 3) := by decide +kernel
theorem dX2_setTransferTime_7 : decode cX2_setTransferTime 7 = .ok (.aload_n 0, 1) := by decide +kernel
theorem dX2_setTransferTime_8 : decode cX2_setTransferTime 8 = .ok (.invokevirtual 63, 3) := by decide +kernel
theorem dX2_setTransferTime_11 : decode cX2_setTransferTime 11 = .ok (.aload_n 0, 1) := by decide +kernel
theorem dX2_setTransferTime_12 : decode cX2_setTransferTime 12 = .ok (.getfield 12, 3) := by decide +kernel
theorem dX2_setTransferTime_15 : decode cX2_setTransferTime 15 = .ok (.getfield 126, 3) := by decide +kernel
theorem dX2_setTransferTime_18 : decode cX2_setTransferTime 18 = .ok (.istore_n 2, 1) := by decide +kernel
theorem dX2_setTransferTime_19 : decode cX2_setTransferTime 19 = .ok (.aload_n 0, 1) := by decide +kernel
theorem dX2_setTransferTime_20 : decode cX2_setTransferTime 20 = .ok (.getfield 12, 3) := by decide +kernel
theorem dX2_setTransferTime_23 : decode cX2_setTransferTime 23 = .ok (.iload_n 1, 1) := by decide +kernel
theorem dX2_setTransferTime_24 : decode cX2_setTransferTime 24 = .ok (.putfield 126, 3) := by decide +kernel
theorem dX2_setTransferTime_27 : decode cX2_setTransferTime 27 = .ok (.iload_n 2, 1) := by decide +kernel
theorem dX2_setTransferTime_28 : decode cX2_setTransferTime 28 = .ok (.ireturn, 1) := by decide +kernel
theorem dX2_undo_0 : decode cX2_undo 0 = .ok (.aload_n 0, 1) := by decide +kernel
theorem dX2_undo_1 : decode cX2_undo 1 = .ok (.getfield 23, 3) := by decide +kernel
theorem dX2_undo_4 : decode cX2_undo 4 = .ok (.ifCond .le 7, 3) := by decide +kernel
theorem dX2_undo_7 : decode cX2_undo 7 = .ok (.iconst 1, 1) := by decide +kernel
theorem dX2_undo_8 : decode cX2_undo 8 = .ok (.goto 4, 3) := by decide +kernel
theorem dX2_undo_11 : decode cX2_undo 11 = .ok (.iconst 0, 1) := by decide +kernel
theorem dX2_undo_12 : decode cX2_undo 12 = .ok (.invokestatic 59, 3) := by decide +kernel
theorem dX2_undo_15 : decode cX2_undo 15 = .ok (.aload_n 0, 1) := by decide +kernel
theorem dX2_undo_16 : decode cX2_undo 16 = .ok (.dup, 1) := by decide +kernel
theorem dX2_undo_17 : decode cX2_undo 17 = .ok (.getfield 23, 3) := by decide +kernel
theorem dX2_undo_20 : decode cX2_undo 20 = .ok (.iconst 1, 1) := by decide +kernel
theorem dX2_undo_21 : decode cX2_undo 21 = .ok (.isub, 1) := by decide +kernel
theorem dX2_undo_22 : decode cX2_undo 22 = .ok (.putfield 23, 3) := by decide +kernel
theorem dX2_undo_25 : decode cX2_undo 25 = .ok (.aload_n 0, 1) := by decide +kernel
theorem dX2_undo_26 : decode cX2_undo 26 = .ok (.getfield 19, 3) := by decide +kernel
theorem dX2_undo_29 : decode cX2_undo 29 = .ok (.aload_n 0, 1) := by decide +kernel
theorem dX2_undo_30 : decode cX2_undo 30 = .ok (.getfield 23, 3) := by decide +kernel
theorem dX2_undo_33 : decode cX2_undo 33 = .ok (.aaload, 1) := by decide +kernel
theorem dX2_undo_34 : decode cX2_undo 34 = .ok (.aload_n 0, 1) := by decide +kernel
theorem dX2_undo_35 : decode cX2_undo 35 = .ok (.getfield 12, 3) := by decide +kernel
theorem dX2_undo_38 : decode cX2_undo 38 = .ok (.invokestatic 158, 3) := by decide +kernel
theorem dX2_undo_41 : decode cX2_undo 41 = .ok (.aload_n 0, 1) := by decide +kernel
theorem dX2_undo_42 : decode cX2_undo 42 = .ok (.getfield 23, 3) := by decide +kernel
theorem dX2_undo_45 : decode cX2_undo 45 = .ok (.ireturn, 1) := by decide +kernel
theorem dX2_save_0 : decode cX2_save 0 = .ok (.iload_n 1, 1) := by decide +kernel
theorem dX2_save_1 : decode cX2_save 1 = .ok (.iconst 2, 1) := by decide +kernel
theorem dX2_save_2 : decode cX2_save 2 = .ok (.invokestatic 162, 3) := by decide +kernel
theorem dX2_save_5 : decode cX2_save 5 = .ok (.aload_n 0, 1) := by decide +kernel
theorem dX2_save_6 : decode cX2_save 6 = .ok (.getfield 12, 3) := by decide +kernel
theorem dX2_save_9 : decode cX2_save 9 = .ok (.aload_n 0, 1) := by decide +kernel
theorem dX2_save_10 : decode cX2_save 10 = .ok (.getfield 27, 3) := by decide +kernel
theorem dX2_save_13 : decode cX2_save 13 = .ok (.iload_n 1, 1) := by decide +kernel
theorem dX2_save_14 : decode cX2_save 14 = .ok (.aaload, 1) := by decide +kernel
theorem dX2_save_15 : decode cX2_save 15 = .ok (.invokestatic 158, 3) := by decide +kernel
theorem dX2_save_18 : decode cX2_save 18 = .ok (.aload_n 0, 1) := by decide +kernel
theorem dX2_save_19 : decode cX2_save 19 = .ok (.dup, 1) := by decide +kernel
theorem dX2_save_20 : decode cX2_save 20 = .ok (.getfield 30, 3) := by decide +kernel
theorem dX2_save_23 : decode cX2_save 23 = .ok (.iconst 1, 1) := by decide +kernel
theorem dX2_save_24 : decode cX2_save 24 = .ok (.iload_n 1, 1) := by decide +kernel
theorem dX2_save_25 : decode cX2_save 25 = .ok (.ishl, 1) := by decide +kernel
theorem dX2_save_26 : decode cX2_save 26 = .ok (.ior, 1) := by decide +kernel
theorem dX2_save_27 : decode cX2_save 27 = .ok (.putfield 30, 3) := by decide +kernel
theorem dX2_save_30 : decode cX2_save 30 = .ok (.aload_n 0, 1) := by decide +kernel
theorem dX2_save_31 : decode cX2_save 31 = .ok (.getfield 12, 3) := by decide +kernel
theorem dX2_save_34 : decode cX2_save 34 = .ok (.getfield 166, 3) := by decide +kernel
theorem dX2_save_37 : decode cX2_save 37 = .ok (.ireturn, 1) := by decide +kernel
theorem dX2_restore_0 : decode cX2_restore 0 = .ok (.iload_n 1, 1) := by decide +kernel
theorem dX2_restore_1 : decode cX2_restore 1 = .ok (.iconst 2, 1) := by decide +kernel
theorem dX2_restore_2 : decode cX2_restore 2 = .ok (.invokestatic 162, 3) := by decide +kernel
theorem dX2_restore_5 : decode cX2_restore 5 = .ok (.aload_n 0, 1) := by decide +kernel
theorem dX2_restore_6 : decode cX2_restore 6 = .ok (.getfield 30, 3) := by decide +kernel
theorem dX2_restore_9 : decode cX2_restore 9 = .ok (.iload_n 1, 1) := by decide +kernel
theorem dX2_restore_10 : decode cX2_restore 10 = .ok (.invokestatic 169, 3) := by decide +kernel
theorem dX2_restore_13 : decode cX2_restore 13 = .ok (.invokestatic 59, 3) := by decide +kernel
theorem dX2_restore_16 : decode cX2_restore 16 = .ok (.aload_n 0, 1) := by decide +kernel
theorem dX2_restore_17 : decode cX2_restore 17 = .ok (.invokevirtual 63, 3) := by decide +kernel
theorem dX2_restore_20 : decode cX2_restore 20 = .ok (.aload_n 0, 1) := by decide +kernel
theorem dX2_restore_21 : decode cX2_restore 21 = .ok (.getfield 27, 3) := by decide +kernel
theorem dX2_restore_24 : decode cX2_restore 24 = .ok (.iload_n 1, 1) := by decide +kernel
theorem dX2_restore_25 : decode cX2_restore 25 = .ok (.aaload, 1) := by decide +kernel
theorem dX2_restore_26 : decode cX2_restore 26 = .ok (.aload_n 0, 1) := by decide +kernel
theorem dX2_restore_27 : decode cX2_restore 27 = .ok (.getfield 12, 3) := by decide +kernel
theorem dX2_restore_30 : decode cX2_restore 30 = .ok (.invokestatic 158, 3) := by decide +kernel
theorem dX2_restore_33 : decode cX2_restore 33 = .ok (.aload_n 0, 1) := by decide +kernel
theorem dX2_restore_34 : decode cX2_restore 34 = .ok (.getfield 12, 3) := by decide +kernel
theorem dX2_restore_37 : decode cX2_restore 37 = .ok (.getfield 166, 3) := by decide +kernel
theorem dX2_restore_40 : decode cX2_restore 40 = .ok (.ireturn, 1) := by decide +kernel
theorem dX2_status_0 : decode cX2_status 0 = .ok (.iload_n 1, 1) := by decide +kernel
theorem dX2_status_1 : decode cX2_status 1 = .ok (.invokestatic 47, 3) := by decide +kernel
theorem dX2_status_4 : decode cX2_status 4 = .ok (.aload_n 0, 1) := by decide +kernel
theorem dX2_status_5 : decode cX2_status 5 = .ok (.getfield 12, 3) := by decide +kernel
theorem dX2_status_8 : decode cX2_status 8 = .ok (.iload_n 1, 1) := by decide +kernel
theorem dX2_status_9 : decode cX2_status 9 = .ok (.invokevirtual 173, 3) := by decide +kernel
theorem dX2_status_12 : decode cX2_status 12 = .ok (.ireturn, 1) := by decide +kernel
theorem dX2_copies_0 : decode cX2_copies 0 = .ok (.iload_n 1, 1) := by decide +kernel
theorem dX2_copies_1 : decode cX2_copies 1 = .ok (.invokestatic 47, 3) := by decide +kernel
theorem dX2_copies_4 : decode cX2_copies 4 = .ok (.aload_n 0, 1) := by decide +kernel
theorem dX2_copies_5 : decode cX2_copies 5 = .ok (.getfield 12, 3) := by decide +kernel
theorem dX2_copies_8 : decode cX2_copies 8 = .ok (.iload_n 1, 1) := by decide +kernel
theorem dX2_copies_9 : decode cX2_copies 9 = .ok (.invokevirtual 176, 3) := by decide +kernel
theorem dX2_copies_12 : decode cX2_copies 12 = .ok (.ireturn, 1) := by decide +kernel
theorem dX2_countStatus_0 : decode cX2_countStatus 0 = .ok (.iload_n 1, 1) := by decide +kernel
theorem dX2_countStatus_1 : decode cX2_countStatus 1 = .ok (.bipush (-2), 2) := by decide +kernel
theorem dX2_countStatus_3 : decode cX2_countStatus 3 = .ok (.if_icmp .eq 9, 3) := by decide +kernel
theorem dX2_countStatus_6 : decode cX2_countStatus 6 = .ok (.iload_n 1, 1) := by decide +kernel
theorem dX2_countStatus_7 : decode cX2_countStatus 7 = .ok (.iconst 0, 1) := by decide +kernel
theorem dX2_countStatus_8 : decode cX2_countStatus 8 = .ok (.iconst 2, 1) := by decide +kernel
theorem dX2_countStatus_9 : decode cX2_countStatus 9 = .ok (.invokestatic 51, 3) := by decide +kernel
theorem dX2_countStatus_12 : decode cX2_countStatus 12 = .ok (.aload_n 0, 1) := by decide +kernel
theorem dX2_countStatus_13 : decode cX2_countStatus 13 = .ok (.getfield 12, 3) := by decide +kernel
theorem dX2_countStatus_16 : decode cX2_countStatus 16 = .ok (.iload_n 1, 1) := by decide +kernel
theorem dX2_countStatus_17 : decode cX2_countStatus 17 = .ok (.invokevirtual 179, 3) := by decide +kernel
theorem dX2_countStatus_20 : decode cX2_countStatus 20 = .ok (.ireturn, 1) := by decide +kernel
theorem dX2_mode_0 : decode cX2_mode 0 = .ok (.iload_n 1, 1) := by decide +kernel
theorem dX2_mode_1 : decode cX2_mode 1 = .ok (.invokestatic 87, 3) := by decide +kernel
theorem dX2_mode_4 : decode cX2_mode 4 = .ok (.aload_n 0, 1) := by decide +kernel
theorem dX2_mode_5 : decode cX2_mode 5 = .ok (.getfield 12, 3) := by decide +kernel
theorem dX2_mode_8 : decode cX2_mode 8 = .ok (.getfield 182, 3) := by decide +kernel
theorem dX2_mode_11 : decode cX2_mode 11 = .ok (.iload_n 1, 1) := by decide +kernel
theorem dX2_mode_12 : decode cX2_mode 12 = .ok (.iaload, 1) := by decide +kernel
theorem dX2_mode_13 : decode cX2_mode 13 = .ok (.ireturn, 1) := by decide +kernel
theorem dX2_isConnected_0 : decode cX2_isConnected 0 = .ok (.iload_n 1, 1) := by decide +kernel
theorem dX2_isConnected_1 : decode cX2_isConnected 1 = .ok (.invokestatic 87, 3) := by decide +kernel
theorem dX2_isConnected_4 : decode cX2_isConnected 4 = .ok (.aload_n 0, 1) := by decide +kernel
theorem dX2_isConnected_5 : decode cX2_isConnected 5 = .ok (.getfield 12, 3) := by decide +kernel
theorem dX2_isConnected_8 : decode cX2_isConnected 8 = .ok (.getfield 185, 3) := by decide +kernel
theorem dX2_isConnected_11 : decode cX2_isConnected 11 = .ok (.iload_n 1, 1) := by decide +kernel
theorem dX2_isConnected_12 : decode cX2_isConnected 12 = .ok (.invokestatic 169, 3) := by decide +kernel
theorem dX2_isConnected_15 : decode cX2_isConnected 15 = .ok (.ireturn, 1) := by decide +kernel
theorem dX2_usedRoom_0 : decode cX2_usedRoom 0 = .ok (.iload_n 1, 1) := by decide +kernel
theorem dX2_usedRoom_1 : decode cX2_usedRoom 1 = .ok (.invokestatic 87, 3) := by decide +kernel
theorem dX2_usedRoom_4 : decode cX2_usedRoom 4 = .ok (.aload_n 0, 1) := by decide +kernel
theorem dX2_usedRoom_5 : decode cX2_usedRoom 5 = .ok (.getfield 12, 3) := by decide +kernel
theorem dX2_usedRoom_8 : decode cX2_usedRoom 8 = .ok (.iload_n 1, 1) := by decide +kernel
theorem dX2_usedRoom_9 : decode cX2_usedRoom 9 = .ok (.invokevirtual 188, 3) := by decide +kernel
theorem dX2_usedRoom_12 : decode cX2_usedRoom 12 = .ok (.ireturn, 1) := by decide +kernel
theorem dX2_freeRoom_0 : decode cX2_freeRoom 0 = .ok (.iload_n 1, 1) := by decide +kernel
theorem dX2_freeRoom_1 : decode cX2_freeRoom 1 = .ok (.invokestatic 87, 3) := by decide +kernel
theorem dX2_freeRoom_4 : decode cX2_freeRoom 4 = .ok (.aload_n 0, 1) := by decide +kernel
theorem dX2_freeRoom_5 : decode cX2_freeRoom 5 = .ok (.getfield 12, 3) := by decide +kernel
theorem dX2_freeRoom_8 : decode cX2_freeRoom 8 = .ok (.iload_n 1, 1) := by decide +kernel
theorem dX2_freeRoom_9 : decode cX2_freeRoom 9 = .ok (.invokevirtual 191, 3) := by decide +kernel
theorem dX2_freeRoom_12 : decode cX2_freeRoom 12 = .ok (.ireturn, 1) := by decide +kernel
theorem dX2_deadlineIn_0 : decode cX2_deadlineIn 0 = .ok (.iload_n 1, 1) := by decide +kernel
theorem dX2_deadlineIn_1 : decode cX2_deadlineIn 1 = .ok (.invokestatic 87, 3) := by decide +kernel
theorem dX2_deadlineIn_4 : decode cX2_deadlineIn 4 = .ok (.aload_n 0, 1) := by decide +kernel
theorem dX2_deadlineIn_5 : decode cX2_deadlineIn 5 = .ok (.getfield 12, 3) := by decide +kernel
theorem dX2_deadlineIn_8 : decode cX2_deadlineIn 8 = .ok (.getfield 182, 3) := by decide +kernel
theorem dX2_deadlineIn_11 : decode cX2_deadlineIn 11 = .ok (.iload_n 1, 1) := by decide +kernel
theorem dX2_deadlineIn_12 : decode cX2_deadlineIn 12 = .ok (.iaload, 1) := by decide +kernel
theorem dX2_deadlineIn_13 : decode cX2_deadlineIn 13 = .ok (.iconst 2, 1) := by decide +kernel
theorem dX2_deadlineIn_14 : decode cX2_deadlineIn 14 = .ok (.if_icmp .ne 23, 3) := by decide +kernel
theorem dX2_deadlineIn_17 : decode cX2_deadlineIn 17 = .ok (.aload_n 0, 1) := by decide +kernel
theorem dX2_deadlineIn_18 : decode cX2_deadlineIn 18 = .ok (.getfield 12, 3) := by decide +kernel
theorem dX2_deadlineIn_21 : decode cX2_deadlineIn 21 = .ok (.getfield 194, 3) := by decide +kernel
theorem dX2_deadlineIn_24 : decode cX2_deadlineIn 24 = .ok (.iload_n 1, 1) := by decide +kernel
theorem dX2_deadlineIn_25 : decode cX2_deadlineIn 25 = .ok (.iaload, 1) := by decide +kernel
theorem dX2_deadlineIn_26 : decode cX2_deadlineIn 26 = .ok (.aload_n 0, 1) := by decide +kernel
theorem dX2_deadlineIn_27 : decode cX2_deadlineIn 27 = .ok (.getfield 12, 3) := by decide +kernel
theorem dX2_deadlineIn_30 : decode cX2_deadlineIn 30 = .ok (.getfield 166, 3) := by decide +kernel
theorem dX2_deadlineIn_33 : decode cX2_deadlineIn 33 = .ok (.isub, 1) := by decide +kernel
theorem dX2_deadlineIn_34 : decode cX2_deadlineIn 34 = .ok (.goto 4, 3) := by decide +kernel
theorem dX2_deadlineIn_37 : decode cX2_deadlineIn 37 = .ok (.iconst (-1), 1) := by decide +kernel
theorem dX2_deadlineIn_38 : decode cX2_deadlineIn 38 = .ok (.ireturn, 1) := by decide +kernel
theorem dX2_replica_0 : decode cX2_replica 0 = .ok (.iload_n 1, 1) := by decide +kernel
theorem dX2_replica_1 : decode cX2_replica 1 = .ok (.invokestatic 87, 3) := by decide +kernel
theorem dX2_replica_4 : decode cX2_replica 4 = .ok (.iload_n 2, 1) := by decide +kernel
theorem dX2_replica_5 : decode cX2_replica 5 = .ok (.invokestatic 47, 3) := by decide +kernel
theorem dX2_replica_8 : decode cX2_replica 8 = .ok (.aload_n 0, 1) := by decide +kernel
theorem dX2_replica_9 : decode cX2_replica 9 = .ok (.getfield 12, 3) := by decide +kernel
theorem dX2_replica_12 : decode cX2_replica 12 = .ok (.getfield 197, 3) := by decide +kernel
theorem dX2_replica_15 : decode cX2_replica 15 = .ok (.iload_n 1, 1) := by decide +kernel
theorem dX2_replica_16 : decode cX2_replica 16 = .ok (.iaload, 1) := by decide +kernel
theorem dX2_replica_17 : decode cX2_replica 17 = .ok (.iload_n 2, 1) := by decide +kernel
theorem dX2_replica_18 : decode cX2_replica 18 = .ok (.invokestatic 169, 3) := by decide +kernel
theorem dX2_replica_21 : decode cX2_replica 21 = .ok (.ifCond .eq 5, 3) := by decide +kernel
theorem dX2_replica_24 : decode cX2_replica 24 = .ok (.iconst 1, 1) := by decide +kernel
theorem dX2_replica_25 : decode cX2_replica 25 = .ok (.ireturn, 1) := by decide +kernel
theorem dX2_replica_26 : decode cX2_replica 26 = .ok (.aload_n 0, 1) := by decide +kernel
theorem dX2_replica_27 : decode cX2_replica 27 = .ok (.getfield 12, 3) := by decide +kernel
theorem dX2_replica_30 : decode cX2_replica 30 = .ok (.getfield 200, 3) := by decide +kernel
theorem dX2_replica_33 : decode cX2_replica 33 = .ok (.iload_n 1, 1) := by decide +kernel
theorem dX2_replica_34 : decode cX2_replica 34 = .ok (.iaload, 1) := by decide +kernel
theorem dX2_replica_35 : decode cX2_replica 35 = .ok (.iload_n 2, 1) := by decide +kernel
theorem dX2_replica_36 : decode cX2_replica 36 = .ok (.invokestatic 169, 3) := by decide +kernel
theorem dX2_replica_39 : decode cX2_replica 39 = .ok (.ifCond .eq 7, 3) := by decide +kernel
theorem dX2_replica_42 : decode cX2_replica 42 = .ok (.iconst 2, 1) := by decide +kernel
theorem dX2_replica_43 : decode cX2_replica 43 = .ok (.goto 4, 3) := by decide +kernel
theorem dX2_replica_46 : decode cX2_replica 46 = .ok (.iconst 0, 1) := by decide +kernel
theorem dX2_replica_47 : decode cX2_replica 47 = .ok (.ireturn, 1) := by decide +kernel
theorem dX2_transfer_0 : decode cX2_transfer 0 = .ok (.iload_n 1, 1) := by decide +kernel
theorem dX2_transfer_1 : decode cX2_transfer 1 = .ok (.iconst 0, 1) := by decide +kernel
theorem dX2_transfer_2 : decode cX2_transfer 2 = .ok (.iconst 3, 1) := by decide +kernel
theorem dX2_transfer_3 : decode cX2_transfer 3 = .ok (.invokestatic 51, 3) := by decide +kernel
theorem dX2_transfer_6 : decode cX2_transfer 6 = .ok (.aload_n 0, 1) := by decide +kernel
theorem dX2_transfer_7 : decode cX2_transfer 7 = .ok (.getfield 12, 3) := by decide +kernel
theorem dX2_transfer_10 : decode cX2_transfer 10 = .ok (.getfield 203, 3) := by decide +kernel
theorem dX2_transfer_13 : decode cX2_transfer 13 = .ok (.iconst (-1), 1) := by decide +kernel
theorem dX2_transfer_14 : decode cX2_transfer 14 = .ok (.if_icmp .ne 5, 3) := by decide +kernel
theorem dX2_transfer_17 : decode cX2_transfer 17 = .ok (.iconst (-1), 1) := by decide +kernel
theorem dX2_transfer_18 : decode cX2_transfer 18 = .ok (.ireturn, 1) := by decide +kernel
theorem dX2_transfer_19 : decode cX2_transfer 19 = .ok (.iload_n 1, 1) := by decide +kernel
theorem dX2_transfer_20 : decode cX2_transfer 20 = .ok (.tableswitch 52 0 2 #[28, 36, 44], 28) := by decide +kernel
theorem dX2_transfer_48 : decode cX2_transfer 48 = .ok (.aload_n 0, 1) := by decide +kernel
theorem dX2_transfer_49 : decode cX2_transfer 49 = .ok (.getfield 12, 3) := by decide +kernel
theorem dX2_transfer_52 : decode cX2_transfer 52 = .ok (.getfield 203, 3) := by decide +kernel
theorem dX2_transfer_55 : decode cX2_transfer 55 = .ok (.ireturn, 1) := by decide +kernel
theorem dX2_transfer_56 : decode cX2_transfer 56 = .ok (.aload_n 0, 1) := by decide +kernel
theorem dX2_transfer_57 : decode cX2_transfer 57 = .ok (.getfield 12, 3) := by decide +kernel
theorem dX2_transfer_60 : decode cX2_transfer 60 = .ok (.getfield 206, 3) := by decide +kernel
theorem dX2_transfer_63 : decode cX2_transfer 63 = .ok (.ireturn, 1) := by decide +kernel
theorem dX2_transfer_64 : decode cX2_transfer 64 = .ok (.aload_n 0, 1) := by decide +kernel
theorem dX2_transfer_65 : decode cX2_transfer 65 = .ok (.getfield 12, 3) := by decide +kernel
theorem dX2_transfer_68 : decode cX2_transfer 68 = .ok (.getfield 209, 3) := by decide +kernel
theorem dX2_transfer_71 : decode cX2_transfer 71 = .ok (.ireturn, 1) := by decide +kernel
theorem dX2_transfer_72 : decode cX2_transfer 72 = .ok (.aload_n 0, 1) := by decide +kernel
theorem dX2_transfer_73 : decode cX2_transfer 73 = .ok (.getfield 12, 3) := by decide +kernel
theorem dX2_transfer_76 : decode cX2_transfer 76 = .ok (.getfield 212, 3) := by decide +kernel
theorem dX2_transfer_79 : decode cX2_transfer 79 = .ok (.aload_n 0, 1) := by decide +kernel
theorem dX2_transfer_80 : decode cX2_transfer 80 = .ok (.getfield 12, 3) := by decide +kernel
theorem dX2_transfer_83 : decode cX2_transfer 83 = .ok (.getfield 166, 3) := by decide +kernel
theorem dX2_transfer_86 : decode cX2_transfer 86 = .ok (.isub, 1) := by decide +kernel
theorem dX2_transfer_87 : decode cX2_transfer 87 = .ok (.ireturn, 1) := by decide +kernel
theorem dX2_completedTransfers_0 : decode cX2_completedTransfers 0 = .ok (.aload_n 0, 1) := by decide +kernel
theorem dX2_completedTransfers_1 : decode cX2_completedTransfers 1 = .ok (.getfield 12, 3) := by decide +kernel
theorem dX2_completedTransfers_4 : decode cX2_completedTransfers 4 = .ok (.getfield 215, 3) := by decide +kernel
theorem dX2_completedTransfers_7 : decode cX2_completedTransfers 7 = .ok (.ireturn, 1) := by decide +kernel
theorem dX2_time_0 : decode cX2_time 0 = .ok (.aload_n 0, 1) := by decide +kernel
theorem dX2_time_1 : decode cX2_time 1 = .ok (.getfield 12, 3) := by decide +kernel
theorem dX2_time_4 : decode cX2_time 4 = .ok (.getfield 166, 3) := by decide +kernel
theorem dX2_time_7 : decode cX2_time 7 = .ok (.ireturn, 1) := by decide +kernel
theorem dX2_restsIn_0 : decode cX2_restsIn 0 = .ok (.aload_n 0, 1) := by decide +kernel
theorem dX2_restsIn_1 : decode cX2_restsIn 1 = .ok (.getfield 12, 3) := by decide +kernel
theorem dX2_restsIn_4 : decode cX2_restsIn 4 = .ok (.aload_n 0, 1) := by decide +kernel
theorem dX2_restsIn_5 : decode cX2_restsIn 5 = .ok (.getfield 16, 3) := by decide +kernel
theorem dX2_restsIn_8 : decode cX2_restsIn 8 = .ok (.invokestatic 158, 3) := by decide +kernel
theorem dX2_restsIn_11 : decode cX2_restsIn 11 = .ok (.aload_n 0, 1) := by decide +kernel
theorem dX2_restsIn_12 : decode cX2_restsIn 12 = .ok (.getfield 16, 3) := by decide +kernel
theorem dX2_restsIn_15 : decode cX2_restsIn 15 = .ok (.getfield 166, 3) := by decide +kernel
theorem dX2_restsIn_18 : decode cX2_restsIn 18 = .ok (.istore_n 1, 1) := by decide +kernel
theorem dX2_restsIn_19 : decode cX2_restsIn 19 = .ok (.iload_n 1, 1) := by decide +kernel
theorem dX2_restsIn_20 : decode cX2_restsIn 20 = .ok (.sipush 600, 3) := by decide +kernel
theorem dX2_restsIn_23 : decode cX2_restsIn 23 = .ok (.iadd, 1) := by decide +kernel
theorem dX2_restsIn_24 : decode cX2_restsIn 24 = .ok (.istore_n 2, 1) := by decide +kernel
theorem dX2_restsIn_25 : decode cX2_restsIn 25 = .ok (.iconst 0, 1) := by decide +kernel
theorem dX2_restsIn_26 : decode cX2_restsIn 26 = .ok (.istore_n 3, 1) := by decide +kernel
theorem dX2_restsIn_27 : decode cX2_restsIn 27 = .ok (.iload_n 3, 1) := by decide +kernel
theorem dX2_restsIn_28 : decode cX2_restsIn 28 = .ok (.sipush 600, 3) := by decide +kernel
theorem dX2_restsIn_31 : decode cX2_restsIn 31 = .ok (.if_icmp .gt 66, 3) := by decide +kernel
theorem dX2_restsIn_34 : decode cX2_restsIn 34 = .ok (.aload_n 0, 1) := by decide +kernel
theorem dX2_restsIn_35 : decode cX2_restsIn 35 = .ok (.getfield 16, 3) := by decide +kernel
theorem dX2_restsIn_38 : decode cX2_restsIn 38 = .ok (.invokevirtual 221, 3) := by decide +kernel
theorem dX2_restsIn_41 : decode cX2_restsIn 41 = .ok (.ifCond .eq 13, 3) := by decide +kernel
theorem dX2_restsIn_44 : decode cX2_restsIn 44 = .ok (.aload_n 0, 1) := by decide +kernel
theorem dX2_restsIn_45 : decode cX2_restsIn 45 = .ok (.getfield 16, 3) := by decide +kernel
theorem dX2_restsIn_48 : decode cX2_restsIn 48 = .ok (.getfield 166, 3) := by decide +kernel
theorem dX2_restsIn_51 : decode cX2_restsIn 51 = .ok (.iload_n 1, 1) := by decide +kernel
theorem dX2_restsIn_52 : decode cX2_restsIn 52 = .ok (.isub, 1) := by decide +kernel
theorem dX2_restsIn_53 : decode cX2_restsIn 53 = .ok (.ireturn, 1) := by decide +kernel
theorem dX2_restsIn_54 : decode cX2_restsIn 54 = .ok (.aload_n 0, 1) := by decide +kernel
theorem dX2_restsIn_55 : decode cX2_restsIn 55 = .ok (.getfield 16, 3) := by decide +kernel
theorem dX2_restsIn_58 : decode cX2_restsIn 58 = .ok (.getfield 166, 3) := by decide +kernel
theorem dX2_restsIn_61 : decode cX2_restsIn 61 = .ok (.iload_n 2, 1) := by decide +kernel
theorem dX2_restsIn_62 : decode cX2_restsIn 62 = .ok (.if_icmp .lt 5, 3) := by decide +kernel
theorem dX2_restsIn_65 : decode cX2_restsIn 65 = .ok (.iconst (-1), 1) := by decide +kernel
theorem dX2_restsIn_66 : decode cX2_restsIn 66 = .ok (.ireturn, 1) := by decide +kernel
theorem dX2_restsIn_67 : decode cX2_restsIn 67 = .ok (.aload_n 0, 1) := by decide +kernel
theorem dX2_restsIn_68 : decode cX2_restsIn 68 = .ok (.getfield 16, 3) := by decide +kernel
theorem dX2_restsIn_71 : decode cX2_restsIn 71 = .ok (.aload_n 0, 1) := by decide +kernel
theorem dX2_restsIn_72 : decode cX2_restsIn 72 = .ok (.getfield 16, 3) := by decide +kernel
theorem dX2_restsIn_75 : decode cX2_restsIn 75 = .ok (.iload_n 2, 1) := by decide +kernel
theorem dX2_restsIn_76 : decode cX2_restsIn 76 = .ok (.invokevirtual 224, 3) := by decide +kernel
theorem dX2_restsIn_79 : decode cX2_restsIn 79 = .ok (.aload_n 0, 1) := by decide +kernel
theorem dX2_restsIn_80 : decode cX2_restsIn 80 = .ok (.getfield 16, 3) := by decide +kernel
theorem dX2_restsIn_83 : decode cX2_restsIn 83 = .ok (.getfield 166, 3) := by decide +kernel
theorem dX2_restsIn_86 : decode cX2_restsIn 86 = .ok (.isub, 1) := by decide +kernel
theorem dX2_restsIn_87 : decode cX2_restsIn 87 = .ok (.invokevirtual 123, 3) := by decide +kernel
theorem dX2_restsIn_90 : decode cX2_restsIn 90 = .ok (.pop, 1) := by decide +kernel
theorem dX2_restsIn_91 : decode cX2_restsIn 91 = .ok (.iinc 3 1, 3) := by decide +kernel
theorem dX2_restsIn_94 : decode cX2_restsIn 94 = .ok (.goto (-67), 3) := by decide +kernel
theorem dX2_restsIn_97 : decode cX2_restsIn 97 = .ok (.iconst (-1), 1) := by decide +kernel
theorem dX2_restsIn_98 : decode cX2_restsIn 98 = .ok (.ireturn, 1) := by decide +kernel
theorem dX2_savedStates_0 : decode cX2_savedStates 0 = .ok (.aload_n 0, 1) := by decide +kernel
theorem dX2_savedStates_1 : decode cX2_savedStates 1 = .ok (.getfield 23, 3) := by decide +kernel
theorem dX2_savedStates_4 : decode cX2_savedStates 4 = .ok (.ireturn, 1) := by decide +kernel
theorem dX2_requireIndex_0 : decode cX2_requireIndex 0 = .ok (.iload_n 0, 1) := by decide +kernel
theorem dX2_requireIndex_1 : decode cX2_requireIndex 1 = .ok (.ifCond .lt 8, 3) := by decide +kernel
theorem dX2_requireIndex_4 : decode cX2_requireIndex 4 = .ok (.iload_n 0, 1) := by decide +kernel
theorem dX2_requireIndex_5 : decode cX2_requireIndex 5 = .ok (.iload_n 1, 1) := by decide +kernel
theorem dX2_requireIndex_6 : decode cX2_requireIndex 6 = .ok (.if_icmp .lt 13, 3) := by decide +kernel
theorem dX2_requireIndex_9 : decode cX2_requireIndex 9 = .ok (.new 227, 3) := by decide +kernel
theorem dX2_requireIndex_12 : decode cX2_requireIndex 12 = .ok (.dup, 1) := by decide +kernel
theorem dX2_requireIndex_13 : decode cX2_requireIndex 13 = .ok (.ldc 229, 2) := by decide +kernel
theorem dX2_requireIndex_15 : decode cX2_requireIndex 15 = .ok (.invokespecial 231, 3) := by decide +kernel
theorem dX2_requireIndex_18 : decode cX2_requireIndex 18 = .ok (.athrow, 1) := by decide +kernel
theorem dX2_requireIndex_19 : decode cX2_requireIndex 19 = .ok (.return_, 1) := by decide +kernel
theorem dX2_requirePage_0 : decode cX2_requirePage 0 = .ok (.iload_n 0, 1) := by decide +kernel
theorem dX2_requirePage_1 : decode cX2_requirePage 1 = .ok (.bipush 30, 2) := by decide +kernel
theorem dX2_requirePage_3 : decode cX2_requirePage 3 = .ok (.invokestatic 162, 3) := by decide +kernel
theorem dX2_requirePage_6 : decode cX2_requirePage 6 = .ok (.return_, 1) := by decide +kernel
theorem dX2_requireHost_0 : decode cX2_requireHost 0 = .ok (.iload_n 0, 1) := by decide +kernel
theorem dX2_requireHost_1 : decode cX2_requireHost 1 = .ok (.bipush 6, 2) := by decide +kernel
theorem dX2_requireHost_3 : decode cX2_requireHost 3 = .ok (.invokestatic 162, 3) := by decide +kernel
theorem dX2_requireHost_6 : decode cX2_requireHost 6 = .ok (.return_, 1) := by decide +kernel
theorem dX2_requireRange_0 : decode cX2_requireRange 0 = .ok (.iload_n 0, 1) := by decide +kernel
theorem dX2_requireRange_1 : decode cX2_requireRange 1 = .ok (.iload_n 1, 1) := by decide +kernel
theorem dX2_requireRange_2 : decode cX2_requireRange 2 = .ok (.if_icmp .lt 8, 3) := by decide +kernel
theorem dX2_requireRange_5 : decode cX2_requireRange 5 = .ok (.iload_n 0, 1) := by decide +kernel
theorem dX2_requireRange_6 : decode cX2_requireRange 6 = .ok (.iload_n 2, 1) := by decide +kernel
theorem dX2_requireRange_7 : decode cX2_requireRange 7 = .ok (.if_icmp .le 13, 3) := by decide +kernel
theorem dX2_requireRange_10 : decode cX2_requireRange 10 = .ok (.new 234, 3) := by decide +kernel
theorem dX2_requireRange_13 : decode cX2_requireRange 13 = .ok (.dup, 1) := by decide +kernel
theorem dX2_requireRange_14 : decode cX2_requireRange 14 = .ok (.ldc 236, 2) := by decide +kernel
theorem dX2_requireRange_16 : decode cX2_requireRange 16 = .ok (.invokespecial 238, 3) := by decide +kernel
theorem dX2_requireRange_19 : decode cX2_requireRange 19 = .ok (.athrow, 1) := by decide +kernel
theorem dX2_requireRange_20 : decode cX2_requireRange 20 = .ok (.return_, 1) := by decide +kernel
theorem dX2_requireState_0 : decode cX2_requireState 0 = .ok (.iload_n 0, 1) := by decide +kernel
theorem dX2_requireState_1 : decode cX2_requireState 1 = .ok (.ifCond .ne 13, 3) := by decide +kernel
theorem dX2_requireState_4 : decode cX2_requireState 4 = .ok (.new 239, 3) := by decide +kernel
theorem dX2_requireState_7 : decode cX2_requireState 7 = .ok (.dup, 1) := by decide +kernel
theorem dX2_requireState_8 : decode cX2_requireState 8 = .ok (.ldc 241, 2) := by decide +kernel
theorem dX2_requireState_10 : decode cX2_requireState 10 = .ok (.invokespecial 243, 3) := by decide +kernel
theorem dX2_requireState_13 : decode cX2_requireState 13 = .ok (.athrow, 1) := by decide +kernel
theorem dX2_requireState_14 : decode cX2_requireState 14 = .ok (.return_, 1) := by decide +kernel
theorem dX2_has_0 : decode cX2_has 0 = .ok (.iload_n 0, 1) := by decide +kernel
theorem dX2_has_1 : decode cX2_has 1 = .ok (.iload_n 1, 1) := by decide +kernel
theorem dX2_has_2 : decode cX2_has 2 = .ok (.ishr, 1) := by decide +kernel
theorem dX2_has_3 : decode cX2_has 3 = .ok (.iconst 1, 1) := by decide +kernel
theorem dX2_has_4 : decode cX2_has 4 = .ok (.iand, 1) := by decide +kernel
theorem dX2_has_5 : decode cX2_has 5 = .ok (.ifCond .eq 7, 3) := by decide +kernel
theorem dX2_has_8 : decode cX2_has 8 = .ok (.iconst 1, 1) := by decide +kernel
theorem dX2_has_9 : decode cX2_has 9 = .ok (.goto 4, 3) := by decide +kernel
theorem dX2_has_12 : decode cX2_has 12 = .ok (.iconst 0, 1) := by decide +kernel
theorem dX2_has_13 : decode cX2_has 13 = .ok (.ireturn, 1) := by decide +kernel
theorem dX2_remember_0 : decode cX2_remember 0 = .ok (.aload_n 0, 1) := by decide +kernel
theorem dX2_remember_1 : decode cX2_remember 1 = .ok (.getfield 23, 3) := by decide +kernel
theorem dX2_remember_4 : decode cX2_remember 4 = .ok (.bipush 6, 2) := by decide +kernel
theorem dX2_remember_6 : decode cX2_remember 6 = .ok (.if_icmp .ne 58, 3) := by decide +kernel
theorem dX2_remember_9 : decode cX2_remember 9 = .ok (.aload_n 0, 1) := by decide +kernel
theorem dX2_remember_10 : decode cX2_remember 10 = .ok (.getfield 19, 3) := by decide +kernel
theorem dX2_remember_13 : decode cX2_remember 13 = .ok (.iconst 0, 1) := by decide +kernel
theorem dX2_remember_14 : decode cX2_remember 14 = .ok (.aaload, 1) := by decide +kernel
theorem dX2_remember_15 : decode cX2_remember 15 = .ok (.astore_n 1, 1) := by decide +kernel
theorem dX2_remember_16 : decode cX2_remember 16 = .ok (.iconst 1, 1) := by decide +kernel
theorem dX2_remember_17 : decode cX2_remember 17 = .ok (.istore_n 2, 1) := by decide +kernel
theorem dX2_remember_18 : decode cX2_remember 18 = .ok (.iload_n 2, 1) := by decide +kernel
theorem dX2_remember_19 : decode cX2_remember 19 = .ok (.bipush 6, 2) := by decide +kernel
theorem dX2_remember_21 : decode cX2_remember 21 = .ok (.if_icmp .ge 23, 3) := by decide +kernel
theorem dX2_remember_24 : decode cX2_remember 24 = .ok (.aload_n 0, 1) := by decide +kernel
theorem dX2_remember_25 : decode cX2_remember 25 = .ok (.getfield 19, 3) := by decide +kernel
theorem dX2_remember_28 : decode cX2_remember 28 = .ok (.iload_n 2, 1) := by decide +kernel
theorem dX2_remember_29 : decode cX2_remember 29 = .ok (.iconst 1, 1) := by decide +kernel
theorem dX2_remember_30 : decode cX2_remember 30 = .ok (.isub, 1) := by decide +kernel
theorem dX2_remember_31 : decode cX2_remember 31 = .ok (.aload_n 0, 1) := by decide +kernel
theorem dX2_remember_32 : decode cX2_remember 32 = .ok (.getfield 19, 3) := by decide +kernel
theorem dX2_remember_35 : decode cX2_remember 35 = .ok (.iload_n 2, 1) := by decide +kernel
theorem dX2_remember_36 : decode cX2_remember 36 = .ok (.aaload, 1) := by decide +kernel
theorem dX2_remember_37 : decode cX2_remember 37 = .ok (.aastore, 1) := by decide +kernel
theorem dX2_remember_38 : decode cX2_remember 38 = .ok (.iinc 2 1, 3) := by decide +kernel
theorem dX2_remember_41 : decode cX2_remember 41 = .ok (.goto (-23), 3) := by decide +kernel
theorem dX2_remember_44 : decode cX2_remember 44 = .ok (.aload_n 0, 1) := by decide +kernel
theorem dX2_remember_45 : decode cX2_remember 45 = .ok (.dup, 1) := by decide +kernel
theorem dX2_remember_46 : decode cX2_remember 46 = .ok (.getfield 23, 3) := by decide +kernel
theorem dX2_remember_49 : decode cX2_remember 49 = .ok (.iconst 1, 1) := by decide +kernel
theorem dX2_remember_50 : decode cX2_remember 50 = .ok (.isub, 1) := by decide +kernel
theorem dX2_remember_51 : decode cX2_remember 51 = .ok (.putfield 23, 3) := by decide +kernel
theorem dX2_remember_54 : decode cX2_remember 54 = .ok (.aload_n 0, 1) := by decide +kernel
theorem dX2_remember_55 : decode cX2_remember 55 = .ok (.getfield 19, 3) := by decide +kernel
theorem dX2_remember_58 : decode cX2_remember 58 = .ok (.aload_n 0, 1) := by decide +kernel
theorem dX2_remember_59 : decode cX2_remember 59 = .ok (.getfield 23, 3) := by decide +kernel
theorem dX2_remember_62 : decode cX2_remember 62 = .ok (.aload_n 1, 1) := by decide +kernel
theorem dX2_remember_63 : decode cX2_remember 63 = .ok (.aastore, 1) := by decide +kernel
theorem dX2_remember_64 : decode cX2_remember 64 = .ok (.aload_n 0, 1) := by decide +kernel
theorem dX2_remember_65 : decode cX2_remember 65 = .ok (.getfield 12, 3) := by decide +kernel
theorem dX2_remember_68 : decode cX2_remember 68 = .ok (.aload_n 0, 1) := by decide +kernel
theorem dX2_remember_69 : decode cX2_remember 69 = .ok (.getfield 19, 3) := by decide +kernel
theorem dX2_remember_72 : decode cX2_remember 72 = .ok (.aload_n 0, 1) := by decide +kernel
theorem dX2_remember_73 : decode cX2_remember 73 = .ok (.getfield 23, 3) := by decide +kernel
theorem dX2_remember_76 : decode cX2_remember 76 = .ok (.aaload, 1) := by decide +kernel
theorem dX2_remember_77 : decode cX2_remember 77 = .ok (.invokestatic 158, 3) := by decide +kernel
theorem dX2_remember_80 : decode cX2_remember 80 = .ok (.aload_n 0, 1) := by decide +kernel
theorem dX2_remember_81 : decode cX2_remember 81 = .ok (.dup, 1) := by decide +kernel
theorem dX2_remember_82 : decode cX2_remember 82 = .ok (.getfield 23, 3) := by decide +kernel
theorem dX2_remember_85 : decode cX2_remember 85 = .ok (.iconst 1, 1) := by decide +kernel
theorem dX2_remember_86 : decode cX2_remember 86 = .ok (.iadd, 1) := by decide +kernel
theorem dX2_remember_87 : decode cX2_remember 87 = .ok (.putfield 23, 3) := by decide +kernel
theorem dX2_remember_90 : decode cX2_remember 90 = .ok (.return_, 1) := by decide +kernel
theorem dJ6_bitCount_0f7a4_0 : decode cJ6_bitCount_0f7a4 0 = .ok (.iload_n 0, 1) := by decide +kernel
theorem dJ6_bitCount_0f7a4_1 : decode cJ6_bitCount_0f7a4 1 = .ok (.iload_n 0, 1) := by decide +kernel
theorem dJ6_bitCount_0f7a4_2 : decode cJ6_bitCount_0f7a4 2 = .ok (.iconst 1, 1) := by decide +kernel
theorem dJ6_bitCount_0f7a4_3 : decode cJ6_bitCount_0f7a4 3 = .ok (.iushr, 1) := by decide +kernel
theorem dJ6_bitCount_0f7a4_4 : decode cJ6_bitCount_0f7a4 4 = .ok (.ldc_w 265, 3) := by decide +kernel
theorem dJ6_bitCount_0f7a4_7 : decode cJ6_bitCount_0f7a4 7 = .ok (.iand, 1) := by decide +kernel
theorem dJ6_bitCount_0f7a4_8 : decode cJ6_bitCount_0f7a4 8 = .ok (.isub, 1) := by decide +kernel
theorem dJ6_bitCount_0f7a4_9 : decode cJ6_bitCount_0f7a4 9 = .ok (.istore_n 0, 1) := by decide +kernel
theorem dJ6_bitCount_0f7a4_10 : decode cJ6_bitCount_0f7a4 10 = .ok (.iload_n 0, 1) := by decide +kernel
theorem dJ6_bitCount_0f7a4_11 : decode cJ6_bitCount_0f7a4 11 = .ok (.ldc_w 266, 3) := by decide +kernel
theorem dJ6_bitCount_0f7a4_14 : decode cJ6_bitCount_0f7a4 14 = .ok (.iand, 1) := by decide +kernel
theorem dJ6_bitCount_0f7a4_15 : decode cJ6_bitCount_0f7a4 15 = .ok (.iload_n 0, 1) := by decide +kernel
theorem dJ6_bitCount_0f7a4_16 : decode cJ6_bitCount_0f7a4 16 = .ok (.iconst 2, 1) := by decide +kernel
theorem dJ6_bitCount_0f7a4_17 : decode cJ6_bitCount_0f7a4 17 = .ok (.iushr, 1) := by decide +kernel
theorem dJ6_bitCount_0f7a4_18 : decode cJ6_bitCount_0f7a4 18 = .ok (.ldc_w 266, 3) := by decide +kernel
theorem dJ6_bitCount_0f7a4_21 : decode cJ6_bitCount_0f7a4 21 = .ok (.iand, 1) := by decide +kernel
theorem dJ6_bitCount_0f7a4_22 : decode cJ6_bitCount_0f7a4 22 = .ok (.iadd, 1) := by decide +kernel
theorem dJ6_bitCount_0f7a4_23 : decode cJ6_bitCount_0f7a4 23 = .ok (.istore_n 0, 1) := by decide +kernel
theorem dJ6_bitCount_0f7a4_24 : decode cJ6_bitCount_0f7a4 24 = .ok (.iload_n 0, 1) := by decide +kernel
theorem dJ6_bitCount_0f7a4_25 : decode cJ6_bitCount_0f7a4 25 = .ok (.iload_n 0, 1) := by decide +kernel
theorem dJ6_bitCount_0f7a4_26 : decode cJ6_bitCount_0f7a4 26 = .ok (.iconst 4, 1) := by decide +kernel
theorem dJ6_bitCount_0f7a4_27 : decode cJ6_bitCount_0f7a4 27 = .ok (.iushr, 1) := by decide +kernel
theorem dJ6_bitCount_0f7a4_28 : decode cJ6_bitCount_0f7a4 28 = .ok (.iadd, 1) := by decide +kernel
theorem dJ6_bitCount_0f7a4_29 : decode cJ6_bitCount_0f7a4 29 = .ok (.ldc_w 267, 3) := by decide +kernel
theorem dJ6_bitCount_0f7a4_32 : decode cJ6_bitCount_0f7a4 32 = .ok (.iand, 1) := by decide +kernel
theorem dJ6_bitCount_0f7a4_33 : decode cJ6_bitCount_0f7a4 33 = .ok (.istore_n 0, 1) := by decide +kernel
theorem dJ6_bitCount_0f7a4_34 : decode cJ6_bitCount_0f7a4 34 = .ok (.iload_n 0, 1) := by decide +kernel
theorem dJ6_bitCount_0f7a4_35 : decode cJ6_bitCount_0f7a4 35 = .ok (.iload_n 0, 1) := by decide +kernel
theorem dJ6_bitCount_0f7a4_36 : decode cJ6_bitCount_0f7a4 36 = .ok (.bipush 8, 2) := by decide +kernel
theorem dJ6_bitCount_0f7a4_38 : decode cJ6_bitCount_0f7a4 38 = .ok (.iushr, 1) := by decide +kernel
theorem dJ6_bitCount_0f7a4_39 : decode cJ6_bitCount_0f7a4 39 = .ok (.iadd, 1) := by decide +kernel
theorem dJ6_bitCount_0f7a4_40 : decode cJ6_bitCount_0f7a4 40 = .ok (.istore_n 0, 1) := by decide +kernel
theorem dJ6_bitCount_0f7a4_41 : decode cJ6_bitCount_0f7a4 41 = .ok (.iload_n 0, 1) := by decide +kernel
theorem dJ6_bitCount_0f7a4_42 : decode cJ6_bitCount_0f7a4 42 = .ok (.iload_n 0, 1) := by decide +kernel
theorem dJ6_bitCount_0f7a4_43 : decode cJ6_bitCount_0f7a4 43 = .ok (.bipush 16, 2) := by decide +kernel
theorem dJ6_bitCount_0f7a4_45 : decode cJ6_bitCount_0f7a4 45 = .ok (.iushr, 1) := by decide +kernel
theorem dJ6_bitCount_0f7a4_46 : decode cJ6_bitCount_0f7a4 46 = .ok (.iadd, 1) := by decide +kernel
theorem dJ6_bitCount_0f7a4_47 : decode cJ6_bitCount_0f7a4 47 = .ok (.istore_n 0, 1) := by decide +kernel
theorem dJ6_bitCount_0f7a4_48 : decode cJ6_bitCount_0f7a4 48 = .ok (.iload_n 0, 1) := by decide +kernel
theorem dJ6_bitCount_0f7a4_49 : decode cJ6_bitCount_0f7a4 49 = .ok (.bipush 63, 2) := by decide +kernel
theorem dJ6_bitCount_0f7a4_51 : decode cJ6_bitCount_0f7a4 51 = .ok (.iand, 1) := by decide +kernel
theorem dJ6_bitCount_0f7a4_52 : decode cJ6_bitCount_0f7a4 52 = .ok (.ireturn, 1) := by decide +kernel
