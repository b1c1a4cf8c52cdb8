theorem dX0_init_0 : decode cX0_init 0 = .ok (.aload_n 0, 1) := by decide +kernel
theorem dX0_init_1 : decode cX0_init 1 = .ok (.invokespecial 3, 3) := by decide +kernel
theorem dX0_init_4 : decode cX0_init 4 = .ok (.aload_n 0, 1) := by decide +kernel
theorem dX0_init_5 : decode cX0_init 5 = .ok (.iconst 0, 1) := by decide +kernel
theorem dX0_init_6 : decode cX0_init 6 = .ok (.putfield 11, 3) := by decide +kernel
theorem dX0_init_9 : decode cX0_init 9 = .ok (.aload_n 0, 1) := by decide +kernel
theorem dX0_init_10 : decode cX0_init 10 = .ok (.iconst (-1), 1) := by decide +kernel
theorem dX0_init_11 : decode cX0_init 11 = .ok (.putfield 15, 3) := by decide +kernel
theorem dX0_init_14 : decode cX0_init 14 = .ok (.aload_n 0, 1) := by decide +kernel
theorem dX0_init_15 : decode cX0_init 15 = .ok (.iconst (-1), 1) := by decide +kernel
theorem dX0_init_16 : decode cX0_init 16 = .ok (.putfield 19, 3) := by decide +kernel
theorem dX0_init_19 : decode cX0_init 19 = .ok (.aload_n 0, 1) := by decide +kernel
theorem dX0_init_20 : decode cX0_init 20 = .ok (.iconst 0, 1) := by decide +kernel
theorem dX0_init_21 : decode cX0_init 21 = .ok (.putfield 22, 3) := by decide +kernel
theorem dX0_init_24 : decode cX0_init 24 = .ok (.return_, 1) := by decide +kernel
theorem dX1_init_0 : decode cX1_init 0 = .ok (.aload_n 0, 1) := by decide +kernel
theorem dX1_init_1 : decode cX1_init 1 = .ok (.invokespecial 3, 3) := by decide +kernel
theorem dX1_init_4 : decode cX1_init 4 = .ok (.aload_n 0, 1) := by decide +kernel
theorem dX1_init_5 : decode cX1_init 5 = .ok (.bipush 6, 2) := by decide +kernel
theorem dX1_init_7 : decode cX1_init 7 = .ok (.newarray .int, 2) := by decide +kernel
theorem dX1_init_9 : decode cX1_init 9 = .ok (.putfield 9, 3) := by decide +kernel
theorem dX1_init_12 : decode cX1_init 12 = .ok (.aload_n 0, 1) := by decide +kernel
theorem dX1_init_13 : decode cX1_init 13 = .ok (.bipush 6, 2) := by decide +kernel
theorem dX1_init_15 : decode cX1_init 15 = .ok (.newarray .int, 2) := by decide +kernel
theorem dX1_init_17 : decode cX1_init 17 = .ok (.putfield 15, 3) := by decide +kernel
theorem dX1_init_20 : decode cX1_init 20 = .ok (.aload_n 0, 1) := by decide +kernel
theorem dX1_init_21 : decode cX1_init 21 = .ok (.bipush 6, 2) := by decide +kernel
theorem dX1_init_23 : decode cX1_init 23 = .ok (.newarray .int, 2) := by decide +kernel
theorem dX1_init_25 : decode cX1_init 25 = .ok (.putfield 18, 3) := by decide +kernel
theorem dX1_init_28 : decode cX1_init 28 = .ok (.aload_n 0, 1) := by decide +kernel
theorem dX1_init_29 : decode cX1_init 29 = .ok (.bipush 6, 2) := by decide +kernel
theorem dX1_init_31 : decode cX1_init 31 = .ok (.newarray .int, 2) := by decide +kernel
theorem dX1_init_33 : decode cX1_init 33 = .ok (.putfield 21, 3) := by decide +kernel
theorem dX1_init_36 : decode cX1_init 36 = .ok (.aload_n 0, 1) := by decide +kernel
theorem dX1_init_37 : decode cX1_init 37 = .ok (.bipush 6, 2) := by decide +kernel
theorem dX1_init_39 : decode cX1_init 39 = .ok (.newarray .int, 2) := by decide +kernel
theorem dX1_init_41 : decode cX1_init 41 = .ok (.putfield 24, 3) := by decide +kernel
theorem dX1_init_44 : decode cX1_init 44 = .ok (.aload_n 0, 1) := by decide +kernel
theorem dX1_init_45 : decode cX1_init 45 = .ok (.bipush 30, 2) := by decide +kernel
theorem dX1_init_47 : decode cX1_init 47 = .ok (.newarray .int, 2) := by decide +kernel
theorem dX1_init_49 : decode cX1_init 49 = .ok (.putfield 27, 3) := by decide +kernel
theorem dX1_init_52 : decode cX1_init 52 = .ok (.aload_n 0, 1) := by decide +kernel
theorem dX1_init_53 : decode cX1_init 53 = .ok (.iconst 0, 1) := by decide +kernel
theorem dX1_init_54 : decode cX1_init 54 = .ok (.putfield 30, 3) := by decide +kernel
theorem dX1_init_57 : decode cX1_init 57 = .ok (.aload_n 0, 1) := by decide +kernel
theorem dX1_init_58 : decode cX1_init 58 = .ok (.bipush 63, 2) := by decide +kernel
theorem dX1_init_60 : decode cX1_init 60 = .ok (.putfield 34, 3) := by decide +kernel
theorem dX1_init_63 : decode cX1_init 63 = .ok (.aload_n 0, 1) := by decide +kernel
theorem dX1_init_64 : decode cX1_init 64 = .ok (.iconst 0, 1) := by decide +kernel
theorem dX1_init_65 : decode cX1_init 65 = .ok (.putfield 37, 3) := by decide +kernel
theorem dX1_init_68 : decode cX1_init 68 = .ok (.aload_n 0, 1) := by decide +kernel
theorem dX1_init_69 : decode cX1_init 69 = .ok (.iconst 5, 1) := by decide +kernel
theorem dX1_init_70 : decode cX1_init 70 = .ok (.putfield 40, 3) := by decide +kernel
theorem dX1_init_73 : decode cX1_init 73 = .ok (.aload_n 0, 1) := by decide +kernel
theorem dX1_init_74 : decode cX1_init 74 = .ok (.iconst 0, 1) := by decide +kernel
theorem dX1_init_75 : decode cX1_init 75 = .ok (.putfield 43, 3) := by decide +kernel
theorem dX1_init_78 : decode cX1_init 78 = .ok (.aload_n 0, 1) := by decide +kernel
theorem dX1_init_79 : decode cX1_init 79 = .ok (.iconst (-1), 1) := by decide +kernel
theorem dX1_init_80 : decode cX1_init 80 = .ok (.putfield 46, 3) := by decide +kernel
theorem dX1_init_83 : decode cX1_init 83 = .ok (.aload_n 0, 1) := by decide +kernel
theorem dX1_init_84 : decode cX1_init 84 = .ok (.iconst (-1), 1) := by decide +kernel
theorem dX1_init_85 : decode cX1_init 85 = .ok (.putfield 49, 3) := by decide +kernel
theorem dX1_init_88 : decode cX1_init 88 = .ok (.aload_n 0, 1) := by decide +kernel
theorem dX1_init_89 : decode cX1_init 89 = .ok (.iconst (-1), 1) := by decide +kernel
theorem dX1_init_90 : decode cX1_init 90 = .ok (.putfield 52, 3) := by decide +kernel
theorem dX1_init_93 : decode cX1_init 93 = .ok (.aload_n 0, 1) := by decide +kernel
theorem dX1_init_94 : decode cX1_init 94 = .ok (.iconst 0, 1) := by decide +kernel
theorem dX1_init_95 : decode cX1_init 95 = .ok (.putfield 55, 3) := by decide +kernel
theorem dX1_init_98 : decode cX1_init 98 = .ok (.return_, 1) := by decide +kernel
theorem dX1_copy_0 : decode cX1_copy 0 = .ok (.aload_n 0, 1) := by decide +kernel
theorem dX1_copy_1 : decode cX1_copy 1 = .ok (.ifnull 7, 3) := by decide +kernel
theorem dX1_copy_4 : decode cX1_copy 4 = .ok (.aload_n 1, 1) := by decide +kernel
theorem dX1_copy_5 : decode cX1_copy 5 = .ok (.ifnonnull 4, 3) := by decide +kernel
theorem dX1_copy_8 : decode cX1_copy 8 = .ok (.return_, 1) := by decide +kernel
theorem dX1_copy_9 : decode cX1_copy 9 = .ok (.aload_n 0, 1) := by decide +kernel
theorem dX1_copy_10 : decode cX1_copy 10 = .ok (.getfield 9, 3) := by decide +kernel
theorem dX1_copy_13 : decode cX1_copy 13 = .ok (.iconst 0, 1) := by decide +kernel
theorem dX1_copy_14 : decode cX1_copy 14 = .ok (.aload_n 1, 1) := by decide +kernel
theorem dX1_copy_15 : decode cX1_copy 15 = .ok (.getfield 9, 3) := by decide +kernel
theorem dX1_copy_18 : decode cX1_copy 18 = .ok (.iconst 0, 1) := by decide +kernel
theorem dX1_copy_19 : decode cX1_copy 19 = .ok (.bipush 6, 2) := by decide +kernel
theorem dX1_copy_21 : decode cX1_copy 21 = .ok (.invokestatic 58, 3) := by decide +kernel
theorem dX1_copy_24 : decode cX1_copy 24 = .ok (.aload_n 0, 1) := by decide +kernel
theorem dX1_copy_25 : decode cX1_copy 25 = .ok (.getfield 15, 3) := by decide +kernel
theorem dX1_copy_28 : decode cX1_copy 28 = .ok (.iconst 0, 1) := by decide +kernel
theorem dX1_copy_29 : decode cX1_copy 29 = .ok (.aload_n 1, 1) := by decide +kernel
theorem dX1_copy_30 : decode cX1_copy 30 = .ok (.getfield 15, 3) := by decide +kernel
theorem dX1_copy_33 : decode cX1_copy 33 = .ok (.iconst 0, 1) := by decide +kernel
theorem dX1_copy_34 : decode cX1_copy 34 = .ok (.bipush 6, 2) := by decide +kernel
theorem dX1_copy_36 : decode cX1_copy 36 = .ok (.invokestatic 58, 3) := by decide +kernel
theorem dX1_copy_39 : decode cX1_copy 39 = .ok (.aload_n 0, 1) := by decide +kernel
theorem dX1_copy_40 : decode cX1_copy 40 = .ok (.getfield 18, 3) := by decide +kernel
theorem dX1_copy_43 : decode cX1_copy 43 = .ok (.iconst 0, 1) := by decide +kernel
theorem dX1_copy_44 : decode cX1_copy 44 = .ok (.aload_n 1, 1) := by decide +kernel
theorem dX1_copy_45 : decode cX1_copy 45 = .ok (.getfield 18, 3) := by decide +kernel
theorem dX1_copy_48 : decode cX1_copy 48 = .ok (.iconst 0, 1) := by decide +kernel
theorem dX1_copy_49 : decode cX1_copy 49 = .ok (.bipush 6, 2) := by decide +kernel
theorem dX1_copy_51 : decode cX1_copy 51 = .ok (.invokestatic 58, 3) := by decide +kernel
theorem dX1_copy_54 : decode cX1_copy 54 = .ok (.aload_n 0, 1) := by decide +kernel
theorem dX1_copy_55 : decode cX1_copy 55 = .ok (.getfield 21, 3) := by decide +kernel
theorem dX1_copy_58 : decode cX1_copy 58 = .ok (.iconst 0, 1) := by decide +kernel
theorem dX1_copy_59 : decode cX1_copy 59 = .ok (.aload_n 1, 1) := by decide +kernel
theorem dX1_copy_60 : decode cX1_copy 60 = .ok (.getfield 21, 3) := by decide +kernel
theorem dX1_copy_63 : decode cX1_copy 63 = .ok (.iconst 0, 1) := by decide +kernel
theorem dX1_copy_64 : decode cX1_copy 64 = .ok (.bipush 6, 2) := by decide +kernel
theorem dX1_copy_66 : decode cX1_copy 66 = .ok (.invokestatic 58, 3) := by decide +kernel
theorem dX1_copy_69 : decode cX1_copy 69 = .ok (.aload_n 0, 1) := by decide +kernel
theorem dX1_copy_70 : decode cX1_copy 70 = .ok (.getfield 24, 3) := by decide +kernel
theorem dX1_copy_73 : decode cX1_copy 73 = .ok (.iconst 0, 1) := by decide +kernel
theorem dX1_copy_74 : decode cX1_copy 74 = .ok (.aload_n 1, 1) := by decide +kernel
theorem dX1_copy_75 : decode cX1_copy 75 = .ok (.getfield 24, 3) := by decide +kernel
theorem dX1_copy_78 : decode cX1_copy 78 = .ok (.iconst 0, 1) := by decide +kernel
theorem dX1_copy_79 : decode cX1_copy 79 = .ok (.bipush 6, 2) := by decide +kernel
theorem dX1_copy_81 : decode cX1_copy 81 = .ok (.invokestatic 58, 3) := by decide +kernel
theorem dX1_copy_84 : decode cX1_copy 84 = .ok (.aload_n 0, 1) := by decide +kernel
theorem dX1_copy_85 : decode cX1_copy 85 = .ok (.getfield 27, 3) := by decide +kernel
theorem dX1_copy_88 : decode cX1_copy 88 = .ok (.iconst 0, 1) := by decide +kernel
theorem dX1_copy_89 : decode cX1_copy 89 = .ok (.aload_n 1, 1) := by decide +kernel
theorem dX1_copy_90 : decode cX1_copy 90 = .ok (.getfield 27, 3) := by decide +kernel
theorem dX1_copy_93 : decode cX1_copy 93 = .ok (.iconst 0, 1) := by decide +kernel
theorem dX1_copy_94 : decode cX1_copy 94 = .ok (.bipush 30, 2) := by decide +kernel
theorem dX1_copy_96 : decode cX1_copy 96 = .ok (.invokestatic 58, 3) := by decide +kernel
theorem dX1_copy_99 : decode cX1_copy 99 = .ok (.aload_n 1, 1) := by decide +kernel
theorem dX1_copy_100 : decode cX1_copy 100 = .ok (.aload_n 0, 1) := by decide +kernel
theorem dX1_copy_101 : decode cX1_copy 101 = .ok (.getfield 30, 3) := by decide +kernel
theorem dX1_copy_104 : decode cX1_copy 104 = .ok (.putfield 30, 3) := by decide +kernel
theorem dX1_copy_107 : decode cX1_copy 107 = .ok (.aload_n 1, 1) := by decide +kernel
theorem dX1_copy_108 : decode cX1_copy 108 = .ok (.aload_n 0, 1) := by decide +kernel
theorem dX1_copy_109 : decode cX1_copy 109 = .ok (.getfield 34, 3) := by decide +kernel
theorem dX1_copy_112 : decode cX1_copy 112 = .ok (.putfield 34, 3) := by decide +kernel
theorem dX1_copy_115 : decode cX1_copy 115 = .ok (.aload_n 1, 1) := by decide +kernel
theorem dX1_copy_116 : decode cX1_copy 116 = .ok (.aload_n 0, 1) := by decide +kernel
theorem dX1_copy_117 : decode cX1_copy 117 = .ok (.getfield 37, 3) := by decide +kernel
theorem dX1_copy_120 : decode cX1_copy 120 = .ok (.putfield 37, 3) := by decide +kernel
theorem dX1_copy_123 : decode cX1_copy 123 = .ok (.aload_n 1, 1) := by decide +kernel
theorem dX1_copy_124 : decode cX1_copy 124 = .ok (.aload_n 0, 1) := by decide +kernel
theorem dX1_copy_125 : decode cX1_copy 125 = .ok (.getfield 40, 3) := by decide +kernel
theorem dX1_copy_128 : decode cX1_copy 128 = .ok (.putfield 40, 3) := by decide +kernel
theorem dX1_copy_131 : decode cX1_copy 131 = .ok (.aload_n 1, 1) := by decide +kernel
theorem dX1_copy_132 : decode cX1_copy 132 = .ok (.aload_n 0, 1) := by decide +kernel
theorem dX1_copy_133 : decode cX1_copy 133 = .ok (.getfield 43, 3) := by decide +kernel
theorem dX1_copy_136 : decode cX1_copy 136 = .ok (.putfield 43, 3) := by decide +kernel
theorem dX1_copy_139 : decode cX1_copy 139 = .ok (.aload_n 1, 1) := by decide +kernel
theorem dX1_copy_140 : decode cX1_copy 140 = .ok (.aload_n 0, 1) := by decide +kernel
theorem dX1_copy_141 : decode cX1_copy 141 = .ok (.getfield 46, 3) := by decide +kernel
theorem dX1_copy_144 : decode cX1_copy 144 = .ok (.putfield 46, 3) := by decide +kernel
theorem dX1_copy_147 : decode cX1_copy 147 = .ok (.aload_n 1, 1) := by decide +kernel
theorem dX1_copy_148 : decode cX1_copy 148 = .ok (.aload_n 0, 1) := by decide +kernel
theorem dX1_copy_149 : decode cX1_copy 149 = .ok (.getfield 49, 3) := by decide +kernel
theorem dX1_copy_152 : decode cX1_copy 152 = .ok (.putfield 49, 3) := by decide +kernel
theorem dX1_copy_155 : decode cX1_copy 155 = .ok (.aload_n 1, 1) := by decide +kernel
theorem dX1_copy_156 : decode cX1_copy 156 = .ok (.aload_n 0, 1) := by decide +kernel
theorem dX1_copy_157 : decode cX1_copy 157 = .ok (.getfield 52, 3) := by decide +kernel
theorem dX1_copy_160 : decode cX1_copy 160 = .ok (.putfield 52, 3) := by decide +kernel
theorem dX1_copy_163 : decode cX1_copy 163 = .ok (.aload_n 1, 1) := by decide +kernel
theorem dX1_copy_164 : decode cX1_copy 164 = .ok (.aload_n 0, 1) := by decide +kernel
theorem dX1_copy_165 : decode cX1_copy 165 = .ok (.getfield 55, 3) := by decide +kernel
theorem dX1_copy_168 : decode cX1_copy 168 = .ok (.putfield 55, 3) := by decide +kernel
theorem dX1_copy_171 : decode cX1_copy 171 = .ok (.return_, 1) := by decide +kernel
theorem dX1_isPage_0 : decode cX1_isPage 0 = .ok (.iload_n 0, 1) := by decide +kernel
theorem dX1_isPage_1 : decode cX1_isPage 1 = .ok (.ifCond .lt 13, 3) := by decide +kernel
theorem dX1_isPage_4 : decode cX1_isPage 4 = .ok (.iload_n 0, 1) := by decide +kernel
theorem dX1_isPage_5 : decode cX1_isPage 5 = .ok (.bipush 30, 2) := by decide +kernel
theorem dX1_isPage_7 : decode cX1_isPage 7 = .ok (.if_icmp .ge 7, 3) := by decide +kernel
theorem dX1_isPage_10 : decode cX1_isPage 10 = .ok (.iconst 1, 1) := by decide +kernel
theorem dX1_isPage_11 : decode cX1_isPage 11 = .ok (.goto 4, 3) := by decide +kernel
theorem dX1_isPage_14 : decode cX1_isPage 14 = .ok (.iconst 0, 1) := by decide +kernel
theorem dX1_isPage_15 : decode cX1_isPage 15 = .ok (.ireturn, 1) := by decide +kernel
theorem dX1_isHost_0 : decode cX1_isHost 0 = .ok (.iload_n 0, 1) := by decide +kernel
theorem dX1_isHost_1 : decode cX1_isHost 1 = .ok (.ifCond .lt 13, 3) := by decide +kernel
theorem dX1_isHost_4 : decode cX1_isHost 4 = .ok (.iload_n 0, 1) := by decide +kernel
theorem dX1_isHost_5 : decode cX1_isHost 5 = .ok (.bipush 6, 2) := by decide +kernel
theorem dX1_isHost_7 : decode cX1_isHost 7 = .ok (.if_icmp .ge 7, 3) := by decide +kernel
theorem dX1_isHost_10 : decode cX1_isHost 10 = .ok (.iconst 1, 1) := by decide +kernel
theorem dX1_isHost_11 : decode cX1_isHost 11 = .ok (.goto 4, 3) := by decide +kernel
theorem dX1_isHost_14 : decode cX1_isHost 14 = .ok (.iconst 0, 1) := by decide +kernel
theorem dX1_isHost_15 : decode cX1_isHost 15 = .ok (.ireturn, 1) := by decide +kernel
theorem dX1_exists_0 : decode cX1_exists 0 = .ok (.iload_n 1, 1) := by decide +kernel
theorem dX1_exists_1 : decode cX1_exists 1 = .ok (.invokestatic 64, 3) := by decide +kernel
theorem dX1_exists_4 : decode cX1_exists 4 = .ok (.ifCond .eq 18, 3) := by decide +kernel
theorem dX1_exists_7 : decode cX1_exists 7 = .ok (.aload_n 0, 1) := by decide +kernel
theorem dX1_exists_8 : decode cX1_exists 8 = .ok (.getfield 30, 3) := by decide +kernel
theorem dX1_exists_11 : decode cX1_exists 11 = .ok (.iload_n 1, 1) := by decide +kernel
theorem dX1_exists_12 : decode cX1_exists 12 = .ok (.invokestatic 68, 3) := by decide +kernel
theorem dX1_exists_15 : decode cX1_exists 15 = .ok (.ifCond .eq 7, 3) := by decide +kernel
theorem dX1_exists_18 : decode cX1_exists 18 = .ok (.iconst 1, 1) := by decide +kernel
theorem dX1_exists_19 : decode cX1_exists 19 = .ok (.goto 4, 3) := by decide +kernel
theorem dX1_exists_22 : decode cX1_exists 22 = .ok (.iconst 0, 1) := by decide +kernel
theorem dX1_exists_23 : decode cX1_exists 23 = .ok (.ireturn, 1) := by decide +kernel
theorem dX1_isReachable_0 : decode cX1_isReachable 0 = .ok (.aload_n 0, 1) := by decide +kernel
theorem dX1_isReachable_1 : decode cX1_isReachable 1 = .ok (.iload_n 1, 1) := by decide +kernel
theorem dX1_isReachable_2 : decode cX1_isReachable 2 = .ok (.invokevirtual 72, 3) := by decide +kernel
theorem dX1_isReachable_5 : decode cX1_isReachable 5 = .ok (.ifCond .eq 15, 3) := by decide +kernel
theorem dX1_isReachable_8 : decode cX1_isReachable 8 = .ok (.aload_n 0, 1) := by decide +kernel
theorem dX1_isReachable_9 : decode cX1_isReachable 9 = .ok (.iload_n 1, 1) := by decide +kernel
theorem dX1_isReachable_10 : decode cX1_isReachable 10 = .ok (.invokevirtual 75, 3) := by decide +kernel
theorem dX1_isReachable_13 : decode cX1_isReachable 13 = .ok (.ifCond .eq 7, 3) := by decide +kernel
theorem dX1_isReachable_16 : decode cX1_isReachable 16 = .ok (.iconst 1, 1) := by decide +kernel
theorem dX1_isReachable_17 : decode cX1_isReachable 17 = .ok (.goto 4, 3) := by decide +kernel
theorem dX1_isReachable_20 : decode cX1_isReachable 20 = .ok (.iconst 0, 1) := by decide +kernel
theorem dX1_isReachable_21 : decode cX1_isReachable 21 = .ok (.ireturn, 1) := by decide +kernel
theorem dX1_canAdd_0 : decode cX1_canAdd 0 = .ok (.iload_n 1, 1) := by decide +kernel
theorem dX1_canAdd_1 : decode cX1_canAdd 1 = .ok (.invokestatic 64, 3) := by decide +kernel
theorem dX1_canAdd_4 : decode cX1_canAdd 4 = .ok (.ifCond .eq 24, 3) := by decide +kernel
theorem dX1_canAdd_7 : decode cX1_canAdd 7 = .ok (.aload_n 0, 1) := by decide +kernel
theorem dX1_canAdd_8 : decode cX1_canAdd 8 = .ok (.iload_n 1, 1) := by decide +kernel
theorem dX1_canAdd_9 : decode cX1_canAdd 9 = .ok (.invokevirtual 72, 3) := by decide +kernel
theorem dX1_canAdd_12 : decode cX1_canAdd 12 = .ok (.ifCond .ne 16, 3) := by decide +kernel
theorem dX1_canAdd_15 : decode cX1_canAdd 15 = .ok (.aload_n 0, 1) := by decide +kernel
theorem dX1_canAdd_16 : decode cX1_canAdd 16 = .ok (.iload_n 1, 1) := by decide +kernel
theorem dX1_canAdd_17 : decode cX1_canAdd 17 = .ok (.invokevirtual 79, 3) := by decide +kernel
theorem dX1_canAdd_20 : decode cX1_canAdd 20 = .ok (.iconst (-1), 1) := by decide +kernel
theorem dX1_canAdd_21 : decode cX1_canAdd 21 = .ok (.if_icmp .eq 7, 3) := by decide +kernel
theorem dX1_canAdd_24 : decode cX1_canAdd 24 = .ok (.iconst 1, 1) := by decide +kernel
theorem dX1_canAdd_25 : decode cX1_canAdd 25 = .ok (.goto 4, 3) := by decide +kernel
theorem dX1_canAdd_28 : decode cX1_canAdd 28 = .ok (.iconst 0, 1) := by decide +kernel
theorem dX1_canAdd_29 : decode cX1_canAdd 29 = .ok (.ireturn, 1) := by decide +kernel
theorem dX1_canBegin_0 : decode cX1_canBegin 0 = .ok (.iload_n 1, 1) := by decide +kernel
theorem dX1_canBegin_1 : decode cX1_canBegin 1 = .ok (.invokestatic 82, 3) := by decide +kernel
theorem dX1_canBegin_4 : decode cX1_canBegin 4 = .ok (.ifCond .eq 27, 3) := by decide +kernel
theorem dX1_canBegin_7 : decode cX1_canBegin 7 = .ok (.aload_n 0, 1) := by decide +kernel
theorem dX1_canBegin_8 : decode cX1_canBegin 8 = .ok (.getfield 9, 3) := by decide +kernel
theorem dX1_canBegin_11 : decode cX1_canBegin 11 = .ok (.iload_n 1, 1) := by decide +kernel
theorem dX1_canBegin_12 : decode cX1_canBegin 12 = .ok (.iaload, 1) := by decide +kernel
theorem dX1_canBegin_13 : decode cX1_canBegin 13 = .ok (.ifCond .ne 18, 3) := by decide +kernel
theorem dX1_canBegin_16 : decode cX1_canBegin 16 = .ok (.aload_n 0, 1) := by decide +kernel
theorem dX1_canBegin_17 : decode cX1_canBegin 17 = .ok (.getfield 34, 3) := by decide +kernel
theorem dX1_canBegin_20 : decode cX1_canBegin 20 = .ok (.iload_n 1, 1) := by decide +kernel
theorem dX1_canBegin_21 : decode cX1_canBegin 21 = .ok (.invokestatic 68, 3) := by decide +kernel
theorem dX1_canBegin_24 : decode cX1_canBegin 24 = .ok (.ifCond .eq 7, 3) := by decide +kernel
theorem dX1_canBegin_27 : decode cX1_canBegin 27 = .ok (.iconst 1, 1) := by decide +kernel
theorem dX1_canBegin_28 : decode cX1_canBegin 28 = .ok (.goto 4, 3) := by decide +kernel
theorem dX1_canBegin_31 : decode cX1_canBegin 31 = .ok (.iconst 0, 1) := by decide +kernel
theorem dX1_canBegin_32 : decode cX1_canBegin 32 = .ok (.ireturn, 1) := by decide +kernel
theorem dX1_isOpen_0 : decode cX1_isOpen 0 = .ok (.iload_n 1, 1) := by decide +kernel
theorem dX1_isOpen_1 : decode cX1_isOpen 1 = .ok (.invokestatic 82, 3) := by decide +kernel
theorem dX1_isOpen_4 : decode cX1_isOpen 4 = .ok (.ifCond .eq 28, 3) := by decide +kernel
theorem dX1_isOpen_7 : decode cX1_isOpen 7 = .ok (.aload_n 0, 1) := by decide +kernel
theorem dX1_isOpen_8 : decode cX1_isOpen 8 = .ok (.getfield 9, 3) := by decide +kernel
theorem dX1_isOpen_11 : decode cX1_isOpen 11 = .ok (.iload_n 1, 1) := by decide +kernel
theorem dX1_isOpen_12 : decode cX1_isOpen 12 = .ok (.iaload, 1) := by decide +kernel
theorem dX1_isOpen_13 : decode cX1_isOpen 13 = .ok (.iconst 1, 1) := by decide +kernel
theorem dX1_isOpen_14 : decode cX1_isOpen 14 = .ok (.if_icmp .ne 18, 3) := by decide +kernel
theorem dX1_isOpen_17 : decode cX1_isOpen 17 = .ok (.aload_n 0, 1) := by decide +kernel
theorem dX1_isOpen_18 : decode cX1_isOpen 18 = .ok (.getfield 34, 3) := by decide +kernel
theorem dX1_isOpen_21 : decode cX1_isOpen 21 = .ok (.iload_n 1, 1) := by decide +kernel
theorem dX1_isOpen_22 : decode cX1_isOpen 22 = .ok (.invokestatic 68, 3) := by decide +kernel
theorem dX1_isOpen_25 : decode cX1_isOpen 25 = .ok (.ifCond .eq 7, 3) := by decide +kernel
theorem dX1_isOpen_28 : decode cX1_isOpen 28 = .ok (.iconst 1, 1) := by decide +kernel
theorem dX1_isOpen_29 : decode cX1_isOpen 29 = .ok (.goto 4, 3) := by decide +kernel
theorem dX1_isOpen_32 : decode cX1_isOpen 32 = .ok (.iconst 0, 1) := by decide +kernel
theorem dX1_isOpen_33 : decode cX1_isOpen 33 = .ok (.ireturn, 1) := by decide +kernel
theorem dX1_canDetach_0 : decode cX1_canDetach 0 = .ok (.iload_n 1, 1) := by decide +kernel
theorem dX1_canDetach_1 : decode cX1_canDetach 1 = .ok (.invokestatic 82, 3) := by decide +kernel
theorem dX1_canDetach_4 : decode cX1_canDetach 4 = .ok (.ifCond .eq 27, 3) := by decide +kernel
theorem dX1_canDetach_7 : decode cX1_canDetach 7 = .ok (.aload_n 0, 1) := by decide +kernel
theorem dX1_canDetach_8 : decode cX1_canDetach 8 = .ok (.getfield 9, 3) := by decide +kernel
theorem dX1_canDetach_11 : decode cX1_canDetach 11 = .ok (.iload_n 1, 1) := by decide +kernel
theorem dX1_canDetach_12 : decode cX1_canDetach 12 = .ok (.iaload, 1) := by decide +kernel
theorem dX1_canDetach_13 : decode cX1_canDetach 13 = .ok (.ifCond .eq 18, 3) := by decide +kernel
theorem dX1_canDetach_16 : decode cX1_canDetach 16 = .ok (.aload_n 0, 1) := by decide +kernel
theorem dX1_canDetach_17 : decode cX1_canDetach 17 = .ok (.getfield 34, 3) := by decide +kernel
theorem dX1_canDetach_20 : decode cX1_canDetach 20 = .ok (.iload_n 1, 1) := by decide +kernel
theorem dX1_canDetach_21 : decode cX1_canDetach 21 = .ok (.invokestatic 68, 3) := by decide +kernel
theorem dX1_canDetach_24 : decode cX1_canDetach 24 = .ok (.ifCond .eq 7, 3) := by decide +kernel
theorem dX1_canDetach_27 : decode cX1_canDetach 27 = .ok (.iconst 1, 1) := by decide +kernel
theorem dX1_canDetach_28 : decode cX1_canDetach 28 = .ok (.goto 4, 3) := by decide +kernel
theorem dX1_canDetach_31 : decode cX1_canDetach 31 = .ok (.iconst 0, 1) := by decide +kernel
theorem dX1_canDetach_32 : decode cX1_canDetach 32 = .ok (.ireturn, 1) := by decide +kernel
theorem dX1_canAttach_0 : decode cX1_canAttach 0 = .ok (.iload_n 1, 1) := by decide +kernel
theorem dX1_canAttach_1 : decode cX1_canAttach 1 = .ok (.invokestatic 82, 3) := by decide +kernel
theorem dX1_canAttach_4 : decode cX1_canAttach 4 = .ok (.ifCond .eq 18, 3) := by decide +kernel
theorem dX1_canAttach_7 : decode cX1_canAttach 7 = .ok (.aload_n 0, 1) := by decide +kernel
theorem dX1_canAttach_8 : decode cX1_canAttach 8 = .ok (.getfield 34, 3) := by decide +kernel
theorem dX1_canAttach_11 : decode cX1_canAttach 11 = .ok (.iload_n 1, 1) := by decide +kernel
theorem dX1_canAttach_12 : decode cX1_canAttach 12 = .ok (.invokestatic 68, 3) := by decide +kernel
theorem dX1_canAttach_15 : decode cX1_canAttach 15 = .ok (.ifCond .ne 7, 3) := by decide +kernel
theorem dX1_canAttach_18 : decode cX1_canAttach 18 = .ok (.iconst 1, 1) := by decide +kernel
theorem dX1_canAttach_19 : decode cX1_canAttach 19 = .ok (.goto 4, 3) := by decide +kernel
theorem dX1_canAttach_22 : decode cX1_canAttach 22 = .ok (.iconst 0, 1) := by decide +kernel
theorem dX1_canAttach_23 : decode cX1_canAttach 23 = .ok (.ireturn, 1) := by decide +kernel
theorem dX1_canBreak_0 : decode cX1_canBreak 0 = .ok (.iload_n 1, 1) := by decide +kernel
theorem dX1_canBreak_1 : decode cX1_canBreak 1 = .ok (.invokestatic 82, 3) := by decide +kernel
theorem dX1_canBreak_4 : decode cX1_canBreak 4 = .ok (.ifCond .eq 16, 3) := by decide +kernel
theorem dX1_canBreak_7 : decode cX1_canBreak 7 = .ok (.aload_n 0, 1) := by decide +kernel
theorem dX1_canBreak_8 : decode cX1_canBreak 8 = .ok (.getfield 9, 3) := by decide +kernel
theorem dX1_canBreak_11 : decode cX1_canBreak 11 = .ok (.iload_n 1, 1) := by decide +kernel
theorem dX1_canBreak_12 : decode cX1_canBreak 12 = .ok (.iaload, 1) := by decide +kernel
theorem dX1_canBreak_13 : decode cX1_canBreak 13 = .ok (.ifCond .eq 7, 3) := by decide +kernel
theorem dX1_canBreak_16 : decode cX1_canBreak 16 = .ok (.iconst 1, 1) := by decide +kernel
theorem dX1_canBreak_17 : decode cX1_canBreak 17 = .ok (.goto 4, 3) := by decide +kernel
theorem dX1_canBreak_20 : decode cX1_canBreak 20 = .ok (.iconst 0, 1) := by decide +kernel
theorem dX1_canBreak_21 : decode cX1_canBreak 21 = .ok (.ireturn, 1) := by decide +kernel
theorem dX1_canAdvance_0 : decode cX1_canAdvance 0 = .ok (.iload_n 1, 1) := by decide +kernel
theorem dX1_canAdvance_1 : decode cX1_canAdvance 1 = .ok (.ldc 85, 2) := by decide +kernel
theorem dX1_canAdvance_3 : decode cX1_canAdvance 3 = .ok (.aload_n 0, 1) := by decide +kernel
theorem dX1_canAdvance_4 : decode cX1_canAdvance 4 = .ok (.getfield 37, 3) := by decide +kernel
theorem dX1_canAdvance_7 : decode cX1_canAdvance 7 = .ok (.isub, 1) := by decide +kernel
theorem dX1_canAdvance_8 : decode cX1_canAdvance 8 = .ok (.if_icmp .gt 7, 3) := by decide +kernel
theorem dX1_canAdvance_11 : decode cX1_canAdvance 11 = .ok (.iconst 1, 1) := by decide +kernel
theorem dX1_canAdvance_12 : decode cX1_canAdvance 12 = .ok (.goto 4, 3) := by decide +kernel
theorem dX1_canAdvance_15 : decode cX1_canAdvance 15 = .ok (.iconst 0, 1) := by decide +kernel
theorem dX1_canAdvance_16 : decode cX1_canAdvance 16 = .ok (.ireturn, 1) := by decide +kernel
theorem dX1_isAtRest_0 : decode cX1_isAtRest 0 = .ok (.iconst 0, 1) := by decide +kernel
theorem dX1_isAtRest_1 : decode cX1_isAtRest 1 = .ok (.istore_n 1, 1) := by decide +kernel
theorem dX1_isAtRest_2 : decode cX1_isAtRest 2 = .ok (.iload_n 1, 1) := by decide +kernel
theorem dX1_isAtRest_3 : decode cX1_isAtRest 3 = .ok (.bipush 6, 2) := by decide +kernel
theorem dX1_isAtRest_5 : decode cX1_isAtRest 5 = .ok (.if_icmp .ge 21, 3) := by decide +kernel
theorem dX1_isAtRest_8 : decode cX1_isAtRest 8 = .ok (.aload_n 0, 1) := by decide +kernel
theorem dX1_isAtRest_9 : decode cX1_isAtRest 9 = .ok (.getfield 9, 3) := by decide +kernel
theorem dX1_isAtRest_12 : decode cX1_isAtRest 12 = .ok (.iload_n 1, 1) := by decide +kernel
theorem dX1_isAtRest_13 : decode cX1_isAtRest 13 = .ok (.iaload, 1) := by decide +kernel
theorem dX1_isAtRest_14 : decode cX1_isAtRest 14 = .ok (.iconst 2, 1) := by decide +kernel
theorem dX1_isAtRest_15 : decode cX1_isAtRest 15 = .ok (.if_icmp .ne 5, 3) := by decide +kernel
theorem dX1_isAtRest_18 : decode cX1_isAtRest 18 = .ok (.iconst 0, 1) := by decide +kernel
theorem dX1_isAtRest_19 : decode cX1_isAtRest 19 = .ok (.ireturn, 1) := by decide +kernel
theorem dX1_isAtRest_20 : decode cX1_isAtRest 20 = .ok (.iinc 1 1, 3) := by decide +kernel
theorem dX1_isAtRest_23 : decode cX1_isAtRest 23 = .ok (.goto (-21), 3) := by decide +kernel
theorem dX1_isAtRest_26 : decode cX1_isAtRest 26 = .ok (.aload_n 0, 1) := by decide +kernel
theorem dX1_isAtRest_27 : decode cX1_isAtRest 27 = .ok (.getfield 46, 3) := by decide +kernel
theorem dX1_isAtRest_30 : decode cX1_isAtRest 30 = .ok (.iconst (-1), 1) := by decide +kernel
theorem dX1_isAtRest_31 : decode cX1_isAtRest 31 = .ok (.if_icmp .ne 7, 3) := by decide +kernel
theorem dX1_isAtRest_34 : decode cX1_isAtRest 34 = .ok (.iconst 1, 1) := by decide +kernel
theorem dX1_isAtRest_35 : decode cX1_isAtRest 35 = .ok (.goto 4, 3) := by decide +kernel
theorem dX1_isAtRest_38 : decode cX1_isAtRest 38 = .ok (.iconst 0, 1) := by decide +kernel
theorem dX1_isAtRest_39 : decode cX1_isAtRest 39 = .ok (.ireturn, 1) := by decide +kernel
theorem dX1_freshSet_0 : decode cX1_freshSet 0 = .ok (.iconst 0, 1) := by decide +kernel
theorem dX1_freshSet_1 : decode cX1_freshSet 1 = .ok (.istore_n 2, 1) := by decide +kernel
theorem dX1_freshSet_2 : decode cX1_freshSet 2 = .ok (.iconst 0, 1) := by decide +kernel
theorem dX1_freshSet_3 : decode cX1_freshSet 3 = .ok (.istore_n 3, 1) := by decide +kernel
theorem dX1_freshSet_4 : decode cX1_freshSet 4 = .ok (.iload_n 3, 1) := by decide +kernel
theorem dX1_freshSet_5 : decode cX1_freshSet 5 = .ok (.bipush 6, 2) := by decide +kernel
theorem dX1_freshSet_7 : decode cX1_freshSet 7 = .ok (.if_icmp .ge 24, 3) := by decide +kernel
theorem dX1_freshSet_10 : decode cX1_freshSet 10 = .ok (.iload_n 2, 1) := by decide +kernel
theorem dX1_freshSet_11 : decode cX1_freshSet 11 = .ok (.aload_n 0, 1) := by decide +kernel
theorem dX1_freshSet_12 : decode cX1_freshSet 12 = .ok (.getfield 21, 3) := by decide +kernel
theorem dX1_freshSet_15 : decode cX1_freshSet 15 = .ok (.iload_n 3, 1) := by decide +kernel
theorem dX1_freshSet_16 : decode cX1_freshSet 16 = .ok (.iaload, 1) := by decide +kernel
theorem dX1_freshSet_17 : decode cX1_freshSet 17 = .ok (.iload_n 1, 1) := by decide +kernel
theorem dX1_freshSet_18 : decode cX1_freshSet 18 = .ok (.ishr, 1) := by decide +kernel
theorem dX1_freshSet_19 : decode cX1_freshSet 19 = .ok (.iconst 1, 1) := by decide +kernel
theorem dX1_freshSet_20 : decode cX1_freshSet 20 = .ok (.iand, 1) := by decide +kernel
theorem dX1_freshSet_21 : decode cX1_freshSet 21 = .ok (.iload_n 3, 1) := by decide +kernel
theorem dX1_freshSet_22 : decode cX1_freshSet 22 = .ok (.ishl, 1) := by decide +kernel
theorem dX1_freshSet_23 : decode cX1_freshSet 23 = .ok (.ior, 1) := by decide +kernel
theorem dX1_freshSet_24 : decode cX1_freshSet 24 = .ok (.istore_n 2, 1) := by decide +kernel
theorem dX1_freshSet_25 : decode cX1_freshSet 25 = .ok (.iinc 3 1, 3) := by decide +kernel
theorem dX1_freshSet_28 : decode cX1_freshSet 28 = .ok (.goto (-24), 3) := by decide +kernel
theorem dX1_freshSet_31 : decode cX1_freshSet 31 = .ok (.iload_n 2, 1) := by decide +kernel
theorem dX1_freshSet_32 : decode cX1_freshSet 32 = .ok (.ireturn, 1) := by decide +kernel
theorem dX1_copySet_0 : decode cX1_copySet 0 = .ok (.aload_n 0, 1) := by decide +kernel
theorem dX1_copySet_1 : decode cX1_copySet 1 = .ok (.iload_n 1, 1) := by decide +kernel
theorem dX1_copySet_2 : decode cX1_copySet 2 = .ok (.invokevirtual 86, 3) := by decide +kernel
theorem dX1_copySet_5 : decode cX1_copySet 5 = .ok (.aload_n 0, 1) := by decide +kernel
theorem dX1_copySet_6 : decode cX1_copySet 6 = .ok (.getfield 34, 3) := by decide +kernel
theorem dX1_copySet_9 : decode cX1_copySet 9 = .ok (.iand, 1) := by decide +kernel
theorem dX1_copySet_10 : decode cX1_copySet 10 = .ok (.ireturn, 1) := by decide +kernel
theorem dX1_statusOf_0 : decode cX1_statusOf 0 = .ok (.aload_n 0, 1) := by decide +kernel
theorem dX1_statusOf_1 : decode cX1_statusOf 1 = .ok (.iload_n 1, 1) := by decide +kernel
theorem dX1_statusOf_2 : decode cX1_statusOf 2 = .ok (.invokevirtual 72, 3) := by decide +kernel
theorem dX1_statusOf_5 : decode cX1_statusOf 5 = .ok (.ifCond .ne 5, 3) := by decide +kernel
theorem dX1_statusOf_8 : decode cX1_statusOf 8 = .ok (.iconst (-1), 1) := by decide +kernel
theorem dX1_statusOf_9 : decode cX1_statusOf 9 = .ok (.ireturn, 1) := by decide +kernel
theorem dX1_statusOf_10 : decode cX1_statusOf 10 = .ok (.aload_n 0, 1) := by decide +kernel
theorem dX1_statusOf_11 : decode cX1_statusOf 11 = .ok (.iload_n 1, 1) := by decide +kernel
theorem dX1_statusOf_12 : decode cX1_statusOf 12 = .ok (.invokevirtual 75, 3) := by decide +kernel
theorem dX1_statusOf_15 : decode cX1_statusOf 15 = .ok (.invokestatic 89, 3) := by decide +kernel
theorem dX1_statusOf_18 : decode cX1_statusOf 18 = .ok (.istore_n 2, 1) := by decide +kernel
theorem dX1_statusOf_19 : decode cX1_statusOf 19 = .ok (.iload_n 2, 1) := by decide +kernel
theorem dX1_statusOf_20 : decode cX1_statusOf 20 = .ok (.ifCond .le 14, 3) := by decide +kernel
theorem dX1_statusOf_23 : decode cX1_statusOf 23 = .ok (.iload_n 2, 1) := by decide +kernel
theorem dX1_statusOf_24 : decode cX1_statusOf 24 = .ok (.iconst 1, 1) := by decide +kernel
theorem dX1_statusOf_25 : decode cX1_statusOf 25 = .ok (.if_icmp .ne 7, 3) := by decide +kernel
theorem dX1_statusOf_28 : decode cX1_statusOf 28 = .ok (.iconst 1, 1) := by decide +kernel
theorem dX1_statusOf_29 : decode cX1_statusOf 29 = .ok (.goto 4, 3) := by decide +kernel
theorem dX1_statusOf_32 : decode cX1_statusOf 32 = .ok (.iconst 2, 1) := by decide +kernel
theorem dX1_statusOf_33 : decode cX1_statusOf 33 = .ok (.ireturn, 1) := by decide +kernel
theorem dX1_statusOf_34 : decode cX1_statusOf 34 = .ok (.aload_n 0, 1) := by decide +kernel
theorem dX1_statusOf_35 : decode cX1_statusOf 35 = .ok (.iload_n 1, 1) := by decide +kernel
theorem dX1_statusOf_36 : decode cX1_statusOf 36 = .ok (.invokevirtual 86, 3) := by decide +kernel
theorem dX1_statusOf_39 : decode cX1_statusOf 39 = .ok (.ifCond .eq 7, 3) := by decide +kernel
theorem dX1_statusOf_42 : decode cX1_statusOf 42 = .ok (.iconst 0, 1) := by decide +kernel
theorem dX1_statusOf_43 : decode cX1_statusOf 43 = .ok (.goto 5, 3) := by decide +kernel
theorem dX1_statusOf_46 : decode cX1_statusOf 46 = .ok (.bipush (-2), 2) := by decide +kernel
theorem dX1_statusOf_48 : decode cX1_statusOf 48 = .ok (.ireturn, 1) := by decide +kernel
theorem dX1_pagesWithStatus_0 : decode cX1_pagesWithStatus 0 = .ok (.iconst 0, 1) := by decide +kernel
theorem dX1_pagesWithStatus_1 : decode cX1_pagesWithStatus 1 = .ok (.istore_n 2, 1) := by decide +kernel
theorem dX1_pagesWithStatus_2 : decode cX1_pagesWithStatus 2 = .ok (.iconst 0, 1) := by decide +kernel
theorem dX1_pagesWithStatus_3 : decode cX1_pagesWithStatus 3 = .ok (.istore_n 3, 1) := by decide +kernel
theorem dX1_pagesWithStatus_4 : decode cX1_pagesWithStatus 4 = .ok (.iload_n 3, 1) := by decide +kernel
theorem dX1_pagesWithStatus_5 : decode cX1_pagesWithStatus 5 = .ok (.bipush 30, 2) := by decide +kernel
theorem dX1_pagesWithStatus_7 : decode cX1_pagesWithStatus 7 = .ok (.if_icmp .ge 21, 3) := by decide +kernel
theorem dX1_pagesWithStatus_10 : decode cX1_pagesWithStatus 10 = .ok (.aload_n 0, 1) := by decide +kernel
theorem dX1_pagesWithStatus_11 : decode cX1_pagesWithStatus 11 = .ok (.iload_n 3, 1) := by decide +kernel
theorem dX1_pagesWithStatus_12 : decode cX1_pagesWithStatus 12 = .ok (.invokevirtual 94, 3) := by decide +kernel
theorem dX1_pagesWithStatus_15 : decode cX1_pagesWithStatus 15 = .ok (.iload_n 1, 1) := by decide +kernel
theorem dX1_pagesWithStatus_16 : decode cX1_pagesWithStatus 16 = .ok (.if_icmp .ne 6, 3) := by decide +kernel
theorem dX1_pagesWithStatus_19 : decode cX1_pagesWithStatus 19 = .ok (.iinc 2 1, 3) := by decide +kernel
theorem dX1_pagesWithStatus_22 : decode cX1_pagesWithStatus 22 = .ok (.iinc 3 1, 3) := by decide +kernel
theorem dX1_pagesWithStatus_25 : decode cX1_pagesWithStatus 25 = .ok (.goto (-21), 3) := by decide +kernel
theorem dX1_pagesWithStatus_28 : decode cX1_pagesWithStatus 28 = .ok (.iload_n 2, 1) := by decide +kernel
theorem dX1_pagesWithStatus_29 : decode cX1_pagesWithStatus 29 = .ok (.ireturn, 1) := by decide +kernel
theorem dX1_heldOn_0 : decode cX1_heldOn 0 = .ok (.iload_n 1, 1) := by decide +kernel
theorem dX1_heldOn_1 : decode cX1_heldOn 1 = .ok (.invokestatic 82, 3) := by decide +kernel
theorem dX1_heldOn_4 : decode cX1_heldOn 4 = .ok (.ifCond .eq 22, 3) := by decide +kernel
theorem dX1_heldOn_7 : decode cX1_heldOn 7 = .ok (.aload_n 0, 1) := by decide +kernel
theorem dX1_heldOn_8 : decode cX1_heldOn 8 = .ok (.getfield 21, 3) := by decide +kernel
theorem dX1_heldOn_11 : decode cX1_heldOn 11 = .ok (.iload_n 1, 1) := by decide +kernel
theorem dX1_heldOn_12 : decode cX1_heldOn 12 = .ok (.iaload, 1) := by decide +kernel
theorem dX1_heldOn_13 : decode cX1_heldOn 13 = .ok (.aload_n 0, 1) := by decide +kernel
theorem dX1_heldOn_14 : decode cX1_heldOn 14 = .ok (.getfield 24, 3) := by decide +kernel
theorem dX1_heldOn_17 : decode cX1_heldOn 17 = .ok (.iload_n 1, 1) := by decide +kernel
theorem dX1_heldOn_18 : decode cX1_heldOn 18 = .ok (.iaload, 1) := by decide +kernel
theorem dX1_heldOn_19 : decode cX1_heldOn 19 = .ok (.ior, 1) := by decide +kernel
theorem dX1_heldOn_20 : decode cX1_heldOn 20 = .ok (.invokestatic 89, 3) := by decide +kernel
theorem dX1_heldOn_23 : decode cX1_heldOn 23 = .ok (.goto 4, 3) := by decide +kernel
theorem dX1_heldOn_26 : decode cX1_heldOn 26 = .ok (.iconst 0, 1) := by decide +kernel
theorem dX1_heldOn_27 : decode cX1_heldOn 27 = .ok (.ireturn, 1) := by decide +kernel
theorem dX1_usedOn_0 : decode cX1_usedOn 0 = .ok (.aload_n 0, 1) := by decide +kernel
theorem dX1_usedOn_1 : decode cX1_usedOn 1 = .ok (.getfield 52, 3) := by decide +kernel
theorem dX1_usedOn_4 : decode cX1_usedOn 4 = .ok (.iload_n 1, 1) := by decide +kernel
theorem dX1_usedOn_5 : decode cX1_usedOn 5 = .ok (.if_icmp .ne 7, 3) := by decide +kernel
theorem dX1_usedOn_8 : decode cX1_usedOn 8 = .ok (.iconst 1, 1) := by decide +kernel
theorem dX1_usedOn_9 : decode cX1_usedOn 9 = .ok (.goto 4, 3) := by decide +kernel
theorem dX1_usedOn_12 : decode cX1_usedOn 12 = .ok (.iconst 0, 1) := by decide +kernel
theorem dX1_usedOn_13 : decode cX1_usedOn 13 = .ok (.istore_n 2, 1) := by decide +kernel
theorem dX1_usedOn_14 : decode cX1_usedOn 14 = .ok (.iload_n 1, 1) := by decide +kernel
theorem dX1_usedOn_15 : decode cX1_usedOn 15 = .ok (.invokestatic 82, 3) := by decide +kernel
theorem dX1_usedOn_18 : decode cX1_usedOn 18 = .ok (.ifCond .eq 24, 3) := by decide +kernel
theorem dX1_usedOn_21 : decode cX1_usedOn 21 = .ok (.aload_n 0, 1) := by decide +kernel
theorem dX1_usedOn_22 : decode cX1_usedOn 22 = .ok (.getfield 21, 3) := by decide +kernel
theorem dX1_usedOn_25 : decode cX1_usedOn 25 = .ok (.iload_n 1, 1) := by decide +kernel
theorem dX1_usedOn_26 : decode cX1_usedOn 26 = .ok (.iaload, 1) := by decide +kernel
theorem dX1_usedOn_27 : decode cX1_usedOn 27 = .ok (.aload_n 0, 1) := by decide +kernel
theorem dX1_usedOn_28 : decode cX1_usedOn 28 = .ok (.getfield 24, 3) := by decide +kernel
theorem dX1_usedOn_31 : decode cX1_usedOn 31 = .ok (.iload_n 1, 1) := by decide +kernel
theorem dX1_usedOn_32 : decode cX1_usedOn 32 = .ok (.iaload, 1) := by decide +kernel
theorem dX1_usedOn_33 : decode cX1_usedOn 33 = .ok (.ior, 1) := by decide +kernel
theorem dX1_usedOn_34 : decode cX1_usedOn 34 = .ok (.invokestatic 89, 3) := by decide +kernel
theorem dX1_usedOn_37 : decode cX1_usedOn 37 = .ok (.iload_n 2, 1) := by decide +kernel
theorem dX1_usedOn_38 : decode cX1_usedOn 38 = .ok (.iadd, 1) := by decide +kernel
theorem dX1_usedOn_39 : decode cX1_usedOn 39 = .ok (.goto 4, 3) := by decide +kernel
theorem dX1_usedOn_42 : decode cX1_usedOn 42 = .ok (.iconst 0, 1) := by decide +kernel
theorem dX1_usedOn_43 : decode cX1_usedOn 43 = .ok (.ireturn, 1) := by decide +kernel
theorem dX1_roomOn_0 : decode cX1_roomOn 0 = .ok (.aload_n 0, 1) := by decide +kernel
theorem dX1_roomOn_1 : decode cX1_roomOn 1 = .ok (.iload_n 1, 1) := by decide +kernel
theorem dX1_roomOn_2 : decode cX1_roomOn 2 = .ok (.invokevirtual 97, 3) := by decide +kernel
theorem dX1_roomOn_5 : decode cX1_roomOn 5 = .ok (.ifCond .eq 18, 3) := by decide +kernel
theorem dX1_roomOn_8 : decode cX1_roomOn 8 = .ok (.aload_n 0, 1) := by decide +kernel
theorem dX1_roomOn_9 : decode cX1_roomOn 9 = .ok (.getfield 15, 3) := by decide +kernel
theorem dX1_roomOn_12 : decode cX1_roomOn 12 = .ok (.iload_n 1, 1) := by decide +kernel
theorem dX1_roomOn_13 : decode cX1_roomOn 13 = .ok (.iaload, 1) := by decide +kernel
theorem dX1_roomOn_14 : decode cX1_roomOn 14 = .ok (.aload_n 0, 1) := by decide +kernel
theorem dX1_roomOn_15 : decode cX1_roomOn 15 = .ok (.iload_n 1, 1) := by decide +kernel
theorem dX1_roomOn_16 : decode cX1_roomOn 16 = .ok (.invokevirtual 100, 3) := by decide +kernel
theorem dX1_roomOn_19 : decode cX1_roomOn 19 = .ok (.isub, 1) := by decide +kernel
theorem dX1_roomOn_20 : decode cX1_roomOn 20 = .ok (.goto 4, 3) := by decide +kernel
theorem dX1_roomOn_23 : decode cX1_roomOn 23 = .ok (.iconst 0, 1) := by decide +kernel
theorem dX1_roomOn_24 : decode cX1_roomOn 24 = .ok (.ireturn, 1) := by decide +kernel
theorem dX1_bestHost_0 : decode cX1_bestHost 0 = .ok (.iconst (-1), 1) := by decide +kernel
theorem dX1_bestHost_1 : decode cX1_bestHost 1 = .ok (.istore_n 2, 1) := by decide +kernel
theorem dX1_bestHost_2 : decode cX1_bestHost 2 = .ok (.iconst 0, 1) := by decide +kernel
theorem dX1_bestHost_3 : decode cX1_bestHost 3 = .ok (.istore_n 3, 1) := by decide +kernel
theorem dX1_bestHost_4 : decode cX1_bestHost 4 = .ok (.iconst 0, 1) := by decide +kernel
theorem dX1_bestHost_5 : decode cX1_bestHost 5 = .ok (.istore 4, 2) := by decide +kernel
theorem dX1_bestHost_7 : decode cX1_bestHost 7 = .ok (.iload 4, 2) := by decide +kernel
theorem dX1_bestHost_9 : decode cX1_bestHost 9 = .ok (.bipush 6, 2) := by decide +kernel
theorem dX1_bestHost_11 : decode cX1_bestHost 11 = .ok (.if_icmp .ge 51, 3) := by decide +kernel
theorem dX1_bestHost_14 : decode cX1_bestHost 14 = .ok (.aload_n 0, 1) := by decide +kernel
theorem dX1_bestHost_15 : decode cX1_bestHost 15 = .ok (.iload 4, 2) := by decide +kernel
theorem dX1_bestHost_17 : decode cX1_bestHost 17 = .ok (.invokevirtual 103, 3) := by decide +kernel
theorem dX1_bestHost_20 : decode cX1_bestHost 20 = .ok (.istore 5, 2) := by decide +kernel
theorem dX1_bestHost_22 : decode cX1_bestHost 22 = .ok (.iload 5, 2) := by decide +kernel
theorem dX1_bestHost_24 : decode cX1_bestHost 24 = .ok (.iload_n 3, 1) := by decide +kernel
theorem dX1_bestHost_25 : decode cX1_bestHost 25 = .ok (.if_icmp .le 31, 3) := by decide +kernel
theorem dX1_bestHost_28 : decode cX1_bestHost 28 = .ok (.aload_n 0, 1) := by decide +kernel
theorem dX1_bestHost_29 : decode cX1_bestHost 29 = .ok (.getfield 21, 3) := by decide +kernel
theorem dX1_bestHost_32 : decode cX1_bestHost 32 = .ok (.iload 4, 2) := by decide +kernel
theorem dX1_bestHost_34 : decode cX1_bestHost 34 = .ok (.iaload, 1) := by decide +kernel
theorem dX1_bestHost_35 : decode cX1_bestHost 35 = .ok (.aload_n 0, 1) := by decide +kernel
theorem dX1_bestHost_36 : decode cX1_bestHost 36 = .ok (.getfield 24, 3) := by decide +kernel
theorem dX1_bestHost_39 : decode cX1_bestHost 39 = .ok (.iload 4, 2) := by decide +kernel
theorem dX1_bestHost_41 : decode cX1_bestHost 41 = .ok (.iaload, 1) := by decide +kernel
theorem dX1_bestHost_42 : decode cX1_bestHost 42 = .ok (.ior, 1) := by decide +kernel
theorem dX1_bestHost_43 : decode cX1_bestHost 43 = .ok (.iload_n 1, 1) := by decide +kernel
theorem dX1_bestHost_44 : decode cX1_bestHost 44 = .ok (.invokestatic 68, 3) := by decide +kernel
theorem dX1_bestHost_47 : decode cX1_bestHost 47 = .ok (.ifCond .ne 9, 3) := by decide +kernel
theorem dX1_bestHost_50 : decode cX1_bestHost 50 = .ok (.iload 5, 2) := by decide +kernel
theorem dX1_bestHost_52 : decode cX1_bestHost 52 = .ok (.istore_n 3, 1) := by decide +kernel
theorem dX1_bestHost_53 : decode cX1_bestHost 53 = .ok (.iload 4, 2) := by decide +kernel
theorem dX1_bestHost_55 : decode cX1_bestHost 55 = .ok (.istore_n 2, 1) := by decide +kernel
theorem dX1_bestHost_56 : decode cX1_bestHost 56 = .ok (.iinc 4 1, 3) := by decide +kernel
theorem dX1_bestHost_59 : decode cX1_bestHost 59 = .ok (.goto (-52), 3) := by decide +kernel
theorem dX1_bestHost_62 : decode cX1_bestHost 62 = .ok (.iload_n 2, 1) := by decide +kernel
theorem dX1_bestHost_63 : decode cX1_bestHost 63 = .ok (.ireturn, 1) := by decide +kernel
theorem dX1_nextEvent_0 : decode cX1_nextEvent 0 = .ok (.iload_n 1, 1) := by decide +kernel
theorem dX1_nextEvent_1 : decode cX1_nextEvent 1 = .ok (.istore_n 2, 1) := by decide +kernel
theorem dX1_nextEvent_2 : decode cX1_nextEvent 2 = .ok (.aload_n 0, 1) := by decide +kernel
theorem dX1_nextEvent_3 : decode cX1_nextEvent 3 = .ok (.getfield 46, 3) := by decide +kernel
theorem dX1_nextEvent_6 : decode cX1_nextEvent 6 = .ok (.iconst (-1), 1) := by decide +kernel
theorem dX1_nextEvent_7 : decode cX1_nextEvent 7 = .ok (.if_icmp .eq 16, 3) := by decide +kernel
theorem dX1_nextEvent_10 : decode cX1_nextEvent 10 = .ok (.aload_n 0, 1) := by decide +kernel
theorem dX1_nextEvent_11 : decode cX1_nextEvent 11 = .ok (.getfield 55, 3) := by decide +kernel
theorem dX1_nextEvent_14 : decode cX1_nextEvent 14 = .ok (.iload_n 2, 1) := by decide +kernel
theorem dX1_nextEvent_15 : decode cX1_nextEvent 15 = .ok (.if_icmp .ge 8, 3) := by decide +kernel
theorem dX1_nextEvent_18 : decode cX1_nextEvent 18 = .ok (.aload_n 0, 1) := by decide +kernel
theorem dX1_nextEvent_19 : decode cX1_nextEvent 19 = .ok (.getfield 55, 3) := by decide +kernel
theorem dX1_nextEvent_22 : decode cX1_nextEvent 22 = .ok (.istore_n 2, 1) := by decide +kernel
theorem dX1_nextEvent_23 : decode cX1_nextEvent 23 = .ok (.iconst 0, 1) := by decide +kernel
theorem dX1_nextEvent_24 : decode cX1_nextEvent 24 = .ok (.istore_n 3, 1) := by decide +kernel
theorem dX1_nextEvent_25 : decode cX1_nextEvent 25 = .ok (.iload_n 3, 1) := by decide +kernel
theorem dX1_nextEvent_26 : decode cX1_nextEvent 26 = .ok (.bipush 6, 2) := by decide +kernel
theorem dX1_nextEvent_28 : decode cX1_nextEvent 28 = .ok (.if_icmp .ge 36, 3) := by decide +kernel
theorem dX1_nextEvent_31 : decode cX1_nextEvent 31 = .ok (.aload_n 0, 1) := by decide +kernel
theorem dX1_nextEvent_32 : decode cX1_nextEvent 32 = .ok (.getfield 9, 3) := by decide +kernel
theorem dX1_nextEvent_35 : decode cX1_nextEvent 35 = .ok (.iload_n 3, 1) := by decide +kernel
theorem dX1_nextEvent_36 : decode cX1_nextEvent 36 = .ok (.iaload, 1) := by decide +kernel
theorem dX1_nextEvent_37 : decode cX1_nextEvent 37 = .ok (.iconst 2, 1) := by decide +kernel
theorem dX1_nextEvent_38 : decode cX1_nextEvent 38 = .ok (.if_icmp .ne 20, 3) := by decide +kernel
theorem dX1_nextEvent_41 : decode cX1_nextEvent 41 = .ok (.aload_n 0, 1) := by decide +kernel
theorem dX1_nextEvent_42 : decode cX1_nextEvent 42 = .ok (.getfield 18, 3) := by decide +kernel
theorem dX1_nextEvent_45 : decode cX1_nextEvent 45 = .ok (.iload_n 3, 1) := by decide +kernel
theorem dX1_nextEvent_46 : decode cX1_nextEvent 46 = .ok (.iaload, 1) := by decide +kernel
theorem dX1_nextEvent_47 : decode cX1_nextEvent 47 = .ok (.iload_n 2, 1) := by decide +kernel
theorem dX1_nextEvent_48 : decode cX1_nextEvent 48 = .ok (.if_icmp .ge 10, 3) := by decide +kernel
theorem dX1_nextEvent_51 : decode cX1_nextEvent 51 = .ok (.aload_n 0, 1) := by decide +kernel
theorem dX1_nextEvent_52 : decode cX1_nextEvent 52 = .ok (.getfield 18, 3) := by decide +kernel
theorem dX1_nextEvent_55 : decode cX1_nextEvent 55 = .ok (.iload_n 3, 1) := by decide +kernel
theorem dX1_nextEvent_56 : decode cX1_nextEvent 56 = .ok (.iaload, 1) := by decide +kernel
theorem dX1_nextEvent_57 : decode cX1_nextEvent 57 = .ok (.istore_n 2, 1) := by decide +kernel
theorem dX1_nextEvent_58 : decode cX1_nextEvent 58 = .ok (.iinc 3 1, 3) := by decide +kernel
theorem dX1_nextEvent_61 : decode cX1_nextEvent 61 = .ok (.goto (-36), 3) := by decide +kernel
theorem dX1_nextEvent_64 : decode cX1_nextEvent 64 = .ok (.iload_n 2, 1) := by decide +kernel
theorem dX1_nextEvent_65 : decode cX1_nextEvent 65 = .ok (.ireturn, 1) := by decide +kernel
theorem dX1_addPage_0 : decode cX1_addPage 0 = .ok (.aload_n 0, 1) := by decide +kernel
theorem dX1_addPage_1 : decode cX1_addPage 1 = .ok (.dup, 1) := by decide +kernel
theorem dX1_addPage_2 : decode cX1_addPage 2 = .ok (.getfield 30, 3) := by decide +kernel
theorem dX1_addPage_5 : decode cX1_addPage 5 = .ok (.iconst 1, 1) := by decide +kernel
theorem dX1_addPage_6 : decode cX1_addPage 6 = .ok (.iload_n 1, 1) := by decide +kernel
theorem dX1_addPage_7 : decode cX1_addPage 7 = .ok (.ishl, 1) := by decide +kernel
theorem dX1_addPage_8 : decode cX1_addPage 8 = .ok (.ior, 1) := by decide +kernel
theorem dX1_addPage_9 : decode cX1_addPage 9 = .ok (.putfield 30, 3) := by decide +kernel
theorem dX1_addPage_12 : decode cX1_addPage 12 = .ok (.aload_n 0, 1) := by decide +kernel
theorem dX1_addPage_13 : decode cX1_addPage 13 = .ok (.getfield 27, 3) := by decide +kernel
theorem dX1_addPage_16 : decode cX1_addPage 16 = .ok (.iload_n 1, 1) := by decide +kernel
theorem dX1_addPage_17 : decode cX1_addPage 17 = .ok (.iload_n 2, 1) := by decide +kernel
theorem dX1_addPage_18 : decode cX1_addPage 18 = .ok (.iastore, 1) := by decide +kernel
theorem dX1_addPage_19 : decode cX1_addPage 19 = .ok (.aload_n 0, 1) := by decide +kernel
theorem dX1_addPage_20 : decode cX1_addPage 20 = .ok (.iload_n 1, 1) := by decide +kernel
theorem dX1_addPage_21 : decode cX1_addPage 21 = .ok (.invokevirtual 106, 3) := by decide +kernel
theorem dX1_addPage_24 : decode cX1_addPage 24 = .ok (.aload_n 0, 1) := by decide +kernel
theorem dX1_addPage_25 : decode cX1_addPage 25 = .ok (.iload_n 1, 1) := by decide +kernel
theorem dX1_addPage_26 : decode cX1_addPage 26 = .ok (.invokevirtual 106, 3) := by decide +kernel
theorem dX1_addPage_29 : decode cX1_addPage 29 = .ok (.aload_n 0, 1) := by decide +kernel
theorem dX1_addPage_30 : decode cX1_addPage 30 = .ok (.iload_n 1, 1) := by decide +kernel
theorem dX1_addPage_31 : decode cX1_addPage 31 = .ok (.invokevirtual 75, 3) := by decide +kernel
theorem dX1_addPage_34 : decode cX1_addPage 34 = .ok (.invokestatic 89, 3) := by decide +kernel
theorem dX1_addPage_37 : decode cX1_addPage 37 = .ok (.istore_n 3, 1) := by decide +kernel
theorem dX1_addPage_38 : decode cX1_addPage 38 = .ok (.aload_n 0, 1) := by decide +kernel
theorem dX1_addPage_39 : decode cX1_addPage 39 = .ok (.invokevirtual 110, 3) := by decide +kernel
theorem dX1_addPage_42 : decode cX1_addPage 42 = .ok (.iload_n 3, 1) := by decide +kernel
theorem dX1_addPage_43 : decode cX1_addPage 43 = .ok (.ireturn, 1) := by decide +kernel
theorem dX1_placeReplica_0 : decode cX1_placeReplica 0 = .ok (.aload_n 0, 1) := by decide +kernel
theorem dX1_placeReplica_1 : decode cX1_placeReplica 1 = .ok (.iload_n 1, 1) := by decide +kernel
theorem dX1_placeReplica_2 : decode cX1_placeReplica 2 = .ok (.invokevirtual 79, 3) := by decide +kernel
theorem dX1_placeReplica_5 : decode cX1_placeReplica 5 = .ok (.istore_n 2, 1) := by decide +kernel
theorem dX1_placeReplica_6 : decode cX1_placeReplica 6 = .ok (.iload_n 2, 1) := by decide +kernel
theorem dX1_placeReplica_7 : decode cX1_placeReplica 7 = .ok (.invokestatic 82, 3) := by decide +kernel
theorem dX1_placeReplica_10 : decode cX1_placeReplica 10 = .ok (.ifCond .eq 15, 3) := by decide +kernel
theorem dX1_placeReplica_13 : decode cX1_placeReplica 13 = .ok (.aload_n 0, 1) := by decide +kernel
theorem dX1_placeReplica_14 : decode cX1_placeReplica 14 = .ok (.getfield 21, 3) := by decide +kernel
theorem dX1_placeReplica_17 : decode cX1_placeReplica 17 = .ok (.iload_n 2, 1) := by decide +kernel
theorem dX1_placeReplica_18 : decode cX1_placeReplica 18 = .ok (.dup2, 1) := by decide +kernel
theorem dX1_placeReplica_19 : decode cX1_placeReplica 19 = .ok (.iaload, 1) := by decide +kernel
theorem dX1_placeReplica_20 : decode cX1_placeReplica 20 = .ok (.iconst 1, 1) := by decide +kernel
theorem dX1_placeReplica_21 : decode cX1_placeReplica 21 = .ok (.iload_n 1, 1) := by decide +kernel
theorem dX1_placeReplica_22 : decode cX1_placeReplica 22 = .ok (.ishl, 1) := by decide +kernel
theorem dX1_placeReplica_23 : decode cX1_placeReplica 23 = .ok (.ior, 1) := by decide +kernel
theorem dX1_placeReplica_24 : decode cX1_placeReplica 24 = .ok (.iastore, 1) := by decide +kernel
theorem dX1_placeReplica_25 : decode cX1_placeReplica 25 = .ok (.return_, 1) := by decide +kernel
theorem dX1_overwritePage_0 : decode cX1_overwritePage 0 = .ok (.aload_n 0, 1) := by decide +kernel
theorem dX1_overwritePage_1 : decode cX1_overwritePage 1 = .ok (.getfield 27, 3) := by decide +kernel
theorem dX1_overwritePage_4 : decode cX1_overwritePage 4 = .ok (.iload_n 1, 1) := by decide +kernel
theorem dX1_overwritePage_5 : decode cX1_overwritePage 5 = .ok (.iload_n 2, 1) := by decide +kernel
theorem dX1_overwritePage_6 : decode cX1_overwritePage 6 = .ok (.iastore, 1) := by decide +kernel
theorem dX1_overwritePage_7 : decode cX1_overwritePage 7 = .ok (.aload_n 0, 1) := by decide +kernel
theorem dX1_overwritePage_8 : decode cX1_overwritePage 8 = .ok (.iload_n 1, 1) := by decide +kernel
theorem dX1_overwritePage_9 : decode cX1_overwritePage 9 = .ok (.invokevirtual 113, 3) := by decide +kernel
theorem dX1_overwritePage_12 : decode cX1_overwritePage 12 = .ok (.aload_n 0, 1) := by decide +kernel
theorem dX1_overwritePage_13 : decode cX1_overwritePage 13 = .ok (.invokevirtual 110, 3) := by decide +kernel
theorem dX1_overwritePage_16 : decode cX1_overwritePage 16 = .ok (.aload_n 0, 1) := by decide +kernel
theorem dX1_overwritePage_17 : decode cX1_overwritePage 17 = .ok (.iload_n 1, 1) := by decide +kernel
theorem dX1_overwritePage_18 : decode cX1_overwritePage 18 = .ok (.invokevirtual 75, 3) := by decide +kernel
theorem dX1_overwritePage_21 : decode cX1_overwritePage 21 = .ok (.invokestatic 89, 3) := by decide +kernel
theorem dX1_overwritePage_24 : decode cX1_overwritePage 24 = .ok (.ireturn, 1) := by decide +kernel
theorem dX1_dropPage_0 : decode cX1_dropPage 0 = .ok (.aload_n 0, 1) := by decide +kernel
theorem dX1_dropPage_1 : decode cX1_dropPage 1 = .ok (.iload_n 1, 1) := by decide +kernel
theorem dX1_dropPage_2 : decode cX1_dropPage 2 = .ok (.invokevirtual 75, 3) := by decide +kernel
theorem dX1_dropPage_5 : decode cX1_dropPage 5 = .ok (.invokestatic 89, 3) := by decide +kernel
theorem dX1_dropPage_8 : decode cX1_dropPage 8 = .ok (.istore_n 2, 1) := by decide +kernel
theorem dX1_dropPage_9 : decode cX1_dropPage 9 = .ok (.aload_n 0, 1) := by decide +kernel
theorem dX1_dropPage_10 : decode cX1_dropPage 10 = .ok (.iload_n 1, 1) := by decide +kernel
theorem dX1_dropPage_11 : decode cX1_dropPage 11 = .ok (.invokevirtual 113, 3) := by decide +kernel
theorem dX1_dropPage_14 : decode cX1_dropPage 14 = .ok (.iconst 0, 1) := by decide +kernel
theorem dX1_dropPage_15 : decode cX1_dropPage 15 = .ok (.istore_n 3, 1) := by decide +kernel
theorem dX1_dropPage_16 : decode cX1_dropPage 16 = .ok (.iload_n 3, 1) := by decide +kernel
theorem dX1_dropPage_17 : decode cX1_dropPage 17 = .ok (.bipush 6, 2) := by decide +kernel
theorem dX1_dropPage_19 : decode cX1_dropPage 19 = .ok (.if_icmp .ge 23, 3) := by decide +kernel
theorem dX1_dropPage_22 : decode cX1_dropPage 22 = .ok (.aload_n 0, 1) := by decide +kernel
theorem dX1_dropPage_23 : decode cX1_dropPage 23 = .ok (.getfield 21, 3) := by decide +kernel
theorem dX1_dropPage_26 : decode cX1_dropPage 26 = .ok (.iload_n 3, 1) := by decide +kernel
theorem dX1_dropPage_27 : decode cX1_dropPage 27 = .ok (.dup2, 1) := by decide +kernel
theorem dX1_dropPage_28 : decode cX1_dropPage 28 = .ok (.iaload, 1) := by decide +kernel
theorem dX1_dropPage_29 : decode cX1_dropPage 29 = .ok (.iconst 1, 1) := by decide +kernel
theorem dX1_dropPage_30 : decode cX1_dropPage 30 = .ok (.iload_n 1, 1) := by decide +kernel
theorem dX1_dropPage_31 : decode cX1_dropPage 31 = .ok (.ishl, 1) := by decide +kernel
theorem dX1_dropPage_32 : decode cX1_dropPage 32 = .ok (.iconst (-1), 1) := by decide +kernel
theorem dX1_dropPage_33 : decode cX1_dropPage 33 = .ok (.ixor, 1) := by decide +kernel
theorem dX1_dropPage_34 : decode cX1_dropPage 34 = .ok (.iand, 1) := by decide +kernel
theorem dX1_dropPage_35 : decode cX1_dropPage 35 = .ok (.iastore, 1) := by decide +kernel
theorem dX1_dropPage_36 : decode cX1_dropPage 36 = .ok (.iinc 3 1, 3) := by decide +kernel
theorem dX1_dropPage_39 : decode cX1_dropPage 39 = .ok (.goto (-23), 3) := by decide +kernel
theorem dX1_dropPage_42 : decode cX1_dropPage 42 = .ok (.aload_n 0, 1) := by decide +kernel
theorem dX1_dropPage_43 : decode cX1_dropPage 43 = .ok (.dup, 1) := by decide +kernel
theorem dX1_dropPage_44 : decode cX1_dropPage 44 = .ok (.getfield 30, 3) := by decide +kernel
theorem dX1_dropPage_47 : decode cX1_dropPage 47 = .ok (.iconst 1, 1) := by decide +kernel
theorem dX1_dropPage_48 : decode cX1_dropPage 48 = .ok (.iload_n 1, 1) := by decide +kernel
theorem dX1_dropPage_49 : decode cX1_dropPage 49 = .ok (.ishl, 1) := by decide +kernel
theorem dX1_dropPage_50 : decode cX1_dropPage 50 = .ok (.iconst (-1), 1) := by decide +kernel
theorem dX1_dropPage_51 : decode cX1_dropPage 51 = .ok (.ixor, 1) := by decide +kernel
theorem dX1_dropPage_52 : decode cX1_dropPage 52 = .ok (.iand, 1) := by decide +kernel
theorem dX1_dropPage_53 : decode cX1_dropPage 53 = .ok (.putfield 30, 3) := by decide +kernel
theorem dX1_dropPage_56 : decode cX1_dropPage 56 = .ok (.aload_n 0, 1) := by decide +kernel
theorem dX1_dropPage_57 : decode cX1_dropPage 57 = .ok (.getfield 46, 3) := by decide +kernel
theorem dX1_dropPage_60 : decode cX1_dropPage 60 = .ok (.iload_n 1, 1) := by decide +kernel
theorem dX1_dropPage_61 : decode cX1_dropPage 61 = .ok (.if_icmp .ne 7, 3) := by decide +kernel
theorem dX1_dropPage_64 : decode cX1_dropPage 64 = .ok (.aload_n 0, 1) := by decide +kernel
theorem dX1_dropPage_65 : decode cX1_dropPage 65 = .ok (.invokevirtual 116, 3) := by decide +kernel
theorem dX1_dropPage_68 : decode cX1_dropPage 68 = .ok (.aload_n 0, 1) := by decide +kernel
theorem dX1_dropPage_69 : decode cX1_dropPage 69 = .ok (.invokevirtual 110, 3) := by decide +kernel
theorem dX1_dropPage_72 : decode cX1_dropPage 72 = .ok (.iload_n 2, 1) := by decide +kernel
theorem dX1_dropPage_73 : decode cX1_dropPage 73 = .ok (.ireturn, 1) := by decide +kernel
theorem dX1_outdate_0 : decode cX1_outdate 0 = .ok (.iconst 0, 1) := by decide +kernel
theorem dX1_outdate_1 : decode cX1_outdate 1 = .ok (.istore_n 2, 1) := by decide +kernel
theorem dX1_outdate_2 : decode cX1_outdate 2 = .ok (.iload_n 2, 1) := by decide +kernel
theorem dX1_outdate_3 : decode cX1_outdate 3 = .ok (.bipush 6, 2) := by decide +kernel
theorem dX1_outdate_5 : decode cX1_outdate 5 = .ok (.if_icmp .ge 53, 3) := by decide +kernel
theorem dX1_outdate_8 : decode cX1_outdate 8 = .ok (.aload_n 0, 1) := by decide +kernel
theorem dX1_outdate_9 : decode cX1_outdate 9 = .ok (.getfield 34, 3) := by decide +kernel
theorem dX1_outdate_12 : decode cX1_outdate 12 = .ok (.iload_n 2, 1) := by decide +kernel
theorem dX1_outdate_13 : decode cX1_outdate 13 = .ok (.invokestatic 68, 3) := by decide +kernel
theorem dX1_outdate_16 : decode cX1_outdate 16 = .ok (.ifCond .ne 36, 3) := by decide +kernel
theorem dX1_outdate_19 : decode cX1_outdate 19 = .ok (.aload_n 0, 1) := by decide +kernel
theorem dX1_outdate_20 : decode cX1_outdate 20 = .ok (.getfield 24, 3) := by decide +kernel
theorem dX1_outdate_23 : decode cX1_outdate 23 = .ok (.iload_n 2, 1) := by decide +kernel
theorem dX1_outdate_24 : decode cX1_outdate 24 = .ok (.dup2, 1) := by decide +kernel
theorem dX1_outdate_25 : decode cX1_outdate 25 = .ok (.iaload, 1) := by decide +kernel
theorem dX1_outdate_26 : decode cX1_outdate 26 = .ok (.aload_n 0, 1) := by decide +kernel
theorem dX1_outdate_27 : decode cX1_outdate 27 = .ok (.getfield 21, 3) := by decide +kernel
theorem dX1_outdate_30 : decode cX1_outdate 30 = .ok (.iload_n 2, 1) := by decide +kernel
theorem dX1_outdate_31 : decode cX1_outdate 31 = .ok (.iaload, 1) := by decide +kernel
theorem dX1_outdate_32 : decode cX1_outdate 32 = .ok (.iconst 1, 1) := by decide +kernel
theorem dX1_outdate_33 : decode cX1_outdate 33 = .ok (.iload_n 1, 1) := by decide +kernel
theorem dX1_outdate_34 : decode cX1_outdate 34 = .ok (.ishl, 1) := by decide +kernel
theorem dX1_outdate_35 : decode cX1_outdate 35 = .ok (.iand, 1) := by decide +kernel
theorem dX1_outdate_36 : decode cX1_outdate 36 = .ok (.ior, 1) := by decide +kernel
theorem dX1_outdate_37 : decode cX1_outdate 37 = .ok (.iastore, 1) := by decide +kernel
theorem dX1_outdate_38 : decode cX1_outdate 38 = .ok (.aload_n 0, 1) := by decide +kernel
theorem dX1_outdate_39 : decode cX1_outdate 39 = .ok (.getfield 21, 3) := by decide +kernel
theorem dX1_outdate_42 : decode cX1_outdate 42 = .ok (.iload_n 2, 1) := by decide +kernel
theorem dX1_outdate_43 : decode cX1_outdate 43 = .ok (.dup2, 1) := by decide +kernel
theorem dX1_outdate_44 : decode cX1_outdate 44 = .ok (.iaload, 1) := by decide +kernel
theorem dX1_outdate_45 : decode cX1_outdate 45 = .ok (.iconst 1, 1) := by decide +kernel
theorem dX1_outdate_46 : decode cX1_outdate 46 = .ok (.iload_n 1, 1) := by decide +kernel
theorem dX1_outdate_47 : decode cX1_outdate 47 = .ok (.ishl, 1) := by decide +kernel
theorem dX1_outdate_48 : decode cX1_outdate 48 = .ok (.iconst (-1), 1) := by decide +kernel
theorem dX1_outdate_49 : decode cX1_outdate 49 = .ok (.ixor, 1) := by decide +kernel
theorem dX1_outdate_50 : decode cX1_outdate 50 = .ok (.iand, 1) := by decide +kernel
theorem dX1_outdate_51 : decode cX1_outdate 51 = .ok (.iastore, 1) := by decide +kernel
theorem dX1_outdate_52 : decode cX1_outdate 52 = .ok (.iinc 2 1, 3) := by decide +kernel
theorem dX1_outdate_55 : decode cX1_outdate 55 = .ok (.goto (-53), 3) := by decide +kernel
theorem dX1_outdate_58 : decode cX1_outdate 58 = .ok (.return_, 1) := by decide +kernel
theorem dX1_beginLending_0 : decode cX1_beginLending 0 = .ok (.aload_n 0, 1) := by decide +kernel
theorem dX1_beginLending_1 : decode cX1_beginLending 1 = .ok (.getfield 9, 3) := by decide +kernel
theorem dX1_beginLending_4 : decode cX1_beginLending 4 = .ok (.iload_n 1, 1) := by decide +kernel
theorem dX1_beginLending_5 : decode cX1_beginLending 5 = .ok (.iconst 1, 1) := by decide +kernel
theorem dX1_beginLending_6 : decode cX1_beginLending 6 = .ok (.iastore, 1) := by decide +kernel
theorem dX1_beginLending_7 : decode cX1_beginLending 7 = .ok (.aload_n 0, 1) := by decide +kernel
theorem dX1_beginLending_8 : decode cX1_beginLending 8 = .ok (.getfield 15, 3) := by decide +kernel
theorem dX1_beginLending_11 : decode cX1_beginLending 11 = .ok (.iload_n 1, 1) := by decide +kernel
theorem dX1_beginLending_12 : decode cX1_beginLending 12 = .ok (.iload_n 2, 1) := by decide +kernel
theorem dX1_beginLending_13 : decode cX1_beginLending 13 = .ok (.iastore, 1) := by decide +kernel
theorem dX1_beginLending_14 : decode cX1_beginLending 14 = .ok (.iconst 0, 1) := by decide +kernel
theorem dX1_beginLending_15 : decode cX1_beginLending 15 = .ok (.istore_n 3, 1) := by decide +kernel
theorem dX1_beginLending_16 : decode cX1_beginLending 16 = .ok (.iconst 0, 1) := by decide +kernel
theorem dX1_beginLending_17 : decode cX1_beginLending 17 = .ok (.istore 4, 2) := by decide +kernel
theorem dX1_beginLending_19 : decode cX1_beginLending 19 = .ok (.iload 4, 2) := by decide +kernel
theorem dX1_beginLending_21 : decode cX1_beginLending 21 = .ok (.bipush 6, 2) := by decide +kernel
theorem dX1_beginLending_23 : decode cX1_beginLending 23 = .ok (.if_icmp .ge 18, 3) := by decide +kernel
theorem dX1_beginLending_26 : decode cX1_beginLending 26 = .ok (.iload_n 3, 1) := by decide +kernel
theorem dX1_beginLending_27 : decode cX1_beginLending 27 = .ok (.aload_n 0, 1) := by decide +kernel
theorem dX1_beginLending_28 : decode cX1_beginLending 28 = .ok (.iload 4, 2) := by decide +kernel
theorem dX1_beginLending_30 : decode cX1_beginLending 30 = .ok (.invokevirtual 103, 3) := by decide +kernel
theorem dX1_beginLending_33 : decode cX1_beginLending 33 = .ok (.iadd, 1) := by decide +kernel
theorem dX1_beginLending_34 : decode cX1_beginLending 34 = .ok (.istore_n 3, 1) := by decide +kernel
theorem dX1_beginLending_35 : decode cX1_beginLending 35 = .ok (.iinc 4 1, 3) := by decide +kernel
theorem dX1_beginLending_38 : decode cX1_beginLending 38 = .ok (.goto (-19), 3) := by decide +kernel
theorem dX1_beginLending_41 : decode cX1_beginLending 41 = .ok (.aload_n 0, 1) := by decide +kernel
theorem dX1_beginLending_42 : decode cX1_beginLending 42 = .ok (.invokevirtual 110, 3) := by decide +kernel
theorem dX1_beginLending_45 : decode cX1_beginLending 45 = .ok (.iload_n 3, 1) := by decide +kernel
theorem dX1_beginLending_46 : decode cX1_beginLending 46 = .ok (.ireturn, 1) := by decide +kernel
theorem dX1_callBack_0 : decode cX1_callBack 0 = .ok (.aload_n 0, 1) := by decide +kernel
theorem dX1_callBack_1 : decode cX1_callBack 1 = .ok (.getfield 9, 3) := by decide +kernel
theorem dX1_callBack_4 : decode cX1_callBack 4 = .ok (.iload_n 1, 1) := by decide +kernel
theorem dX1_callBack_5 : decode cX1_callBack 5 = .ok (.iconst 2, 1) := by decide +kernel
theorem dX1_callBack_6 : decode cX1_callBack 6 = .ok (.iastore, 1) := by decide +kernel
theorem dX1_callBack_7 : decode cX1_callBack 7 = .ok (.aload_n 0, 1) := by decide +kernel
theorem dX1_callBack_8 : decode cX1_callBack 8 = .ok (.getfield 18, 3) := by decide +kernel
theorem dX1_callBack_11 : decode cX1_callBack 11 = .ok (.iload_n 1, 1) := by decide +kernel
theorem dX1_callBack_12 : decode cX1_callBack 12 = .ok (.aload_n 0, 1) := by decide +kernel
theorem dX1_callBack_13 : decode cX1_callBack 13 = .ok (.getfield 37, 3) := by decide +kernel
theorem dX1_callBack_16 : decode cX1_callBack 16 = .ok (.iload_n 2, 1) := by decide +kernel
theorem dX1_callBack_17 : decode cX1_callBack 17 = .ok (.iadd, 1) := by decide +kernel
theorem dX1_callBack_18 : decode cX1_callBack 18 = .ok (.iastore, 1) := by decide +kernel
theorem dX1_callBack_19 : decode cX1_callBack 19 = .ok (.aload_n 0, 1) := by decide +kernel
theorem dX1_callBack_20 : decode cX1_callBack 20 = .ok (.getfield 52, 3) := by decide +kernel
theorem dX1_callBack_23 : decode cX1_callBack 23 = .ok (.iload_n 1, 1) := by decide +kernel
theorem dX1_callBack_24 : decode cX1_callBack 24 = .ok (.if_icmp .ne 7, 3) := by decide +kernel
theorem dX1_callBack_27 : decode cX1_callBack 27 = .ok (.aload_n 0, 1) := by decide +kernel
theorem dX1_callBack_28 : decode cX1_callBack 28 = .ok (.invokevirtual 116, 3) := by decide +kernel
theorem dX1_callBack_31 : decode cX1_callBack 31 = .ok (.aload_n 0, 1) := by decide +kernel
theorem dX1_callBack_32 : decode cX1_callBack 32 = .ok (.invokevirtual 110, 3) := by decide +kernel
theorem dX1_callBack_35 : decode cX1_callBack 35 = .ok (.aload_n 0, 1) := by decide +kernel
theorem dX1_callBack_36 : decode cX1_callBack 36 = .ok (.iload_n 1, 1) := by decide +kernel
theorem dX1_callBack_37 : decode cX1_callBack 37 = .ok (.invokevirtual 119, 3) := by decide +kernel
theorem dX1_callBack_40 : decode cX1_callBack 40 = .ok (.ireturn, 1) := by decide +kernel
theorem dX1_detach_0 : decode cX1_detach 0 = .ok (.aload_n 0, 1) := by decide +kernel
theorem dX1_detach_1 : decode cX1_detach 1 = .ok (.dup, 1) := by decide +kernel
theorem dX1_detach_2 : decode cX1_detach 2 = .ok (.getfield 34, 3) := by decide +kernel
theorem dX1_detach_5 : decode cX1_detach 5 = .ok (.iconst 1, 1) := by decide +kernel
theorem dX1_detach_6 : decode cX1_detach 6 = .ok (.iload_n 1, 1) := by decide +kernel
theorem dX1_detach_7 : decode cX1_detach 7 = .ok (.ishl, 1) := by decide +kernel
theorem dX1_detach_8 : decode cX1_detach 8 = .ok (.iconst (-1), 1) := by decide +kernel
theorem dX1_detach_9 : decode cX1_detach 9 = .ok (.ixor, 1) := by decide +kernel
theorem dX1_detach_10 : decode cX1_detach 10 = .ok (.iand, 1) := by decide +kernel
theorem dX1_detach_11 : decode cX1_detach 11 = .ok (.putfield 34, 3) := by decide +kernel
theorem dX1_detach_14 : decode cX1_detach 14 = .ok (.aload_n 0, 1) := by decide +kernel
theorem dX1_detach_15 : decode cX1_detach 15 = .ok (.iload_n 1, 1) := by decide +kernel
theorem dX1_detach_16 : decode cX1_detach 16 = .ok (.invokevirtual 122, 3) := by decide +kernel
theorem dX1_detach_19 : decode cX1_detach 19 = .ok (.aload_n 0, 1) := by decide +kernel
theorem dX1_detach_20 : decode cX1_detach 20 = .ok (.invokevirtual 110, 3) := by decide +kernel
theorem dX1_detach_23 : decode cX1_detach 23 = .ok (.aload_n 0, 1) := by decide +kernel
theorem dX1_detach_24 : decode cX1_detach 24 = .ok (.iload_n 1, 1) := by decide +kernel
theorem dX1_detach_25 : decode cX1_detach 25 = .ok (.invokevirtual 119, 3) := by decide +kernel
theorem dX1_detach_28 : decode cX1_detach 28 = .ok (.ireturn, 1) := by decide +kernel
theorem dX1_attach_0 : decode cX1_attach 0 = .ok (.aload_n 0, 1) := by decide +kernel
theorem dX1_attach_1 : decode cX1_attach 1 = .ok (.getfield 24, 3) := by decide +kernel
theorem dX1_attach_4 : decode cX1_attach 4 = .ok (.iload_n 1, 1) := by decide +kernel
theorem dX1_attach_5 : decode cX1_attach 5 = .ok (.iaload, 1) := by decide +kernel
theorem dX1_attach_6 : decode cX1_attach 6 = .ok (.aload_n 0, 1) := by decide +kernel
theorem dX1_attach_7 : decode cX1_attach 7 = .ok (.getfield 21, 3) := by decide +kernel
theorem dX1_attach_10 : decode cX1_attach 10 = .ok (.iload_n 1, 1) := by decide +kernel
theorem dX1_attach_11 : decode cX1_attach 11 = .ok (.iaload, 1) := by decide +kernel
theorem dX1_attach_12 : decode cX1_attach 12 = .ok (.aload_n 0, 1) := by decide +kernel
theorem dX1_attach_13 : decode cX1_attach 13 = .ok (.invokevirtual 125, 3) := by decide +kernel
theorem dX1_attach_16 : decode cX1_attach 16 = .ok (.iand, 1) := by decide +kernel
theorem dX1_attach_17 : decode cX1_attach 17 = .ok (.ior, 1) := by decide +kernel
theorem dX1_attach_18 : decode cX1_attach 18 = .ok (.istore_n 2, 1) := by decide +kernel
theorem dX1_attach_19 : decode cX1_attach 19 = .ok (.aload_n 0, 1) := by decide +kernel
theorem dX1_attach_20 : decode cX1_attach 20 = .ok (.dup, 1) := by decide +kernel
theorem dX1_attach_21 : decode cX1_attach 21 = .ok (.getfield 34, 3) := by decide +kernel
theorem dX1_attach_24 : decode cX1_attach 24 = .ok (.iconst 1, 1) := by decide +kernel
theorem dX1_attach_25 : decode cX1_attach 25 = .ok (.iload_n 1, 1) := by decide +kernel
theorem dX1_attach_26 : decode cX1_attach 26 = .ok (.ishl, 1) := by decide +kernel
theorem dX1_attach_27 : decode cX1_attach 27 = .ok (.ior, 1) := by decide +kernel
theorem dX1_attach_28 : decode cX1_attach 28 = .ok (.putfield 34, 3) := by decide +kernel
theorem dX1_attach_31 : decode cX1_attach 31 = .ok (.aload_n 0, 1) := by decide +kernel
theorem dX1_attach_32 : decode cX1_attach 32 = .ok (.getfield 21, 3) := by decide +kernel
theorem dX1_attach_35 : decode cX1_attach 35 = .ok (.iload_n 1, 1) := by decide +kernel
theorem dX1_attach_36 : decode cX1_attach 36 = .ok (.dup2, 1) := by decide +kernel
theorem dX1_attach_37 : decode cX1_attach 37 = .ok (.iaload, 1) := by decide +kernel
theorem dX1_attach_38 : decode cX1_attach 38 = .ok (.iload_n 2, 1) := by decide +kernel
theorem dX1_attach_39 : decode cX1_attach 39 = .ok (.iconst (-1), 1) := by decide +kernel
theorem dX1_attach_40 : decode cX1_attach 40 = .ok (.ixor, 1) := by decide +kernel
theorem dX1_attach_41 : decode cX1_attach 41 = .ok (.iand, 1) := by decide +kernel
theorem dX1_attach_42 : decode cX1_attach 42 = .ok (.iastore, 1) := by decide +kernel
theorem dX1_attach_43 : decode cX1_attach 43 = .ok (.aload_n 0, 1) := by decide +kernel
theorem dX1_attach_44 : decode cX1_attach 44 = .ok (.getfield 24, 3) := by decide +kernel
theorem dX1_attach_47 : decode cX1_attach 47 = .ok (.iload_n 1, 1) := by decide +kernel
theorem dX1_attach_48 : decode cX1_attach 48 = .ok (.iconst 0, 1) := by decide +kernel
theorem dX1_attach_49 : decode cX1_attach 49 = .ok (.iastore, 1) := by decide +kernel
theorem dX1_attach_50 : decode cX1_attach 50 = .ok (.aload_n 0, 1) := by decide +kernel
theorem dX1_attach_51 : decode cX1_attach 51 = .ok (.invokevirtual 110, 3) := by decide +kernel
theorem dX1_attach_54 : decode cX1_attach 54 = .ok (.iload_n 2, 1) := by decide +kernel
theorem dX1_attach_55 : decode cX1_attach 55 = .ok (.invokestatic 89, 3) := by decide +kernel
theorem dX1_attach_58 : decode cX1_attach 58 = .ok (.ireturn, 1) := by decide +kernel
theorem dX1_pagesCopiedTwice_0 : decode cX1_pagesCopiedTwice 0 = .ok (.iconst 0, 1) := by decide +kernel
theorem dX1_pagesCopiedTwice_1 : decode cX1_pagesCopiedTwice 1 = .ok (.istore_n 1, 1) := by decide +kernel
theorem dX1_pagesCopiedTwice_2 : decode cX1_pagesCopiedTwice 2 = .ok (.iconst 0, 1) := by decide +kernel
theorem dX1_pagesCopiedTwice_3 : decode cX1_pagesCopiedTwice 3 = .ok (.istore_n 2, 1) := by decide +kernel
theorem dX1_pagesCopiedTwice_4 : decode cX1_pagesCopiedTwice 4 = .ok (.iconst 0, 1) := by decide +kernel
theorem dX1_pagesCopiedTwice_5 : decode cX1_pagesCopiedTwice 5 = .ok (.istore_n 3, 1) := by decide +kernel
theorem dX1_pagesCopiedTwice_6 : decode cX1_pagesCopiedTwice 6 = .ok (.iload_n 3, 1) := by decide +kernel
theorem dX1_pagesCopiedTwice_7 : decode cX1_pagesCopiedTwice 7 = .ok (.bipush 6, 2) := by decide +kernel
theorem dX1_pagesCopiedTwice_9 : decode cX1_pagesCopiedTwice 9 = .ok (.if_icmp .ge 40, 3) := by decide +kernel
theorem dX1_pagesCopiedTwice_12 : decode cX1_pagesCopiedTwice 12 = .ok (.aload_n 0, 1) := by decide +kernel
theorem dX1_pagesCopiedTwice_13 : decode cX1_pagesCopiedTwice 13 = .ok (.getfield 34, 3) := by decide +kernel
theorem dX1_pagesCopiedTwice_16 : decode cX1_pagesCopiedTwice 16 = .ok (.iload_n 3, 1) := by decide +kernel
theorem dX1_pagesCopiedTwice_17 : decode cX1_pagesCopiedTwice 17 = .ok (.invokestatic 68, 3) := by decide +kernel
theorem dX1_pagesCopiedTwice_20 : decode cX1_pagesCopiedTwice 20 = .ok (.ifCond .eq 23, 3) := by decide +kernel
theorem dX1_pagesCopiedTwice_23 : decode cX1_pagesCopiedTwice 23 = .ok (.iload_n 2, 1) := by decide +kernel
theorem dX1_pagesCopiedTwice_24 : decode cX1_pagesCopiedTwice 24 = .ok (.iload_n 1, 1) := by decide +kernel
theorem dX1_pagesCopiedTwice_25 : decode cX1_pagesCopiedTwice 25 = .ok (.aload_n 0, 1) := by decide +kernel
theorem dX1_pagesCopiedTwice_26 : decode cX1_pagesCopiedTwice 26 = .ok (.getfield 21, 3) := by decide +kernel
theorem dX1_pagesCopiedTwice_29 : decode cX1_pagesCopiedTwice 29 = .ok (.iload_n 3, 1) := by decide +kernel
theorem dX1_pagesCopiedTwice_30 : decode cX1_pagesCopiedTwice 30 = .ok (.iaload, 1) := by decide +kernel
theorem dX1_pagesCopiedTwice_31 : decode cX1_pagesCopiedTwice 31 = .ok (.iand, 1) := by decide +kernel
theorem dX1_pagesCopiedTwice_32 : decode cX1_pagesCopiedTwice 32 = .ok (.ior, 1) := by decide +kernel
theorem dX1_pagesCopiedTwice_33 : decode cX1_pagesCopiedTwice 33 = .ok (.istore_n 2, 1) := by decide +kernel
theorem dX1_pagesCopiedTwice_34 : decode cX1_pagesCopiedTwice 34 = .ok (.iload_n 1, 1) := by decide +kernel
theorem dX1_pagesCopiedTwice_35 : decode cX1_pagesCopiedTwice 35 = .ok (.aload_n 0, 1) := by decide +kernel
theorem dX1_pagesCopiedTwice_36 : decode cX1_pagesCopiedTwice 36 = .ok (.getfield 21, 3) := by decide +kernel
theorem dX1_pagesCopiedTwice_39 : decode cX1_pagesCopiedTwice 39 = .ok (.iload_n 3, 1) := by decide +kernel
theorem dX1_pagesCopiedTwice_40 : decode cX1_pagesCopiedTwice 40 = .ok (.iaload, 1) := by decide +kernel
theorem dX1_pagesCopiedTwice_41 : decode cX1_pagesCopiedTwice 41 = .ok (.ior, 1) := by decide +kernel
theorem dX1_pagesCopiedTwice_42 : decode cX1_pagesCopiedTwice 42 = .ok (.istore_n 1, 1) := by decide +kernel
theorem dX1_pagesCopiedTwice_43 : decode cX1_pagesCopiedTwice 43 = .ok (.iinc 3 1, 3) := by decide +kernel
theorem dX1_pagesCopiedTwice_46 : decode cX1_pagesCopiedTwice 46 = .ok (.goto (-40), 3) := by decide +kernel
theorem dX1_pagesCopiedTwice_49 : decode cX1_pagesCopiedTwice 49 = .ok (.iload_n 2, 1) := by decide +kernel
theorem dX1_pagesCopiedTwice_50 : decode cX1_pagesCopiedTwice 50 = .ok (.ireturn, 1) := by decide +kernel
theorem dX1_breakDown_0 : decode cX1_breakDown 0 = .ok (.aload_n 0, 1) := by decide +kernel
theorem dX1_breakDown_1 : decode cX1_breakDown 1 = .ok (.iload_n 1, 1) := by decide +kernel
theorem dX1_breakDown_2 : decode cX1_breakDown 2 = .ok (.invokevirtual 119, 3) := by decide +kernel
theorem dX1_breakDown_5 : decode cX1_breakDown 5 = .ok (.istore_n 2, 1) := by decide +kernel
theorem dX1_breakDown_6 : decode cX1_breakDown 6 = .ok (.aload_n 0, 1) := by decide +kernel
theorem dX1_breakDown_7 : decode cX1_breakDown 7 = .ok (.iload_n 1, 1) := by decide +kernel
theorem dX1_breakDown_8 : decode cX1_breakDown 8 = .ok (.invokevirtual 129, 3) := by decide +kernel
theorem dX1_breakDown_11 : decode cX1_breakDown 11 = .ok (.aload_n 0, 1) := by decide +kernel
theorem dX1_breakDown_12 : decode cX1_breakDown 12 = .ok (.dup, 1) := by decide +kernel
theorem dX1_breakDown_13 : decode cX1_breakDown 13 = .ok (.getfield 34, 3) := by decide +kernel
theorem dX1_breakDown_16 : decode cX1_breakDown 16 = .ok (.iconst 1, 1) := by decide +kernel
theorem dX1_breakDown_17 : decode cX1_breakDown 17 = .ok (.iload_n 1, 1) := by decide +kernel
theorem dX1_breakDown_18 : decode cX1_breakDown 18 = .ok (.ishl, 1) := by decide +kernel
theorem dX1_breakDown_19 : decode cX1_breakDown 19 = .ok (.ior, 1) := by decide +kernel
theorem dX1_breakDown_20 : decode cX1_breakDown 20 = .ok (.putfield 34, 3) := by decide +kernel
theorem dX1_breakDown_23 : decode cX1_breakDown 23 = .ok (.aload_n 0, 1) := by decide +kernel
theorem dX1_breakDown_24 : decode cX1_breakDown 24 = .ok (.iload_n 1, 1) := by decide +kernel
theorem dX1_breakDown_25 : decode cX1_breakDown 25 = .ok (.invokevirtual 122, 3) := by decide +kernel
theorem dX1_breakDown_28 : decode cX1_breakDown 28 = .ok (.aload_n 0, 1) := by decide +kernel
theorem dX1_breakDown_29 : decode cX1_breakDown 29 = .ok (.invokevirtual 110, 3) := by decide +kernel
theorem dX1_breakDown_32 : decode cX1_breakDown 32 = .ok (.iload_n 2, 1) := by decide +kernel
theorem dX1_breakDown_33 : decode cX1_breakDown 33 = .ok (.ireturn, 1) := by decide +kernel
theorem dX1_leave_0 : decode cX1_leave 0 = .ok (.aload_n 0, 1) := by decide +kernel
theorem dX1_leave_1 : decode cX1_leave 1 = .ok (.getfield 21, 3) := by decide +kernel
theorem dX1_leave_4 : decode cX1_leave 4 = .ok (.iload_n 1, 1) := by decide +kernel
theorem dX1_leave_5 : decode cX1_leave 5 = .ok (.iconst 0, 1) := by decide +kernel
theorem dX1_leave_6 : decode cX1_leave 6 = .ok (.iastore, 1) := by decide +kernel
theorem dX1_leave_7 : decode cX1_leave 7 = .ok (.aload_n 0, 1) := by decide +kernel
theorem dX1_leave_8 : decode cX1_leave 8 = .ok (.getfield 24, 3) := by decide +kernel
theorem dX1_leave_11 : decode cX1_leave 11 = .ok (.iload_n 1, 1) := by decide +kernel
theorem dX1_leave_12 : decode cX1_leave 12 = .ok (.iconst 0, 1) := by decide +kernel
theorem dX1_leave_13 : decode cX1_leave 13 = .ok (.iastore, 1) := by decide +kernel
theorem dX1_leave_14 : decode cX1_leave 14 = .ok (.aload_n 0, 1) := by decide +kernel
theorem dX1_leave_15 : decode cX1_leave 15 = .ok (.getfield 9, 3) := by decide +kernel
theorem dX1_leave_18 : decode cX1_leave 18 = .ok (.iload_n 1, 1) := by decide +kernel
theorem dX1_leave_19 : decode cX1_leave 19 = .ok (.iconst 0, 1) := by decide +kernel
theorem dX1_leave_20 : decode cX1_leave 20 = .ok (.iastore, 1) := by decide +kernel
theorem dX1_leave_21 : decode cX1_leave 21 = .ok (.return_, 1) := by decide +kernel
theorem dX1_cancelTransferOf_0 : decode cX1_cancelTransferOf 0 = .ok (.aload_n 0, 1) := by decide +kernel
theorem dX1_cancelTransferOf_1 : decode cX1_cancelTransferOf 1 = .ok (.getfield 49, 3) := by decide +kernel
theorem dX1_cancelTransferOf_4 : decode cX1_cancelTransferOf 4 = .ok (.iload_n 1, 1) := by decide +kernel
theorem dX1_cancelTransferOf_5 : decode cX1_cancelTransferOf 5 = .ok (.if_icmp .eq 11, 3) := by decide +kernel
theorem dX1_cancelTransferOf_8 : decode cX1_cancelTransferOf 8 = .ok (.aload_n 0, 1) := by decide +kernel
theorem dX1_cancelTransferOf_9 : decode cX1_cancelTransferOf 9 = .ok (.getfield 52, 3) := by decide +kernel
theorem dX1_cancelTransferOf_12 : decode cX1_cancelTransferOf 12 = .ok (.iload_n 1, 1) := by decide +kernel
theorem dX1_cancelTransferOf_13 : decode cX1_cancelTransferOf 13 = .ok (.if_icmp .ne 7, 3) := by decide +kernel
theorem dX1_cancelTransferOf_16 : decode cX1_cancelTransferOf 16 = .ok (.aload_n 0, 1) := by decide +kernel
theorem dX1_cancelTransferOf_17 : decode cX1_cancelTransferOf 17 = .ok (.invokevirtual 116, 3) := by decide +kernel
theorem dX1_cancelTransferOf_20 : decode cX1_cancelTransferOf 20 = .ok (.return_, 1) := by decide +kernel
theorem dX1_cancelTransfer_0 : decode cX1_cancelTransfer 0 = .ok (.aload_n 0, 1) := by decide +kernel
theorem dX1_cancelTransfer_1 : decode cX1_cancelTransfer 1 = .ok (.iconst (-1), 1) := by decide +kernel
theorem dX1_cancelTransfer_2 : decode cX1_cancelTransfer 2 = .ok (.putfield 46, 3) := by decide +kernel
theorem dX1_cancelTransfer_5 : decode cX1_cancelTransfer 5 = .ok (.aload_n 0, 1) := by decide +kernel
theorem dX1_cancelTransfer_6 : decode cX1_cancelTransfer 6 = .ok (.iconst (-1), 1) := by decide +kernel
theorem dX1_cancelTransfer_7 : decode cX1_cancelTransfer 7 = .ok (.putfield 49, 3) := by decide +kernel
theorem dX1_cancelTransfer_10 : decode cX1_cancelTransfer 10 = .ok (.aload_n 0, 1) := by decide +kernel
theorem dX1_cancelTransfer_11 : decode cX1_cancelTransfer 11 = .ok (.iconst (-1), 1) := by decide +kernel
theorem dX1_cancelTransfer_12 : decode cX1_cancelTransfer 12 = .ok (.putfield 52, 3) := by decide +kernel
theorem dX1_cancelTransfer_15 : decode cX1_cancelTransfer 15 = .ok (.return_, 1) := by decide +kernel
theorem dX1_advance_0 : decode cX1_advance 0 = .ok (.aload_n 0, 1) := by decide +kernel
theorem dX1_advance_1 : decode cX1_advance 1 = .ok (.getfield 43, 3) := by decide +kernel
theorem dX1_advance_4 : decode cX1_advance 4 = .ok (.istore_n 2, 1) := by decide +kernel
theorem dX1_advance_5 : decode cX1_advance 5 = .ok (.aload_n 0, 1) := by decide +kernel
theorem dX1_advance_6 : decode cX1_advance 6 = .ok (.getfield 37, 3) := by decide +kernel
theorem dX1_advance_9 : decode cX1_advance 9 = .ok (.iload_n 1, 1) := by decide +kernel
theorem dX1_advance_10 : decode cX1_advance 10 = .ok (.iadd, 1) := by decide +kernel
theorem dX1_advance_11 : decode cX1_advance 11 = .ok (.istore_n 3, 1) := by decide +kernel
theorem dX1_advance_12 : decode cX1_advance 12 = .ok (.iconst 0, 1) := by decide +kernel
theorem dX1_advance_13 : decode cX1_advance 13 = .ok (.istore 4, 2) := by decide +kernel
theorem dX1_advance_15 : decode cX1_advance 15 = .ok (.iload 4, 2) := by decide +kernel
theorem dX1_advance_17 : decode cX1_advance 17 = .ok (.iload_n 1, 1) := by decide +kernel
theorem dX1_advance_18 : decode cX1_advance 18 = .ok (.if_icmp .ge 106, 3) := by decide +kernel
theorem dX1_advance_21 : decode cX1_advance 21 = .ok (.aload_n 0, 1) := by decide +kernel
theorem dX1_advance_22 : decode cX1_advance 22 = .ok (.getfield 37, 3) := by decide +kernel
theorem dX1_advance_25 : decode cX1_advance 25 = .ok (.iload_n 3, 1) := by decide +kernel
theorem dX1_advance_26 : decode cX1_advance 26 = .ok (.if_icmp .ge 98, 3) := by decide +kernel
theorem dX1_advance_29 : decode cX1_advance 29 = .ok (.aload_n 0, 1) := by decide +kernel
theorem dX1_advance_30 : decode cX1_advance 30 = .ok (.aload_n 0, 1) := by decide +kernel
theorem dX1_advance_31 : decode cX1_advance 31 = .ok (.iload_n 3, 1) := by decide +kernel
theorem dX1_advance_32 : decode cX1_advance 32 = .ok (.invokevirtual 132, 3) := by decide +kernel
theorem dX1_advance_35 : decode cX1_advance 35 = .ok (.putfield 37, 3) := by decide +kernel
theorem dX1_advance_38 : decode cX1_advance 38 = .ok (.aload_n 0, 1) := by decide +kernel
theorem dX1_advance_39 : decode cX1_advance 39 = .ok (.getfield 46, 3) := by decide +kernel
