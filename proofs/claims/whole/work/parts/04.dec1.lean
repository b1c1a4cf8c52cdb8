theorem dX0_init_0 : decode cX0_init 0 = .ok (.aload_n 0, 1) := by decide +kernel
theorem dX0_init_1 : decode cX0_init 1 = .ok (.invokespecial 3, 3) := by decide +kernel
theorem dX0_init_4 : decode cX0_init 4 = .ok (.aload_n 0, 1) := by decide +kernel
theorem dX0_init_5 : decode cX0_init 5 = .ok (.iconst 0, 1) := by decide +kernel
theorem dX0_init_6 : decode cX0_init 6 = .ok (.putfield 11, 3) := by decide +kernel
theorem dX0_init_9 : decode cX0_init 9 = .ok (.aload_n 0, 1) := by decide +kernel
theorem dX0_init_10 : decode cX0_init 10 = .ok (.iconst (-1), 1) := by decide +kernel
theorem dX0_init_11 : decode cX0_init 11 = .ok (.putfield 15, 3) := by decide +kernel
theorem dX0_init_14 : decode cX0_init 14 = .ok (.aload_n 0, 1) := by decide +kernel
theorem dX0_init_15 : decode cX0_init 15 = .ok (.iconst (-1), 1) := by decide +kernel
theorem dX0_init_16 : decode cX0_init 16 = .ok (.putfield 19, 3) := by decide +kernel
theorem dX0_init_19 : decode cX0_init 19 = .ok (.aload_n 0, 1) := by decide +kernel
theorem dX0_init_20 : decode cX0_init 20 = .ok (.iconst 0, 1) := by decide +kernel
theorem dX0_init_21 : decode cX0_init 21 = .ok (.putfield 22, 3) := by decide +kernel
theorem dX0_init_24 : decode cX0_init 24 = .ok (.return_, 1) := by decide +kernel
theorem dX0_restart_0 : decode cX0_restart 0 = .ok (.aload_n 0, 1) := by decide +kernel
theorem dX0_restart_1 : decode cX0_restart 1 = .ok (.iconst 0, 1) := by decide +kernel
theorem dX0_restart_2 : decode cX0_restart 2 = .ok (.putfield 11, 3) := by decide +kernel
theorem dX0_restart_5 : decode cX0_restart 5 = .ok (.aload_n 0, 1) := by decide +kernel
theorem dX0_restart_6 : decode cX0_restart 6 = .ok (.iconst (-1), 1) := by decide +kernel
theorem dX0_restart_7 : decode cX0_restart 7 = .ok (.putfield 15, 3) := by decide +kernel
theorem dX0_restart_10 : decode cX0_restart 10 = .ok (.aload_n 0, 1) := by decide +kernel
theorem dX0_restart_11 : decode cX0_restart 11 = .ok (.iconst (-1), 1) := by decide +kernel
theorem dX0_restart_12 : decode cX0_restart 12 = .ok (.putfield 19, 3) := by decide +kernel
theorem dX0_restart_15 : decode cX0_restart 15 = .ok (.aload_n 0, 1) := by decide +kernel
theorem dX0_restart_16 : decode cX0_restart 16 = .ok (.iconst 0, 1) := by decide +kernel
theorem dX0_restart_17 : decode cX0_restart 17 = .ok (.putfield 22, 3) := by decide +kernel
theorem dX0_restart_20 : decode cX0_restart 20 = .ok (.return_, 1) := by decide +kernel
theorem dX0_isComplete_0 : decode cX0_isComplete 0 = .ok (.aload_n 0, 1) := by decide +kernel
theorem dX0_isComplete_1 : decode cX0_isComplete 1 = .ok (.invokevirtual 26, 3) := by decide +kernel
theorem dX0_isComplete_4 : decode cX0_isComplete 4 = .ok (.ifCond .eq 19, 3) := by decide +kernel
theorem dX0_isComplete_7 : decode cX0_isComplete 7 = .ok (.aload_n 0, 1) := by decide +kernel
theorem dX0_isComplete_8 : decode cX0_isComplete 8 = .ok (.getfield 19, 3) := by decide +kernel
theorem dX0_isComplete_11 : decode cX0_isComplete 11 = .ok (.iconst (-1), 1) := by decide +kernel
theorem dX0_isComplete_12 : decode cX0_isComplete 12 = .ok (.if_icmp .eq 7, 3) := by decide +kernel
theorem dX0_isComplete_15 : decode cX0_isComplete 15 = .ok (.iconst 1, 1) := by decide +kernel
theorem dX0_isComplete_16 : decode cX0_isComplete 16 = .ok (.goto 20, 3) := by decide +kernel
theorem dX0_isComplete_19 : decode cX0_isComplete 19 = .ok (.iconst 0, 1) := by decide +kernel
theorem dX0_isComplete_20 : decode cX0_isComplete 20 = .ok (.goto 16, 3) := by decide +kernel
theorem dX0_isComplete_23 : decode cX0_isComplete 23 = .ok (.aload_n 0, 1) := by decide +kernel
theorem dX0_isComplete_24 : decode cX0_isComplete 24 = .ok (.getfield 15, 3) := by decide +kernel
theorem dX0_isComplete_27 : decode cX0_isComplete 27 = .ok (.iconst (-1), 1) := by decide +kernel
theorem dX0_isComplete_28 : decode cX0_isComplete 28 = .ok (.if_icmp .eq 7, 3) := by decide +kernel
theorem dX0_isComplete_31 : decode cX0_isComplete 31 = .ok (.iconst 1, 1) := by decide +kernel
theorem dX0_isComplete_32 : decode cX0_isComplete 32 = .ok (.goto 4, 3) := by decide +kernel
theorem dX0_isComplete_35 : decode cX0_isComplete 35 = .ok (.iconst 0, 1) := by decide +kernel
theorem dX0_isComplete_36 : decode cX0_isComplete 36 = .ok (.ireturn, 1) := by decide +kernel
theorem dX0_accept_0 : decode cX0_accept 0 = .ok (.aload_n 0, 1) := by decide +kernel
theorem dX0_accept_1 : decode cX0_accept 1 = .ok (.getfield 11, 3) := by decide +kernel
theorem dX0_accept_4 : decode cX0_accept 4 = .ok (.ifCond .ne 9, 3) := by decide +kernel
theorem dX0_accept_7 : decode cX0_accept 7 = .ok (.aload_n 0, 1) := by decide +kernel
theorem dX0_accept_8 : decode cX0_accept 8 = .ok (.iload_n 1, 1) := by decide +kernel
theorem dX0_accept_9 : decode cX0_accept 9 = .ok (.invokevirtual 30, 3) := by decide +kernel
theorem dX0_accept_12 : decode cX0_accept 12 = .ok (.ireturn, 1) := by decide +kernel
theorem dX0_accept_13 : decode cX0_accept 13 = .ok (.iload_n 1, 1) := by decide +kernel
theorem dX0_accept_14 : decode cX0_accept 14 = .ok (.bipush 48, 2) := by decide +kernel
theorem dX0_accept_16 : decode cX0_accept 16 = .ok (.if_icmp .lt 18, 3) := by decide +kernel
theorem dX0_accept_19 : decode cX0_accept 19 = .ok (.iload_n 1, 1) := by decide +kernel
theorem dX0_accept_20 : decode cX0_accept 20 = .ok (.bipush 57, 2) := by decide +kernel
theorem dX0_accept_22 : decode cX0_accept 22 = .ok (.if_icmp .gt 12, 3) := by decide +kernel
theorem dX0_accept_25 : decode cX0_accept 25 = .ok (.aload_n 0, 1) := by decide +kernel
theorem dX0_accept_26 : decode cX0_accept 26 = .ok (.iload_n 1, 1) := by decide +kernel
theorem dX0_accept_27 : decode cX0_accept 27 = .ok (.bipush 48, 2) := by decide +kernel
theorem dX0_accept_29 : decode cX0_accept 29 = .ok (.isub, 1) := by decide +kernel
theorem dX0_accept_30 : decode cX0_accept 30 = .ok (.invokevirtual 34, 3) := by decide +kernel
theorem dX0_accept_33 : decode cX0_accept 33 = .ok (.ireturn, 1) := by decide +kernel
theorem dX0_accept_34 : decode cX0_accept 34 = .ok (.iload_n 1, 1) := by decide +kernel
theorem dX0_accept_35 : decode cX0_accept 35 = .ok (.bipush 44, 2) := by decide +kernel
theorem dX0_accept_37 : decode cX0_accept 37 = .ok (.if_icmp .ne 32, 3) := by decide +kernel
theorem dX0_accept_40 : decode cX0_accept 40 = .ok (.aload_n 0, 1) := by decide +kernel
theorem dX0_accept_41 : decode cX0_accept 41 = .ok (.invokevirtual 26, 3) := by decide +kernel
theorem dX0_accept_44 : decode cX0_accept 44 = .ok (.ifCond .eq 25, 3) := by decide +kernel
theorem dX0_accept_47 : decode cX0_accept 47 = .ok (.aload_n 0, 1) := by decide +kernel
theorem dX0_accept_48 : decode cX0_accept 48 = .ok (.getfield 15, 3) := by decide +kernel
theorem dX0_accept_51 : decode cX0_accept 51 = .ok (.iconst (-1), 1) := by decide +kernel
theorem dX0_accept_52 : decode cX0_accept 52 = .ok (.if_icmp .eq 17, 3) := by decide +kernel
theorem dX0_accept_55 : decode cX0_accept 55 = .ok (.aload_n 0, 1) := by decide +kernel
theorem dX0_accept_56 : decode cX0_accept 56 = .ok (.getfield 22, 3) := by decide +kernel
theorem dX0_accept_59 : decode cX0_accept 59 = .ok (.ifCond .ne 10, 3) := by decide +kernel
theorem dX0_accept_62 : decode cX0_accept 62 = .ok (.aload_n 0, 1) := by decide +kernel
theorem dX0_accept_63 : decode cX0_accept 63 = .ok (.iconst 1, 1) := by decide +kernel
theorem dX0_accept_64 : decode cX0_accept 64 = .ok (.putfield 22, 3) := by decide +kernel
theorem dX0_accept_67 : decode cX0_accept 67 = .ok (.iconst 1, 1) := by decide +kernel
theorem dX0_accept_68 : decode cX0_accept 68 = .ok (.ireturn, 1) := by decide +kernel
theorem dX0_accept_69 : decode cX0_accept 69 = .ok (.iload_n 1, 1) := by decide +kernel
theorem dX0_accept_70 : decode cX0_accept 70 = .ok (.bipush 59, 2) := by decide +kernel
theorem dX0_accept_72 : decode cX0_accept 72 = .ok (.if_icmp .ne 16, 3) := by decide +kernel
theorem dX0_accept_75 : decode cX0_accept 75 = .ok (.aload_n 0, 1) := by decide +kernel
theorem dX0_accept_76 : decode cX0_accept 76 = .ok (.invokevirtual 38, 3) := by decide +kernel
theorem dX0_accept_79 : decode cX0_accept 79 = .ok (.ifCond .eq 9, 3) := by decide +kernel
theorem dX0_accept_82 : decode cX0_accept 82 = .ok (.aload_n 0, 1) := by decide +kernel
theorem dX0_accept_83 : decode cX0_accept 83 = .ok (.invokevirtual 41, 3) := by decide +kernel
theorem dX0_accept_86 : decode cX0_accept 86 = .ok (.iconst 1, 1) := by decide +kernel
theorem dX0_accept_87 : decode cX0_accept 87 = .ok (.ireturn, 1) := by decide +kernel
theorem dX0_accept_88 : decode cX0_accept 88 = .ok (.iconst 0, 1) := by decide +kernel
theorem dX0_accept_89 : decode cX0_accept 89 = .ok (.ireturn, 1) := by decide +kernel
theorem dX0_acceptLetter_0 : decode cX0_acceptLetter 0 = .ok (.iload_n 1, 1) := by decide +kernel
theorem dX0_acceptLetter_1 : decode cX0_acceptLetter 1 = .ok (.tableswitch 110 99 120 #[103, 103, 110, 110, 110, 110, 110, 110, 110, 103, 110, 110, 103, 110, 110, 103, 103, 103, 110, 110, 103, 103], 103) := by decide +kernel
theorem dX0_acceptLetter_104 : decode cX0_acceptLetter 104 = .ok (.aload_n 0, 1) := by decide +kernel
theorem dX0_acceptLetter_105 : decode cX0_acceptLetter 105 = .ok (.iload_n 1, 1) := by decide +kernel
theorem dX0_acceptLetter_106 : decode cX0_acceptLetter 106 = .ok (.putfield 11, 3) := by decide +kernel
theorem dX0_acceptLetter_109 : decode cX0_acceptLetter 109 = .ok (.iconst 1, 1) := by decide +kernel
theorem dX0_acceptLetter_110 : decode cX0_acceptLetter 110 = .ok (.ireturn, 1) := by decide +kernel
theorem dX0_acceptLetter_111 : decode cX0_acceptLetter 111 = .ok (.iconst 0, 1) := by decide +kernel
theorem dX0_acceptLetter_112 : decode cX0_acceptLetter 112 = .ok (.ireturn, 1) := by decide +kernel
theorem dX0_acceptDigit_0 : decode cX0_acceptDigit 0 = .ok (.aload_n 0, 1) := by decide +kernel
theorem dX0_acceptDigit_1 : decode cX0_acceptDigit 1 = .ok (.getfield 22, 3) := by decide +kernel
theorem dX0_acceptDigit_4 : decode cX0_acceptDigit 4 = .ok (.ifCond .eq 10, 3) := by decide +kernel
theorem dX0_acceptDigit_7 : decode cX0_acceptDigit 7 = .ok (.aload_n 0, 1) := by decide +kernel
theorem dX0_acceptDigit_8 : decode cX0_acceptDigit 8 = .ok (.getfield 19, 3) := by decide +kernel
theorem dX0_acceptDigit_11 : decode cX0_acceptDigit 11 = .ok (.goto 7, 3) := by decide +kernel
theorem dX0_acceptDigit_14 : decode cX0_acceptDigit 14 = .ok (.aload_n 0, 1) := by decide +kernel
theorem dX0_acceptDigit_15 : decode cX0_acceptDigit 15 = .ok (.getfield 15, 3) := by decide +kernel
theorem dX0_acceptDigit_18 : decode cX0_acceptDigit 18 = .ok (.istore_n 2, 1) := by decide +kernel
theorem dX0_acceptDigit_19 : decode cX0_acceptDigit 19 = .ok (.iload_n 2, 1) := by decide +kernel
theorem dX0_acceptDigit_20 : decode cX0_acceptDigit 20 = .ok (.ifCond .ne 5, 3) := by decide +kernel
theorem dX0_acceptDigit_23 : decode cX0_acceptDigit 23 = .ok (.iconst 0, 1) := by decide +kernel
theorem dX0_acceptDigit_24 : decode cX0_acceptDigit 24 = .ok (.ireturn, 1) := by decide +kernel
theorem dX0_acceptDigit_25 : decode cX0_acceptDigit 25 = .ok (.iload_n 2, 1) := by decide +kernel
theorem dX0_acceptDigit_26 : decode cX0_acceptDigit 26 = .ok (.iconst (-1), 1) := by decide +kernel
theorem dX0_acceptDigit_27 : decode cX0_acceptDigit 27 = .ok (.if_icmp .ne 7, 3) := by decide +kernel
theorem dX0_acceptDigit_30 : decode cX0_acceptDigit 30 = .ok (.iload_n 1, 1) := by decide +kernel
theorem dX0_acceptDigit_31 : decode cX0_acceptDigit 31 = .ok (.goto 9, 3) := by decide +kernel
theorem dX0_acceptDigit_34 : decode cX0_acceptDigit 34 = .ok (.bipush 10, 2) := by decide +kernel
theorem dX0_acceptDigit_36 : decode cX0_acceptDigit 36 = .ok (.iload_n 2, 1) := by decide +kernel
theorem dX0_acceptDigit_37 : decode cX0_acceptDigit 37 = .ok (.imul, 1) := by decide +kernel
theorem dX0_acceptDigit_38 : decode cX0_acceptDigit 38 = .ok (.iload_n 1, 1) := by decide +kernel
theorem dX0_acceptDigit_39 : decode cX0_acceptDigit 39 = .ok (.iadd, 1) := by decide +kernel
theorem dX0_acceptDigit_40 : decode cX0_acceptDigit 40 = .ok (.istore_n 3, 1) := by decide +kernel
theorem dX0_acceptDigit_41 : decode cX0_acceptDigit 41 = .ok (.iload_n 3, 1) := by decide +kernel
theorem dX0_acceptDigit_42 : decode cX0_acceptDigit 42 = .ok (.aload_n 0, 1) := by decide +kernel
theorem dX0_acceptDigit_43 : decode cX0_acceptDigit 43 = .ok (.invokevirtual 44, 3) := by decide +kernel
theorem dX0_acceptDigit_46 : decode cX0_acceptDigit 46 = .ok (.if_icmp .lt 11, 3) := by decide +kernel
theorem dX0_acceptDigit_49 : decode cX0_acceptDigit 49 = .ok (.iload_n 3, 1) := by decide +kernel
theorem dX0_acceptDigit_50 : decode cX0_acceptDigit 50 = .ok (.aload_n 0, 1) := by decide +kernel
theorem dX0_acceptDigit_51 : decode cX0_acceptDigit 51 = .ok (.invokevirtual 48, 3) := by decide +kernel
theorem dX0_acceptDigit_54 : decode cX0_acceptDigit 54 = .ok (.if_icmp .le 5, 3) := by decide +kernel
theorem dX0_acceptDigit_57 : decode cX0_acceptDigit 57 = .ok (.iconst 0, 1) := by decide +kernel
theorem dX0_acceptDigit_58 : decode cX0_acceptDigit 58 = .ok (.ireturn, 1) := by decide +kernel
theorem dX0_acceptDigit_59 : decode cX0_acceptDigit 59 = .ok (.aload_n 0, 1) := by decide +kernel
theorem dX0_acceptDigit_60 : decode cX0_acceptDigit 60 = .ok (.getfield 22, 3) := by decide +kernel
theorem dX0_acceptDigit_63 : decode cX0_acceptDigit 63 = .ok (.ifCond .eq 11, 3) := by decide +kernel
theorem dX0_acceptDigit_66 : decode cX0_acceptDigit 66 = .ok (.aload_n 0, 1) := by decide +kernel
theorem dX0_acceptDigit_67 : decode cX0_acceptDigit 67 = .ok (.iload_n 3, 1) := by decide +kernel
theorem dX0_acceptDigit_68 : decode cX0_acceptDigit 68 = .ok (.putfield 19, 3) := by decide +kernel
theorem dX0_acceptDigit_71 : decode cX0_acceptDigit 71 = .ok (.goto 8, 3) := by decide +kernel
theorem dX0_acceptDigit_74 : decode cX0_acceptDigit 74 = .ok (.aload_n 0, 1) := by decide +kernel
theorem dX0_acceptDigit_75 : decode cX0_acceptDigit 75 = .ok (.iload_n 3, 1) := by decide +kernel
theorem dX0_acceptDigit_76 : decode cX0_acceptDigit 76 = .ok (.putfield 15, 3) := by decide +kernel
theorem dX0_acceptDigit_79 : decode cX0_acceptDigit 79 = .ok (.iconst 1, 1) := by decide +kernel
theorem dX0_acceptDigit_80 : decode cX0_acceptDigit 80 = .ok (.ireturn, 1) := by decide +kernel
theorem dX0_takesTwo_0 : decode cX0_takesTwo 0 = .ok (.aload_n 0, 1) := by decide +kernel
theorem dX0_takesTwo_1 : decode cX0_takesTwo 1 = .ok (.getfield 11, 3) := by decide +kernel
theorem dX0_takesTwo_4 : decode cX0_takesTwo 4 = .ok (.bipush 115, 2) := by decide +kernel
theorem dX0_takesTwo_6 : decode cX0_takesTwo 6 = .ok (.if_icmp .eq 30, 3) := by decide +kernel
theorem dX0_takesTwo_9 : decode cX0_takesTwo 9 = .ok (.aload_n 0, 1) := by decide +kernel
theorem dX0_takesTwo_10 : decode cX0_takesTwo 10 = .ok (.getfield 11, 3) := by decide +kernel
theorem dX0_takesTwo_13 : decode cX0_takesTwo 13 = .ok (.bipush 119, 2) := by decide +kernel
theorem dX0_takesTwo_15 : decode cX0_takesTwo 15 = .ok (.if_icmp .eq 21, 3) := by decide +kernel
theorem dX0_takesTwo_18 : decode cX0_takesTwo 18 = .ok (.aload_n 0, 1) := by decide +kernel
theorem dX0_takesTwo_19 : decode cX0_takesTwo 19 = .ok (.getfield 11, 3) := by decide +kernel
theorem dX0_takesTwo_22 : decode cX0_takesTwo 22 = .ok (.bipush 108, 2) := by decide +kernel
theorem dX0_takesTwo_24 : decode cX0_takesTwo 24 = .ok (.if_icmp .eq 12, 3) := by decide +kernel
theorem dX0_takesTwo_27 : decode cX0_takesTwo 27 = .ok (.aload_n 0, 1) := by decide +kernel
theorem dX0_takesTwo_28 : decode cX0_takesTwo 28 = .ok (.getfield 11, 3) := by decide +kernel
theorem dX0_takesTwo_31 : decode cX0_takesTwo 31 = .ok (.bipush 114, 2) := by decide +kernel
theorem dX0_takesTwo_33 : decode cX0_takesTwo 33 = .ok (.if_icmp .ne 7, 3) := by decide +kernel
theorem dX0_takesTwo_36 : decode cX0_takesTwo 36 = .ok (.iconst 1, 1) := by decide +kernel
theorem dX0_takesTwo_37 : decode cX0_takesTwo 37 = .ok (.goto 4, 3) := by decide +kernel
theorem dX0_takesTwo_40 : decode cX0_takesTwo 40 = .ok (.iconst 0, 1) := by decide +kernel
theorem dX0_takesTwo_41 : decode cX0_takesTwo 41 = .ok (.ireturn, 1) := by decide +kernel
theorem dX0_isPageLetter_0 : decode cX0_isPageLetter 0 = .ok (.aload_n 0, 1) := by decide +kernel
theorem dX0_isPageLetter_1 : decode cX0_isPageLetter 1 = .ok (.getfield 11, 3) := by decide +kernel
theorem dX0_isPageLetter_4 : decode cX0_isPageLetter 4 = .ok (.bipush 115, 2) := by decide +kernel
theorem dX0_isPageLetter_6 : decode cX0_isPageLetter 6 = .ok (.if_icmp .eq 21, 3) := by decide +kernel
theorem dX0_isPageLetter_9 : decode cX0_isPageLetter 9 = .ok (.aload_n 0, 1) := by decide +kernel
theorem dX0_isPageLetter_10 : decode cX0_isPageLetter 10 = .ok (.getfield 11, 3) := by decide +kernel
theorem dX0_isPageLetter_13 : decode cX0_isPageLetter 13 = .ok (.bipush 119, 2) := by decide +kernel
theorem dX0_isPageLetter_15 : decode cX0_isPageLetter 15 = .ok (.if_icmp .eq 12, 3) := by decide +kernel
theorem dX0_isPageLetter_18 : decode cX0_isPageLetter 18 = .ok (.aload_n 0, 1) := by decide +kernel
theorem dX0_isPageLetter_19 : decode cX0_isPageLetter 19 = .ok (.getfield 11, 3) := by decide +kernel
theorem dX0_isPageLetter_22 : decode cX0_isPageLetter 22 = .ok (.bipush 100, 2) := by decide +kernel
theorem dX0_isPageLetter_24 : decode cX0_isPageLetter 24 = .ok (.if_icmp .ne 7, 3) := by decide +kernel
theorem dX0_isPageLetter_27 : decode cX0_isPageLetter 27 = .ok (.iconst 1, 1) := by decide +kernel
theorem dX0_isPageLetter_28 : decode cX0_isPageLetter 28 = .ok (.goto 4, 3) := by decide +kernel
theorem dX0_isPageLetter_31 : decode cX0_isPageLetter 31 = .ok (.iconst 0, 1) := by decide +kernel
theorem dX0_isPageLetter_32 : decode cX0_isPageLetter 32 = .ok (.ireturn, 1) := by decide +kernel
theorem dX0_least_0 : decode cX0_least 0 = .ok (.aload_n 0, 1) := by decide +kernel
theorem dX0_least_1 : decode cX0_least 1 = .ok (.getfield 11, 3) := by decide +kernel
theorem dX0_least_4 : decode cX0_least 4 = .ok (.bipush 116, 2) := by decide +kernel
theorem dX0_least_6 : decode cX0_least 6 = .ok (.if_icmp .ne 5, 3) := by decide +kernel
theorem dX0_least_9 : decode cX0_least 9 = .ok (.iconst 1, 1) := by decide +kernel
theorem dX0_least_10 : decode cX0_least 10 = .ok (.ireturn, 1) := by decide +kernel
theorem dX0_least_11 : decode cX0_least 11 = .ok (.aload_n 0, 1) := by decide +kernel
theorem dX0_least_12 : decode cX0_least 12 = .ok (.getfield 22, 3) := by decide +kernel
theorem dX0_least_15 : decode cX0_least 15 = .ok (.ifCond .eq 14, 3) := by decide +kernel
theorem dX0_least_18 : decode cX0_least 18 = .ok (.aload_n 0, 1) := by decide +kernel
theorem dX0_least_19 : decode cX0_least 19 = .ok (.invokevirtual 51, 3) := by decide +kernel
theorem dX0_least_22 : decode cX0_least 22 = .ok (.ifCond .ne 7, 3) := by decide +kernel
theorem dX0_least_25 : decode cX0_least 25 = .ok (.iconst 1, 1) := by decide +kernel
theorem dX0_least_26 : decode cX0_least 26 = .ok (.goto 4, 3) := by decide +kernel
theorem dX0_least_29 : decode cX0_least 29 = .ok (.iconst 0, 1) := by decide +kernel
theorem dX0_least_30 : decode cX0_least 30 = .ok (.ireturn, 1) := by decide +kernel
theorem dX0_most_0 : decode cX0_most 0 = .ok (.aload_n 0, 1) := by decide +kernel
theorem dX0_most_1 : decode cX0_most 1 = .ok (.getfield 11, 3) := by decide +kernel
theorem dX0_most_4 : decode cX0_most 4 = .ok (.bipush 116, 2) := by decide +kernel
theorem dX0_most_6 : decode cX0_most 6 = .ok (.if_icmp .eq 19, 3) := by decide +kernel
theorem dX0_most_9 : decode cX0_most 9 = .ok (.aload_n 0, 1) := by decide +kernel
theorem dX0_most_10 : decode cX0_most 10 = .ok (.getfield 22, 3) := by decide +kernel
theorem dX0_most_13 : decode cX0_most 13 = .ok (.ifCond .eq 16, 3) := by decide +kernel
theorem dX0_most_16 : decode cX0_most 16 = .ok (.aload_n 0, 1) := by decide +kernel
theorem dX0_most_17 : decode cX0_most 17 = .ok (.getfield 11, 3) := by decide +kernel
theorem dX0_most_20 : decode cX0_most 20 = .ok (.bipush 114, 2) := by decide +kernel
theorem dX0_most_22 : decode cX0_most 22 = .ok (.if_icmp .ne 7, 3) := by decide +kernel
theorem dX0_most_25 : decode cX0_most 25 = .ok (.sipush 600, 3) := by decide +kernel
theorem dX0_most_28 : decode cX0_most 28 = .ok (.ireturn, 1) := by decide +kernel
theorem dX0_most_29 : decode cX0_most 29 = .ok (.aload_n 0, 1) := by decide +kernel
theorem dX0_most_30 : decode cX0_most 30 = .ok (.getfield 22, 3) := by decide +kernel
theorem dX0_most_33 : decode cX0_most 33 = .ok (.ifCond .eq 19, 3) := by decide +kernel
theorem dX0_most_36 : decode cX0_most 36 = .ok (.aload_n 0, 1) := by decide +kernel
theorem dX0_most_37 : decode cX0_most 37 = .ok (.invokevirtual 51, 3) := by decide +kernel
theorem dX0_most_40 : decode cX0_most 40 = .ok (.ifCond .eq 9, 3) := by decide +kernel
theorem dX0_most_43 : decode cX0_most 43 = .ok (.sipush 9999, 3) := by decide +kernel
theorem dX0_most_46 : decode cX0_most 46 = .ok (.goto 5, 3) := by decide +kernel
theorem dX0_most_49 : decode cX0_most 49 = .ok (.bipush 20, 2) := by decide +kernel
theorem dX0_most_51 : decode cX0_most 51 = .ok (.ireturn, 1) := by decide +kernel
theorem dX0_most_52 : decode cX0_most 52 = .ok (.aload_n 0, 1) := by decide +kernel
theorem dX0_most_53 : decode cX0_most 53 = .ok (.invokevirtual 51, 3) := by decide +kernel
theorem dX0_most_56 : decode cX0_most 56 = .ok (.ifCond .eq 8, 3) := by decide +kernel
theorem dX0_most_59 : decode cX0_most 59 = .ok (.bipush 29, 2) := by decide +kernel
theorem dX0_most_61 : decode cX0_most 61 = .ok (.goto 4, 3) := by decide +kernel
theorem dX0_most_64 : decode cX0_most 64 = .ok (.iconst 5, 1) := by decide +kernel
theorem dX0_most_65 : decode cX0_most 65 = .ok (.ireturn, 1) := by decide +kernel
theorem dX1_init_0 : decode cX1_init 0 = .ok (.aload_n 0, 1) := by decide +kernel
theorem dX1_init_1 : decode cX1_init 1 = .ok (.invokespecial 3, 3) := by decide +kernel
theorem dX1_init_4 : decode cX1_init 4 = .ok (.aload_n 0, 1) := by decide +kernel
theorem dX1_init_5 : decode cX1_init 5 = .ok (.bipush 6, 2) := by decide +kernel
theorem dX1_init_7 : decode cX1_init 7 = .ok (.newarray .int, 2) := by decide +kernel
theorem dX1_init_9 : decode cX1_init 9 = .ok (.putfield 9, 3) := by decide +kernel
theorem dX1_init_12 : decode cX1_init 12 = .ok (.aload_n 0, 1) := by decide +kernel
theorem dX1_init_13 : decode cX1_init 13 = .ok (.bipush 6, 2) := by decide +kernel
theorem dX1_init_15 : decode cX1_init 15 = .ok (.newarray .int, 2) := by decide +kernel
theorem dX1_init_17 : decode cX1_init 17 = .ok (.putfield 15, 3) := by decide +kernel
theorem dX1_init_20 : decode cX1_init 20 = .ok (.aload_n 0, 1) := by decide +kernel
theorem dX1_init_21 : decode cX1_init 21 = .ok (.bipush 6, 2) := by decide +kernel
theorem dX1_init_23 : decode cX1_init 23 = .ok (.newarray .int, 2) := by decide +kernel
theorem dX1_init_25 : decode cX1_init 25 = .ok (.putfield 18, 3) := by decide +kernel
theorem dX1_init_28 : decode cX1_init 28 = .ok (.aload_n 0, 1) := by decide +kernel
theorem dX1_init_29 : decode cX1_init 29 = .ok (.bipush 6, 2) := by decide +kernel
theorem dX1_init_31 : decode cX1_init 31 = .ok (.newarray .int, 2) := by decide +kernel
theorem dX1_init_33 : decode cX1_init 33 = .ok (.putfield 21, 3) := by decide +kernel
theorem dX1_init_36 : decode cX1_init 36 = .ok (.aload_n 0, 1) := by decide +kernel
theorem dX1_init_37 : decode cX1_init 37 = .ok (.bipush 6, 2) := by decide +kernel
theorem dX1_init_39 : decode cX1_init 39 = .ok (.newarray .int, 2) := by decide +kernel
theorem dX1_init_41 : decode cX1_init 41 = .ok (.putfield 24, 3) := by decide +kernel
theorem dX1_init_44 : decode cX1_init 44 = .ok (.aload_n 0, 1) := by decide +kernel
theorem dX1_init_45 : decode cX1_init 45 = .ok (.bipush 30, 2) := by decide +kernel
theorem dX1_init_47 : decode cX1_init 47 = .ok (.newarray .int, 2) := by decide +kernel
theorem dX1_init_49 : decode cX1_init 49 = .ok (.putfield 27, 3) := by decide +kernel
theorem dX1_init_52 : decode cX1_init 52 = .ok (.aload_n 0, 1) := by decide +kernel
theorem dX1_init_53 : decode cX1_init 53 = .ok (.iconst 0, 1) := by decide +kernel
theorem dX1_init_54 : decode cX1_init 54 = .ok (.putfield 30, 3) := by decide +kernel
theorem dX1_init_57 : decode cX1_init 57 = .ok (.aload_n 0, 1) := by decide +kernel
theorem dX1_init_58 : decode cX1_init 58 = .ok (.bipush 63, 2) := by decide +kernel
theorem dX1_init_60 : decode cX1_init 60 = .ok (.putfield 34, 3) := by decide +kernel
theorem dX1_init_63 : decode cX1_init 63 = .ok (.aload_n 0, 1) := by decide +kernel
theorem dX1_init_64 : decode cX1_init 64 = .ok (.iconst 0, 1) := by decide +kernel
theorem dX1_init_65 : decode cX1_init 65 = .ok (.putfield 37, 3) := by decide +kernel
theorem dX1_init_68 : decode cX1_init 68 = .ok (.aload_n 0, 1) := by decide +kernel
theorem dX1_init_69 : decode cX1_init 69 = .ok (.iconst 5, 1) := by decide +kernel
theorem dX1_init_70 : decode cX1_init 70 = .ok (.putfield 40, 3) := by decide +kernel
theorem dX1_init_73 : decode cX1_init 73 = .ok (.aload_n 0, 1) := by decide +kernel
theorem dX1_init_74 : decode cX1_init 74 = .ok (.iconst 0, 1) := by decide +kernel
theorem dX1_init_75 : decode cX1_init 75 = .ok (.putfield 43, 3) := by decide +kernel
theorem dX1_init_78 : decode cX1_init 78 = .ok (.aload_n 0, 1) := by decide +kernel
theorem dX1_init_79 : decode cX1_init 79 = .ok (.iconst (-1), 1) := by decide +kernel
theorem dX1_init_80 : decode cX1_init 80 = .ok (.putfield 46, 3) := by decide +kernel
theorem dX1_init_83 : decode cX1_init 83 = .ok (.aload_n 0, 1) := by decide +kernel
theorem dX1_init_84 : decode cX1_init 84 = .ok (.iconst (-1), 1) := by decide +kernel
theorem dX1_init_85 : decode cX1_init 85 = .ok (.putfield 49, 3) := by decide +kernel
theorem dX1_init_88 : decode cX1_init 88 = .ok (.aload_n 0, 1) := by decide +kernel
theorem dX1_init_89 : decode cX1_init 89 = .ok (.iconst (-1), 1) := by decide +kernel
theorem dX1_init_90 : decode cX1_init 90 = .ok (.putfield 52, 3) := by decide +kernel
theorem dX1_init_93 : decode cX1_init 93 = .ok (.aload_n 0, 1) := by decide +kernel
theorem dX1_init_94 : decode cX1_init 94 = .ok (.iconst 0, 1) := by decide +kernel
theorem dX1_init_95 : decode cX1_init 95 = .ok (.putfield 55, 3) := by decide +kernel
theorem dX1_init_98 : decode cX1_init 98 = .ok (.return_, 1) := by decide +kernel
theorem dX1_copy_0 : decode cX1_copy 0 = .ok (.aload_n 0, 1) := by decide +kernel
theorem dX1_copy_1 : decode cX1_copy 1 = .ok (.ifnull 7, 3) := by decide +kernel
theorem dX1_copy_4 : decode cX1_copy 4 = .ok (.aload_n 1, 1) := by decide +kernel
theorem dX1_copy_5 : decode cX1_copy 5 = .ok (.ifnonnull 4, 3) := by decide +kernel
theorem dX1_copy_8 : decode cX1_copy 8 = .ok (.return_, 1) := by decide +kernel
theorem dX1_copy_9 : decode cX1_copy 9 = .ok (.aload_n 0, 1) := by decide +kernel
theorem dX1_copy_10 : decode cX1_copy 10 = .ok (.getfield 9, 3) := by decide +kernel
theorem dX1_copy_13 : decode cX1_copy 13 = .ok (.iconst 0, 1) := by decide +kernel
theorem dX1_copy_14 : decode cX1_copy 14 = .ok (.aload_n 1, 1) := by decide +kernel
theorem dX1_copy_15 : decode cX1_copy 15 = .ok (.getfield 9, 3) := by decide +kernel
theorem dX1_copy_18 : decode cX1_copy 18 = .ok (.iconst 0, 1) := by decide +kernel
theorem dX1_copy_19 : decode cX1_copy 19 = .ok (.bipush 6, 2) := by decide +kernel
theorem dX1_copy_21 : decode cX1_copy 21 = .ok (.invokestatic 58, 3) := by decide +kernel
theorem dX1_copy_24 : decode cX1_copy 24 = .ok (.aload_n 0, 1) := by decide +kernel
theorem dX1_copy_25 : decode cX1_copy 25 = .ok (.getfield 15, 3) := by decide +kernel
theorem dX1_copy_28 : decode cX1_copy 28 = .ok (.iconst 0, 1) := by decide +kernel
theorem dX1_copy_29 : decode cX1_copy 29 = .ok (.aload_n 1, 1) := by decide +kernel
theorem dX1_copy_30 : decode cX1_copy 30 = .ok (.getfield 15, 3) := by decide +kernel
theorem dX1_copy_33 : decode cX1_copy 33 = .ok (.iconst 0, 1) := by decide +kernel
theorem dX1_copy_34 : decode cX1_copy 34 = .ok (.bipush 6, 2) := by decide +kernel
theorem dX1_copy_36 : decode cX1_copy 36 = .ok (.invokestatic 58, 3) := by decide +kernel
theorem dX1_copy_39 : decode cX1_copy 39 = .ok (.aload_n 0, 1) := by decide +kernel
theorem dX1_copy_40 : decode cX1_copy 40 = .ok (.getfield 18, 3) := by decide +kernel
theorem dX1_copy_43 : decode cX1_copy 43 = .ok (.iconst 0, 1) := by decide +kernel
theorem dX1_copy_44 : decode cX1_copy 44 = .ok (.aload_n 1, 1) := by decide +kernel
theorem dX1_copy_45 : decode cX1_copy 45 = .ok (.getfield 18, 3) := by decide +kernel
theorem dX1_copy_48 : decode cX1_copy 48 = .ok (.iconst 0, 1) := by decide +kernel
theorem dX1_copy_49 : decode cX1_copy 49 = .ok (.bipush 6, 2) := by decide +kernel
theorem dX1_copy_51 : decode cX1_copy 51 = .ok (.invokestatic 58, 3) := by decide +kernel
theorem dX1_copy_54 : decode cX1_copy 54 = .ok (.aload_n 0, 1) := by decide +kernel
theorem dX1_copy_55 : decode cX1_copy 55 = .ok (.getfield 21, 3) := by decide +kernel
theorem dX1_copy_58 : decode cX1_copy 58 = .ok (.iconst 0, 1) := by decide +kernel
theorem dX1_copy_59 : decode cX1_copy 59 = .ok (.aload_n 1, 1) := by decide +kernel
theorem dX1_copy_60 : decode cX1_copy 60 = .ok (.getfield 21, 3) := by decide +kernel
theorem dX1_copy_63 : decode cX1_copy 63 = .ok (.iconst 0, 1) := by decide +kernel
theorem dX1_copy_64 : decode cX1_copy 64 = .ok (.bipush 6, 2) := by decide +kernel
theorem dX1_copy_66 : decode cX1_copy 66 = .ok (.invokestatic 58, 3) := by decide +kernel
theorem dX1_copy_69 : decode cX1_copy 69 = .ok (.aload_n 0, 1) := by decide +kernel
theorem dX1_copy_70 : decode cX1_copy 70 = .ok (.getfield 24, 3) := by decide +kernel
theorem dX1_copy_73 : decode cX1_copy 73 = .ok (.iconst 0, 1) := by decide +kernel
theorem dX1_copy_74 : decode cX1_copy 74 = .ok (.aload_n 1, 1) := by decide +kernel
theorem dX1_copy_75 : decode cX1_copy 75 = .ok (.getfield 24, 3) := by decide +kernel
theorem dX1_copy_78 : decode cX1_copy 78 = .ok (.iconst 0, 1) := by decide +kernel
theorem dX1_copy_79 : decode cX1_copy 79 = .ok (.bipush 6, 2) := by decide +kernel
theorem dX1_copy_81 : decode cX1_copy 81 = .ok (.invokestatic 58, 3) := by decide +kernel
theorem dX1_copy_84 : decode cX1_copy 84 = .ok (.aload_n 0, 1) := by decide +kernel
theorem dX1_copy_85 : decode cX1_copy 85 = .ok (.getfield 27, 3) := by decide +kernel
theorem dX1_copy_88 : decode cX1_copy 88 = .ok (.iconst 0, 1) := by decide +kernel
theorem dX1_copy_89 : decode cX1_copy 89 = .ok (.aload_n 1, 1) := by decide +kernel
theorem dX1_copy_90 : decode cX1_copy 90 = .ok (.getfield 27, 3) := by decide +kernel
theorem dX1_copy_93 : decode cX1_copy 93 = .ok (.iconst 0, 1) := by decide +kernel
theorem dX1_copy_94 : decode cX1_copy 94 = .ok (.bipush 30, 2) := by decide +kernel
theorem dX1_copy_96 : decode cX1_copy 96 = .ok (.invokestatic 58, 3) := by decide +kernel
theorem dX1_copy_99 : decode cX1_copy 99 = .ok (.aload_n 1, 1) := by decide +kernel
theorem dX1_copy_100 : decode cX1_copy 100 = .ok (.aload_n 0, 1) := by decide +kernel
theorem dX1_copy_101 : decode cX1_copy 101 = .ok (.getfield 30, 3) := by decide +kernel
theorem dX1_copy_104 : decode cX1_copy 104 = .ok (.putfield 30, 3) := by decide +kernel
theorem dX1_copy_107 : decode cX1_copy 107 = .ok (.aload_n 1, 1) := by decide +kernel
theorem dX1_copy_108 : decode cX1_copy 108 = .ok (.aload_n 0, 1) := by decide +kernel
theorem dX1_copy_109 : decode cX1_copy 109 = .ok (.getfield 34, 3) := by decide +kernel
theorem dX1_copy_112 : decode cX1_copy 112 = .ok (.putfield 34, 3) := by decide +kernel
theorem dX1_copy_115 : decode cX1_copy 115 = .ok (.aload_n 1, 1) := by decide +kernel
theorem dX1_copy_116 : decode cX1_copy 116 = .ok (.aload_n 0, 1) := by decide +kernel
theorem dX1_copy_117 : decode cX1_copy 117 = .ok (.getfield 37, 3) := by decide +kernel
theorem dX1_copy_120 : decode cX1_copy 120 = .ok (.putfield 37, 3) := by decide +kernel
theorem dX1_copy_123 : decode cX1_copy 123 = .ok (.aload_n 1, 1) := by decide +kernel
theorem dX1_copy_124 : decode cX1_copy 124 = .ok (.aload_n 0, 1) := by decide +kernel
theorem dX1_copy_125 : decode cX1_copy 125 = .ok (.getfield 40, 3) := by decide +kernel
theorem dX1_copy_128 : decode cX1_copy 128 = .ok (.putfield 40, 3) := by decide +kernel
theorem dX1_copy_131 : decode cX1_copy 131 = .ok (.aload_n 1, 1) := by decide +kernel
theorem dX1_copy_132 : decode cX1_copy 132 = .ok (.aload_n 0, 1) := by decide +kernel
theorem dX1_copy_133 : decode cX1_copy 133 = .ok (.getfield 43, 3) := by decide +kernel
theorem dX1_copy_136 : decode cX1_copy 136 = .ok (.putfield 43, 3) := by decide +kernel
theorem dX1_copy_139 : decode cX1_copy 139 = .ok (.aload_n 1, 1) := by decide +kernel
theorem dX1_copy_140 : decode cX1_copy 140 = .ok (.aload_n 0, 1) := by decide +kernel
theorem dX1_copy_141 : decode cX1_copy 141 = .ok (.getfield 46, 3) := by decide +kernel
theorem dX1_copy_144 : decode cX1_copy 144 = .ok (.putfield 46, 3) := by decide +kernel
theorem dX1_copy_147 : decode cX1_copy 147 = .ok (.aload_n 1, 1) := by decide +kernel
theorem dX1_copy_148 : decode cX1_copy 148 = .ok (.aload_n 0, 1) := by decide +kernel
theorem dX1_copy_149 : decode cX1_copy 149 = .ok (.getfield 49, 3) := by decide +kernel
theorem dX1_copy_152 : decode cX1_copy 152 = .ok (.putfield 49, 3) := by decide +kernel
theorem dX1_copy_155 : decode cX1_copy 155 = .ok (.aload_n 1, 1) := by decide +kernel
theorem dX1_copy_156 : decode cX1_copy 156 = .ok (.aload_n 0, 1) := by decide +kernel
theorem dX1_copy_157 : decode cX1_copy 157 = .ok (.getfield 52, 3) := by decide +kernel
theorem dX1_copy_160 : decode cX1_copy 160 = .ok (.putfield 52, 3) := by decide +kernel
theorem dX1_copy_163 : decode cX1_copy 163 = .ok (.aload_n 1, 1) := by decide +kernel
theorem dX1_copy_164 : decode cX1_copy 164 = .ok (.aload_n 0, 1) := by decide +kernel
theorem dX1_copy_165 : decode cX1_copy 165 = .ok (.getfield 55, 3) := by decide +kernel
theorem dX1_copy_168 : decode cX1_copy 168 = .ok (.putfield 55, 3) := by decide +kernel
theorem dX1_copy_171 : decode cX1_copy 171 = .ok (.return_, 1) := by decide +kernel
theorem dX1_isPage_0 : decode cX1_isPage 0 = .ok (.iload_n 0, 1) := by decide +kernel
theorem dX1_isPage_1 : decode cX1_isPage 1 = .ok (.ifCond .lt 13, 3) := by decide +kernel
theorem dX1_isPage_4 : decode cX1_isPage 4 = .ok (.iload_n 0, 1) := by decide +kernel
theorem dX1_isPage_5 : decode cX1_isPage 5 = .ok (.bipush 30, 2) := by decide +kernel
theorem dX1_isPage_7 : decode cX1_isPage 7 = .ok (.if_icmp .ge 7, 3) := by decide +kernel
theorem dX1_isPage_10 : decode cX1_isPage 10 = .ok (.iconst 1, 1) := by decide +kernel
theorem dX1_isPage_11 : decode cX1_isPage 11 = .ok (.goto 4, 3) := by decide +kernel
theorem dX1_isPage_14 : decode cX1_isPage 14 = .ok (.iconst 0, 1) := by decide +kernel
theorem dX1_isPage_15 : decode cX1_isPage 15 = .ok (.ireturn, 1) := by decide +kernel
theorem dX1_isHost_0 : decode cX1_isHost 0 = .ok (.iload_n 0, 1) := by decide +kernel
theorem dX1_isHost_1 : decode cX1_isHost 1 = .ok (.ifCond .lt 13, 3) := by decide +kernel
theorem dX1_isHost_4 : decode cX1_isHost 4 = .ok (.iload_n 0, 1) := by decide +kernel
theorem dX1_isHost_5 : decode cX1_isHost 5 = .ok (.bipush 6, 2) := by decide +kernel
theorem dX1_isHost_7 : decode cX1_isHost 7 = .ok (.if_icmp .ge 7, 3) := by decide +kernel
theorem dX1_isHost_10 : decode cX1_isHost 10 = .ok (.iconst 1, 1) := by decide +kernel
theorem dX1_isHost_11 : decode cX1_isHost 11 = .ok (.goto 4, 3) := by decide +kernel
theorem dX1_isHost_14 : decode cX1_isHost 14 = .ok (.iconst 0, 1) := by decide +kernel
theorem dX1_isHost_15 : decode cX1_isHost 15 = .ok (.ireturn, 1) := by decide +kernel
theorem dX1_exists_0 : decode cX1_exists 0 = .ok (.iload_n 1, 1) := by decide +kernel
theorem dX1_exists_1 : decode cX1_exists 1 = .ok (.invokestatic 64, 3) := by decide +kernel
theorem dX1_exists_4 : decode cX1_exists 4 = .ok (.ifCond .eq 18, 3) := by decide +kernel
theorem dX1_exists_7 : decode cX1_exists 7 = .ok (.aload_n 0, 1) := by decide +kernel
theorem dX1_exists_8 : decode cX1_exists 8 = .ok (.getfield 30, 3) := by decide +kernel
theorem dX1_exists_11 : decode cX1_exists 11 = .ok (.iload_n 1, 1) := by decide +kernel
theorem dX1_exists_12 : decode cX1_exists 12 = .ok (.invokestatic 68, 3) := by decide +kernel
theorem dX1_exists_15 : decode cX1_exists 15 = .ok (.ifCond .eq 7, 3) := by decide +kernel
theorem dX1_exists_18 : decode cX1_exists 18 = .ok (.iconst 1, 1) := by decide +kernel
theorem dX1_exists_19 : decode cX1_exists 19 = .ok (.goto 4, 3) := by decide +kernel
theorem dX1_exists_22 : decode cX1_exists 22 = .ok (.iconst 0, 1) := by decide +kernel
theorem dX1_exists_23 : decode cX1_exists 23 = .ok (.ireturn, 1) := by decide +kernel
theorem dX1_isReachable_0 : decode cX1_isReachable 0 = .ok (.aload_n 0, 1) := by decide +kernel
theorem dX1_isReachable_1 : decode cX1_isReachable 1 = .ok (.iload_n 1, 1) := by decide +kernel
theorem dX1_isReachable_2 : decode cX1_isReachable 2 = .ok (.invokevirtual 72, 3) := by decide +kernel
theorem dX1_isReachable_5 : decode cX1_isReachable 5 = .ok (.ifCond .eq 15, 3) := by decide +kernel
theorem dX1_isReachable_8 : decode cX1_isReachable 8 = .ok (.aload_n 0, 1) := by decide +kernel
theorem dX1_isReachable_9 : decode cX1_isReachable 9 = .ok (.iload_n 1, 1) := by decide +kernel
theorem dX1_isReachable_10 : decode cX1_isReachable 10 = .ok (.invokevirtual 75, 3) := by decide +kernel
theorem dX1_isReachable_13 : decode cX1_isReachable 13 = .ok (.ifCond .eq 7, 3) := by decide +kernel
theorem dX1_isReachable_16 : decode cX1_isReachable 16 = .ok (.iconst 1, 1) := by decide +kernel
theorem dX1_isReachable_17 : decode cX1_isReachable 17 = .ok (.goto 4, 3) := by decide +kernel
theorem dX1_isReachable_20 : decode cX1_isReachable 20 = .ok (.iconst 0, 1) := by decide +kernel
theorem dX1_isReachable_21 : decode cX1_isReachable 21 = .ok (.ireturn, 1) := by decide +kernel
theorem dX1_canAdd_0 : decode cX1_canAdd 0 = .ok (.iload_n 1, 1) := by decide +kernel
theorem dX1_canAdd_1 : decode cX1_canAdd 1 = .ok (.invokestatic 64, 3) := by decide +kernel
theorem dX1_canAdd_4 : decode cX1_canAdd 4 = .ok (.ifCond .eq 24, 3) := by decide +kernel
theorem dX1_canAdd_7 : decode cX1_canAdd 7 = .ok (.aload_n 0, 1) := by decide +kernel
theorem dX1_canAdd_8 : decode cX1_canAdd 8 = .ok (.iload_n 1, 1) := by decide +kernel
theorem dX1_canAdd_9 : decode cX1_canAdd 9 = .ok (.invokevirtual 72, 3) := by decide +kernel
theorem dX1_canAdd_12 : decode cX1_canAdd 12 = .ok (.ifCond .ne 16, 3) := by decide +kernel
theorem dX1_canAdd_15 : decode cX1_canAdd 15 = .ok (.aload_n 0, 1) := by decide +kernel
theorem dX1_canAdd_16 : decode cX1_canAdd 16 = .ok (.iload_n 1, 1) := by decide +kernel
theorem dX1_canAdd_17 : decode cX1_canAdd 17 = .ok (.invokevirtual 79, 3) := by decide +kernel
theorem dX1_canAdd_20 : decode cX1_canAdd 20 = .ok (.iconst (-1), 1) := by decide +kernel
theorem dX1_canAdd_21 : decode cX1_canAdd 21 = .ok (.if_icmp .eq 7, 3) := by decide +kernel
theorem dX1_canAdd_24 : decode cX1_canAdd 24 = .ok (.iconst 1, 1) := by decide +kernel
theorem dX1_canAdd_25 : decode cX1_canAdd 25 = .ok (.goto 4, 3) := by decide +kernel
theorem dX1_canAdd_28 : decode cX1_canAdd 28 = .ok (.iconst 0, 1) := by decide +kernel
theorem dX1_canAdd_29 : decode cX1_canAdd 29 = .ok (.ireturn, 1) := by decide +kernel
theorem dX1_canBegin_0 : decode cX1_canBegin 0 = .ok (.iload_n 1, 1) := by decide +kernel
theorem dX1_canBegin_1 : decode cX1_canBegin 1 = .ok (.invokestatic 82, 3) := by decide +kernel
theorem dX1_canBegin_4 : decode cX1_canBegin 4 = .ok (.ifCond .eq 27, 3) := by decide +kernel
theorem dX1_canBegin_7 : decode cX1_canBegin 7 = .ok (.aload_n 0, 1) := by decide +kernel
theorem dX1_canBegin_8 : decode cX1_canBegin 8 = .ok (.getfield 9, 3) := by decide +kernel
theorem dX1_canBegin_11 : decode cX1_canBegin 11 = .ok (.iload_n 1, 1) := by decide +kernel
theorem dX1_canBegin_12 : decode cX1_canBegin 12 = .ok (.iaload, 1) := by decide +kernel
theorem dX1_canBegin_13 : decode cX1_canBegin 13 = .ok (.ifCond .ne 18, 3) := by decide +kernel
theorem dX1_canBegin_16 : decode cX1_canBegin 16 = .ok (.aload_n 0, 1) := by decide +kernel
theorem dX1_canBegin_17 : decode cX1_canBegin 17 = .ok (.getfield 34, 3) := by decide +kernel
theorem dX1_canBegin_20 : decode cX1_canBegin 20 = .ok (.iload_n 1, 1) := by decide +kernel
theorem dX1_canBegin_21 : decode cX1_canBegin 21 = .ok (.invokestatic 68, 3) := by decide +kernel
theorem dX1_canBegin_24 : decode cX1_canBegin 24 = .ok (.ifCond .eq 7, 3) := by decide +kernel
theorem dX1_canBegin_27 : decode cX1_canBegin 27 = .ok (.iconst 1, 1) := by decide +kernel
theorem dX1_canBegin_28 : decode cX1_canBegin 28 = .ok (.goto 4, 3) := by decide +kernel
theorem dX1_canBegin_31 : decode cX1_canBegin 31 = .ok (.iconst 0, 1) := by decide +kernel
theorem dX1_canBegin_32 : decode cX1_canBegin 32 = .ok (.ireturn, 1) := by decide +kernel
theorem dX1_isOpen_0 : decode cX1_isOpen 0 = .ok (.iload_n 1, 1) := by decide +kernel
theorem dX1_isOpen_1 : decode cX1_isOpen 1 = .ok (.invokestatic 82, 3) := by decide +kernel
theorem dX1_isOpen_4 : decode cX1_isOpen 4 = .ok (.ifCond .eq 28, 3) := by decide +kernel
theorem dX1_isOpen_7 : decode cX1_isOpen 7 = .ok (.aload_n 0, 1) := by decide +kernel
theorem dX1_isOpen_8 : decode cX1_isOpen 8 = .ok (.getfield 9, 3) := by decide +kernel
theorem dX1_isOpen_11 : decode cX1_isOpen 11 = .ok (.iload_n 1, 1) := by decide +kernel
theorem dX1_isOpen_12 : decode cX1_isOpen 12 = .ok (.iaload, 1) := by decide +kernel
theorem dX1_isOpen_13 : decode cX1_isOpen 13 = .ok (.iconst 1, 1) := by decide +kernel
theorem dX1_isOpen_14 : decode cX1_isOpen 14 = .ok (.if_icmp .ne 18, 3) := by decide +kernel
theorem dX1_isOpen_17 : decode cX1_isOpen 17 = .ok (.aload_n 0, 1) := by decide +kernel
theorem dX1_isOpen_18 : decode cX1_isOpen 18 = .ok (.getfield 34, 3) := by decide +kernel
theorem dX1_isOpen_21 : decode cX1_isOpen 21 = .ok (.iload_n 1, 1) := by decide +kernel
theorem dX1_isOpen_22 : decode cX1_isOpen 22 = .ok (.invokestatic 68, 3) := by decide +kernel
theorem dX1_isOpen_25 : decode cX1_isOpen 25 = .ok (.ifCond .eq 7, 3) := by decide +kernel
theorem dX1_isOpen_28 : decode cX1_isOpen 28 = .ok (.iconst 1, 1) := by decide +kernel
theorem dX1_isOpen_29 : decode cX1_isOpen 29 = .ok (.goto 4, 3) := by decide +kernel
theorem dX1_isOpen_32 : decode cX1_isOpen 32 = .ok (.iconst 0, 1) := by decide +kernel
theorem dX1_isOpen_33 : decode cX1_isOpen 33 = .ok (.ireturn, 1) := by decide +kernel
theorem dX1_canDetach_0 : decode cX1_canDetach 0 = .ok (.iload_n 1, 1) := by decide +kernel
theorem dX1_canDetach_1 : decode cX1_canDetach 1 = .ok (.invokestatic 82, 3) := by decide +kernel
theorem dX1_canDetach_4 : decode cX1_canDetach 4 = .ok (.ifCond .eq 27, 3) := by decide +kernel
theorem dX1_canDetach_7 : decode cX1_canDetach 7 = .ok (.aload_n 0, 1) := by decide +kernel
theorem dX1_canDetach_8 : decode cX1_canDetach 8 = .ok (.getfield 9, 3) := by decide +kernel
theorem dX1_canDetach_11 : decode cX1_canDetach 11 = .ok (.iload_n 1, 1) := by decide +kernel
theorem dX1_canDetach_12 : decode cX1_canDetach 12 = .ok (.iaload, 1) := by decide +kernel
theorem dX1_canDetach_13 : decode cX1_canDetach 13 = .ok (.ifCond .eq 18, 3) := by decide +kernel
theorem dX1_canDetach_16 : decode cX1_canDetach 16 = .ok (.aload_n 0, 1) := by decide +kernel
theorem dX1_canDetach_17 : decode cX1_canDetach 17 = .ok (.getfield 34, 3) := by decide +kernel
theorem dX1_canDetach_20 : decode cX1_canDetach 20 = .ok (.iload_n 1, 1) := by decide +kernel
theorem dX1_canDetach_21 : decode cX1_canDetach 21 = .ok (.invokestatic 68, 3) := by decide +kernel
theorem dX1_canDetach_24 : decode cX1_canDetach 24 = .ok (.ifCond .eq 7, 3) := by decide +kernel
theorem dX1_canDetach_27 : decode cX1_canDetach 27 = .ok (.iconst 1, 1) := by decide +kernel
theorem dX1_canDetach_28 : decode cX1_canDetach 28 = .ok (.goto 4, 3) := by decide +kernel
theorem dX1_canDetach_31 : decode cX1_canDetach 31 = .ok (.iconst 0, 1) := by decide +kernel
theorem dX1_canDetach_32 : decode cX1_canDetach 32 = .ok (.ireturn, 1) := by decide +kernel
theorem dX1_canAttach_0 : decode cX1_canAttach 0 = .ok (.iload_n 1, 1) := by decide +kernel
theorem dX1_canAttach_1 : decode cX1_canAttach 1 = .ok (.invokestatic 82, 3) := by decide +kernel
theorem dX1_canAttach_4 : decode cX1_canAttach 4 = .ok (.ifCond .eq 18, 3) := by decide +kernel
theorem dX1_canAttach_7 : decode cX1_canAttach 7 = .ok (.aload_n 0, 1) := by decide +kernel
theorem dX1_canAttach_8 : decode cX1_canAttach 8 = .ok (.getfield 34, 3) := by decide +kernel
theorem dX1_canAttach_11 : decode cX1_canAttach 11 = .ok (.iload_n 1, 1) := by decide +kernel
theorem dX1_canAttach_12 : decode cX1_canAttach 12 = .ok (.invokestatic 68, 3) := by decide +kernel
theorem dX1_canAttach_15 : decode cX1_canAttach 15 = .ok (.ifCond .ne 7, 3) := by decide +kernel
theorem dX1_canAttach_18 : decode cX1_canAttach 18 = .ok (.iconst 1, 1) := by decide +kernel
theorem dX1_canAttach_19 : decode cX1_canAttach 19 = .ok (.goto 4, 3) := by decide +kernel
theorem dX1_canAttach_22 : decode cX1_canAttach 22 = .ok (.iconst 0, 1) := by decide +kernel
theorem dX1_canAttach_23 : decode cX1_canAttach 23 = .ok (.ireturn, 1) := by decide +kernel
theorem dX1_canBreak_0 : decode cX1_canBreak 0 = .ok (.iload_n 1, 1) := by decide +kernel
theorem dX1_canBreak_1 : decode cX1_canBreak 1 = .ok (.invokestatic 82, 3) := by decide +kernel
theorem dX1_canBreak_4 : decode cX1_canBreak 4 = .ok (.ifCond .eq 16, 3) := by decide +kernel
theorem dX1_canBreak_7 : decode cX1_canBreak 7 = .ok (.aload_n 0, 1) := by decide +kernel
theorem dX1_canBreak_8 : decode cX1_canBreak 8 = .ok (.getfield 9, 3) := by decide +kernel
theorem dX1_canBreak_11 : decode cX1_canBreak 11 = .ok (.iload_n 1, 1) := by decide +kernel
theorem dX1_canBreak_12 : decode cX1_canBreak 12 = .ok (.iaload, 1) := by decide +kernel
theorem dX1_canBreak_13 : decode cX1_canBreak 13 = .ok (.ifCond .eq 7, 3) := by decide +kernel
theorem dX1_canBreak_16 : decode cX1_canBreak 16 = .ok (.iconst 1, 1) := by decide +kernel
theorem dX1_canBreak_17 : decode cX1_canBreak 17 = .ok (.goto 4, 3) := by decide +kernel
theorem dX1_canBreak_20 : decode cX1_canBreak 20 = .ok (.iconst 0, 1) := by decide +kernel
theorem dX1_canBreak_21 : decode cX1_canBreak 21 = .ok (.ireturn, 1) := by decide +kernel
theorem dX1_canAdvance_0 : decode cX1_canAdvance 0 = .ok (.iload_n 1, 1) := by decide +kernel
theorem dX1_canAdvance_1 : decode cX1_canAdvance 1 = .ok (.ldc 85, 2) := by decide +kernel
theorem dX1_canAdvance_3 : decode cX1_canAdvance 3 = .ok (.aload_n 0, 1) := by decide +kernel
theorem dX1_canAdvance_4 : decode cX1_canAdvance 4 = .ok (.getfield 37, 3) := by decide +kernel
theorem dX1_canAdvance_7 : decode cX1_canAdvance 7 = .ok (.isub, 1) := by decide +kernel
theorem dX1_canAdvance_8 : decode cX1_canAdvance 8 = .ok (.if_icmp .gt 7, 3) := by decide +kernel
theorem dX1_canAdvance_11 : decode cX1_canAdvance 11 = .ok (.iconst 1, 1) := by decide +kernel
theorem dX1_canAdvance_12 : decode cX1_canAdvance 12 = .ok (.goto 4, 3) := by decide +kernel
theorem dX1_canAdvance_15 : decode cX1_canAdvance 15 = .ok (.iconst 0, 1) := by decide +kernel
theorem dX1_canAdvance_16 : decode cX1_canAdvance 16 = .ok (.ireturn, 1) := by decide +kernel
theorem dX1_isAtRest_0 : decode cX1_isAtRest 0 = .ok (.iconst 0, 1) := by decide +kernel
theorem dX1_isAtRest_1 : decode cX1_isAtRest 1 = .ok (.istore_n 1, 1) := by decide +kernel
theorem dX1_isAtRest_2 : decode cX1_isAtRest 2 = .ok (.iload_n 1, 1) := by decide +kernel
theorem dX1_isAtRest_3 : decode cX1_isAtRest 3 = .ok (.bipush 6, 2) := by decide +kernel
theorem dX1_isAtRest_5 : decode cX1_isAtRest 5 = .ok (.if_icmp .ge 21, 3) := by decide +kernel
theorem dX1_isAtRest_8 : decode cX1_isAtRest 8 = .ok (.aload_n 0, 1) := by decide +kernel
theorem dX1_isAtRest_9 : decode cX1_isAtRest 9 = .ok (.getfield 9, 3) := by decide +kernel
theorem dX1_isAtRest_12 : decode cX1_isAtRest 12 = .ok (.iload_n 1, 1) := by decide +kernel
theorem dX1_isAtRest_13 : decode cX1_isAtRest 13 = .ok (.iaload, 1) := by decide +kernel
theorem dX1_isAtRest_14 : decode cX1_isAtRest 14 = .ok (.iconst 2, 1) := by decide +kernel
theorem dX1_isAtRest_15 : decode cX1_isAtRest 15 = .ok (.if_icmp .ne 5, 3) := by decide +kernel
theorem dX1_isAtRest_18 : decode cX1_isAtRest 18 = .ok (.iconst 0, 1) := by decide +kernel
theorem dX1_isAtRest_19 : decode cX1_isAtRest 19 = .ok (.ireturn, 1) := by decide +kernel
theorem dX1_isAtRest_20 : decode cX1_isAtRest 20 = .ok (.iinc 1 1, 3) := by decide +kernel
theorem dX1_isAtRest_23 : decode cX1_isAtRest 23 = .ok (.goto (-21), 3) := by decide +kernel
theorem dX1_isAtRest_26 : decode cX1_isAtRest 26 = .ok (.aload_n 0, 1) := by decide +kernel
theorem dX1_isAtRest_27 : decode cX1_isAtRest 27 = .ok (.getfield 46, 3) := by decide +kernel
theorem dX1_isAtRest_30 : decode cX1_isAtRest 30 = .ok (.iconst (-1), 1) := by decide +kernel
theorem dX1_isAtRest_31 : decode cX1_isAtRest 31 = .ok (.if_icmp .ne 7, 3) := by decide +kernel
theorem dX1_isAtRest_34 : decode cX1_isAtRest 34 = .ok (.iconst 1, 1) := by decide +kernel
theorem dX1_isAtRest_35 : decode cX1_isAtRest 35 = .ok (.goto 4, 3) := by decide +kernel
theorem dX1_isAtRest_38 : decode cX1_isAtRest 38 = .ok (.iconst 0, 1) := by decide +kernel
theorem dX1_isAtRest_39 : decode cX1_isAtRest 39 = .ok (.ireturn, 1) := by decide +kernel
theorem dX1_freshSet_0 : decode cX1_freshSet 0 = .ok (.iconst 0, 1) := by decide +kernel
theorem dX1_freshSet_1 : decode cX1_freshSet 1 = .ok (.istore_n 2, 1) := by decide +kernel
theorem dX1_freshSet_2 : decode cX1_freshSet 2 = .ok (.iconst 0, 1) := by decide +kernel
theorem dX1_freshSet_3 : decode cX1_freshSet 3 = .ok (.istore_n 3, 1) := by decide +kernel
theorem dX1_freshSet_4 : decode cX1_freshSet 4 = .ok (.iload_n 3, 1) := by decide +kernel
theorem dX1_freshSet_5 : decode cX1_freshSet 5 = .ok (.bipush 6, 2) := by decide +kernel
theorem dX1_freshSet_7 : decode cX1_freshSet 7 = .ok (.if_icmp .ge 24, 3) := by decide +kernel
theorem dX1_freshSet_10 : decode cX1_freshSet 10 = .ok (.iload_n 2, 1) := by decide +kernel
theorem dX1_freshSet_11 : decode cX1_freshSet 11 = .ok (.aload_n 0, 1) := by decide +kernel
theorem dX1_freshSet_12 : decode cX1_freshSet 12 = .ok (.getfield 21, 3) := by decide +kernel
theorem dX1_freshSet_15 : decode cX1_freshSet 15 = .ok (.iload_n 3, 1) := by decide +kernel
theorem dX1_freshSet_16 : decode cX1_freshSet 16 = .ok (.iaload, 1) := by decide +kernel
theorem dX1_freshSet_17 : decode cX1_freshSet 17 = .ok (.iload_n 1, 1) := by decide +kernel
theorem dX1_freshSet_18 : decode cX1_freshSet 18 = .ok (.ishr, 1) := by decide +kernel
theorem dX1_freshSet_19 : decode cX1_freshSet 19 = .ok (.iconst 1, 1) := by decide +kernel
theorem dX1_freshSet_20 : decode cX1_freshSet 20 = .ok (.iand, 1) := by decide +kernel
theorem dX1_freshSet_21 : decode cX1_freshSet 21 = .ok (.iload_n 3, 1) := by decide +kernel
theorem dX1_freshSet_22 : decode cX1_freshSet 22 = .ok (.ishl, 1) := by decide +kernel
theorem dX1_freshSet_23 : decode cX1_freshSet 23 = .ok (.ior, 1) := by decide +kernel
theorem dX1_freshSet_24 : decode cX1_freshSet 24 = .ok (.istore_n 2, 1) := by decide +kernel
theorem dX1_freshSet_25 : decode cX1_freshSet 25 = .ok (.iinc 3 1, 3) := by decide +kernel
theorem dX1_freshSet_28 : decode cX1_freshSet 28 = .ok (.goto (-24), 3) := by decide +kernel
theorem dX1_freshSet_31 : decode cX1_freshSet 31 = .ok (.iload_n 2, 1) := by decide +kernel
theorem dX1_freshSet_32 : decode cX1_freshSet 32 = .ok (.ireturn, 1) := by decide +kernel
theorem dX1_copySet_0 : decode cX1_copySet 0 = .ok (.aload_n 0, 1) := by decide +kernel
theorem dX1_copySet_1 : decode cX1_copySet 1 = .ok (.iload_n 1, 1) := by decide +kernel
theorem dX1_copySet_2 : decode cX1_copySet 2 = .ok (.invokevirtual 86, 3) := by decide +kernel
theorem dX1_copySet_5 : decode cX1_copySet 5 = .ok (.aload_n 0, 1) := by decide +kernel
theorem dX1_copySet_6 : decode cX1_copySet 6 = .ok (.getfield 34, 3) := by decide +kernel
theorem dX1_copySet_9 : decode cX1_copySet 9 = .ok (.iand, 1) := by decide +kernel
theorem dX1_copySet_10 : decode cX1_copySet 10 = .ok (.ireturn, 1) := by decide +kernel
theorem dX1_statusOf_0 : decode cX1_statusOf 0 = .ok (.aload_n 0, 1) := by decide +kernel
theorem dX1_statusOf_1 : decode cX1_statusOf 1 = .ok (.iload_n 1, 1) := by decide +kernel
theorem dX1_statusOf_2 : decode cX1_statusOf 2 = .ok (.invokevirtual 72, 3) := by decide +kernel
theorem dX1_statusOf_5 : decode cX1_statusOf 5 = .ok (.ifCond .ne 5, 3) := by decide +kernel
theorem dX1_statusOf_8 : decode cX1_statusOf 8 = .ok (.iconst (-1), 1) := by decide +kernel
theorem dX1_statusOf_9 : decode cX1_statusOf 9 = .ok (.ireturn, 1) := by decide +kernel
theorem dX1_statusOf_10 : decode cX1_statusOf 10 = .ok (.aload_n 0, 1) := by decide +kernel
theorem dX1_statusOf_11 : decode cX1_statusOf 11 = .ok (.iload_n 1, 1) := by decide +kernel
theorem dX1_statusOf_12 : decode cX1_statusOf 12 = .ok (.invokevirtual 75, 3) := by decide +kernel
theorem dX1_statusOf_15 : decode cX1_statusOf 15 = .ok (.invokestatic 89, 3) := by decide +kernel
theorem dX1_statusOf_18 : decode cX1_statusOf 18 = .ok (.istore_n 2, 1) := by decide +kernel
theorem dX1_statusOf_19 : decode cX1_statusOf 19 = .ok (.iload_n 2, 1) := by decide +kernel
theorem dX1_statusOf_20 : decode cX1_statusOf 20 = .ok (.ifCond .le 14, 3) := by decide +kernel
theorem dX1_statusOf_23 : decode cX1_statusOf 23 = .ok (.iload_n 2, 1) := by decide +kernel
theorem dX1_statusOf_24 : decode cX1_statusOf 24 = .ok (.iconst 1, 1) := by decide +kernel
theorem dX1_statusOf_25 : decode cX1_statusOf 25 = .ok (.if_icmp .ne 7, 3) := by decide +kernel
theorem dX1_statusOf_28 : decode cX1_statusOf 28 = .ok (.iconst 1, 1) := by decide +kernel
theorem dX1_statusOf_29 : decode cX1_statusOf 29 = .ok (.goto 4, 3) := by decide +kernel
theorem dX1_statusOf_32 : decode cX1_statusOf 32 = .ok (.iconst 2, 1) := by decide +kernel
theorem dX1_statusOf_33 : decode cX1_statusOf 33 = .ok (.ireturn, 1) := by decide +kernel
theorem dX1_statusOf_34 : decode cX1_statusOf 34 = .ok (.aload_n 0, 1) := by decide +kernel
theorem dX1_statusOf_35 : decode cX1_statusOf 35 = .ok (.iload_n 1, 1) := by decide +kernel
theorem dX1_statusOf_36 : decode cX1_statusOf 36 = .ok (.invokevirtual 86, 3) := by decide +kernel
theorem dX1_statusOf_39 : decode cX1_statusOf 39 = .ok (.ifCond .eq 7, 3) := by decide +kernel
theorem dX1_statusOf_42 : decode cX1_statusOf 42 = .ok (.iconst 0, 1) := by decide +kernel
theorem dX1_statusOf_43 : decode cX1_statusOf 43 = .ok (.goto 5, 3) := by decide +kernel
theorem dX1_statusOf_46 : decode cX1_statusOf 46 = .ok (.bipush (-2), 2) := by decide +kernel
theorem dX1_statusOf_48 : decode cX1_statusOf 48 = .ok (.ireturn, 1) := by decide +kernel
theorem dX1_pagesWithStatus_0 : decode cX1_pagesWithStatus 0 = .ok (.iconst 0, 1) := by decide +kernel
theorem dX1_pagesWithStatus_1 : decode cX1_pagesWithStatus 1 = .ok (.istore_n 2, 1) := by decide +kernel
theorem dX1_pagesWithStatus_2 : decode cX1_pagesWithStatus 2 = .ok (.iconst 0, 1) := by decide +kernel
theorem dX1_pagesWithStatus_3 : decode cX1_pagesWithStatus 3 = .ok (.istore_n 3, 1) := by decide +kernel
theorem dX1_pagesWithStatus_4 : decode cX1_pagesWithStatus 4 = .ok (.iload_n 3, 1) := by decide +kernel
theorem dX1_pagesWithStatus_5 : decode cX1_pagesWithStatus 5 = .ok (.bipush 30, 2) := by decide +kernel
theorem dX1_pagesWithStatus_7 : decode cX1_pagesWithStatus 7 = .ok (.if_icmp .ge 21, 3) := by decide +kernel
theorem dX1_pagesWithStatus_10 : decode cX1_pagesWithStatus 10 = .ok (.aload_n 0, 1) := by decide +kernel
theorem dX1_pagesWithStatus_11 : decode cX1_pagesWithStatus 11 = .ok (.iload_n 3, 1) := by decide +kernel
theorem dX1_pagesWithStatus_12 : decode cX1_pagesWithStatus 12 = .ok (.invokevirtual 94, 3) := by decide +kernel
theorem dX1_pagesWithStatus_15 : decode cX1_pagesWithStatus 15 = .ok (.iload_n 1, 1) := by decide +kernel
theorem dX1_pagesWithStatus_16 : decode cX1_pagesWithStatus 16 = .ok (.if_icmp .ne 6, 3) := by decide +kernel
theorem dX1_pagesWithStatus_19 : decode cX1_pagesWithStatus 19 = .ok (.iinc 2 1, 3) := by decide +kernel
theorem dX1_pagesWithStatus_22 : decode cX1_pagesWithStatus 22 = .ok (.iinc 3 1, 3) := by decide +kernel
theorem dX1_pagesWithStatus_25 : decode cX1_pagesWithStatus 25 = .ok (.goto (-21), 3) := by decide +kernel
theorem dX1_pagesWithStatus_28 : decode cX1_pagesWithStatus 28 = .ok (.iload_n 2, 1) := by decide +kernel
theorem dX1_pagesWithStatus_29 : decode cX1_pagesWithStatus 29 = .ok (.ireturn, 1) := by decide +kernel
theorem dX1_pagesOnlyOn_0 : decode cX1_pagesOnlyOn 0 = .ok (.iconst 0, 1) := by decide +kernel
theorem dX1_pagesOnlyOn_1 : decode cX1_pagesOnlyOn 1 = .ok (.istore_n 2, 1) := by decide +kernel
theorem dX1_pagesOnlyOn_2 : decode cX1_pagesOnlyOn 2 = .ok (.iconst 0, 1) := by decide +kernel
theorem dX1_pagesOnlyOn_3 : decode cX1_pagesOnlyOn 3 = .ok (.istore_n 3, 1) := by decide +kernel
theorem dX1_pagesOnlyOn_4 : decode cX1_pagesOnlyOn 4 = .ok (.iconst 0, 1) := by decide +kernel
theorem dX1_pagesOnlyOn_5 : decode cX1_pagesOnlyOn 5 = .ok (.istore 4, 2) := by decide +kernel
theorem dX1_pagesOnlyOn_7 : decode cX1_pagesOnlyOn 7 = .ok (.iload 4, 2) := by decide +kernel
theorem dX1_pagesOnlyOn_9 : decode cX1_pagesOnlyOn 9 = .ok (.bipush 6, 2) := by decide +kernel
theorem dX1_pagesOnlyOn_11 : decode cX1_pagesOnlyOn 11 = .ok (.if_icmp .ge 41, 3) := by decide +kernel
theorem dX1_pagesOnlyOn_14 : decode cX1_pagesOnlyOn 14 = .ok (.iload_n 1, 1) := by decide +kernel
theorem dX1_pagesOnlyOn_15 : decode cX1_pagesOnlyOn 15 = .ok (.iload 4, 2) := by decide +kernel
theorem dX1_pagesOnlyOn_17 : decode cX1_pagesOnlyOn 17 = .ok (.invokestatic 68, 3) := by decide +kernel
theorem dX1_pagesOnlyOn_20 : decode cX1_pagesOnlyOn 20 = .ok (.ifCond .eq 16, 3) := by decide +kernel
theorem dX1_pagesOnlyOn_23 : decode cX1_pagesOnlyOn 23 = .ok (.iload_n 2, 1) := by decide +kernel
theorem dX1_pagesOnlyOn_24 : decode cX1_pagesOnlyOn 24 = .ok (.aload_n 0, 1) := by decide +kernel
theorem dX1_pagesOnlyOn_25 : decode cX1_pagesOnlyOn 25 = .ok (.getfield 21, 3) := by decide +kernel
theorem dX1_pagesOnlyOn_28 : decode cX1_pagesOnlyOn 28 = .ok (.iload 4, 2) := by decide +kernel
theorem dX1_pagesOnlyOn_30 : decode cX1_pagesOnlyOn 30 = .ok (.iaload, 1) := by decide +kernel
theorem dX1_pagesOnlyOn_31 : decode cX1_pagesOnlyOn 31 = .ok (.ior, 1) := by decide +kernel
theorem dX1_pagesOnlyOn_32 : decode cX1_pagesOnlyOn 32 = .ok (.istore_n 2, 1) := by decide +kernel
theorem dX1_pagesOnlyOn_33 : decode cX1_pagesOnlyOn 33 = .ok (.goto 13, 3) := by decide +kernel
theorem dX1_pagesOnlyOn_36 : decode cX1_pagesOnlyOn 36 = .ok (.iload_n 3, 1) := by decide +kernel
theorem dX1_pagesOnlyOn_37 : decode cX1_pagesOnlyOn 37 = .ok (.aload_n 0, 1) := by decide +kernel
theorem dX1_pagesOnlyOn_38 : decode cX1_pagesOnlyOn 38 = .ok (.getfield 21, 3) := by decide +kernel
theorem dX1_pagesOnlyOn_41 : decode cX1_pagesOnlyOn 41 = .ok (.iload 4, 2) := by decide +kernel
theorem dX1_pagesOnlyOn_43 : decode cX1_pagesOnlyOn 43 = .ok (.iaload, 1) := by decide +kernel
theorem dX1_pagesOnlyOn_44 : decode cX1_pagesOnlyOn 44 = .ok (.ior, 1) := by decide +kernel
theorem dX1_pagesOnlyOn_45 : decode cX1_pagesOnlyOn 45 = .ok (.istore_n 3, 1) := by decide +kernel
theorem dX1_pagesOnlyOn_46 : decode cX1_pagesOnlyOn 46 = .ok (.iinc 4 1, 3) := by decide +kernel
theorem dX1_pagesOnlyOn_49 : decode cX1_pagesOnlyOn 49 = .ok (.goto (-42), 3) := by decide +kernel
theorem dX1_pagesOnlyOn_52 : decode cX1_pagesOnlyOn 52 = .ok (.iload_n 2, 1) := by decide +kernel
theorem dX1_pagesOnlyOn_53 : decode cX1_pagesOnlyOn 53 = .ok (.iload_n 3, 1) := by decide +kernel
theorem dX1_pagesOnlyOn_54 : decode cX1_pagesOnlyOn 54 = .ok (.iconst (-1), 1) := by decide +kernel
theorem dX1_pagesOnlyOn_55 : decode cX1_pagesOnlyOn 55 = .ok (.ixor, 1) := by decide +kernel
theorem dX1_pagesOnlyOn_56 : decode cX1_pagesOnlyOn 56 = .ok (.iand, 1) := by decide +kernel
theorem dX1_pagesOnlyOn_57 : decode cX1_pagesOnlyOn 57 = .ok (.invokestatic 89, 3) := by decide +kernel
theorem dX1_pagesOnlyOn_60 : decode cX1_pagesOnlyOn 60 = .ok (.ireturn, 1) := by decide +kernel
theorem dX1_heldOn_0 : decode cX1_heldOn 0 = .ok (.iload_n 1, 1) := by decide +kernel
theorem dX1_heldOn_1 : decode cX1_heldOn 1 = .ok (.invokestatic 82, 3) := by decide +kernel
theorem dX1_heldOn_4 : decode cX1_heldOn 4 = .ok (.ifCond .eq 22, 3) := by decide +kernel
theorem dX1_heldOn_7 : decode cX1_heldOn 7 = .ok (.aload_n 0, 1) := by decide +kernel
theorem dX1_heldOn_8 : decode cX1_heldOn 8 = .ok (.getfield 21, 3) := by decide +kernel
theorem dX1_heldOn_11 : decode cX1_heldOn 11 = .ok (.iload_n 1, 1) := by decide +kernel
theorem dX1_heldOn_12 : decode cX1_heldOn 12 = .ok (.iaload, 1) := by decide +kernel
theorem dX1_heldOn_13 : decode cX1_heldOn 13 = .ok (.aload_n 0, 1) := by decide +kernel
theorem dX1_heldOn_14 : decode cX1_heldOn 14 = .ok (.getfield 24, 3) := by decide +kernel
theorem dX1_heldOn_17 : decode cX1_heldOn 17 = .ok (.iload_n 1, 1) := by decide +kernel
theorem dX1_heldOn_18 : decode cX1_heldOn 18 = .ok (.iaload, 1) := by decide +kernel
theorem dX1_heldOn_19 : decode cX1_heldOn 19 = .ok (.ior, 1) := by decide +kernel
theorem dX1_heldOn_20 : decode cX1_heldOn 20 = .ok (.invokestatic 89, 3) := by decide +kernel
theorem dX1_heldOn_23 : decode cX1_heldOn 23 = .ok (.goto 4, 3) := by decide +kernel
theorem dX1_heldOn_26 : decode cX1_heldOn 26 = .ok (.iconst 0, 1) := by decide +kernel
theorem dX1_heldOn_27 : decode cX1_heldOn 27 = .ok (.ireturn, 1) := by decide +kernel
theorem dX1_usedOn_0 : decode cX1_usedOn 0 = .ok (.aload_n 0, 1) := by decide +kernel
theorem dX1_usedOn_1 : decode cX1_usedOn 1 = .ok (.getfield 52, 3) := by decide +kernel
theorem dX1_usedOn_4 : decode cX1_usedOn 4 = .ok (.iload_n 1, 1) := by decide +kernel
theorem dX1_usedOn_5 : decode cX1_usedOn 5 = .ok (.if_icmp .ne 7, 3) := by decide +kernel
theorem dX1_usedOn_8 : decode cX1_usedOn 8 = .ok (.iconst 1, 1) := by decide +kernel
theorem dX1_usedOn_9 : decode cX1_usedOn 9 = .ok (.goto 4, 3) := by decide +kernel
theorem dX1_usedOn_12 : decode cX1_usedOn 12 = .ok (.iconst 0, 1) := by decide +kernel
theorem dX1_usedOn_13 : decode cX1_usedOn 13 = .ok (.istore_n 2, 1) := by decide +kernel
theorem dX1_usedOn_14 : decode cX1_usedOn 14 = .ok (.iload_n 1, 1) := by decide +kernel
theorem dX1_usedOn_15 : decode cX1_usedOn 15 = .ok (.invokestatic 82, 3) := by decide +kernel
theorem dX1_usedOn_18 : decode cX1_usedOn 18 = .ok (.ifCond .eq 24, 3) := by decide +kernel
theorem dX1_usedOn_21 : decode cX1_usedOn 21 = .ok (.aload_n 0, 1) := by decide +kernel
theorem dX1_usedOn_22 : decode cX1_usedOn 22 = .ok (.getfield 21, 3) := by decide +kernel
theorem dX1_usedOn_25 : decode cX1_usedOn 25 = .ok (.iload_n 1, 1) := by decide +kernel
theorem dX1_usedOn_26 : decode cX1_usedOn 26 = .ok (.iaload, 1) := by decide +kernel
theorem dX1_usedOn_27 : decode cX1_usedOn 27 = .ok (.aload_n 0, 1) := by decide +kernel
theorem dX1_usedOn_28 : decode cX1_usedOn 28 = .ok (.getfield 24, 3) := by decide +kernel
theorem dX1_usedOn_31 : decode cX1_usedOn 31 = .ok (.iload_n 1, 1) := by decide +kernel
theorem dX1_usedOn_32 : decode cX1_usedOn 32 = .ok (.iaload, 1) := by decide +kernel
theorem dX1_usedOn_33 : decode cX1_usedOn 33 = .ok (.ior, 1) := by decide +kernel
theorem dX1_usedOn_34 : decode cX1_usedOn 34 = .ok (.invokestatic 89, 3) := by decide +kernel
theorem dX1_usedOn_37 : decode cX1_usedOn 37 = .ok (.iload_n 2, 1) := by decide +kernel
theorem dX1_usedOn_38 : decode cX1_usedOn 38 = .ok (.iadd, 1) := by decide +kernel
theorem dX1_usedOn_39 : decode cX1_usedOn 39 = .ok (.goto 4, 3) := by decide +kernel
theorem dX1_usedOn_42 : decode cX1_usedOn 42 = .ok (.iconst 0, 1) := by decide +kernel
theorem dX1_usedOn_43 : decode cX1_usedOn 43 = .ok (.ireturn, 1) := by decide +kernel
theorem dX1_roomOn_0 : decode cX1_roomOn 0 = .ok (.aload_n 0, 1) := by decide +kernel
theorem dX1_roomOn_1 : decode cX1_roomOn 1 = .ok (.iload_n 1, 1) := by decide +kernel
theorem dX1_roomOn_2 : decode cX1_roomOn 2 = .ok (.invokevirtual 97, 3) := by decide +kernel
theorem dX1_roomOn_5 : decode cX1_roomOn 5 = .ok (.ifCond .eq 18, 3) := by decide +kernel
theorem dX1_roomOn_8 : decode cX1_roomOn 8 = .ok (.aload_n 0, 1) := by decide +kernel
theorem dX1_roomOn_9 : decode cX1_roomOn 9 = .ok (.getfield 15, 3) := by decide +kernel
theorem dX1_roomOn_12 : decode cX1_roomOn 12 = .ok (.iload_n 1, 1) := by decide +kernel
theorem dX1_roomOn_13 : decode cX1_roomOn 13 = .ok (.iaload, 1) := by decide +kernel
theorem dX1_roomOn_14 : decode cX1_roomOn 14 = .ok (.aload_n 0, 1) := by decide +kernel
theorem dX1_roomOn_15 : decode cX1_roomOn 15 = .ok (.iload_n 1, 1) := by decide +kernel
theorem dX1_roomOn_16 : decode cX1_roomOn 16 = .ok (.invokevirtual 100, 3) := by decide +kernel
theorem dX1_roomOn_19 : decode cX1_roomOn 19 = .ok (.isub, 1) := by decide +kernel
theorem dX1_roomOn_20 : decode cX1_roomOn 20 = .ok (.goto 4, 3) := by decide +kernel
theorem dX1_roomOn_23 : decode cX1_roomOn 23 = .ok (.iconst 0, 1) := by decide +kernel
theorem dX1_roomOn_24 : decode cX1_roomOn 24 = .ok (.ireturn, 1) := by decide +kernel
theorem dX1_bestHost_0 : decode cX1_bestHost 0 = .ok (.iconst (-1), 1) := by decide +kernel
theorem dX1_bestHost_1 : decode cX1_bestHost 1 = .ok (.istore_n 2, 1) := by decide +kernel
theorem dX1_bestHost_2 : decode cX1_bestHost 2 = .ok (.iconst 0, 1) := by decide +kernel
theorem dX1_bestHost_3 : decode cX1_bestHost 3 = .ok (.istore_n 3, 1) := by decide +kernel
theorem dX1_bestHost_4 : decode cX1_bestHost 4 = .ok (.iconst 0, 1) := by decide +kernel
theorem dX1_bestHost_5 : decode cX1_bestHost 5 = .ok (.istore 4, 2) := by decide +kernel
theorem dX1_bestHost_7 : decode cX1_bestHost 7 = .ok (.iload 4, 2) := by decide +kernel
theorem dX1_bestHost_9 : decode cX1_bestHost 9 = .ok (.bipush 6, 2) := by decide +kernel
theorem dX1_bestHost_11 : decode cX1_bestHost 11 = .ok (.if_icmp .ge 51, 3) := by decide +kernel
theorem dX1_bestHost_14 : decode cX1_bestHost 14 = .ok (.aload_n 0, 1) := by decide +kernel
theorem dX1_bestHost_15 : decode cX1_bestHost 15 = .ok (.iload 4, 2) := by decide +kernel
theorem dX1_bestHost_17 : decode cX1_bestHost 17 = .ok (.invokevirtual 103, 3) := by decide +kernel
theorem dX1_bestHost_20 : decode cX1_bestHost 20 = .ok (.istore 5, 2) := by decide +kernel
theorem dX1_bestHost_22 : decode cX1_bestHost 22 = .ok (.iload 5, 2) := by decide +kernel
theorem dX1_bestHost_24 : decode cX1_bestHost 24 = .ok (.iload_n 3, 1) := by decide +kernel
theorem dX1_bestHost_25 : decode cX1_bestHost 25 = .ok (.if_icmp .le 31, 3) := by decide +kernel
theorem dX1_bestHost_28 : decode cX1_bestHost 28 = .ok (.aload_n 0, 1) := by decide +kernel
theorem dX1_bestHost_29 : decode cX1_bestHost 29 = .ok (.getfield 21, 3) := by decide +kernel
theorem dX1_bestHost_32 : decode cX1_bestHost 32 = .ok (.iload 4, 2) := by decide +kernel
theorem dX1_bestHost_34 : decode cX1_bestHost 34 = .ok (.iaload, 1) := by decide +kernel
theorem dX1_bestHost_35 : decode cX1_bestHost 35 = .ok (.aload_n 0, 1) := by decide +kernel
theorem dX1_bestHost_36 : decode cX1_bestHost 36 = .ok (.getfield 24, 3) := by decide +kernel
theorem dX1_bestHost_39 : decode cX1_bestHost 39 = .ok (.iload 4, 2) := by decide +kernel
theorem dX1_bestHost_41 : decode cX1_bestHost 41 = .ok (.iaload, 1) := by decide +kernel
theorem dX1_bestHost_42 : decode cX1_bestHost 42 = .ok (.ior, 1) := by decide +kernel
theorem dX1_bestHost_43 : decode cX1_bestHost 43 = .ok (.iload_n 1, 1) := by decide +kernel
theorem dX1_bestHost_44 : decode cX1_bestHost 44 = .ok (.invokestatic 68, 3) := by decide +kernel
theorem dX1_bestHost_47 : decode cX1_bestHost 47 = .ok (.ifCond .ne 9, 3) := by decide +kernel
theorem dX1_bestHost_50 : decode cX1_bestHost 50 = .ok (.iload 5, 2) := by decide +kernel
theorem dX1_bestHost_52 : decode cX1_bestHost 52 = .ok (.istore_n 3, 1) := by decide +kernel
theorem dX1_bestHost_53 : decode cX1_bestHost 53 = .ok (.iload 4, 2) := by decide +kernel
theorem dX1_bestHost_55 : decode cX1_bestHost 55 = .ok (.istore_n 2, 1) := by decide +kernel
theorem dX1_bestHost_56 : decode cX1_bestHost 56 = .ok (.iinc 4 1, 3) := by decide +kernel
theorem dX1_bestHost_59 : decode cX1_bestHost 59 = .ok (.goto (-52), 3) := by decide +kernel
theorem dX1_bestHost_62 : decode cX1_bestHost 62 = .ok (.iload_n 2, 1) := by decide +kernel
theorem dX1_bestHost_63 : decode cX1_bestHost 63 = .ok (.ireturn, 1) := by decide +kernel
theorem dX1_nextEvent_0 : decode cX1_nextEvent 0 = .ok (.iload_n 1, 1) := by decide +kernel
theorem dX1_nextEvent_1 : decode cX1_nextEvent 1 = .ok (.istore_n 2, 1) := by decide +kernel
theorem dX1_nextEvent_2 : decode cX1_nextEvent 2 = .ok (.aload_n 0, 1) := by decide +kernel
theorem dX1_nextEvent_3 : decode cX1_nextEvent 3 = .ok (.getfield 46, 3) := by decide +kernel
theorem dX1_nextEvent_6 : decode cX1_nextEvent 6 = .ok (.iconst (-1), 1) := by decide +kernel
theorem dX1_nextEvent_7 : decode cX1_nextEvent 7 = .ok (.if_icmp .eq 16, 3) := by decide +kernel
theorem dX1_nextEvent_10 : decode cX1_nextEvent 10 = .ok (.aload_n 0, 1) := by decide +kernel
theorem dX1_nextEvent_11 : decode cX1_nextEvent 11 = .ok (.getfield 55, 3) := by decide +kernel
theorem dX1_nextEvent_14 : decode cX1_nextEvent 14 = .ok (.iload_n 2, 1) := by decide +kernel
theorem dX1_nextEvent_15 : decode cX1_nextEvent 15 = .ok (.if_icmp .ge 8, 3) := by decide +kernel
theorem dX1_nextEvent_18 : decode cX1_nextEvent 18 = .ok (.aload_n 0, 1) := by decide +kernel
theorem dX1_nextEvent_19 : decode cX1_nextEvent 19 = .ok (.getfield 55, 3) := by decide +kernel
theorem dX1_nextEvent_22 : decode cX1_nextEvent 22 = .ok (.istore_n 2, 1) := by decide +kernel
theorem dX1_nextEvent_23 : decode cX1_nextEvent 23 = .ok (.iconst 0, 1) := by decide +kernel
theorem dX1_nextEvent_24 : decode cX1_nextEvent 24 = .ok (.istore_n 3, 1) := by decide +kernel
theorem dX1_nextEvent_25 : decode cX1_nextEvent 25 = .ok (.iload_n 3, 1) := by decide +kernel
theorem dX1_nextEvent_26 : decode cX1_nextEvent 26 = .ok (.bipush 6, 2) := by decide +kernel
theorem dX1_nextEvent_28 : decode cX1_nextEvent 28 = .ok (.if_icmp .ge 36, 3) := by decide +kernel
theorem dX1_nextEvent_31 : decode cX1_nextEvent 31 = .ok (.aload_n 0, 1) := by decide +kernel
theorem dX1_nextEvent_32 : decode cX1_nextEvent 32 = .ok (.getfield 9, 3) := by decide +kernel
theorem dX1_nextEvent_35 : decode cX1_nextEvent 35 = .ok (.iload_n 3, 1) := by decide +kernel
theorem dX1_nextEvent_36 : decode cX1_nextEvent 36 = .ok (.iaload, 1) := by decide +kernel
theorem dX1_nextEvent_37 : decode cX1_nextEvent 37 = .ok (.iconst 2, 1) := by decide +kernel
theorem dX1_nextEvent_38 : decode cX1_nextEvent 38 = .ok (.if_icmp .ne 20, 3) := by decide +kernel
theorem dX1_nextEvent_41 : decode cX1_nextEvent 41 = .ok (.aload_n 0, 1) := by decide +kernel
theorem dX1_nextEvent_42 : decode cX1_nextEvent 42 = .ok (.getfield 18, 3) := by decide +kernel
theorem dX1_nextEvent_45 : decode cX1_nextEvent 45 = .ok (.iload_n 3, 1) := by decide +kernel
theorem dX1_nextEvent_46 : decode cX1_nextEvent 46 = .ok (.iaload, 1) := by decide +kernel
theorem dX1_nextEvent_47 : decode cX1_nextEvent 47 = .ok (.iload_n 2, 1) := by decide +kernel
theorem dX1_nextEvent_48 : decode cX1_nextEvent 48 = .ok (.if_icmp .ge 10, 3) := by decide +kernel
theorem dX1_nextEvent_51 : decode cX1_nextEvent 51 = .ok (.aload_n 0, 1) := by decide +kernel
theorem dX1_nextEvent_52 : decode cX1_nextEvent 52 = .ok (.getfield 18, 3) := by decide +kernel
theorem dX1_nextEvent_55 : decode cX1_nextEvent 55 = .ok (.iload_n 3, 1) := by decide +kernel
theorem dX1_nextEvent_56 : decode cX1_nextEvent 56 = .ok (.iaload, 1) := by decide +kernel
theorem dX1_nextEvent_57 : decode cX1_nextEvent 57 = .ok (.istore_n 2, 1) := by decide +kernel
theorem dX1_nextEvent_58 : decode cX1_nextEvent 58 = .ok (.iinc 3 1, 3) := by decide +kernel
theorem dX1_nextEvent_61 : decode cX1_nextEvent 61 = .ok (.goto (-36), 3) := by decide +kernel
theorem dX1_nextEvent_64 : decode cX1_nextEvent 64 = .ok (.iload_n 2, 1) := by decide +kernel
theorem dX1_nextEvent_65 : decode cX1_nextEvent 65 = .ok (.ireturn, 1) := by decide +kernel
theorem dX1_addPage_0 : decode cX1_addPage 0 = .ok (.aload_n 0, 1) := by decide +kernel
theorem dX1_addPage_1 : decode cX1_addPage 1 = .ok (.dup, 1) := by decide +kernel
theorem dX1_addPage_2 : decode cX1_addPage 2 = .ok (.getfield 30, 3) := by decide +kernel
theorem dX1_addPage_5 : decode cX1_addPage 5 = .ok (.iconst 1, 1) := by decide +kernel
theorem dX1_addPage_6 : decode cX1_addPage 6 = .ok (.iload_n 1, 1) := by decide +kernel
theorem dX1_addPage_7 : decode cX1_addPage 7 = .ok (.ishl, 1) := by decide +kernel
theorem dX1_addPage_8 : decode cX1_addPage 8 = .ok (.ior, 1) := by decide +kernel
theorem dX1_addPage_9 : decode cX1_addPage 9 = .ok (.putfield 30, 3) := by decide +kernel
theorem dX1_addPage_12 : decode cX1_addPage 12 = .ok (.aload_n 0, 1) := by decide +kernel
theorem dX1_addPage_13 : decode cX1_addPage 13 = .ok (.getfield 27, 3) := by decide +kernel
theorem dX1_addPage_16 : decode cX1_addPage 16 = .ok (.iload_n 1, 1) := by decide +kernel
theorem dX1_addPage_17 : decode cX1_addPage 17 = .ok (.iload_n 2, 1) := by decide +kernel
theorem dX1_addPage_18 : decode cX1_addPage 18 = .ok (.iastore, 1) := by decide +kernel
theorem dX1_addPage_19 : decode cX1_addPage 19 = .ok (.aload_n 0, 1) := by decide +kernel
theorem dX1_addPage_20 : decode cX1_addPage 20 = .ok (.iload_n 1, 1) := by decide +kernel
theorem dX1_addPage_21 : decode cX1_addPage 21 = .ok (.invokevirtual 106, 3) := by decide +kernel
theorem dX1_addPage_24 : decode cX1_addPage 24 = .ok (.aload_n 0, 1) := by decide +kernel
theorem dX1_addPage_25 : decode cX1_addPage 25 = .ok (.iload_n 1, 1) := by decide +kernel
theorem dX1_addPage_26 : decode cX1_addPage 26 = .ok (.invokevirtual 106, 3) := by decide +kernel
theorem dX1_addPage_29 : decode cX1_addPage 29 = .ok (.aload_n 0, 1) := by decide +kernel
theorem dX1_addPage_30 : decode cX1_addPage 30 = .ok (.iload_n 1, 1) := by decide +kernel
theorem dX1_addPage_31 : decode cX1_addPage 31 = .ok (.invokevirtual 75, 3) := by decide +kernel
theorem dX1_addPage_34 : decode cX1_addPage 34 = .ok (.invokestatic 89, 3) := by decide +kernel
theorem dX1_addPage_37 : decode cX1_addPage 37 = .ok (.istore_n 3, 1) := by decide +kernel
theorem dX1_addPage_38 : decode cX1_addPage 38 = .ok (.aload_n 0, 1) := by decide +kernel
theorem dX1_addPage_39 : decode cX1_addPage 39 = .ok (.invokevirtual 110, 3) := by decide +kernel
theorem dX1_addPage_42 : decode cX1_addPage 42 = .ok (.iload_n 3, 1) := by decide +kernel
theorem dX1_addPage_43 : decode cX1_addPage 43 = .ok (.ireturn, 1) := by decide +kernel
theorem dX1_placeReplica_0 : decode cX1_placeReplica 0 = .ok (.aload_n 0, 1) := by decide +kernel
theorem dX1_placeReplica_1 : decode cX1_placeReplica 1 = .ok (.iload_n 1, 1) := by decide +kernel
theorem dX1_placeReplica_2 : decode cX1_placeReplica 2 = .ok (.invokevirtual 79, 3) := by decide +kernel
theorem dX1_placeReplica_5 : decode cX1_placeReplica 5 = .ok (.istore_n 2, 1) := by decide +kernel
theorem dX1_placeReplica_6 : decode cX1_placeReplica 6 = .ok (.iload_n 2, 1) := by decide +kernel
theorem dX1_placeReplica_7 : decode cX1_placeReplica 7 = .ok (.invokestatic 82, 3) := by decide +kernel
theorem dX1_placeReplica_10 : decode cX1_placeReplica 10 = .ok (.ifCond .eq 15, 3) := by decide +kernel
theorem dX1_placeReplica_13 : decode cX1_placeReplica 13 = .ok (.aload_n 0, 1) := by decide +kernel
theorem dX1_placeReplica_14 : decode cX1_placeReplica 14 = .ok (.getfield 21, 3) := by decide +kernel
theorem dX1_placeReplica_17 : decode cX1_placeReplica 17 = .ok (.iload_n 2, 1) := by decide +kernel
theorem dX1_placeReplica_18 : decode cX1_placeReplica 18 = .ok (.dup2, 1) := by decide +kernel
theorem dX1_placeReplica_19 : decode cX1_placeReplica 19 = .ok (.iaload, 1) := by decide +kernel
theorem dX1_placeReplica_20 : decode cX1_placeReplica 20 = .ok (.iconst 1, 1) := by decide +kernel
theorem dX1_placeReplica_21 : decode cX1_placeReplica 21 = .ok (.iload_n 1, 1) := by decide +kernel
theorem dX1_placeReplica_22 : decode cX1_placeReplica 22 = .ok (.ishl, 1) := by decide +kernel
theorem dX1_placeReplica_23 : decode cX1_placeReplica 23 = .ok (.ior, 1) := by decide +kernel
theorem dX1_placeReplica_24 : decode cX1_placeReplica 24 = .ok (.iastore, 1) := by decide +kernel
theorem dX1_placeReplica_25 : decode cX1_placeReplica 25 = .ok (.return_, 1) := by decide +kernel
theorem dX1_overwritePage_0 : decode cX1_overwritePage 0 = .ok (.aload_n 0, 1) := by decide +kernel
theorem dX1_overwritePage_1 : decode cX1_overwritePage 1 = .ok (.getfield 27, 3) := by decide +kernel
theorem dX1_overwritePage_4 : decode cX1_overwritePage 4 = .ok (.iload_n 1, 1) := by decide +kernel
theorem dX1_overwritePage_5 : decode cX1_overwritePage 5 = .ok (.iload_n 2, 1) := by decide +kernel
theorem dX1_overwritePage_6 : decode cX1_overwritePage 6 = .ok (.iastore, 1) := by decide +kernel
theorem dX1_overwritePage_7 : decode cX1_overwritePage 7 = .ok (.aload_n 0, 1) := by decide +kernel
theorem dX1_overwritePage_8 : decode cX1_overwritePage 8 = .ok (.iload_n 1, 1) := by decide +kernel
theorem dX1_overwritePage_9 : decode cX1_overwritePage 9 = .ok (.invokevirtual 113, 3) := by decide +kernel
theorem dX1_overwritePage_12 : decode cX1_overwritePage 12 = .ok (.aload_n 0, 1) := by decide +kernel
theorem dX1_overwritePage_13 : decode cX1_overwritePage 13 = .ok (.invokevirtual 110, 3) := by decide +kernel
theorem dX1_overwritePage_16 : decode cX1_overwritePage 16 = .ok (.aload_n 0, 1) := by decide +kernel
theorem dX1_overwritePage_17 : decode cX1_overwritePage 17 = .ok (.iload_n 1, 1) := by decide +kernel
theorem dX1_overwritePage_18 : decode cX1_overwritePage 18 = .ok (.invokevirtual 75, 3) := by decide +kernel
theorem dX1_overwritePage_21 : decode cX1_overwritePage 21 = .ok (.invokestatic 89, 3) := by decide +kernel
theorem dX1_overwritePage_24 : decode cX1_overwritePage 24 = .ok (.ireturn, 1) := by decide +kernel
theorem dX1_dropPage_0 : decode cX1_dropPage 0 = .ok (.aload_n 0, 1) := by decide +kernel
theorem dX1_dropPage_1 : decode cX1_dropPage 1 = .ok (.iload_n 1, 1) := by decide +kernel
theorem dX1_dropPage_2 : decode cX1_dropPage 2 = .ok (.invokevirtual 75, 3) := by decide +kernel
theorem dX1_dropPage_5 : decode cX1_dropPage 5 = .ok (.invokestatic 89, 3) := by decide +kernel
theorem dX1_dropPage_8 : decode cX1_dropPage 8 = .ok (.istore_n 2, 1) := by decide +kernel
theorem dX1_dropPage_9 : decode cX1_dropPage 9 = .ok (.aload_n 0, 1) := by decide +kernel
theorem dX1_dropPage_10 : decode cX1_dropPage 10 = .ok (.iload_n 1, 1) := by decide +kernel
theorem dX1_dropPage_11 : decode cX1_dropPage 11 = .ok (.invokevirtual 113, 3) := by decide +kernel
theorem dX1_dropPage_14 : decode cX1_dropPage 14 = .ok (.iconst 0, 1) := by decide +kernel
theorem dX1_dropPage_15 : decode cX1_dropPage 15 = .ok (.istore_n 3, 1) := by decide +kernel
theorem dX1_dropPage_16 : decode cX1_dropPage 16 = .ok (.iload_n 3, 1) := by decide +kernel
theorem dX1_dropPage_17 : decode cX1_dropPage 17 = .ok (.bipush 6, 2) := by decide +kernel
theorem dX1_dropPage_19 : decode cX1_dropPage 19 = .ok (.if_icmp .ge 23, 3) := by decide +kernel
theorem dX1_dropPage_22 : decode cX1_dropPage 22 = .ok (.aload_n 0, 1) := by decide +kernel
theorem dX1_dropPage_23 : decode cX1_dropPage 23 = .ok (.getfield 21, 3) := by decide +kernel
theorem dX1_dropPage_26 : decode cX1_dropPage 26 = .ok (.iload_n 3, 1) := by decide +kernel
theorem dX1_dropPage_27 : decode cX1_dropPage 27 = .ok (.dup2, 1) := by decide +kernel
theorem dX1_dropPage_28 : decode cX1_dropPage 28 = .ok (.iaload, 1) := by decide +kernel
theorem dX1_dropPage_29 : decode cX1_dropPage 29 = .ok (.iconst 1, 1) := by decide +kernel
theorem dX1_dropPage_30 : decode cX1_dropPage 30 = .ok (.iload_n 1, 1) := by decide +kernel
theorem dX1_dropPage_31 : decode cX1_dropPage 31 = .ok (.ishl, 1) := by decide +kernel
theorem dX1_dropPage_32 : decode cX1_dropPage 32 = .ok (.iconst (-1), 1) := by decide +kernel
theorem dX1_dropPage_33 : decode cX1_dropPage 33 = .ok (.ixor, 1) := by decide +kernel
theorem dX1_dropPage_34 : decode cX1_dropPage 34 = .ok (.iand, 1) := by decide +kernel
theorem dX1_dropPage_35 : decode cX1_dropPage 35 = .ok (.iastore, 1) := by decide +kernel
theorem dX1_dropPage_36 : decode cX1_dropPage 36 = .ok (.iinc 3 1, 3) := by decide +kernel
theorem dX1_dropPage_39 : decode cX1_dropPage 39 = .ok (.goto (-23), 3) := by decide +kernel
theorem dX1_dropPage_42 : decode cX1_dropPage 42 = .ok (.aload_n 0, 1) := by decide +kernel
theorem dX1_dropPage_43 : decode cX1_dropPage 43 = .ok (.dup, 1) := by decide +kernel
theorem dX1_dropPage_44 : decode cX1_dropPage 44 = .ok (.getfield 30, 3) := by decide +kernel
theorem dX1_dropPage_47 : decode cX1_dropPage 47 = .ok (.iconst 1, 1) := by decide +kernel
theorem dX1_dropPage_48 : decode cX1_dropPage 48 = .ok (.iload_n 1, 1) := by decide +kernel
theorem dX1_dropPage_49 : decode cX1_dropPage 49 = .ok (.ishl, 1) := by decide +kernel
theorem dX1_dropPage_50 : decode cX1_dropPage 50 = .ok (.iconst (-1), 1) := by decide +kernel
theorem dX1_dropPage_51 : decode cX1_dropPage 51 = .ok (.ixor, 1) := by decide +kernel
theorem dX1_dropPage_52 : decode cX1_dropPage 52 = .ok (.iand, 1) := by decide +kernel
theorem dX1_dropPage_53 : decode cX1_dropPage 53 = .ok (.putfield 30, 3) := by decide +kernel
theorem dX1_dropPage_56 : decode cX1_dropPage 56 = .ok (.aload_n 0, 1) := by decide +kernel
theorem dX1_dropPage_57 : decode cX1_dropPage 57 = .ok (.getfield 46, 3) := by decide +kernel
theorem dX1_dropPage_60 : decode cX1_dropPage 60 = .ok (.iload_n 1, 1) := by decide +kernel
theorem dX1_dropPage_61 : decode cX1_dropPage 61 = .ok (.if_icmp .ne 7, 3) := by decide +kernel
theorem dX1_dropPage_64 : decode cX1_dropPage 64 = .ok (.aload_n 0, 1) := by decide +kernel
theorem dX1_dropPage_65 : decode cX1_dropPage 65 = .ok (.invokevirtual 116, 3) := by decide +kernel
theorem dX1_dropPage_68 : decode cX1_dropPage 68 = .ok (.aload_n 0, 1) := by decide +kernel
theorem dX1_dropPage_69 : decode cX1_dropPage 69 = .ok (.invokevirtual 110, 3) := by decide +kernel
theorem dX1_dropPage_72 : decode cX1_dropPage 72 = .ok (.iload_n 2, 1) := by decide +kernel
theorem dX1_dropPage_73 : decode cX1_dropPage 73 = .ok (.ireturn, 1) := by decide +kernel
theorem dX1_outdate_0 : decode cX1_outdate 0 = .ok (.iconst 0, 1) := by decide +kernel
theorem dX1_outdate_1 : decode cX1_outdate 1 = .ok (.istore_n 2, 1) := by decide +kernel
theorem dX1_outdate_2 : decode cX1_outdate 2 = .ok (.iload_n 2, 1) := by decide +kernel
theorem dX1_outdate_3 : decode cX1_outdate 3 = .ok (.bipush 6, 2) := by decide +kernel
theorem dX1_outdate_5 : decode cX1_outdate 5 = .ok (.if_icmp .ge 53, 3) := by decide +kernel
theorem dX1_outdate_8 : decode cX1_outdate 8 = .ok (.aload_n 0, 1) := by decide +kernel
theorem dX1_outdate_9 : decode cX1_outdate 9 = .ok (.getfield 34, 3) := by decide +kernel
theorem dX1_outdate_12 : decode cX1_outdate 12 = .ok (.iload_n 2, 1) := by decide +kernel
theorem dX1_outdate_13 : decode cX1_outdate 13 = .ok (.invokestatic 68, 3) := by decide +kernel
theorem dX1_outdate_16 : decode cX1_outdate 16 = .ok (.ifCond .ne 36, 3) := by decide +kernel
theorem dX1_outdate_19 : decode cX1_outdate 19 = .ok (.aload_n 0, 1) := by decide +kernel
theorem dX1_outdate_20 : decode cX1_outdate 20 = .ok (.getfield 24, 3) := by decide +kernel
theorem dX1_outdate_23 : decode cX1_outdate 23 = .ok (.iload_n 2, 1) := by decide +kernel
theorem dX1_outdate_24 : decode cX1_outdate 24 = .ok (.dup2, 1) := by decide +kernel
theorem dX1_outdate_25 : decode cX1_outdate 25 = .ok (.iaload, 1) := by decide +kernel
theorem dX1_outdate_26 : decode cX1_outdate 26 = .ok (.aload_n 0, 1) := by decide +kernel
theorem dX1_outdate_27 : decode cX1_outdate 27 = .ok (.getfield 21, 3) := by decide +kernel
theorem dX1_outdate_30 : decode cX1_outdate 30 = .ok (.iload_n 2, 1) := by decide +kernel
theorem dX1_outdate_31 : decode cX1_outdate 31 = .ok (.iaload, 1) := by decide +kernel
theorem dX1_outdate_32 : decode cX1_outdate 32 = .ok (.iconst 1, 1) := by decide +kernel
theorem dX1_outdate_33 : decode cX1_outdate 33 = .ok (.iload_n 1, 1) := by decide +kernel
theorem dX1_outdate_34 : decode cX1_outdate 34 = .ok (.ishl, 1) := by decide +kernel
theorem dX1_outdate_35 : decode cX1_outdate 35 = .ok (.iand, 1) := by decide +kernel
theorem dX1_outdate_36 : decode cX1_outdate 36 = .ok (.ior, 1) := by decide +kernel
theorem dX1_outdate_37 : decode cX1_outdate 37 = .ok (.iastore, 1) := by decide +kernel
theorem dX1_outdate_38 : decode cX1_outdate 38 = .ok (.aload_n 0, 1) := by decide +kernel
theorem dX1_outdate_39 : decode cX1_outdate 39 = .ok (.getfield 21, 3) := by decide +kernel
theorem dX1_outdate_42 : decode cX1_outdate 42 = .ok (.iload_n 2, 1) := by decide +kernel
theorem dX1_outdate_43 : decode cX1_outdate 43 = .ok (.dup2, 1) := by decide +kernel
theorem dX1_outdate_44 : decode cX1_outdate 44 = .ok (.iaload, 1) := by decide +kernel
theorem dX1_outdate_45 : decode cX1_outdate 45 = .ok (.iconst 1, 1) := by decide +kernel
theorem dX1_outdate_46 : decode cX1_outdate 46 = .ok (.iload_n 1, 1) := by decide +kernel
theorem dX1_outdate_47 : decode cX1_outdate 47 = .ok (.ishl, 1) := by decide +kernel
theorem dX1_outdate_48 : decode cX1_outdate 48 = .ok (.iconst (-1), 1) := by decide +kernel
theorem dX1_outdate_49 : decode cX1_outdate 49 = .ok (.ixor, 1) := by decide +kernel
theorem dX1_outdate_50 : decode cX1_outdate 50 = .ok (.iand, 1) := by decide +kernel
theorem dX1_outdate_51 : decode cX1_outdate 51 = .ok (.iastore, 1) := by decide +kernel
theorem dX1_outdate_52 : decode cX1_outdate 52 = .ok (.iinc 2 1, 3) := by decide +kernel
theorem dX1_outdate_55 : decode cX1_outdate 55 = .ok (.goto (-53), 3) := by decide +kernel
theorem dX1_outdate_58 : decode cX1_outdate 58 = .ok (.return_, 1) := by decide +kernel
theorem dX1_beginLending_0 : decode cX1_beginLending 0 = .ok (.aload_n 0, 1) := by decide +kernel
theorem dX1_beginLending_1 : decode cX1_beginLending 1 = .ok (.getfield 9, 3) := by decide +kernel
theorem dX1_beginLending_4 : decode cX1_beginLending 4 = .ok (.iload_n 1, 1) := by decide +kernel
theorem dX1_beginLending_5 : decode cX1_beginLending 5 = .ok (.iconst 1, 1) := by decide +kernel
theorem dX1_beginLending_6 : decode cX1_beginLending 6 = .ok (.iastore, 1) := by decide +kernel
theorem dX1_beginLending_7 : decode cX1_beginLending 7 = .ok (.aload_n 0, 1) := by decide +kernel
theorem dX1_beginLending_8 : decode cX1_beginLending 8 = .ok (.getfield 15, 3) := by decide +kernel
theorem dX1_beginLending_11 : decode cX1_beginLending 11 = .ok (.iload_n 1, 1) := by decide +kernel
theorem dX1_beginLending_12 : decode cX1_beginLending 12 = .ok (.iload_n 2, 1) := by decide +kernel
theorem dX1_beginLending_13 : decode cX1_beginLending 13 = .ok (.iastore, 1) := by decide +kernel
theorem dX1_beginLending_14 : decode cX1_beginLending 14 = .ok (.iconst 0, 1) := by decide +kernel
theorem dX1_beginLending_15 : decode cX1_beginLending 15 = .ok (.istore_n 3, 1) := by decide +kernel
theorem dX1_beginLending_16 : decode cX1_beginLending 16 = .ok (.iconst 0, 1) := by decide +kernel
theorem dX1_beginLending_17 : decode cX1_beginLending 17 = .ok (.istore 4, 2) := by decide +kernel
theorem dX1_beginLending_19 : decode cX1_beginLending 19 = .ok (.iload 4, 2) := by decide +kernel
theorem dX1_beginLending_21 : decode cX1_beginLending 21 = .ok (.bipush 6, 2) := by decide +kernel
theorem dX1_beginLending_23 : decode cX1_beginLending 23 = .ok (.if_icmp .ge 18, 3) := by decide +kernel
theorem dX1_beginLending_26 : decode cX1_beginLending 26 = .ok (.iload_n 3, 1) := by decide +kernel
theorem dX1_beginLending_27 : decode cX1_beginLending 27 = .ok (.aload_n 0, 1) := by decide +kernel
theorem dX1_beginLending_28 : decode cX1_beginLending 28 = .ok (.iload 4, 2) := by decide +kernel
theorem dX1_beginLending_30 : decode cX1_beginLending 30 = .ok (.invokevirtual 103, 3) := by decide +kernel
theorem dX1_beginLending_33 : decode cX1_beginLending 33 = .ok (.iadd, 1) := by decide +kernel
theorem dX1_beginLending_34 : decode cX1_beginLending 34 = .ok (.istore_n 3, 1) := by decide +kernel
theorem dX1_beginLending_35 : decode cX1_beginLending 35 = .ok (.iinc 4 1, 3) := by decide +kernel
theorem dX1_beginLending_38 : decode cX1_beginLending 38 = .ok (.goto (-19), 3) := by decide +kernel
theorem dX1_beginLending_41 : decode cX1_beginLending 41 = .ok (.aload_n 0, 1) := by decide +kernel
theorem dX1_beginLending_42 : decode cX1_beginLending 42 = .ok (.invokevirtual 110, 3) := by decide +kernel
theorem dX1_beginLending_45 : decode cX1_beginLending 45 = .ok (.iload_n 3, 1) := by decide +kernel
theorem dX1_beginLending_46 : decode cX1_beginLending 46 = .ok (.ireturn, 1) := by decide +kernel
theorem dX1_callBack_0 : decode cX1_callBack 0 = .ok (.aload_n 0, 1) := by decide +kernel
theorem dX1_callBack_1 : decode cX1_callBack 1 = .ok (.getfield 9, 3) := by decide +kernel
theorem dX1_callBack_4 : decode cX1_callBack 4 = .ok (.iload_n 1, 1) := by decide +kernel
theorem dX1_callBack_5 : decode cX1_callBack 5 = .ok (.iconst 2, 1) := by decide +kernel
theorem dX1_callBack_6 : decode cX1_callBack 6 = .ok (.iastore, 1) := by decide +kernel
theorem dX1_callBack_7 : decode cX1_callBack 7 = .ok (.aload_n 0, 1) := by decide +kernel
theorem dX1_callBack_8 : decode cX1_callBack 8 = .ok (.getfield 18, 3) := by decide +kernel
theorem dX1_callBack_11 : decode cX1_callBack 11 = .ok (.iload_n 1, 1) := by decide +kernel
theorem dX1_callBack_12 : decode cX1_callBack 12 = .ok (.aload_n 0, 1) := by decide +kernel
theorem dX1_callBack_13 : decode cX1_callBack 13 = .ok (.getfield 37, 3) := by decide +kernel
theorem dX1_callBack_16 : decode cX1_callBack 16 = .ok (.iload_n 2, 1) := by decide +kernel
theorem dX1_callBack_17 : decode cX1_callBack 17 = .ok (.iadd, 1) := by decide +kernel
theorem dX1_callBack_18 : decode cX1_callBack 18 = .ok (.iastore, 1) := by decide +kernel
theorem dX1_callBack_19 : decode cX1_callBack 19 = .ok (.aload_n 0, 1) := by decide +kernel
theorem dX1_callBack_20 : decode cX1_callBack 20 = .ok (.getfield 52, 3) := by decide +kernel
theorem dX1_callBack_23 : decode cX1_callBack 23 = .ok (.iload_n 1, 1) := by decide +kernel
theorem dX1_callBack_24 : decode cX1_callBack 24 = .ok (.if_icmp .ne 7, 3) := by decide +kernel
theorem dX1_callBack_27 : decode cX1_callBack 27 = .ok (.aload_n 0, 1) := by decide +kernel
theorem dX1_callBack_28 : decode cX1_callBack 28 = .ok (.invokevirtual 116, 3) := by decide +kernel
theorem dX1_callBack_31 : decode cX1_callBack 31 = .ok (.aload_n 0, 1) := by decide +kernel
theorem dX1_callBack_32 : decode cX1_callBack 32 = .ok (.invokevirtual 110, 3) := by decide +kernel
theorem dX1_callBack_35 : decode cX1_callBack 35 = .ok (.aload_n 0, 1) := by decide +kernel
theorem dX1_callBack_36 : decode cX1_callBack 36 = .ok (.iload_n 1, 1) := by decide +kernel
theorem dX1_callBack_37 : decode cX1_callBack 37 = .ok (.invokevirtual 119, 3) := by decide +kernel
theorem dX1_callBack_40 : decode cX1_callBack 40 = .ok (.ireturn, 1) := by decide +kernel
theorem dX1_detach_0 : decode cX1_detach 0 = .ok (.aload_n 0, 1) := by decide +kernel
theorem dX1_detach_1 : decode cX1_detach 1 = .ok (.dup, 1) := by decide +kernel
theorem dX1_detach_2 : decode cX1_detach 2 = .ok (.getfield 34, 3) := by decide +kernel
theorem dX1_detach_5 : decode cX1_detach 5 = .ok (.iconst 1, 1) := by decide +kernel
theorem dX1_detach_6 : decode cX1_detach 6 = .ok (.iload_n 1, 1) := by decide +kernel
theorem dX1_detach_7 : decode cX1_detach 7 = .ok (.ishl, 1) := by decide +kernel
theorem dX1_detach_8 : decode cX1_detach 8 = .ok (.iconst (-1), 1) := by decide +kernel
theorem dX1_detach_9 : decode cX1_detach 9 = .ok (.ixor, 1) := by decide +kernel
theorem dX1_detach_10 : decode cX1_detach 10 = .ok (.iand, 1) := by decide +kernel
theorem dX1_detach_11 : decode cX1_detach 11 = .ok (.putfield 34, 3) := by decide +kernel
theorem dX1_detach_14 : decode cX1_detach 14 = .ok (.aload_n 0, 1) := by decide +kernel
theorem dX1_detach_15 : decode cX1_detach 15 = .ok (.iload_n 1, 1) := by decide +kernel
theorem dX1_detach_16 : decode cX1_detach 16 = .ok (.invokevirtual 122, 3) := by decide +kernel
theorem dX1_detach_19 : decode cX1_detach 19 = .ok (.aload_n 0, 1) := by decide +kernel
theorem dX1_detach_20 : decode cX1_detach 20 = .ok (.invokevirtual 110, 3) := by decide +kernel
theorem dX1_detach_23 : decode cX1_detach 23 = .ok (.aload_n 0, 1) := by decide +kernel
theorem dX1_detach_24 : decode cX1_detach 24 = .ok (.iload_n 1, 1) := by decide +kernel
theorem dX1_detach_25 : decode cX1_detach 25 = .ok (.invokevirtual 119, 3) := by decide +kernel
theorem dX1_detach_28 : decode cX1_detach 28 = .ok (.ireturn, 1) := by decide +kernel
theorem dX1_attach_0 : decode cX1_attach 0 = .ok (.aload_n 0, 1) := by decide +kernel
theorem dX1_attach_1 : decode cX1_attach 1 = .ok (.getfield 24, 3) := by decide +kernel
theorem dX1_attach_4 : decode cX1_attach 4 = .ok (.iload_n 1, 1) := by decide +kernel
theorem dX1_attach_5 : decode cX1_attach 5 = .ok (.iaload, 1) := by decide +kernel
theorem dX1_attach_6 : decode cX1_attach 6 = .ok (.aload_n 0, 1) := by decide +kernel
theorem dX1_attach_7 : decode cX1_attach 7 = .ok (.getfield 21, 3) := by decide +kernel
theorem dX1_attach_10 : decode cX1_attach 10 = .ok (.iload_n 1, 1) := by decide +kernel
theorem dX1_attach_11 : decode cX1_attach 11 = .ok (.iaload, 1) := by decide +kernel
theorem dX1_attach_12 : decode cX1_attach 12 = .ok (.aload_n 0, 1) := by decide +kernel
theorem dX1_attach_13 : decode cX1_attach 13 = .ok (.invokevirtual 125, 3) := by decide +kernel
theorem dX1_attach_16 : decode cX1_attach 16 = .ok (.iand, 1) := by decide +kernel
theorem dX1_attach_17 : decode cX1_attach 17 = .ok (.ior, 1) := by decide +kernel
theorem dX1_attach_18 : decode cX1_attach 18 = .ok (.istore_n 2, 1) := by decide +kernel
theorem dX1_attach_19 : decode cX1_attach 19 = .ok (.aload_n 0, 1) := by decide +kernel
theorem dX1_attach_20 : decode cX1_attach 20 = .ok (.dup, 1) := by decide +kernel
theorem dX1_attach_21 : decode cX1_attach 21 = .ok (.getfield 34, 3) := by decide +kernel
theorem dX1_attach_24 : decode cX1_attach 24 = .ok (.iconst 1, 1) := by decide +kernel
theorem dX1_attach_25 : decode cX1_attach 25 = .ok (.iload_n 1, 1) := by decide +kernel
theorem dX1_attach_26 : decode cX1_attach 26 = .ok (.ishl, 1) := by decide +kernel
theorem dX1_attach_27 : decode cX1_attach 27 = .ok (.ior, 1) := by decide +kernel
theorem dX1_attach_28 : decode cX1_attach 28 = .ok (.putfield 34, 3) := by decide +kernel
theorem dX1_attach_31 : decode cX1_attach 31 = .ok (.aload_n 0, 1) := by decide +kernel
theorem dX1_attach_32 : decode cX1_attach 32 = .ok (.getfield 21, 3) := by decide +kernel
theorem dX1_attach_35 : decode cX1_attach 35 = .ok (.iload_n 1, 1) := by decide +kernel
theorem dX1_attach_36 : decode cX1_attach 36 = .ok (.dup2, 1) := by decide +kernel
theorem dX1_attach_37 : decode cX1_attach 37 = .ok (.iaload, 1) := by decide +kernel
theorem dX1_attach_38 : decode cX1_attach 38 = .ok (.iload_n 2, 1) := by decide +kernel
theorem dX1_attach_39 : decode cX1_attach 39 = .ok (.iconst (-1), 1) := by decide +kernel
theorem dX1_attach_40 : decode cX1_attach 40 = .ok (.ixor, 1) := by decide +kernel
theorem dX1_attach_41 : decode cX1_attach 41 = .ok (.iand, 1) := by decide +kernel
theorem dX1_attach_42 : decode cX1_attach 42 = .ok (.iastore, 1) := by decide +kernel
theorem dX1_attach_43 : decode cX1_attach 43 = .ok (.aload_n 0, 1) := by decide +kernel
theorem dX1_attach_44 : decode cX1_attach 44 = .ok (.getfield 24, 3) := by decide +kernel
theorem dX1_attach_47 : decode cX1_attach 47 = .ok (.iload_n 1, 1) := by decide +kernel
theorem dX1_attach_48 : decode cX1_attach 48 = .ok (.iconst 0, 1) := by decide +kernel
theorem dX1_attach_49 : decode cX1_attach 49 = .ok (.iastore, 1) := by decide +kernel
theorem dX1_attach_50 : decode cX1_attach 50 = .ok (.aload_n 0, 1) := by decide +kernel
theorem dX1_attach_51 : decode cX1_attach 51 = .ok (.invokevirtual 110, 3) := by decide +kernel
theorem dX1_attach_54 : decode cX1_attach 54 = .ok (.iload_n 2, 1) := by decide +kernel
theorem dX1_attach_55 : decode cX1_attach 55 = .ok (.invokestatic 89, 3) := by decide +kernel
theorem dX1_attach_58 : decode cX1_attach 58 = .ok (.ireturn, 1) := by decide +kernel
theorem dX1_pagesCopiedTwice_0 : decode cX1_pagesCopiedTwice 0 = .ok (.iconst 0, 1) := by decide +kernel
theorem dX1_pagesCopiedTwice_1 : decode cX1_pagesCopiedTwice 1 = .ok (.istore_n 1, 1) := by decide +kernel
theorem dX1_pagesCopiedTwice_2 : decode cX1_pagesCopiedTwice 2 = .ok (.iconst 0, 1) := by decide +kernel
theorem dX1_pagesCopiedTwice_3 : decode cX1_pagesCopiedTwice 3 = .ok (.istore_n 2, 1) := by decide +kernel
theorem dX1_pagesCopiedTwice_4 : decode cX1_pagesCopiedTwice 4 = .ok (.iconst 0, 1) := by decide +kernel
theorem dX1_pagesCopiedTwice_5 : decode cX1_pagesCopiedTwice 5 = .ok (.istore_n 3, 1) := by decide +kernel
theorem dX1_pagesCopiedTwice_6 : decode cX1_pagesCopiedTwice 6 = .ok (.iload_n 3, 1) := by decide +kernel
theorem dX1_pagesCopiedTwice_7 : decode cX1_pagesCopiedTwice 7 = .ok (.bipush 6, 2) := by decide +kernel
theorem dX1_pagesCopiedTwice_9 : decode cX1_pagesCopiedTwice 9 = .ok (.if_icmp .ge 40, 3) := by decide +kernel
theorem dX1_pagesCopiedTwice_12 : decode cX1_pagesCopiedTwice 12 = .ok (.aload_n 0, 1) := by decide +kernel
theorem dX1_pagesCopiedTwice_13 : decode cX1_pagesCopiedTwice 13 = .ok (.getfield 34, 3) := by decide +kernel
theorem dX1_pagesCopiedTwice_16 : decode cX1_pagesCopiedTwice 16 = .ok (.iload_n 3, 1) := by decide +kernel
theorem dX1_pagesCopiedTwice_17 : decode cX1_pagesCopiedTwice 17 = .ok (.invokestatic 68, 3) := by decide +kernel
theorem dX1_pagesCopiedTwice_20 : decode cX1_pagesCopiedTwice 20 = .ok (.ifCond .eq 23, 3) := by decide +kernel
theorem dX1_pagesCopiedTwice_23 : decode cX1_pagesCopiedTwice 23 = .ok (.iload_n 2, 1) := by decide +kernel
theorem dX1_pagesCopiedTwice_24 : decode cX1_pagesCopiedTwice 24 = .ok (.iload_n 1, 1) := by decide +kernel
theorem dX1_pagesCopiedTwice_25 : decode cX1_pagesCopiedTwice 25 = .ok (.aload_n 0, 1) := by decide +kernel
theorem dX1_pagesCopiedTwice_26 : decode cX1_pagesCopiedTwice 26 = .ok (.getfield 21, 3) := by decide +kernel
theorem dX1_pagesCopiedTwice_29 : decode cX1_pagesCopiedTwice 29 = .ok (.iload_n 3, 1) := by decide +kernel
theorem dX1_pagesCopiedTwice_30 : decode cX1_pagesCopiedTwice 30 = .ok (.iaload, 1) := by decide +kernel
theorem dX1_pagesCopiedTwice_31 : decode cX1_pagesCopiedTwice 31 = .ok (.iand, 1) := by decide +kernel
theorem dX1_pagesCopiedTwice_32 : decode cX1_pagesCopiedTwice 32 = .ok (.ior, 1) := by decide +kernel
theorem dX1_pagesCopiedTwice_33 : decode cX1_pagesCopiedTwice 33 = .ok (.istore_n 2, 1) := by decide +kernel
theorem dX1_pagesCopiedTwice_34 : decode cX1_pagesCopiedTwice 34 = .ok (.iload_n 1, 1) := by decide +kernel
theorem dX1_pagesCopiedTwice_35 : decode cX1_pagesCopiedTwice 35 = .ok (.aload_n 0, 1) := by decide +kernel
theorem dX1_pagesCopiedTwice_36 : decode cX1_pagesCopiedTwice 36 = .ok (.getfield 21, 3) := by decide +kernel
theorem dX1_pagesCopiedTwice_39 : decode cX1_pagesCopiedTwice 39 = .ok (.iload_n 3, 1) := by decide +kernel
theorem dX1_pagesCopiedTwice_40 : decode cX1_pagesCopiedTwice 40 = .ok (.iaload, 1) := by decide +kernel
theorem dX1_pagesCopiedTwice_41 : decode cX1_pagesCopiedTwice 41 = .ok (.ior, 1) := by decide +kernel
theorem dX1_pagesCopiedTwice_42 : decode cX1_pagesCopiedTwice 42 = .ok (.istore_n 1, 1) := by decide +kernel
theorem dX1_pagesCopiedTwice_43 : decode cX1_pagesCopiedTwice 43 = .ok (.iinc 3 1, 3) := by decide +kernel
theorem dX1_pagesCopiedTwice_46 : decode cX1_pagesCopiedTwice 46 = .ok (.goto (-40), 3) := by decide +kernel
theorem dX1_pagesCopiedTwice_49 : decode cX1_pagesCopiedTwice 49 = .ok (.iload_n 2, 1) := by decide +kernel
theorem dX1_pagesCopiedTwice_50 : decode cX1_pagesCopiedTwice 50 = .ok (.ireturn, 1) := by decide +kernel
theorem dX1_breakDown_0 : decode cX1_breakDown 0 = .ok (.aload_n 0, 1) := by decide +kernel
theorem dX1_breakDown_1 : decode cX1_breakDown 1 = .ok (.iload_n 1, 1) := by decide +kernel
theorem dX1_breakDown_2 : decode cX1_breakDown 2 = .ok (.invokevirtual 119, 3) := by decide +kernel
theorem dX1_breakDown_5 : decode cX1_breakDown 5 = .ok (.istore_n 2, 1) := by decide +kernel
theorem dX1_breakDown_6 : decode cX1_breakDown 6 = .ok (.aload_n 0, 1) := by decide +kernel
theorem dX1_breakDown_7 : decode cX1_breakDown 7 = .ok (.iload_n 1, 1) := by decide +kernel
theorem dX1_breakDown_8 : decode cX1_breakDown 8 = .ok (.invokevirtual 129, 3) := by decide +kernel
theorem dX1_breakDown_11 : decode cX1_breakDown 11 = .ok (.aload_n 0, 1) := by decide +kernel
theorem dX1_breakDown_12 : decode cX1_breakDown 12 = .ok (.dup, 1) := by decide +kernel
theorem dX1_breakDown_13 : decode cX1_breakDown 13 = .ok (.getfield 34, 3) := by decide +kernel
theorem dX1_breakDown_16 : decode cX1_breakDown 16 = .ok (.iconst 1, 1) := by decide +kernel
theorem dX1_breakDown_17 : decode cX1_breakDown 17 = .ok (.iload_n 1, 1) := by decide +kernel
theorem dX1_breakDown_18 : decode cX1_breakDown 18 = .ok (.ishl, 1) := by decide +kernel
theorem dX1_breakDown_19 : decode cX1_breakDown 19 = .ok (.ior, 1) := by decide +kernel
theorem dX1_breakDown_20 : decode cX1_breakDown 20 = .ok (.putfield 34, 3) := by decide +kernel
theorem dX1_breakDown_23 : decode cX1_breakDown 23 = .ok (.aload_n 0, 1) := by decide +kernel
theorem dX1_breakDown_24 : decode cX1_breakDown 24 = .ok (.iload_n 1, 1) := by decide +kernel
theorem dX1_breakDown_25 : decode cX1_breakDown 25 = .ok (.invokevirtual 122, 3) := by decide +kernel
theorem dX1_breakDown_28 : decode cX1_breakDown 28 = .ok (.aload_n 0, 1) := by decide +kernel
theorem dX1_breakDown_29 : decode cX1_breakDown 29 = .ok (.invokevirtual 110, 3) := by decide +kernel
theorem dX1_breakDown_32 : decode cX1_breakDown 32 = .ok (.iload_n 2, 1) := by decide +kernel
theorem dX1_breakDown_33 : decode cX1_breakDown 33 = .ok (.ireturn, 1) := by decide +kernel
theorem dX1_leave_0 : decode cX1_leave 0 = .ok (.aload_n 0, 1) := by decide +kernel
theorem dX1_leave_1 : decode cX1_leave 1 = .ok (.getfield 21, 3) := by decide +kernel
theorem dX1_leave_4 : decode cX1_leave 4 = .ok (.iload_n 1, 1) := by decide +kernel
theorem dX1_leave_5 : decode cX1_leave 5 = .ok (.iconst 0, 1) := by decide +kernel
theorem dX1_leave_6 : decode cX1_leave 6 = .ok (.iastore, 1) := by decide +kernel
theorem dX1_leave_7 : decode cX1_leave 7 = .ok (.aload_n 0, 1) := by decide +kernel
theorem dX1_leave_8 : decode cX1_leave 8 = .ok (.getfield 24, 3) := by decide +kernel
theorem dX1_leave_11 : decode cX1_leave 11 = .ok (.iload_n 1, 1) := by decide +kernel
theorem dX1_leave_12 : decode cX1_leave 12 = .ok (.iconst 0, 1) := by decide +kernel
theorem dX1_leave_13 : decode cX1_leave 13 = .ok (.iastore, 1) := by decide +kernel
theorem dX1_leave_14 : decode cX1_leave 14 = .ok (.aload_n 0, 1) := by decide +kernel
theorem dX1_leave_15 : decode cX1_leave 15 = .ok (.getfield 9, 3) := by decide +kernel
theorem dX1_leave_18 : decode cX1_leave 18 = .ok (.iload_n 1, 1) := by decide +kernel
theorem dX1_leave_19 : decode cX1_leave 19 = .ok (.iconst 0, 1) := by decide +kernel
theorem dX1_leave_20 : decode cX1_leave 20 = .ok (.iastore, 1) := by decide +kernel
theorem dX1_leave_21 : decode cX1_leave 21 = .ok (.return_, 1) := by decide +kernel
theorem dX1_cancelTransferOf_0 : decode cX1_cancelTransferOf 0 = .ok (.aload_n 0, 1) := by decide +kernel
theorem dX1_cancelTransferOf_1 : decode cX1_cancelTransferOf 1 = .ok (.getfield 49, 3) := by decide +kernel
theorem dX1_cancelTransferOf_4 : decode cX1_cancelTransferOf 4 = .ok (.iload_n 1, 1) := by decide +kernel
theorem dX1_cancelTransferOf_5 : decode cX1_cancelTransferOf 5 = .ok (.if_icmp .eq 11, 3) := by decide +kernel
theorem dX1_cancelTransferOf_8 : decode cX1_cancelTransferOf 8 = .ok (.aload_n 0, 1) := by decide +kernel
theorem dX1_cancelTransferOf_9 : decode cX1_cancelTransferOf 9 = .ok (.getfield 52, 3) := by decide +kernel
theorem dX1_cancelTransferOf_12 : decode cX1_cancelTransferOf 12 = .ok (.iload_n 1, 1) := by decide +kernel
theorem dX1_cancelTransferOf_13 : decode cX1_cancelTransferOf 13 = .ok (.if_icmp .ne 7, 3) := by decide +kernel
theorem dX1_cancelTransferOf_16 : decode cX1_cancelTransferOf 16 = .ok (.aload_n 0, 1) := by decide +kernel
theorem dX1_cancelTransferOf_17 : decode cX1_cancelTransferOf 17 = .ok (.invokevirtual 116, 3) := by decide +kernel
theorem dX1_cancelTransferOf_20 : decode cX1_cancelTransferOf 20 = .ok (.return_, 1) := by decide +kernel
theorem dX1_cancelTransfer_0 : decode cX1_cancelTransfer 0 = .ok (.aload_n 0, 1) := by decide +kernel
theorem dX1_cancelTransfer_1 : decode cX1_cancelTransfer 1 = .ok (.iconst (-1), 1) := by decide +kernel
theorem dX1_cancelTransfer_2 : decode cX1_cancelTransfer 2 = .ok (.putfield 46, 3) := by decide +kernel
theorem dX1_cancelTransfer_5 : decode cX1_cancelTransfer 5 = .ok (.aload_n 0, 1) := by decide +kernel
theorem dX1_cancelTransfer_6 : decode cX1_cancelTransfer 6 = .ok (.iconst (-1), 1) := by decide +kernel
theorem dX1_cancelTransfer_7 : decode cX1_cancelTransfer 7 = .ok (.putfield 49, 3) := by decide +kernel
theorem dX1_cancelTransfer_10 : decode cX1_cancelTransfer 10 = .ok (.aload_n 0, 1) := by decide +kernel
theorem dX1_cancelTransfer_11 : decode cX1_cancelTransfer 11 = .ok (.iconst (-1), 1) := by decide +kernel
theorem dX1_cancelTransfer_12 : decode cX1_cancelTransfer 12 = .ok (.putfield 52, 3) := by decide +kernel
theorem dX1_cancelTransfer_15 : decode cX1_cancelTransfer 15 = .ok (.return_, 1) := by decide +kernel
theorem dX1_advance_0 : decode cX1_advance 0 = .ok (.aload_n 0, 1) := by decide +kernel
theorem dX1_advance_1 : decode cX1_advance 1 = .ok (.getfield 43, 3) := by decide +kernel
theorem dX1_advance_4 : decode cX1_advance 4 = .ok (.istore_n 2, 1) := by decide +kernel
theorem dX1_advance_5 : decode cX1_advance 5 = .ok (.aload_n 0, 1) := by decide +kernel
theorem dX1_advance_6 : decode cX1_advance 6 = .ok (.getfield 37, 3) := by decide +kernel
theorem dX1_advance_9 : decode cX1_advance 9 = .ok (.iload_n 1, 1) := by decide +kernel
theorem dX1_advance_10 : decode cX1_advance 10 = .ok (.iadd, 1) := by decide +kernel
theorem dX1_advance_11 : decode cX1_advance 11 = .ok (.istore_n 3, 1) := by decide +kernel
theorem dX1_advance_12 : decode cX1_advance 12 = .ok (.iconst 0, 1) := by decide +kernel
theorem dX1_advance_13 : decode cX1_advance 13 = .ok (.istore 4, 2) := by decide +kernel
theorem dX1_advance_15 : decode cX1_advance 15 = .ok (.iload 4, 2) := by decide +kernel
theorem dX1_advance_17 : decode cX1_advance 17 = .ok (.iload_n 1, 1) := by decide +kernel
theorem dX1_advance_18 : decode cX1_advance 18 = .ok (.if_icmp .ge 106, 3) := by decide +kernel
theorem dX1_advance_21 : decode cX1_advance 21 = .ok (.aload_n 0, 1) := by decide +kernel
theorem dX1_advance_22 : decode cX1_advance 22 = .ok (.getfield 37, 3) := by decide +kernel
theorem dX1_advance_25 : decode cX1_advance 25 = .ok (.iload_n 3, 1) := by decide +kernel
theorem dX1_advance_26 : decode cX1_advance 26 = .ok (.if_icmp .ge 98, 3) := by decide +kernel
theorem dX1_advance_29 : decode cX1_advance 29 = .ok (.aload_n 0, 1) := by decide +kernel
theorem dX1_advance_30 : decode cX1_advance 30 = .ok (.aload_n 0, 1) := by decide +kernel
theorem dX1_advance_31 : decode cX1_advance 31 = .ok (.iload_n 3, 1) := by decide +kernel
theorem dX1_advance_32 : decode cX1_advance 32 = .ok (.invokevirtual 132, 3) := by decide +kernel
theorem dX1_advance_35 : decode cX1_advance 35 = .ok (.putfield 37, 3) := by decide +kernel
theorem dX1_advance_38 : decode cX1_advance 38 = .ok (.aload_n 0, 1) := by decide +kernel
theorem dX1_advance_39 : decode cX1_advance 39 = .ok (.getfield 46, 3) := by decide +kernel
theorem dX1_advance_42 : decode cX1_advance 42 = .ok (.iconst (-1), 1) := by decide +kernel
theorem dX1_advance_43 : decode cX1_advance 43 = .ok (.if_icmp .eq 18, 3) := by decide +kernel
theorem dX1_advance_46 : decode cX1_advance 46 = .ok (.aload_n 0, 1) := by decide +kernel
theorem dX1_advance_47 : decode cX1_advance 47 = .ok (.getfield 55, 3) := by decide +kernel
theorem dX1_advance_50 : decode cX1_advance 50 = .ok (.aload_n 0, 1) := by decide +kernel
theorem dX1_advance_51 : decode cX1_advance 51 = .ok (.getfield 37, 3) := by decide +kernel
theorem dX1_advance_54 : decode cX1_advance 54 = .ok (.if_icmp .ne 7, 3) := by decide +kernel
theorem dX1_advance_57 : decode cX1_advance 57 = .ok (.aload_n 0, 1) := by decide +kernel
theorem dX1_advance_58 : decode cX1_advance 58 = .ok (.invokevirtual 135, 3) := by decide +kernel
theorem dX1_advance_61 : decode cX1_advance 61 = .ok (.iconst 0, 1) := by decide +kernel
theorem dX1_advance_62 : decode cX1_advance 62 = .ok (.istore 5, 2) := by decide +kernel
theorem dX1_advance_64 : decode cX1_advance 64 = .ok (.iload 5, 2) := by decide +kernel
theorem dX1_advance_66 : decode cX1_advance 66 = .ok (.bipush 6, 2) := by decide +kernel
theorem dX1_advance_68 : decode cX1_advance 68 = .ok (.if_icmp .ge 46, 3) := by decide +kernel
theorem dX1_advance_71 : decode cX1_advance 71 = .ok (.aload_n 0, 1) := by decide +kernel
theorem dX1_advance_72 : decode cX1_advance 72 = .ok (.getfield 9, 3) := by decide +kernel
theorem dX1_advance_75 : decode cX1_advance 75 = .ok (.iload 5, 2) := by decide +kernel
theorem dX1_advance_77 : decode cX1_advance 77 = .ok (.iaload, 1) := by decide +kernel
theorem dX1_advance_78 : decode cX1_advance 78 = .ok (.iconst 2, 1) := by decide +kernel
theorem dX1_advance_79 : decode cX1_advance 79 = .ok (.if_icmp .ne 29, 3) := by decide +kernel
theorem dX1_advance_82 : decode cX1_advance 82 = .ok (.aload_n 0, 1) := by decide +kernel
theorem dX1_advance_83 : decode cX1_advance 83 = .ok (.getfield 18, 3) := by decide +kernel
theorem dX1_advance_86 : decode cX1_advance 86 = .ok (.iload 5, 2) := by decide +kernel
theorem dX1_advance_88 : decode cX1_advance 88 = .ok (.iaload, 1) := by decide +kernel
theorem dX1_advance_89 : decode cX1_advance 89 = .ok (.aload_n 0, 1) := by decide +kernel
theorem dX1_advance_90 : decode cX1_advance 90 = .ok (.getfield 37, 3) := by decide +kernel
theorem dX1_advance_93 : decode cX1_advance 93 = .ok (.if_icmp .ne 15, 3) := by decide +kernel
theorem dX1_advance_96 : decode cX1_advance 96 = .ok (.aload_n 0, 1) := by decide +kernel
theorem dX1_advance_97 : decode cX1_advance 97 = .ok (.iload 5, 2) := by decide +kernel
theorem dX1_advance_99 : decode cX1_advance 99 = .ok (.invokevirtual 129, 3) := by decide +kernel
theorem dX1_advance_102 : decode cX1_advance 102 = .ok (.aload_n 0, 1) := by decide +kernel
theorem dX1_advance_103 : decode cX1_advance 103 = .ok (.iload 5, 2) := by decide +kernel
theorem dX1_advance_105 : decode cX1_advance 105 = .ok (.invokevirtual 122, 3) := by decide +kernel
theorem dX1_advance_108 : decode cX1_advance 108 = .ok (.iinc 5 1, 3) := by decide +kernel
theorem dX1_advance_111 : decode cX1_advance 111 = .ok (.goto (-47), 3) := by decide +kernel
theorem dX1_advance_114 : decode cX1_advance 114 = .ok (.aload_n 0, 1) := by decide +kernel
theorem dX1_advance_115 : decode cX1_advance 115 = .ok (.invokevirtual 110, 3) := by decide +kernel
theorem dX1_advance_118 : decode cX1_advance 118 = .ok (.iinc 4 1, 3) := by decide +kernel
theorem dX1_advance_121 : decode cX1_advance 121 = .ok (.goto (-106), 3) := by decide +kernel
theorem dX1_advance_124 : decode cX1_advance 124 = .ok (.aload_n 0, 1) := by decide +kernel
theorem dX1_advance_125 : decode cX1_advance 125 = .ok (.getfield 43, 3) := by decide +kernel
theorem dX1_advance_128 : decode cX1_advance 128 = .ok (.iload_n 2, 1) := by decide +kernel
theorem dX1_advance_129 : decode cX1_advance 129 = .ok (.isub, 1) := by decide +kernel
theorem dX1_advance_130 : decode cX1_advance 130 = .ok (.ireturn, 1) := by decide +kernel
theorem dX1_completeTransfer_0 : decode cX1_completeTransfer 0 = .ok (.aload_n 0, 1) := by decide +kernel
theorem dX1_completeTransfer_1 : decode cX1_completeTransfer 1 = .ok (.getfield 46, 3) := by decide +kernel
theorem dX1_completeTransfer_4 : decode cX1_completeTransfer 4 = .ok (.istore_n 1, 1) := by decide +kernel
theorem dX1_completeTransfer_5 : decode cX1_completeTransfer 5 = .ok (.aload_n 0, 1) := by decide +kernel
theorem dX1_completeTransfer_6 : decode cX1_completeTransfer 6 = .ok (.getfield 49, 3) := by decide +kernel
theorem dX1_completeTransfer_9 : decode cX1_completeTransfer 9 = .ok (.istore_n 2, 1) := by decide +kernel
theorem dX1_completeTransfer_10 : decode cX1_completeTransfer 10 = .ok (.aload_n 0, 1) := by decide +kernel
theorem dX1_completeTransfer_11 : decode cX1_completeTransfer 11 = .ok (.getfield 52, 3) := by decide +kernel
theorem dX1_completeTransfer_14 : decode cX1_completeTransfer 14 = .ok (.istore_n 3, 1) := by decide +kernel
theorem dX1_completeTransfer_15 : decode cX1_completeTransfer 15 = .ok (.aload_n 0, 1) := by decide +kernel
theorem dX1_completeTransfer_16 : decode cX1_completeTransfer 16 = .ok (.invokevirtual 116, 3) := by decide +kernel
theorem dX1_completeTransfer_19 : decode cX1_completeTransfer 19 = .ok (.aload_n 0, 1) := by decide +kernel
theorem dX1_completeTransfer_20 : decode cX1_completeTransfer 20 = .ok (.dup, 1) := by decide +kernel
theorem dX1_completeTransfer_21 : decode cX1_completeTransfer 21 = .ok (.getfield 43, 3) := by decide +kernel
theorem dX1_completeTransfer_24 : decode cX1_completeTransfer 24 = .ok (.iconst 1, 1) := by decide +kernel
theorem dX1_completeTransfer_25 : decode cX1_completeTransfer 25 = .ok (.iadd, 1) := by decide +kernel
theorem dX1_completeTransfer_26 : decode cX1_completeTransfer 26 = .ok (.putfield 43, 3) := by decide +kernel
theorem dX1_completeTransfer_29 : decode cX1_completeTransfer 29 = .ok (.iload_n 1, 1) := by decide +kernel
theorem dX1_completeTransfer_30 : decode cX1_completeTransfer 30 = .ok (.invokestatic 64, 3) := by decide +kernel
theorem dX1_completeTransfer_33 : decode cX1_completeTransfer 33 = .ok (.ifCond .eq 17, 3) := by decide +kernel
theorem dX1_completeTransfer_36 : decode cX1_completeTransfer 36 = .ok (.iload_n 2, 1) := by decide +kernel
theorem dX1_completeTransfer_37 : decode cX1_completeTransfer 37 = .ok (.invokestatic 82, 3) := by decide +kernel
theorem dX1_completeTransfer_40 : decode cX1_completeTransfer 40 = .ok (.ifCond .eq 10, 3) := by decide +kernel
theorem dX1_completeTransfer_43 : decode cX1_completeTransfer 43 = .ok (.iload_n 3, 1) := by decide +kernel
theorem dX1_completeTransfer_44 : decode cX1_completeTransfer 44 = .ok (.invokestatic 82, 3) := by decide +kernel
theorem dX1_completeTransfer_47 : decode cX1_completeTransfer 47 = .ok (.ifCond .ne 4, 3) := by decide +kernel
theorem dX1_completeTransfer_50 : decode cX1_completeTransfer 50 = .ok (.return_, 1) := by decide +kernel
theorem dX1_completeTransfer_51 : decode cX1_completeTransfer 51 = .ok (.aload_n 0, 1) := by decide +kernel
theorem dX1_completeTransfer_52 : decode cX1_completeTransfer 52 = .ok (.getfield 9, 3) := by decide +kernel
theorem dX1_completeTransfer_55 : decode cX1_completeTransfer 55 = .ok (.iload_n 2, 1) := by decide +kernel
theorem dX1_completeTransfer_56 : decode cX1_completeTransfer 56 = .ok (.iaload, 1) := by decide +kernel
theorem dX1_completeTransfer_57 : decode cX1_completeTransfer 57 = .ok (.iconst 2, 1) := by decide +kernel
theorem dX1_completeTransfer_58 : decode cX1_completeTransfer 58 = .ok (.if_icmp .ne 32, 3) := by decide +kernel
theorem dX1_completeTransfer_61 : decode cX1_completeTransfer 61 = .ok (.aload_n 0, 1) := by decide +kernel
theorem dX1_completeTransfer_62 : decode cX1_completeTransfer 62 = .ok (.getfield 21, 3) := by decide +kernel
theorem dX1_completeTransfer_65 : decode cX1_completeTransfer 65 = .ok (.iload_n 2, 1) := by decide +kernel
theorem dX1_completeTransfer_66 : decode cX1_completeTransfer 66 = .ok (.dup2, 1) := by decide +kernel
theorem dX1_completeTransfer_67 : decode cX1_completeTransfer 67 = .ok (.iaload, 1) := by decide +kernel
theorem dX1_completeTransfer_68 : decode cX1_completeTransfer 68 = .ok (.iconst 1, 1) := by decide +kernel
theorem dX1_completeTransfer_69 : decode cX1_completeTransfer 69 = .ok (.iload_n 1, 1) := by decide +kernel
theorem dX1_completeTransfer_70 : decode cX1_completeTransfer 70 = .ok (.ishl, 1) := by decide +kernel
theorem dX1_completeTransfer_71 : decode cX1_completeTransfer 71 = .ok (.iconst (-1), 1) := by decide +kernel
theorem dX1_completeTransfer_72 : decode cX1_completeTransfer 72 = .ok (.ixor, 1) := by decide +kernel
theorem dX1_completeTransfer_73 : decode cX1_completeTransfer 73 = .ok (.iand, 1) := by decide +kernel
theorem dX1_completeTransfer_74 : decode cX1_completeTransfer 74 = .ok (.iastore, 1) := by decide +kernel
theorem dX1_completeTransfer_75 : decode cX1_completeTransfer 75 = .ok (.aload_n 0, 1) := by decide +kernel
theorem dX1_completeTransfer_76 : decode cX1_completeTransfer 76 = .ok (.getfield 21, 3) := by decide +kernel
theorem dX1_completeTransfer_79 : decode cX1_completeTransfer 79 = .ok (.iload_n 3, 1) := by decide +kernel
theorem dX1_completeTransfer_80 : decode cX1_completeTransfer 80 = .ok (.dup2, 1) := by decide +kernel
theorem dX1_completeTransfer_81 : decode cX1_completeTransfer 81 = .ok (.iaload, 1) := by decide +kernel
theorem dX1_completeTransfer_82 : decode cX1_completeTransfer 82 = .ok (.iconst 1, 1) := by decide +kernel
theorem dX1_completeTransfer_83 : decode cX1_completeTransfer 83 = .ok (.iload_n 1, 1) := by decide +kernel
theorem dX1_completeTransfer_84 : decode cX1_completeTransfer 84 = .ok (.ishl, 1) := by decide +kernel
theorem dX1_completeTransfer_85 : decode cX1_completeTransfer 85 = .ok (.ior, 1) := by decide +kernel
theorem dX1_completeTransfer_86 : decode cX1_completeTransfer 86 = .ok (.iastore, 1) := by decide +kernel
theorem dX1_completeTransfer_87 : decode cX1_completeTransfer 87 = .ok (.goto 27, 3) := by decide +kernel
theorem dX1_completeTransfer_90 : decode cX1_completeTransfer 90 = .ok (.aload_n 0, 1) := by decide +kernel
theorem dX1_completeTransfer_91 : decode cX1_completeTransfer 91 = .ok (.iload_n 1, 1) := by decide +kernel
theorem dX1_completeTransfer_92 : decode cX1_completeTransfer 92 = .ok (.invokevirtual 75, 3) := by decide +kernel
theorem dX1_completeTransfer_95 : decode cX1_completeTransfer 95 = .ok (.invokestatic 89, 3) := by decide +kernel
theorem dX1_completeTransfer_98 : decode cX1_completeTransfer 98 = .ok (.iconst 1, 1) := by decide +kernel
theorem dX1_completeTransfer_99 : decode cX1_completeTransfer 99 = .ok (.if_icmp .ne 15, 3) := by decide +kernel
theorem dX1_completeTransfer_102 : decode cX1_completeTransfer 102 = .ok (.aload_n 0, 1) := by decide +kernel
theorem dX1_completeTransfer_103 : decode cX1_completeTransfer 103 = .ok (.getfield 21, 3) := by decide +kernel
theorem dX1_completeTransfer_106 : decode cX1_completeTransfer 106 = .ok (.iload_n 3, 1) := by decide +kernel
theorem dX1_completeTransfer_107 : decode cX1_completeTransfer 107 = .ok (.dup2, 1) := by decide +kernel
theorem dX1_completeTransfer_108 : decode cX1_completeTransfer 108 = .ok (.iaload, 1) := by decide +kernel
theorem dX1_completeTransfer_109 : decode cX1_completeTransfer 109 = .ok (.iconst 1, 1) := by decide +kernel
theorem dX1_completeTransfer_110 : decode cX1_completeTransfer 110 = .ok (.iload_n 1, 1) := by decide +kernel
theorem dX1_completeTransfer_111 : decode cX1_completeTransfer 111 = .ok (.ishl, 1) := by decide +kernel
theorem dX1_completeTransfer_112 : decode cX1_completeTransfer 112 = .ok (.ior, 1) := by decide +kernel
theorem dX1_completeTransfer_113 : decode cX1_completeTransfer 113 = .ok (.iastore, 1) := by decide +kernel
theorem dX1_completeTransfer_114 : decode cX1_completeTransfer 114 = .ok (.return_, 1) := by decide +kernel
theorem dX1_settle_0 : decode cX1_settle 0 = .ok (.aload_n 0, 1) := by decide +kernel
theorem dX1_settle_1 : decode cX1_settle 1 = .ok (.invokevirtual 138, 3) := by decide +kernel
theorem dX1_settle_4 : decode cX1_settle 4 = .ok (.aload_n 0, 1) := by decide +kernel
theorem dX1_settle_5 : decode cX1_settle 5 = .ok (.getfield 46, 3) := by decide +kernel
theorem dX1_settle_8 : decode cX1_settle 8 = .ok (.iconst (-1), 1) := by decide +kernel
theorem dX1_settle_9 : decode cX1_settle 9 = .ok (.if_icmp .eq 4, 3) := by decide +kernel
theorem dX1_settle_12 : decode cX1_settle 12 = .ok (.return_, 1) := by decide +kernel
theorem dX1_settle_13 : decode cX1_settle 13 = .ok (.ldc 141, 2) := by decide +kernel
theorem dX1_settle_15 : decode cX1_settle 15 = .ok (.istore_n 1, 1) := by decide +kernel
theorem dX1_settle_16 : decode cX1_settle 16 = .ok (.iconst (-1), 1) := by decide +kernel
theorem dX1_settle_17 : decode cX1_settle 17 = .ok (.istore_n 2, 1) := by decide +kernel
theorem dX1_settle_18 : decode cX1_settle 18 = .ok (.iconst (-1), 1) := by decide +kernel
theorem dX1_settle_19 : decode cX1_settle 19 = .ok (.istore_n 3, 1) := by decide +kernel
theorem dX1_settle_20 : decode cX1_settle 20 = .ok (.iconst 0, 1) := by decide +kernel
theorem dX1_settle_21 : decode cX1_settle 21 = .ok (.istore 4, 2) := by decide +kernel
theorem dX1_settle_23 : decode cX1_settle 23 = .ok (.iload 4, 2) := by decide +kernel
theorem dX1_settle_25 : decode cX1_settle 25 = .ok (.bipush 30, 2) := by decide +kernel
theorem dX1_settle_27 : decode cX1_settle 27 = .ok (.if_icmp .ge 68, 3) := by decide +kernel
theorem dX1_settle_30 : decode cX1_settle 30 = .ok (.aload_n 0, 1) := by decide +kernel
theorem dX1_settle_31 : decode cX1_settle 31 = .ok (.iload 4, 2) := by decide +kernel
theorem dX1_settle_33 : decode cX1_settle 33 = .ok (.invokevirtual 75, 3) := by decide +kernel
theorem dX1_settle_36 : decode cX1_settle 36 = .ok (.istore 5, 2) := by decide +kernel
theorem dX1_settle_38 : decode cX1_settle 38 = .ok (.iconst 0, 1) := by decide +kernel
theorem dX1_settle_39 : decode cX1_settle 39 = .ok (.istore 6, 2) := by decide +kernel
theorem dX1_settle_41 : decode cX1_settle 41 = .ok (.iload 6, 2) := by decide +kernel
theorem dX1_settle_43 : decode cX1_settle 43 = .ok (.bipush 6, 2) := by decide +kernel
theorem dX1_settle_45 : decode cX1_settle 45 = .ok (.if_icmp .ge 44, 3) := by decide +kernel
theorem dX1_settle_48 : decode cX1_settle 48 = .ok (.aload_n 0, 1) := by decide +kernel
theorem dX1_settle_49 : decode cX1_settle 49 = .ok (.iload 6, 2) := by decide +kernel
theorem dX1_settle_51 : decode cX1_settle 51 = .ok (.iload 5, 2) := by decide +kernel
theorem dX1_settle_53 : decode cX1_settle 53 = .ok (.invokevirtual 142, 3) := by decide +kernel
theorem dX1_settle_56 : decode cX1_settle 56 = .ok (.istore 7, 2) := by decide +kernel
theorem dX1_settle_58 : decode cX1_settle 58 = .ok (.iload 7, 2) := by decide +kernel
theorem dX1_settle_60 : decode cX1_settle 60 = .ok (.iload_n 1, 1) := by decide +kernel
theorem dX1_settle_61 : decode cX1_settle 61 = .ok (.if_icmp .ge 22, 3) := by decide +kernel
theorem dX1_settle_64 : decode cX1_settle 64 = .ok (.aload_n 0, 1) := by decide +kernel
theorem dX1_settle_65 : decode cX1_settle 65 = .ok (.iload 4, 2) := by decide +kernel
theorem dX1_settle_67 : decode cX1_settle 67 = .ok (.invokevirtual 79, 3) := by decide +kernel
theorem dX1_settle_70 : decode cX1_settle 70 = .ok (.iconst (-1), 1) := by decide +kernel
theorem dX1_settle_71 : decode cX1_settle 71 = .ok (.if_icmp .eq 12, 3) := by decide +kernel
theorem dX1_settle_74 : decode cX1_settle 74 = .ok (.iload 7, 2) := by decide +kernel
theorem dX1_settle_76 : decode cX1_settle 76 = .ok (.istore_n 1, 1) := by decide +kernel
theorem dX1_settle_77 : decode cX1_settle 77 = .ok (.iload 4, 2) := by decide +kernel
theorem dX1_settle_79 : decode cX1_settle 79 = .ok (.istore_n 2, 1) := by decide +kernel
theorem dX1_settle_80 : decode cX1_settle 80 = .ok (.iload 6, 2) := by decide +kernel
theorem dX1_settle_82 : decode cX1_settle 82 = .ok (.istore_n 3, 1) := by decide +kernel
theorem dX1_settle_83 : decode cX1_settle 83 = .ok (.iinc 6 1, 3) := by decide +kernel
theorem dX1_settle_86 : decode cX1_settle 86 = .ok (.goto (-45), 3) := by decide +kernel
theorem dX1_settle_89 : decode cX1_settle 89 = .ok (.iinc 4 1, 3) := by decide +kernel
theorem dX1_settle_92 : decode cX1_settle 92 = .ok (.goto (-69), 3) := by decide +kernel
theorem dX1_settle_95 : decode cX1_settle 95 = .ok (.iload_n 2, 1) := by decide +kernel
theorem dX1_settle_96 : decode cX1_settle 96 = .ok (.iconst (-1), 1) := by decide +kernel
theorem dX1_settle_97 : decode cX1_settle 97 = .ok (.if_icmp .eq 35, 3) := by decide +kernel
theorem dX1_settle_100 : decode cX1_settle 100 = .ok (.aload_n 0, 1) := by decide +kernel
theorem dX1_settle_101 : decode cX1_settle 101 = .ok (.aload_n 0, 1) := by decide +kernel
theorem dX1_settle_102 : decode cX1_settle 102 = .ok (.iload_n 2, 1) := by decide +kernel
theorem dX1_settle_103 : decode cX1_settle 103 = .ok (.invokevirtual 79, 3) := by decide +kernel
theorem dX1_settle_106 : decode cX1_settle 106 = .ok (.putfield 52, 3) := by decide +kernel
theorem dX1_settle_109 : decode cX1_settle 109 = .ok (.aload_n 0, 1) := by decide +kernel
theorem dX1_settle_110 : decode cX1_settle 110 = .ok (.iload_n 2, 1) := by decide +kernel
theorem dX1_settle_111 : decode cX1_settle 111 = .ok (.putfield 46, 3) := by decide +kernel
theorem dX1_settle_114 : decode cX1_settle 114 = .ok (.aload_n 0, 1) := by decide +kernel
theorem dX1_settle_115 : decode cX1_settle 115 = .ok (.iload_n 3, 1) := by decide +kernel
theorem dX1_settle_116 : decode cX1_settle 116 = .ok (.putfield 49, 3) := by decide +kernel
theorem dX1_settle_119 : decode cX1_settle 119 = .ok (.aload_n 0, 1) := by decide +kernel
theorem dX1_settle_120 : decode cX1_settle 120 = .ok (.aload_n 0, 1) := by decide +kernel
theorem dX1_settle_121 : decode cX1_settle 121 = .ok (.getfield 37, 3) := by decide +kernel
theorem dX1_settle_124 : decode cX1_settle 124 = .ok (.aload_n 0, 1) := by decide +kernel
theorem dX1_settle_125 : decode cX1_settle 125 = .ok (.getfield 40, 3) := by decide +kernel
theorem dX1_settle_128 : decode cX1_settle 128 = .ok (.iadd, 1) := by decide +kernel
theorem dX1_settle_129 : decode cX1_settle 129 = .ok (.putfield 55, 3) := by decide +kernel
theorem dX1_settle_132 : decode cX1_settle 132 = .ok (.return_, 1) := by decide +kernel
theorem dX1_releaseHosts_0 : decode cX1_releaseHosts 0 = .ok (.iconst 0, 1) := by decide +kernel
theorem dX1_releaseHosts_1 : decode cX1_releaseHosts 1 = .ok (.istore_n 1, 1) := by decide +kernel
theorem dX1_releaseHosts_2 : decode cX1_releaseHosts 2 = .ok (.iload_n 1, 1) := by decide +kernel
theorem dX1_releaseHosts_3 : decode cX1_releaseHosts 3 = .ok (.bipush 6, 2) := by decide +kernel
theorem dX1_releaseHosts_5 : decode cX1_releaseHosts 5 = .ok (.if_icmp .ge 45, 3) := by decide +kernel
theorem dX1_releaseHosts_8 : decode cX1_releaseHosts 8 = .ok (.aload_n 0, 1) := by decide +kernel
theorem dX1_releaseHosts_9 : decode cX1_releaseHosts 9 = .ok (.getfield 9, 3) := by decide +kernel
theorem dX1_releaseHosts_12 : decode cX1_releaseHosts 12 = .ok (.iload_n 1, 1) := by decide +kernel
theorem dX1_releaseHosts_13 : decode cX1_releaseHosts 13 = .ok (.iaload, 1) := by decide +kernel
theorem dX1_releaseHosts_14 : decode cX1_releaseHosts 14 = .ok (.iconst 2, 1) := by decide +kernel
theorem dX1_releaseHosts_15 : decode cX1_releaseHosts 15 = .ok (.if_icmp .ne 29, 3) := by decide +kernel
theorem dX1_releaseHosts_18 : decode cX1_releaseHosts 18 = .ok (.aload_n 0, 1) := by decide +kernel
theorem dX1_releaseHosts_19 : decode cX1_releaseHosts 19 = .ok (.getfield 34, 3) := by decide +kernel
theorem dX1_releaseHosts_22 : decode cX1_releaseHosts 22 = .ok (.iload_n 1, 1) := by decide +kernel
theorem dX1_releaseHosts_23 : decode cX1_releaseHosts 23 = .ok (.invokestatic 68, 3) := by decide +kernel
theorem dX1_releaseHosts_26 : decode cX1_releaseHosts 26 = .ok (.ifCond .eq 18, 3) := by decide +kernel
theorem dX1_releaseHosts_29 : decode cX1_releaseHosts 29 = .ok (.aload_n 0, 1) := by decide +kernel
theorem dX1_releaseHosts_30 : decode cX1_releaseHosts 30 = .ok (.iload_n 1, 1) := by decide +kernel
theorem dX1_releaseHosts_31 : decode cX1_releaseHosts 31 = .ok (.invokevirtual 119, 3) := by decide +kernel
theorem dX1_releaseHosts_34 : decode cX1_releaseHosts 34 = .ok (.ifCond .ne 10, 3) := by decide +kernel
theorem dX1_releaseHosts_37 : decode cX1_releaseHosts 37 = .ok (.aload_n 0, 1) := by decide +kernel
theorem dX1_releaseHosts_38 : decode cX1_releaseHosts 38 = .ok (.getfield 9, 3) := by decide +kernel
theorem dX1_releaseHosts_41 : decode cX1_releaseHosts 41 = .ok (.iload_n 1, 1) := by decide +kernel
theorem dX1_releaseHosts_42 : decode cX1_releaseHosts 42 = .ok (.iconst 0, 1) := by decide +kernel
theorem dX1_releaseHosts_43 : decode cX1_releaseHosts 43 = .ok (.iastore, 1) := by decide +kernel
theorem dX1_releaseHosts_44 : decode cX1_releaseHosts 44 = .ok (.iinc 1 1, 3) := by decide +kernel
theorem dX1_releaseHosts_47 : decode cX1_releaseHosts 47 = .ok (.goto (-45), 3) := by decide +kernel
theorem dX1_releaseHosts_50 : decode cX1_releaseHosts 50 = .ok (.return_, 1) := by decide +kernel
theorem dX1_rankOf_0 : decode cX1_rankOf 0 = .ok (.iload_n 2, 1) := by decide +kernel
theorem dX1_rankOf_1 : decode cX1_rankOf 1 = .ok (.iload_n 1, 1) := by decide +kernel
theorem dX1_rankOf_2 : decode cX1_rankOf 2 = .ok (.invokestatic 68, 3) := by decide +kernel
theorem dX1_rankOf_5 : decode cX1_rankOf 5 = .ok (.ifCond .eq 10, 3) := by decide +kernel
theorem dX1_rankOf_8 : decode cX1_rankOf 8 = .ok (.iload_n 1, 1) := by decide +kernel
theorem dX1_rankOf_9 : decode cX1_rankOf 9 = .ok (.invokestatic 82, 3) := by decide +kernel
theorem dX1_rankOf_12 : decode cX1_rankOf 12 = .ok (.ifCond .ne 6, 3) := by decide +kernel
theorem dX1_rankOf_15 : decode cX1_rankOf 15 = .ok (.ldc 141, 2) := by decide +kernel
theorem dX1_rankOf_17 : decode cX1_rankOf 17 = .ok (.ireturn, 1) := by decide +kernel
theorem dX1_rankOf_18 : decode cX1_rankOf 18 = .ok (.iload_n 2, 1) := by decide +kernel
theorem dX1_rankOf_19 : decode cX1_rankOf 19 = .ok (.iconst 1, 1) := by decide +kernel
theorem dX1_rankOf_20 : decode cX1_rankOf 20 = .ok (.iload_n 1, 1) := by decide +kernel
theorem dX1_rankOf_21 : decode cX1_rankOf 21 = .ok (.ishl, 1) := by decide +kernel
theorem dX1_rankOf_22 : decode cX1_rankOf 22 = .ok (.if_icmp .ne 7, 3) := by decide +kernel
theorem dX1_rankOf_25 : decode cX1_rankOf 25 = .ok (.iconst 1, 1) := by decide +kernel
theorem dX1_rankOf_26 : decode cX1_rankOf 26 = .ok (.goto 4, 3) := by decide +kernel
theorem dX1_rankOf_29 : decode cX1_rankOf 29 = .ok (.iconst 0, 1) := by decide +kernel
theorem dX1_rankOf_30 : decode cX1_rankOf 30 = .ok (.istore_n 3, 1) := by decide +kernel
theorem dX1_rankOf_31 : decode cX1_rankOf 31 = .ok (.aload_n 0, 1) := by decide +kernel
theorem dX1_rankOf_32 : decode cX1_rankOf 32 = .ok (.getfield 9, 3) := by decide +kernel
theorem dX1_rankOf_35 : decode cX1_rankOf 35 = .ok (.iload_n 1, 1) := by decide +kernel
theorem dX1_rankOf_36 : decode cX1_rankOf 36 = .ok (.iaload, 1) := by decide +kernel
theorem dX1_rankOf_37 : decode cX1_rankOf 37 = .ok (.iconst 2, 1) := by decide +kernel
theorem dX1_rankOf_38 : decode cX1_rankOf 38 = .ok (.if_icmp .ne 23, 3) := by decide +kernel
theorem dX1_rankOf_41 : decode cX1_rankOf 41 = .ok (.iload_n 3, 1) := by decide +kernel
theorem dX1_rankOf_42 : decode cX1_rankOf 42 = .ok (.ifCond .eq 7, 3) := by decide +kernel
theorem dX1_rankOf_45 : decode cX1_rankOf 45 = .ok (.iconst 1, 1) := by decide +kernel
theorem dX1_rankOf_46 : decode cX1_rankOf 46 = .ok (.goto 4, 3) := by decide +kernel
theorem dX1_rankOf_49 : decode cX1_rankOf 49 = .ok (.iconst 3, 1) := by decide +kernel
theorem dX1_rankOf_50 : decode cX1_rankOf 50 = .ok (.ldc 146, 2) := by decide +kernel
theorem dX1_rankOf_52 : decode cX1_rankOf 52 = .ok (.imul, 1) := by decide +kernel
theorem dX1_rankOf_53 : decode cX1_rankOf 53 = .ok (.aload_n 0, 1) := by decide +kernel
theorem dX1_rankOf_54 : decode cX1_rankOf 54 = .ok (.getfield 18, 3) := by decide +kernel
theorem dX1_rankOf_57 : decode cX1_rankOf 57 = .ok (.iload_n 1, 1) := by decide +kernel
theorem dX1_rankOf_58 : decode cX1_rankOf 58 = .ok (.iaload, 1) := by decide +kernel
theorem dX1_rankOf_59 : decode cX1_rankOf 59 = .ok (.iadd, 1) := by decide +kernel
theorem dX1_rankOf_60 : decode cX1_rankOf 60 = .ok (.ireturn, 1) := by decide +kernel
theorem dX1_rankOf_61 : decode cX1_rankOf 61 = .ok (.iload_n 3, 1) := by decide +kernel
theorem dX1_rankOf_62 : decode cX1_rankOf 62 = .ok (.ifCond .eq 8, 3) := by decide +kernel
theorem dX1_rankOf_65 : decode cX1_rankOf 65 = .ok (.ldc 147, 2) := by decide +kernel
theorem dX1_rankOf_67 : decode cX1_rankOf 67 = .ok (.goto 5, 3) := by decide +kernel
theorem dX1_rankOf_70 : decode cX1_rankOf 70 = .ok (.ldc 141, 2) := by decide +kernel
theorem dX1_rankOf_72 : decode cX1_rankOf 72 = .ok (.ireturn, 1) := by decide +kernel
theorem dX2_init_0 : decode cX2_init 0 = .ok (.aload_n 0, 1) := by decide +kernel
theorem dX2_init_1 : decode cX2_init 1 = .ok (.invokespecial 3, 3) := by decide +kernel
theorem dX2_init_4 : decode cX2_init 4 = .ok (.aload_n 0, 1) := by decide +kernel
theorem dX2_init_5 : decode cX2_init 5 = .ok (.new 9, 3) := by decide +kernel
theorem dX2_init_8 : decode cX2_init 8 = .ok (.dup, 1) := by decide +kernel
theorem dX2_init_9 : decode cX2_init 9 = .ok (.invokespecial 11, 3) := by decide +kernel
theorem dX2_init_12 : decode cX2_init 12 = .ok (.putfield 12, 3) := by decide +kernel
theorem dX2_init_15 : decode cX2_init 15 = .ok (.aload_n 0, 1) := by decide +kernel
theorem dX2_init_16 : decode cX2_init 16 = .ok (.new 9, 3) := by decide +kernel
theorem dX2_init_19 : decode cX2_init 19 = .ok (.dup, 1) := by decide +kernel
theorem dX2_init_20 : decode cX2_init 20 = .ok (.invokespecial 11, 3) := by decide +kernel
theorem dX2_init_23 : decode cX2_init 23 = .ok (.putfield 16, 3) := by decide +kernel
theorem dX2_init_26 : decode cX2_init 26 = .ok (.aload_n 0, 1) := by decide +kernel
theorem dX2_init_27 : decode cX2_init 27 = .ok (.bipush 6, 2) := by decide +kernel
theorem dX2_init_29 : decode cX2_init 29 = .ok (.anewarray 9, 3) := by decide +kernel
theorem dX2_init_32 : decode cX2_init 32 = .ok (.putfield 19, 3) := by decide +kernel
theorem dX2_init_35 : decode cX2_init 35 = .ok (.aload_n 0, 1) := by decide +kernel
theorem dX2_init_36 : decode cX2_init 36 = .ok (.iconst 0, 1) := by decide +kernel
theorem dX2_init_37 : decode cX2_init 37 = .ok (.putfield 23, 3) := by decide +kernel
theorem dX2_init_40 : decode cX2_init 40 = .ok (.aload_n 0, 1) := by decide +kernel
theorem dX2_init_41 : decode cX2_init 41 = .ok (.iconst 2, 1) := by decide +kernel
theorem dX2_init_42 : decode cX2_init 42 = .ok (.anewarray 9, 3) := by decide +kernel
theorem dX2_init_45 : decode cX2_init 45 = .ok (.putfield 27, 3) := by decide +kernel
theorem dX2_init_48 : decode cX2_init 48 = .ok (.aload_n 0, 1) := by decide +kernel
theorem dX2_init_49 : decode cX2_init 49 = .ok (.iconst 0, 1) := by decide +kernel
theorem dX2_init_50 : decode cX2_init 50 = .ok (.putfield 30, 3) := by decide +kernel
theorem dX2_init_53 : decode cX2_init 53 = .ok (.aload_n 0, 1) := by decide +kernel
theorem dX2_init_54 : decode cX2_init 54 = .ok (.bipush 80, 2) := by decide +kernel
theorem dX2_init_56 : decode cX2_init 56 = .ok (.newarray .char, 2) := by decide +kernel
theorem dX2_init_58 : decode cX2_init 58 = .ok (.putfield 33, 3) := by decide +kernel
theorem dX2_init_61 : decode cX2_init 61 = .ok (.aload_n 0, 1) := by decide +kernel
theorem dX2_init_62 : decode cX2_init 62 = .ok (.iconst 0, 1) := by decide +kernel
theorem dX2_init_63 : decode cX2_init 63 = .ok (.putfield 37, 3) := by decide +kernel
theorem dX2_init_66 : decode cX2_init 66 = .ok (.aload_n 0, 1) := by decide +kernel
theorem dX2_init_67 : decode cX2_init 67 = .ok (.new 40, 3) := by decide +kernel
theorem dX2_init_70 : decode cX2_init 70 = .ok (.dup, 1) := by decide +kernel
theorem dX2_init_71 : decode cX2_init 71 = .ok (.invokespecial 42, 3) := by decide +kernel
theorem dX2_init_74 : decode cX2_init 74 = .ok (.putfield 43, 3) := by decide +kernel
theorem dX2_init_77 : decode cX2_init 77 = .ok (.iconst 0, 1) := by decide +kernel
theorem dX2_init_78 : decode cX2_init 78 = .ok (.istore_n 1, 1) := by decide +kernel
theorem dX2_init_79 : decode cX2_init 79 = .ok (.iload_n 1, 1) := by decide +kernel
theorem dX2_init_80 : decode cX2_init 80 = .ok (.bipush 6, 2) := by decide +kernel
theorem dX2_init_82 : decode cX2_init 82 = .ok (.if_icmp .ge 22, 3) := by decide +kernel
theorem dX2_init_85 : decode cX2_init 85 = .ok (.aload_n 0, 1) := by decide +kernel
theorem dX2_init_86 : decode cX2_init 86 = .ok (.getfield 19, 3) := by decide +kernel
theorem dX2_init_89 : decode cX2_init 89 = .ok (.iload_n 1, 1) := by decide +kernel
theorem dX2_init_90 : decode cX2_init 90 = .ok (.new 9, 3) := by decide +kernel
theorem dX2_init_93 : decode cX2_init 93 = .ok (.dup, 1) := by decide +kernel
theorem dX2_init_94 : decode cX2_init 94 = .ok (.invokespecial 11, 3) := by decide +kernel
theorem dX2_init_97 : decode cX2_init 97 = .ok (.aastore, 1) := by decide +kernel
theorem dX2_init_98 : decode cX2_init 98 = .ok (.iinc 1 1, 3) := by decide +kernel
theorem dX2_init_101 : decode cX2_init 101 = .ok (.goto (-22), 3) := by decide +kernel
theorem dX2_init_104 : decode cX2_init 104 = .ok (.iconst 0, 1) := by decide +kernel
theorem dX2_init_105 : decode cX2_init 105 = .ok (.istore_n 1, 1) := by decide +kernel
theorem dX2_init_106 : decode cX2_init 106 = .ok (.iload_n 1, 1) := by decide +kernel
theorem dX2_init_107 : decode cX2_init 107 = .ok (.iconst 2, 1) := by decide +kernel
theorem dX2_init_108 : decode cX2_init 108 = .ok (.if_icmp .ge 22, 3) := by decide +kernel
theorem dX2_init_111 : decode cX2_init 111 = .ok (.aload_n 0, 1) := by decide +kernel
theorem dX2_init_112 : decode cX2_init 112 = .ok (.getfield 27, 3) := by decide +kernel
theorem dX2_init_115 : decode cX2_init 115 = .ok (.iload_n 1, 1) := by decide +kernel
theorem dX2_init_116 : decode cX2_init 116 = .ok (.new 9, 3) := by decide +kernel
theorem dX2_init_119 : decode cX2_init 119 = .ok (.dup, 1) := by decide +kernel
theorem dX2_init_120 : decode cX2_init 120 = .ok (.invokespecial 11, 3) := by decide +kernel
theorem dX2_init_123 : decode cX2_init 123 = .ok (.aastore, 1) := by decide +kernel
theorem dX2_init_124 : decode cX2_init 124 = .ok (.iinc 1 1, 3) := by decide +kernel
theorem dX2_init_127 : decode cX2_init 127 = .ok (.goto (-21), 3) := by decide +kernel
theorem dX2_init_130 : decode cX2_init 130 = .ok (.return_, 1) := by decide +kernel
theorem dX2_store_0 : decode cX2_store 0 = .ok (.iload_n 1, 1) := by decide +kernel
theorem dX2_store_1 : decode cX2_store 1 = .ok (.invokestatic 47, 3) := by decide +kernel
theorem dX2_store_4 : decode cX2_store 4 = .ok (.iload_n 2, 1) := by decide +kernel
theorem dX2_store_5 : decode cX2_store 5 = .ok (.iconst 0, 1) := by decide +kernel
theorem dX2_store_6 : decode cX2_store 6 = .ok (.sipush 9999, 3) := by decide +kernel
theorem dX2_store_9 : decode cX2_store 9 = .ok (.invokestatic 51, 3) := by decide +kernel
theorem dX2_store_12 : decode cX2_store 12 = .ok (.aload_n 0, 1) := by decide +kernel
theorem dX2_store_13 : decode cX2_store 13 = .ok (.getfield 12, 3) := by decide +kernel
theorem dX2_store_16 : decode cX2_store 16 = .ok (.iload_n 1, 1) := by decide +kernel
theorem dX2_store_17 : decode cX2_store 17 = .ok (.invokevirtual 55, 3) := by decide +kernel
theorem dX2_store_20 : decode cX2_store 20 = .ok (.invokestatic 59, 3) := by decide +kernel
theorem dX2_store_23 : decode cX2_store 23 = .ok (.aload_n 0, 1) := by decide +kernel
theorem dX2_store_24 : decode cX2_store 24 = .ok (.invokevirtual 63, 3) := by decide +kernel
theorem dX2_store_27 : decode cX2_store 27 = .ok (.aload_n 0, 1) := by decide +kernel
theorem dX2_store_28 : decode cX2_store 28 = .ok (.getfield 12, 3) := by decide +kernel
theorem dX2_store_31 : decode cX2_store 31 = .ok (.iload_n 1, 1) := by decide +kernel
theorem dX2_store_32 : decode cX2_store 32 = .ok (.iload_n 2, 1) := by decide +kernel
theorem dX2_store_33 : decode cX2_store 33 = .ok (.invokevirtual 66, 3) := by decide +kernel
theorem dX2_store_36 : decode cX2_store 36 = .ok (.ireturn, 1) := by decide +kernel
theorem dX2_write_0 : decode cX2_write 0 = .ok (.iload_n 1, 1) := by decide +kernel
theorem dX2_write_1 : decode cX2_write 1 = .ok (.invokestatic 47, 3) := by decide +kernel
theorem dX2_write_4 : decode cX2_write 4 = .ok (.iload_n 2, 1) := by decide +kernel
theorem dX2_write_5 : decode cX2_write 5 = .ok (.iconst 0, 1) := by decide +kernel
theorem dX2_write_6 : decode cX2_write 6 = .ok (.sipush 9999, 3) := by decide +kernel
theorem dX2_write_9 : decode cX2_write 9 = .ok (.invokestatic 51, 3) := by decide +kernel
theorem dX2_write_12 : decode cX2_write 12 = .ok (.aload_n 0, 1) := by decide +kernel
theorem dX2_write_13 : decode cX2_write 13 = .ok (.getfield 12, 3) := by decide +kernel
theorem dX2_write_16 : decode cX2_write 16 = .ok (.iload_n 1, 1) := by decide +kernel
theorem dX2_write_17 : decode cX2_write 17 = .ok (.invokevirtual 70, 3) := by decide +kernel
theorem dX2_write_20 : decode cX2_write 20 = .ok (.invokestatic 59, 3) := by decide +kernel
theorem dX2_write_23 : decode cX2_write 23 = .ok (.aload_n 0, 1) := by decide +kernel
theorem dX2_write_24 : decode cX2_write 24 = .ok (.invokevirtual 63, 3) := by decide +kernel
theorem dX2_write_27 : decode cX2_write 27 = .ok (.aload_n 0, 1) := by decide +kernel
theorem dX2_write_28 : decode cX2_write 28 = .ok (.getfield 12, 3) := by decide +kernel
theorem dX2_write_31 : decode cX2_write 31 = .ok (.iload_n 1, 1) := by decide +kernel
theorem dX2_write_32 : decode cX2_write 32 = .ok (.iload_n 2, 1) := by decide +kernel
theorem dX2_write_33 : decode cX2_write 33 = .ok (.invokevirtual 73, 3) := by decide +kernel
theorem dX2_write_36 : decode cX2_write 36 = .ok (.ireturn, 1) := by decide +kernel
theorem dX2_read_0 : decode cX2_read 0 = .ok (.iload_n 1, 1) := by decide +kernel
theorem dX2_read_1 : decode cX2_read 1 = .ok (.invokestatic 47, 3) := by decide +kernel
theorem dX2_read_4 : decode cX2_read 4 = .ok (.aload_n 0, 1) := by decide +kernel
theorem dX2_read_5 : decode cX2_read 5 = .ok (.getfield 12, 3) := by decide +kernel
theorem dX2_read_8 : decode cX2_read 8 = .ok (.iload_n 1, 1) := by decide +kernel
theorem dX2_read_9 : decode cX2_read 9 = .ok (.invokevirtual 70, 3) := by decide +kernel
theorem dX2_read_12 : decode cX2_read 12 = .ok (.invokestatic 59, 3) := by decide +kernel
theorem dX2_read_15 : decode cX2_read 15 = .ok (.aload_n 0, 1) := by decide +kernel
theorem dX2_read_16 : decode cX2_read 16 = .ok (.getfield 12, 3) := by decide +kernel
theorem dX2_read_19 : decode cX2_read 19 = .ok (.getfield 76, 3) := by decide +kernel
theorem dX2_read_22 : decode cX2_read 22 = .ok (.iload_n 1, 1) := by decide +kernel
theorem dX2_read_23 : decode cX2_read 23 = .ok (.iaload, 1) := by decide +kernel
theorem dX2_read_24 : decode cX2_read 24 = .ok (.ireturn, 1) := by decide +kernel
theorem dX2_remove_0 : decode cX2_remove 0 = .ok (.iload_n 1, 1) := by decide +kernel
theorem dX2_remove_1 : decode cX2_remove 1 = .ok (.invokestatic 47, 3) := by decide +kernel
theorem dX2_remove_4 : decode cX2_remove 4 = .ok (.aload_n 0, 1) := by decide +kernel
theorem dX2_remove_5 : decode cX2_remove 5 = .ok (.getfield 12, 3) := by decide +kernel
theorem dX2_remove_8 : decode cX2_remove 8 = .ok (.iload_n 1, 1) := by decide +kernel
theorem dX2_remove_9 : decode cX2_remove 9 = .ok (.invokevirtual 80, 3) := by decide +kernel
theorem dX2_remove_12 : decode cX2_remove 12 = .ok (.invokestatic 59, 3) := by decide +kernel
theorem dX2_remove_15 : decode cX2_remove 15 = .ok (.aload_n 0, 1) := by decide +kernel
theorem dX2_remove_16 : decode cX2_remove 16 = .ok (.invokevirtual 63, 3) := by decide +kernel
theorem dX2_remove_19 : decode cX2_remove 19 = .ok (.aload_n 0, 1) := by decide +kernel
theorem dX2_remove_20 : decode cX2_remove 20 = .ok (.getfield 12, 3) := by decide +kernel
theorem dX2_remove_23 : decode cX2_remove 23 = .ok (.iload_n 1, 1) := by decide +kernel
theorem dX2_remove_24 : decode cX2_remove 24 = .ok (.invokevirtual 83, 3) := by decide +kernel
theorem dX2_remove_27 : decode cX2_remove 27 = .ok (.ireturn, 1) := by decide +kernel
theorem dX2_lend_0 : decode cX2_lend 0 = .ok (.iload_n 1, 1) := by decide +kernel
theorem dX2_lend_1 : decode cX2_lend 1 = .ok (.invokestatic 87, 3) := by decide +kernel
theorem dX2_lend_4 : decode cX2_lend 4 = .ok (.iload_n 2, 1) := by decide +kernel
theorem dX2_lend_5 : decode cX2_lend 5 = .ok (.iconst 1, 1) := by decide +kernel
theorem dX2_lend_6 : decode cX2_lend 6 = .ok (.bipush 20, 2) := by decide +kernel
theorem dX2_lend_8 : decode cX2_lend 8 = .ok (.invokestatic 51, 3) := by decide +kernel
theorem dX2_lend_11 : decode cX2_lend 11 = .ok (.aload_n 0, 1) := by decide +kernel
theorem dX2_lend_12 : decode cX2_lend 12 = .ok (.getfield 12, 3) := by decide +kernel
theorem dX2_lend_15 : decode cX2_lend 15 = .ok (.iload_n 1, 1) := by decide +kernel
theorem dX2_lend_16 : decode cX2_lend 16 = .ok (.invokevirtual 90, 3) := by decide +kernel
theorem dX2_lend_19 : decode cX2_lend 19 = .ok (.invokestatic 59, 3) := by decide +kernel
theorem dX2_lend_22 : decode cX2_lend 22 = .ok (.aload_n 0, 1) := by decide +kernel
theorem dX2_lend_23 : decode cX2_lend 23 = .ok (.invokevirtual 63, 3) := by decide +kernel
theorem dX2_lend_26 : decode cX2_lend 26 = .ok (.aload_n 0, 1) := by decide +kernel
theorem dX2_lend_27 : decode cX2_lend 27 = .ok (.getfield 12, 3) := by decide +kernel
theorem dX2_lend_30 : decode cX2_lend 30 = .ok (.iload_n 1, 1) := by decide +kernel
theorem dX2_lend_31 : decode cX2_lend 31 = .ok (.iload_n 2, 1) := by decide +kernel
theorem dX2_lend_32 : decode cX2_lend 32 = .ok (.invokevirtual 93, 3) := by decide +kernel
theorem dX2_lend_35 : decode cX2_lend 35 = .ok (.ireturn, 1) := by decide +kernel
theorem dX2_recall_0 : decode cX2_recall 0 = .ok (.iload_n 1, 1) := by decide +kernel
theorem dX2_recall_1 : decode cX2_recall 1 = .ok (.invokestatic 87, 3) := by decide +kernel
theorem dX2_recall_4 : decode cX2_recall 4 = .ok (.iload_n 2, 1) := by decide +kernel
theorem dX2_recall_5 : decode cX2_recall 5 = .ok (.iconst 1, 1) := by decide +kernel
theorem dX2_recall_6 : decode cX2_recall 6 = .ok (.sipush 600, 3) := by decide +kernel
theorem dX2_recall_9 : decode cX2_recall 9 = .ok (.invokestatic 51, 3) := by decide +kernel
theorem dX2_recall_12 : decode cX2_recall 12 = .ok (.aload_n 0, 1) := by decide +kernel
theorem dX2_recall_13 : decode cX2_recall 13 = .ok (.getfield 12, 3) := by decide +kernel
theorem dX2_recall_16 : decode cX2_recall 16 = .ok (.iload_n 1, 1) := by decide +kernel
theorem dX2_recall_17 : decode cX2_recall 17 = .ok (.invokevirtual 96, 3) := by decide +kernel
theorem dX2_recall_20 : decode cX2_recall 20 = .ok (.invokestatic 59, 3) := by decide +kernel
theorem dX2_recall_23 : decode cX2_recall 23 = .ok (.aload_n 0, 1) := by decide +kernel
theorem dX2_recall_24 : decode cX2_recall 24 = .ok (.invokevirtual 63, 3) := by decide +kernel
theorem dX2_recall_27 : decode cX2_recall 27 = .ok (.aload_n 0, 1) := by decide +kernel
theorem dX2_recall_28 : decode cX2_recall 28 = .ok (.getfield 12, 3) := by decide +kernel
theorem dX2_recall_31 : decode cX2_recall 31 = .ok (.iload_n 1, 1) := by decide +kernel
theorem dX2_recall_32 : decode cX2_recall 32 = .ok (.iload_n 2, 1) := by decide +kernel
theorem dX2_recall_33 : decode cX2_recall 33 = .ok (.invokevirtual 99, 3) := by decide +kernel
theorem dX2_recall_36 : decode cX2_recall 36 = .ok (.ireturn, 1) := by decide +kernel
theorem dX2_disconnect_0 : decode cX2_disconnect 0 = .ok (.iload_n 1, 1) := by decide +kernel
theorem dX2_disconnect_1 : decode cX2_disconnect 1 = .ok (.invokestatic 87, 3) := by decide +kernel
theorem dX2_disconnect_4 : decode cX2_disconnect 4 = .ok (.aload_n 0, 1) := by decide +kernel
theorem dX2_disconnect_5 : decode cX2_disconnect 5 = .ok (.getfield 12, 3) := by decide +kernel
theorem dX2_disconnect_8 : decode cX2_disconnect 8 = .ok (.iload_n 1, 1) := by decide +kernel
theorem dX2_disconnect_9 : decode cX2_disconnect 9 = .ok (.invokevirtual 102, 3) := by decide +kernel
theorem dX2_disconnect_12 : decode cX2_disconnect 12 = .ok (.invokestatic 59, 3) := by decide +kernel
theorem dX2_disconnect_15 : decode cX2_disconnect 15 = .ok (.aload_n 0, 1) := by decide +kernel
theorem dX2_disconnect_16 : decode cX2_disconnect 16 = .ok (.invokevirtual 63, 3) := by decide +kernel
theorem dX2_disconnect_19 : decode cX2_disconnect 19 = .ok (.aload_n 0, 1) := by decide +kernel
theorem dX2_disconnect_20 : decode cX2_disconnect 20 = .ok (.getfield 12, 3) := by decide +kernel
theorem dX2_disconnect_23 : decode cX2_disconnect 23 = .ok (.iload_n 1, 1) := by decide +kernel
theorem dX2_disconnect_24 : decode cX2_disconnect 24 = .ok (.invokevirtual 105, 3) := by decide +kernel
theorem dX2_disconnect_27 : decode cX2_disconnect 27 = .ok (.ireturn, 1) := by decide +kernel
theorem dX2_reconnect_0 : decode cX2_reconnect 0 = .ok (.iload_n 1, 1) := by decide +kernel
theorem dX2_reconnect_1 : decode cX2_reconnect 1 = .ok (.invokestatic 87, 3) := by decide +kernel
theorem dX2_reconnect_4 : decode cX2_reconnect 4 = .ok (.aload_n 0, 1) := by decide +kernel
theorem dX2_reconnect_5 : decode cX2_reconnect 5 = .ok (.getfield 12, 3) := by decide +kernel
theorem dX2_reconnect_8 : decode cX2_reconnect 8 = .ok (.iload_n 1, 1) := by decide +kernel
theorem dX2_reconnect_9 : decode cX2_reconnect 9 = .ok (.invokevirtual 108, 3) := by decide +kernel
theorem dX2_reconnect_12 : decode cX2_reconnect 12 = .ok (.invokestatic 59, 3) := by decide +kernel
theorem dX2_reconnect_15 : decode cX2_reconnect 15 = .ok (.aload_n 0, 1) := by decide +kernel
theorem dX2_reconnect_16 : decode cX2_reconnect 16 = .ok (.invokevirtual 63, 3) := by decide +kernel
theorem dX2_reconnect_19 : decode cX2_reconnect 19 = .ok (.aload_n 0, 1) := by decide +kernel
theorem dX2_reconnect_20 : decode cX2_reconnect 20 = .ok (.getfield 12, 3) := by decide +kernel
theorem dX2_reconnect_23 : decode cX2_reconnect 23 = .ok (.iload_n 1, 1) := by decide +kernel
theorem dX2_reconnect_24 : decode cX2_reconnect 24 = .ok (.invokevirtual 111, 3) := by decide +kernel
theorem dX2_reconnect_27 : decode cX2_reconnect 27 = .ok (.ireturn, 1) := by decide +kernel
theorem dX2_crash_0 : decode cX2_crash 0 = .ok (.iload_n 1, 1) := by decide +kernel
theorem dX2_crash_1 : decode cX2_crash 1 = .ok (.invokestatic 87, 3) := by decide +kernel
theorem dX2_crash_4 : decode cX2_crash 4 = .ok (.aload_n 0, 1) := by decide +kernel
theorem dX2_crash_5 : decode cX2_crash 5 = .ok (.getfield 12, 3) := by decide +kernel
theorem dX2_crash_8 : decode cX2_crash 8 = .ok (.iload_n 1, 1) := by decide +kernel
theorem dX2_crash_9 : decode cX2_crash 9 = .ok (.invokevirtual 114, 3) := by decide +kernel
theorem dX2_crash_12 : decode cX2_crash 12 = .ok (.invokestatic 59, 3) := by decide +kernel
theorem dX2_crash_15 : decode cX2_crash 15 = .ok (.aload_n 0, 1) := by decide +kernel
theorem dX2_crash_16 : decode cX2_crash 16 = .ok (.invokevirtual 63, 3) := by decide +kernel
theorem dX2_crash_19 : decode cX2_crash 19 = .ok (.aload_n 0, 1) := by decide +kernel
theorem dX2_crash_20 : decode cX2_crash 20 = .ok (.getfield 12, 3) := by decide +kernel
theorem dX2_crash_23 : decode cX2_crash 23 = .ok (.iload_n 1, 1) := by decide +kernel
theorem dX2_crash_24 : decode cX2_crash 24 = .ok (.invokevirtual 117, 3) := by decide +kernel
theorem dX2_crash_27 : decode cX2_crash 27 = .ok (.ireturn, 1) := by decide +kernel
theorem dX2_pass_0 : decode cX2_pass 0 = .ok (.iload_n 1, 1) := by decide +kernel
theorem dX2_pass_1 : decode cX2_pass 1 = .ok (.iconst 1, 1) := by decide +kernel
theorem dX2_pass_2 : decode cX2_pass 2 = .ok (.sipush 600, 3) := by decide +kernel
theorem dX2_pass_5 : decode cX2_pass 5 = .ok (.invokestatic 51, 3) := by decide +kernel
theorem dX2_pass_8 : decode cX2_pass 8 = .ok (.aload_n 0, 1) := by decide +kernel
theorem dX2_pass_9 : decode cX2_pass 9 = .ok (.getfield 12, 3) := by decide +kernel
theorem dX2_pass_12 : decode cX2_pass 12 = .ok (.iload_n 1, 1) := by decide +kernel
theorem dX2_pass_13 : decode cX2_pass 13 = .ok (.invokevirtual 120, 3) := by decide +kernel
theorem dX2_pass_16 : decode cX2_pass 16 = .ok (.invokestatic 59, 3) := by decide +kernel
theorem dX2_pass_19 : decode cX2_pass 19 = .ok (.aload_n 0, 1) := by decide +kernel
theorem dX2_pass_20 : decode cX2_pass 20 = .ok (.invokevirtual 63, 3) := by decide +kernel
theorem dX2_pass_23 : decode cX2_pass 23 = .ok (.aload_n 0, 1) := by decide +kernel
theorem dX2_pass_24 : decode cX2_pass 24 = .ok (.getfield 12, 3) := by decide +kernel
theorem dX2_pass_27 : decode cX2_pass 27 = .ok (.iload_n 1, 1) := by decide +kernel
theorem dX2_pass_28 : decode cX2_pass 28 = .ok (.invokevirtual 123, 3) := by decide +kernel
theorem dX2_pass_31 : decode cX2_pass 31 = .ok (.ireturn, 1) := by decide +kernel
theorem dX2_setTransferTime_0 : decode cX2_setTransferTime 0 = .ok (.iload_n 1, 1) := by decide +kernel
theorem dX2_setTransferTime_1 : decode cX2_setTransferTime 1 = .ok (.iconst 1, 1) := by decide +kernel
theorem dX2_setTransferTime_2 : decode cX2_setTransferTime 2 = .ok (.bipush 60, 2) := by decide +kernel
theorem dX2_setTransferTime_4 : decode cX2_setTransferTime 4 = .ok (.invokestatic 51, 3) := by decide +kernel
theorem dX2_setTransferTime_7 : decode cX2_setTransferTime 7 = .ok (.aload_n 0, 1) := by decide +kernel
theorem dX2_setTransferTime_8 : decode cX2_setTransferTime 8 = .ok (.invokevirtual 63, 3) := by decide +kernel
theorem dX2_setTransferTime_11 : decode cX2_setTransferTime 11 = .ok (.aload_n 0, 1) := by decide +kernel
theorem dX2_setTransferTime_12 : decode cX2_setTransferTime 12 = .ok (.getfield 12, 3) := by decide +kernel
theorem dX2_setTransferTime_15 : decode cX2_setTransferTime 15 = .ok (.getfield 126, 3) := by decide +kernel
theorem dX2_setTransferTime_18 : decode cX2_setTransferTime 18 = .ok (.istore_n 2, 1) := by decide +kernel
theorem dX2_setTransferTime_19 : decode cX2_setTransferTime 19 = .ok (.aload_n 0, 1) := by decide +kernel
theorem dX2_setTransferTime_20 : decode cX2_setTransferTime 20 = .ok (.getfield 12, 3) := by decide +kernel
theorem dX2_setTransferTime_23 : decode cX2_setTransferTime 23 = .ok (.iload_n 1, 1) := by decide +kernel
theorem dX2_setTransferTime_24 : decode cX2_setTransferTime 24 = .ok (.putfield 126, 3) := by decide +kernel
theorem dX2_setTransferTime_27 : decode cX2_setTransferTime 27 = .ok (.iload_n 2, 1) := by decide +kernel
theorem dX2_setTransferTime_28 : decode cX2_setTransferTime 28 = .ok (.ireturn, 1) := by decide +kernel
theorem dX2_appendText_0 : decode cX2_appendText 0 = .ok (.iload_n 1, 1) := by decide +kernel
theorem dX2_appendText_1 : decode cX2_appendText 1 = .ok (.bipush 32, 2) := by decide +kernel
theorem dX2_appendText_3 : decode cX2_appendText 3 = .ok (.bipush 126, 2) := by decide +kernel
theorem dX2_appendText_5 : decode cX2_appendText 5 = .ok (.invokestatic 51, 3) := by decide +kernel
theorem dX2_appendText_8 : decode cX2_appendText 8 = .ok (.aload_n 0, 1) := by decide +kernel
theorem dX2_appendText_9 : decode cX2_appendText 9 = .ok (.getfield 37, 3) := by decide +kernel
theorem dX2_appendText_12 : decode cX2_appendText 12 = .ok (.bipush 80, 2) := by decide +kernel
theorem dX2_appendText_14 : decode cX2_appendText 14 = .ok (.if_icmp .ge 7, 3) := by decide +kernel
theorem dX2_appendText_17 : decode cX2_appendText 17 = .ok (.iconst 1, 1) := by decide +kernel
theorem dX2_appendText_18 : decode cX2_appendText 18 = .ok (.goto 4, 3) := by decide +kernel
theorem dX2_appendText_21 : decode cX2_appendText 21 = .ok (.iconst 0, 1) := by decide +kernel
theorem dX2_appendText_22 : decode cX2_appendText 22 = .ok (.invokestatic 59, 3) := by decide +kernel
theorem dX2_appendText_25 : decode cX2_appendText 25 = .ok (.aload_n 0, 1) := by decide +kernel
theorem dX2_appendText_26 : decode cX2_appendText 26 = .ok (.getfield 33, 3) := by decide +kernel
theorem dX2_appendText_29 : decode cX2_appendText 29 = .ok (.aload_n 0, 1) := by decide +kernel
theorem dX2_appendText_30 : decode cX2_appendText 30 = .ok (.getfield 37, 3) := by decide +kernel
theorem dX2_appendText_33 : decode cX2_appendText 33 = .ok (.iload_n 1, 1) := by decide +kernel
theorem dX2_appendText_34 : decode cX2_appendText 34 = .ok (.i2c, 1) := by decide +kernel
theorem dX2_appendText_35 : decode cX2_appendText 35 = .ok (.castore, 1) := by decide +kernel
theorem dX2_appendText_36 : decode cX2_appendText 36 = .ok (.aload_n 0, 1) := by decide +kernel
theorem dX2_appendText_37 : decode cX2_appendText 37 = .ok (.dup, 1) := by decide +kernel
theorem dX2_appendText_38 : decode cX2_appendText 38 = .ok (.getfield 37, 3) := by decide +kernel
theorem dX2_appendText_41 : decode cX2_appendText 41 = .ok (.iconst 1, 1) := by decide +kernel
theorem dX2_appendText_42 : decode cX2_appendText 42 = .ok (.iadd, 1) := by decide +kernel
theorem dX2_appendText_43 : decode cX2_appendText 43 = .ok (.putfield 37, 3) := by decide +kernel
theorem dX2_appendText_46 : decode cX2_appendText 46 = .ok (.aload_n 0, 1) := by decide +kernel
theorem dX2_appendText_47 : decode cX2_appendText 47 = .ok (.getfield 37, 3) := by decide +kernel
theorem dX2_appendText_50 : decode cX2_appendText 50 = .ok (.ireturn, 1) := by decide +kernel
theorem dX2_clearText_0 : decode cX2_clearText 0 = .ok (.aload_n 0, 1) := by decide +kernel
theorem dX2_clearText_1 : decode cX2_clearText 1 = .ok (.getfield 37, 3) := by decide +kernel
theorem dX2_clearText_4 : decode cX2_clearText 4 = .ok (.istore_n 1, 1) := by decide +kernel
theorem dX2_clearText_5 : decode cX2_clearText 5 = .ok (.aload_n 0, 1) := by decide +kernel
theorem dX2_clearText_6 : decode cX2_clearText 6 = .ok (.iconst 0, 1) := by decide +kernel
theorem dX2_clearText_7 : decode cX2_clearText 7 = .ok (.putfield 37, 3) := by decide +kernel
theorem dX2_clearText_10 : decode cX2_clearText 10 = .ok (.iload_n 1, 1) := by decide +kernel
theorem dX2_clearText_11 : decode cX2_clearText 11 = .ok (.ireturn, 1) := by decide +kernel
theorem dX2_errorPosition_0 : decode cX2_errorPosition 0 = .ok (.aload_n 0, 1) := by decide +kernel
theorem dX2_errorPosition_1 : decode cX2_errorPosition 1 = .ok (.getfield 43, 3) := by decide +kernel
theorem dX2_errorPosition_4 : decode cX2_errorPosition 4 = .ok (.invokevirtual 129, 3) := by decide +kernel
theorem dX2_errorPosition_7 : decode cX2_errorPosition 7 = .ok (.iconst 0, 1) := by decide +kernel
theorem dX2_errorPosition_8 : decode cX2_errorPosition 8 = .ok (.istore_n 1, 1) := by decide +kernel
theorem dX2_errorPosition_9 : decode cX2_errorPosition 9 = .ok (.iload_n 1, 1) := by decide +kernel
theorem dX2_errorPosition_10 : decode cX2_errorPosition 10 = .ok (.aload_n 0, 1) := by decide +kernel
theorem dX2_errorPosition_11 : decode cX2_errorPosition 11 = .ok (.getfield 37, 3) := by decide +kernel
theorem dX2_errorPosition_14 : decode cX2_errorPosition 14 = .ok (.if_icmp .ge 27, 3) := by decide +kernel
theorem dX2_errorPosition_17 : decode cX2_errorPosition 17 = .ok (.aload_n 0, 1) := by decide +kernel
theorem dX2_errorPosition_18 : decode cX2_errorPosition 18 = .ok (.getfield 43, 3) := by decide +kernel
theorem dX2_errorPosition_21 : decode cX2_errorPosition 21 = .ok (.aload_n 0, 1) := by decide +kernel
theorem dX2_errorPosition_22 : decode cX2_errorPosition 22 = .ok (.getfield 33, 3) := by decide +kernel
theorem dX2_errorPosition_25 : decode cX2_errorPosition 25 = .ok (.iload_n 1, 1) := by decide +kernel
theorem dX2_errorPosition_26 : decode cX2_errorPosition 26 = .ok (.caload, 1) := by decide +kernel
theorem dX2_errorPosition_27 : decode cX2_errorPosition 27 = .ok (.invokevirtual 132, 3) := by decide +kernel
theorem dX2_errorPosition_30 : decode cX2_errorPosition 30 = .ok (.ifCond .ne 5, 3) := by decide +kernel
theorem dX2_errorPosition_33 : decode cX2_errorPosition 33 = .ok (.iload_n 1, 1) := by decide +kernel
theorem dX2_errorPosition_34 : decode cX2_errorPosition 34 = .ok (.ireturn, 1) := by decide +kernel
theorem dX2_errorPosition_35 : decode cX2_errorPosition 35 = .ok (.iinc 1 1, 3) := by decide +kernel
theorem dX2_errorPosition_38 : decode cX2_errorPosition 38 = .ok (.goto (-29), 3) := by decide +kernel
theorem dX2_errorPosition_41 : decode cX2_errorPosition 41 = .ok (.aload_n 0, 1) := by decide +kernel
theorem dX2_errorPosition_42 : decode cX2_errorPosition 42 = .ok (.getfield 43, 3) := by decide +kernel
theorem dX2_errorPosition_45 : decode cX2_errorPosition 45 = .ok (.invokevirtual 136, 3) := by decide +kernel
theorem dX2_errorPosition_48 : decode cX2_errorPosition 48 = .ok (.ifCond .eq 7, 3) := by decide +kernel
theorem dX2_errorPosition_51 : decode cX2_errorPosition 51 = .ok (.iconst (-1), 1) := by decide +kernel
theorem dX2_errorPosition_52 : decode cX2_errorPosition 52 = .ok (.goto 7, 3) := by decide +kernel
theorem dX2_errorPosition_55 : decode cX2_errorPosition 55 = .ok (.aload_n 0, 1) := by decide +kernel
theorem dX2_errorPosition_56 : decode cX2_errorPosition 56 = .ok (.getfield 37, 3) := by decide +kernel
theorem dX2_errorPosition_59 : decode cX2_errorPosition 59 = .ok (.ireturn, 1) := by decide +kernel
theorem dX2_runText_0 : decode cX2_runText 0 = .ok (.aload_n 0, 1) := by decide +kernel
theorem dX2_runText_1 : decode cX2_runText 1 = .ok (.invokevirtual 140, 3) := by decide +kernel
theorem dX2_runText_4 : decode cX2_runText 4 = .ok (.iconst (-1), 1) := by decide +kernel
theorem dX2_runText_5 : decode cX2_runText 5 = .ok (.if_icmp .ne 7, 3) := by decide +kernel
theorem dX2_runText_8 : decode cX2_runText 8 = .ok (.iconst 1, 1) := by decide +kernel
theorem dX2_runText_9 : decode cX2_runText 9 = .ok (.goto 4, 3) := by decide +kernel
theorem dX2_runText_12 : decode cX2_runText 12 = .ok (.iconst 0, 1) := by decide +kernel
theorem dX2_runText_13 : decode cX2_runText 13 = .ok (.invokestatic 59, 3) := by decide +kernel
theorem dX2_runText_16 : decode cX2_runText 16 = .ok (.aload_n 0, 1) := by decide +kernel
theorem dX2_runText_17 : decode cX2_runText 17 = .ok (.invokevirtual 63, 3) := by decide +kernel
theorem dX2_runText_20 : decode cX2_runText 20 = .ok (.iconst 0, 1) := by decide +kernel
theorem dX2_runText_21 : decode cX2_runText 21 = .ok (.istore_n 1, 1) := by decide +kernel
theorem dX2_runText_22 : decode cX2_runText 22 = .ok (.aload_n 0, 1) := by decide +kernel
theorem dX2_runText_23 : decode cX2_runText 23 = .ok (.getfield 43, 3) := by decide +kernel
theorem dX2_runText_26 : decode cX2_runText 26 = .ok (.invokevirtual 129, 3) := by decide +kernel
theorem dX2_runText_29 : decode cX2_runText 29 = .ok (.iconst 0, 1) := by decide +kernel
theorem dX2_runText_30 : decode cX2_runText 30 = .ok (.istore_n 2, 1) := by decide +kernel
theorem dX2_runText_31 : decode cX2_runText 31 = .ok (.iload_n 2, 1) := by decide +kernel
theorem dX2_runText_32 : decode cX2_runText 32 = .ok (.aload_n 0, 1) := by decide +kernel
theorem dX2_runText_33 : decode cX2_runText 33 = .ok (.getfield 37, 3) := by decide +kernel
theorem dX2_runText_36 : decode cX2_runText 36 = .ok (.if_icmp .gt 86, 3) := by decide +kernel
theorem dX2_runText_39 : decode cX2_runText 39 = .ok (.iload_n 2, 1) := by decide +kernel
theorem dX2_runText_40 : decode cX2_runText 40 = .ok (.aload_n 0, 1) := by decide +kernel
theorem dX2_runText_41 : decode cX2_runText 41 = .ok (.getfield 37, 3) := by decide +kernel
theorem dX2_runText_44 : decode cX2_runText 44 = .ok (.if_icmp .ge 31, 3) := by decide +kernel
theorem dX2_runText_47 : decode cX2_runText 47 = .ok (.aload_n 0, 1) := by decide +kernel
theorem dX2_runText_48 : decode cX2_runText 48 = .ok (.getfield 33, 3) := by decide +kernel
theorem dX2_runText_51 : decode cX2_runText 51 = .ok (.iload_n 2, 1) := by decide +kernel
theorem dX2_runText_52 : decode cX2_runText 52 = .ok (.caload, 1) := by decide +kernel
theorem dX2_runText_53 : decode cX2_runText 53 = .ok (.bipush 59, 2) := by decide +kernel
theorem dX2_runText_55 : decode cX2_runText 55 = .ok (.if_icmp .eq 20, 3) := by decide +kernel
theorem dX2_runText_58 : decode cX2_runText 58 = .ok (.aload_n 0, 1) := by decide +kernel
theorem dX2_runText_59 : decode cX2_runText 59 = .ok (.getfield 43, 3) := by decide +kernel
theorem dX2_runText_62 : decode cX2_runText 62 = .ok (.aload_n 0, 1) := by decide +kernel
theorem dX2_runText_63 : decode cX2_runText 63 = .ok (.getfield 33, 3) := by decide +kernel
theorem dX2_runText_66 : decode cX2_runText 66 = .ok (.iload_n 2, 1) := by decide +kernel
theorem dX2_runText_67 : decode cX2_runText 67 = .ok (.caload, 1) := by decide +kernel
theorem dX2_runText_68 : decode cX2_runText 68 = .ok (.invokevirtual 132, 3) := by decide +kernel
theorem dX2_runText_71 : decode cX2_runText 71 = .ok (.pop, 1) := by decide +kernel
theorem dX2_runText_72 : decode cX2_runText 72 = .ok (.goto 44, 3) := by decide +kernel
theorem dX2_runText_75 : decode cX2_runText 75 = .ok (.aload_n 0, 1) := by decide +kernel
theorem dX2_runText_76 : decode cX2_runText 76 = .ok (.aload_n 0, 1) := by decide +kernel
theorem dX2_runText_77 : decode cX2_runText 77 = .ok (.getfield 43, 3) := by decide +kernel
theorem dX2_runText_80 : decode cX2_runText 80 = .ok (.getfield 144, 3) := by decide +kernel
theorem dX2_runText_83 : decode cX2_runText 83 = .ok (.aload_n 0, 1) := by decide +kernel
theorem dX2_runText_84 : decode cX2_runText 84 = .ok (.getfield 43, 3) := by decide +kernel
theorem dX2_runText_87 : decode cX2_runText 87 = .ok (.getfield 148, 3) := by decide +kernel
theorem dX2_runText_90 : decode cX2_runText 90 = .ok (.aload_n 0, 1) := by decide +kernel
theorem dX2_runText_91 : decode cX2_runText 91 = .ok (.getfield 43, 3) := by decide +kernel
theorem dX2_runText_94 : decode cX2_runText 94 = .ok (.getfield 151, 3) := by decide +kernel
theorem dX2_runText_97 : decode cX2_runText 97 = .ok (.invokevirtual 154, 3) := by decide +kernel
theorem dX2_runText_100 : decode cX2_runText 100 = .ok (.ifCond .ne 6, 3) := by decide +kernel
theorem dX2_runText_103 : decode cX2_runText 103 = .ok (.goto 19, 3) := by decide +kernel
theorem dX2_runText_106 : decode cX2_runText 106 = .ok (.iinc 1 1, 3) := by decide +kernel
theorem dX2_runText_109 : decode cX2_runText 109 = .ok (.aload_n 0, 1) := by decide +kernel
theorem dX2_runText_110 : decode cX2_runText 110 = .ok (.getfield 43, 3) := by decide +kernel
theorem dX2_runText_113 : decode cX2_runText 113 = .ok (.invokevirtual 129, 3) := by decide +kernel
theorem dX2_runText_116 : decode cX2_runText 116 = .ok (.iinc 2 1, 3) := by decide +kernel
theorem dX2_runText_119 : decode cX2_runText 119 = .ok (.goto (-88), 3) := by decide +kernel
theorem dX2_runText_122 : decode cX2_runText 122 = .ok (.iload_n 1, 1) := by decide +kernel
theorem dX2_runText_123 : decode cX2_runText 123 = .ok (.ireturn, 1) := by decide +kernel
theorem dX2_undo_0 : decode cX2_undo 0 = .ok (.aload_n 0, 1) := by decide +kernel
theorem dX2_undo_1 : decode cX2_undo 1 = .ok (.getfield 23, 3) := by decide +kernel
theorem dX2_undo_4 : decode cX2_undo 4 = .ok (.ifCond .le 7, 3) := by decide +kernel
theorem dX2_undo_7 : decode cX2_undo 7 = .ok (.iconst 1, 1) := by decide +kernel
theorem dX2_undo_8 : decode cX2_undo 8 = .ok (.goto 4, 3) := by decide +kernel
theorem dX2_undo_11 : decode cX2_undo 11 = .ok (.iconst 0, 1) := by decide +kernel
theorem dX2_undo_12 : decode cX2_undo 12 = .ok (.invokestatic 59, 3) := by decide +kernel
theorem dX2_undo_15 : decode cX2_undo 15 = .ok (.aload_n 0, 1) := by decide +kernel
theorem dX2_undo_16 : decode cX2_undo 16 = .ok (.dup, 1) := by decide +kernel
theorem dX2_undo_17 : decode cX2_undo 17 = .ok (.getfield 23, 3) := by decide +kernel
theorem dX2_undo_20 : decode cX2_undo 20 = .ok (.iconst 1, 1) := by decide +kernel
theorem dX2_undo_21 : decode cX2_undo 21 = .ok (.isub, 1) := by decide +kernel
theorem dX2_undo_22 : decode cX2_undo 22 = .ok (.putfield 23, 3) := by decide +kernel
theorem dX2_undo_25 : decode cX2_undo 25 = .ok (.aload_n 0, 1) := by decide +kernel
theorem dX2_undo_26 : decode cX2_undo 26 = .ok (.getfield 19, 3) := by decide +kernel
theorem dX2_undo_29 : decode cX2_undo 29 = .ok (.aload_n 0, 1) := by decide +kernel
theorem dX2_undo_30 : decode cX2_undo 30 = .ok (.getfield 23, 3) := by decide +kernel
theorem dX2_undo_33 : decode cX2_undo 33 = .ok (.aaload, 1) := by decide +kernel
theorem dX2_undo_34 : decode cX2_undo 34 = .ok (.aload_n 0, 1) := by decide +kernel
theorem dX2_undo_35 : decode cX2_undo 35 = .ok (.getfield 12, 3) := by decide +kernel
theorem dX2_undo_38 : decode cX2_undo 38 = .ok (.invokestatic 158, 3) := by decide +kernel
theorem dX2_undo_41 : decode cX2_undo 41 = .ok (.aload_n 0, 1) := by decide +kernel
theorem dX2_undo_42 : decode cX2_undo 42 = .ok (.getfield 23, 3) := by decide +kernel
theorem dX2_undo_45 : decode cX2_undo 45 = .ok (.ireturn, 1) := by decide +kernel
theorem dX2_save_0 : decode cX2_save 0 = .ok (.iload_n 1, 1) := by decide +kernel
theorem dX2_save_1 : decode cX2_save 1 = .ok (.iconst 2, 1) := by decide +kernel
theorem dX2_save_2 : decode cX2_save 2 = .ok (.invokestatic 162, 3) := by decide +kernel
theorem dX2_save_5 : decode cX2_save 5 = .ok (.aload_n 0, 1) := by decide +kernel
theorem dX2_save_6 : decode cX2_save 6 = .ok (.getfield 12, 3) := by decide +kernel
theorem dX2_save_9 : decode cX2_save 9 = .ok (.aload_n 0, 1) := by decide +kernel
theorem dX2_save_10 : decode cX2_save 10 = .ok (.getfield 27, 3) := by decide +kernel
theorem dX2_save_13 : decode cX2_save 13 = .ok (.iload_n 1, 1) := by decide +kernel
theorem dX2_save_14 : decode cX2_save 14 = .ok (.aaload, 1) := by decide +kernel
theorem dX2_save_15 : decode cX2_save 15 = .ok (.invokestatic 158, 3) := by decide +kernel
theorem dX2_save_18 : decode cX2_save 18 = .ok (.aload_n 0, 1) := by decide +kernel
theorem dX2_save_19 : decode cX2_save 19 = .ok (.dup, 1) := by decide +kernel
theorem dX2_save_20 : decode cX2_save 20 = .ok (.getfield 30, 3) := by decide +kernel
theorem dX2_save_23 : decode cX2_save 23 = .ok (.iconst 1, 1) := by decide +kernel
theorem dX2_save_24 : decode cX2_save 24 = .ok (.iload_n 1, 1) := by decide +kernel
theorem dX2_save_25 : decode cX2_save 25 = .ok (.ishl, 1) := by decide +kernel
theorem dX2_save_26 : decode cX2_save 26 = .ok (.ior, 1) := by decide +kernel
theorem dX2_save_27 : decode cX2_save 27 = .ok (.putfield 30, 3) := by decide +kernel
theorem dX2_save_30 : decode cX2_save 30 = .ok (.aload_n 0, 1) := by decide +kernel
theorem dX2_save_31 : decode cX2_save 31 = .ok (.getfield 12, 3) := by decide +kernel
theorem dX2_save_34 : decode cX2_save 34 = .ok (.getfield 166, 3) := by decide +kernel
theorem dX2_save_37 : decode cX2_save 37 = .ok (.ireturn, 1) := by decide +kernel
theorem dX2_restore_0 : decode cX2_restore 0 = .ok (.iload_n 1, 1) := by decide +kernel
theorem dX2_restore_1 : decode cX2_restore 1 = .ok (.iconst 2, 1) := by decide +kernel
theorem dX2_restore_2 : decode cX2_restore 2 = .ok (.invokestatic 162, 3) := by decide +kernel
theorem dX2_restore_5 : decode cX2_restore 5 = .ok (.aload_n 0, 1) := by decide +kernel
theorem dX2_restore_6 : decode cX2_restore 6 = .ok (.getfield 30, 3) := by decide +kernel
theorem dX2_restore_9 : decode cX2_restore 9 = .ok (.iload_n 1, 1) := by decide +kernel
theorem dX2_restore_10 : decode cX2_restore 10 = .ok (.invokestatic 169, 3) := by decide +kernel
theorem dX2_restore_13 : decode cX2_restore 13 = .ok (.invokestatic 59, 3) := by decide +kernel
theorem dX2_restore_16 : decode cX2_restore 16 = .ok (.aload_n 0, 1) := by decide +kernel
theorem dX2_restore_17 : decode cX2_restore 17 = .ok (.invokevirtual 63, 3) := by decide +kernel
theorem dX2_restore_20 : decode cX2_restore 20 = .ok (.aload_n 0, 1) := by decide +kernel
theorem dX2_restore_21 : decode cX2_restore 21 = .ok (.getfield 27, 3) := by decide +kernel
theorem dX2_restore_24 : decode cX2_restore 24 = .ok (.iload_n 1, 1) := by decide +kernel
theorem dX2_restore_25 : decode cX2_restore 25 = .ok (.aaload, 1) := by decide +kernel
theorem dX2_restore_26 : decode cX2_restore 26 = .ok (.aload_n 0, 1) := by decide +kernel
theorem dX2_restore_27 : decode cX2_restore 27 = .ok (.getfield 12, 3) := by decide +kernel
theorem dX2_restore_30 : decode cX2_restore 30 = .ok (.invokestatic 158, 3) := by decide +kernel
theorem dX2_restore_33 : decode cX2_restore 33 = .ok (.aload_n 0, 1) := by decide +kernel
theorem dX2_restore_34 : decode cX2_restore 34 = .ok (.getfield 12, 3) := by decide +kernel
theorem dX2_restore_37 : decode cX2_restore 37 = .ok (.getfield 166, 3) := by decide +kernel
theorem dX2_restore_40 : decode cX2_restore 40 = .ok (.ireturn, 1) := by decide +kernel
theorem dX2_status_0 : decode cX2_status 0 = .ok (.iload_n 1, 1) := by decide +kernel
theorem dX2_status_1 : decode cX2_status 1 = .ok (.invokestatic 47, 3) := by decide +kernel
theorem dX2_status_4 : decode cX2_status 4 = .ok (.aload_n 0, 1) := by decide +kernel
theorem dX2_status_5 : decode cX2_status 5 = .ok (.getfield 12, 3) := by decide +kernel
theorem dX2_status_8 : decode cX2_status 8 = .ok (.iload_n 1, 1) := by decide +kernel
theorem dX2_status_9 : decode cX2_status 9 = .ok (.invokevirtual 173, 3) := by decide +kernel
theorem dX2_status_12 : decode cX2_status 12 = .ok (.ireturn, 1) := by decide +kernel
theorem dX2_copies_0 : decode cX2_copies 0 = .ok (.iload_n 1, 1) := by decide +kernel
theorem dX2_copies_1 : decode cX2_copies 1 = .ok (.invokestatic 47, 3) := by decide +kernel
theorem dX2_copies_4 : decode cX2_copies 4 = .ok (.aload_n 0, 1) := by decide +kernel
theorem dX2_copies_5 : decode cX2_copies 5 = .ok (.getfield 12, 3) := by decide +kernel
theorem dX2_copies_8 : decode cX2_copies 8 = .ok (.iload_n 1, 1) := by decide +kernel
theorem dX2_copies_9 : decode cX2_copies 9 = .ok (.invokevirtual 176, 3) := by decide +kernel
theorem dX2_copies_12 : decode cX2_copies 12 = .ok (.ireturn, 1) := by decide +kernel
theorem dX2_countStatus_0 : decode cX2_countStatus 0 = .ok (.iload_n 1, 1) := by decide +kernel
theorem dX2_countStatus_1 : decode cX2_countStatus 1 = .ok (.bipush (-2), 2) := by decide +kernel
theorem dX2_countStatus_3 : decode cX2_countStatus 3 = .ok (.if_icmp .eq 9, 3) := by decide +kernel
theorem dX2_countStatus_6 : decode cX2_countStatus 6 = .ok (.iload_n 1, 1) := by decide +kernel
theorem dX2_countStatus_7 : decode cX2_countStatus 7 = .ok (.iconst 0, 1) := by decide +kernel
theorem dX2_countStatus_8 : decode cX2_countStatus 8 = .ok (.iconst 2, 1) := by decide +kernel
theorem dX2_countStatus_9 : decode cX2_countStatus 9 = .ok (.invokestatic 51, 3) := by decide +kernel
theorem dX2_countStatus_12 : decode cX2_countStatus 12 = .ok (.aload_n 0, 1) := by decide +kernel
theorem dX2_countStatus_13 : decode cX2_countStatus 13 = .ok (.getfield 12, 3) := by decide +kernel
theorem dX2_countStatus_16 : decode cX2_countStatus 16 = .ok (.iload_n 1, 1) := by decide +kernel
theorem dX2_countStatus_17 : decode cX2_countStatus 17 = .ok (.invokevirtual 179, 3) := by decide +kernel
theorem dX2_countStatus_20 : decode cX2_countStatus 20 = .ok (.ireturn, 1) := by decide +kernel
theorem dX2_mode_0 : decode cX2_mode 0 = .ok (.iload_n 1, 1) := by decide +kernel
theorem dX2_mode_1 : decode cX2_mode 1 = .ok (.invokestatic 87, 3) := by decide +kernel
theorem dX2_mode_4 : decode cX2_mode 4 = .ok (.aload_n 0, 1) := by decide +kernel
theorem dX2_mode_5 : decode cX2_mode 5 = .ok (.getfield 12, 3) := by decide +kernel
theorem dX2_mode_8 : decode cX2_mode 8 = .ok (.getfield 182, 3) := by decide +kernel
theorem dX2_mode_11 : decode cX2_mode 11 = .ok (.iload_n 1, 1) := by decide +kernel
theorem dX2_mode_12 : decode cX2_mode 12 = .ok (.iaload, 1) := by decide +kernel
theorem dX2_mode_13 : decode cX2_mode 13 = .ok (.ireturn, 1) := by decide +kernel
theorem dX2_isConnected_0 : decode cX2_isConnected 0 = .ok (.iload_n 1, 1) := by decide +kernel
theorem dX2_isConnected_1 : decode cX2_isConnected 1 = .ok (.invokestatic 87, 3) := by decide +kernel
theorem dX2_isConnected_4 : decode cX2_isConnected 4 = .ok (.aload_n 0, 1) := by decide +kernel
theorem dX2_isConnected_5 : decode cX2_isConnected 5 = .ok (.getfield 12, 3) := by decide +kernel
theorem dX2_isConnected_8 : decode cX2_isConnected 8 = .ok (.getfield 185, 3) := by decide +kernel
theorem dX2_isConnected_11 : decode cX2_isConnected 11 = .ok (.iload_n 1, 1) := by decide +kernel
theorem dX2_isConnected_12 : decode cX2_isConnected 12 = .ok (.invokestatic 169, 3) := by decide +kernel
theorem dX2_isConnected_15 : decode cX2_isConnected 15 = .ok (.ireturn, 1) := by decide +kernel
theorem dX2_usedRoom_0 : decode cX2_usedRoom 0 = .ok (.iload_n 1, 1) := by decide +kernel
theorem dX2_usedRoom_1 : decode cX2_usedRoom 1 = .ok (.invokestatic 87, 3) := by decide +kernel
theorem dX2_usedRoom_4 : decode cX2_usedRoom 4 = .ok (.aload_n 0, 1) := by decide +kernel
theorem dX2_usedRoom_5 : decode cX2_usedRoom 5 = .ok (.getfield 12, 3) := by decide +kernel
theorem dX2_usedRoom_8 : decode cX2_usedRoom 8 = .ok (.iload_n 1, 1) := by decide +kernel
theorem dX2_usedRoom_9 : decode cX2_usedRoom 9 = .ok (.invokevirtual 188, 3) := by decide +kernel
theorem dX2_usedRoom_12 : decode cX2_usedRoom 12 = .ok (.ireturn, 1) := by decide +kernel
theorem dX2_freeRoom_0 : decode cX2_freeRoom 0 = .ok (.iload_n 1, 1) := by decide +kernel
theorem dX2_freeRoom_1 : decode cX2_freeRoom 1 = .ok (.invokestatic 87, 3) := by decide +kernel
theorem dX2_freeRoom_4 : decode cX2_freeRoom 4 = .ok (.aload_n 0, 1) := by decide +kernel
theorem dX2_freeRoom_5 : decode cX2_freeRoom 5 = .ok (.getfield 12, 3) := by decide +kernel
theorem dX2_freeRoom_8 : decode cX2_freeRoom 8 = .ok (.iload_n 1, 1) := by decide +kernel
theorem dX2_freeRoom_9 : decode cX2_freeRoom 9 = .ok (.invokevirtual 191, 3) := by decide +kernel
theorem dX2_freeRoom_12 : decode cX2_freeRoom 12 = .ok (.ireturn, 1) := by decide +kernel
theorem dX2_deadlineIn_0 : decode cX2_deadlineIn 0 = .ok (.iload_n 1, 1) := by decide +kernel
theorem dX2_deadlineIn_1 : decode cX2_deadlineIn 1 = .ok (.invokestatic 87, 3) := by decide +kernel
theorem dX2_deadlineIn_4 : decode cX2_deadlineIn 4 = .ok (.aload_n 0, 1) := by decide +kernel
theorem dX2_deadlineIn_5 : decode cX2_deadlineIn 5 = .ok (.getfield 12, 3) := by decide +kernel
theorem dX2_deadlineIn_8 : decode cX2_deadlineIn 8 = .ok (.getfield 182, 3) := by decide +kernel
theorem dX2_deadlineIn_11 : decode cX2_deadlineIn 11 = .ok (.iload_n 1, 1) := by decide +kernel
theorem dX2_deadlineIn_12 : decode cX2_deadlineIn 12 = .ok (.iaload, 1) := by decide +kernel
theorem dX2_deadlineIn_13 : decode cX2_deadlineIn 13 = .ok (.iconst 2, 1) := by decide +kernel
theorem dX2_deadlineIn_14 : decode cX2_deadlineIn 14 = .ok (.if_icmp .ne 23, 3) := by decide +kernel
theorem dX2_deadlineIn_17 : decode cX2_deadlineIn 17 = .ok (.aload_n 0, 1) := by decide +kernel
theorem dX2_deadlineIn_18 : decode cX2_deadlineIn 18 = .ok (.getfield 12, 3) := by decide +kernel
theorem dX2_deadlineIn_21 : decode cX2_deadlineIn 21 = .ok (.getfield 194, 3) := by decide +kernel
theorem dX2_deadlineIn_24 : decode cX2_deadlineIn 24 = .ok (.iload_n 1, 1) := by decide +kernel
theorem dX2_deadlineIn_25 : decode cX2_deadlineIn 25 = .ok (.iaload, 1) := by decide +kernel
theorem dX2_deadlineIn_26 : decode cX2_deadlineIn 26 = .ok (.aload_n 0, 1) := by decide +kernel
theorem dX2_deadlineIn_27 : decode cX2_deadlineIn 27 = .ok (.getfield 12, 3) := by decide +kernel
theorem dX2_deadlineIn_30 : decode cX2_deadlineIn 30 = .ok (.getfield 166, 3) := by decide +kernel
theorem dX2_deadlineIn_33 : decode cX2_deadlineIn 33 = .ok (.isub, 1) := by decide +kernel
theorem dX2_deadlineIn_34 : decode cX2_deadlineIn 34 = .ok (.goto 4, 3) := by decide +kernel
theorem dX2_deadlineIn_37 : decode cX2_deadlineIn 37 = .ok (.iconst (-1), 1) := by decide +kernel
theorem dX2_deadlineIn_38 : decode cX2_deadlineIn 38 = .ok (.ireturn, 1) := by decide +kernel
theorem dX2_replica_0 : decode cX2_replica 0 = .ok (.iload_n 1, 1) := by decide +kernel
theorem dX2_replica_1 : decode cX2_replica 1 = .ok (.invokestatic 87, 3) := by decide +kernel
theorem dX2_replica_4 : decode cX2_replica 4 = .ok (.iload_n 2, 1) := by decide +kernel
theorem dX2_replica_5 : decode cX2_replica 5 = .ok (.invokestatic 47, 3) := by decide +kernel
theorem dX2_replica_8 : decode cX2_replica 8 = .ok (.aload_n 0, 1) := by decide +kernel
theorem dX2_replica_9 : decode cX2_replica 9 = .ok (.getfield 12, 3) := by decide +kernel
theorem dX2_replica_12 : decode cX2_replica 12 = .ok (.getfield 197, 3) := by decide +kernel
theorem dX2_replica_15 : decode cX2_replica 15 = .ok (.iload_n 1, 1) := by decide +kernel
theorem dX2_replica_16 : decode cX2_replica 16 = .ok (.iaload, 1) := by decide +kernel
theorem dX2_replica_17 : decode cX2_replica 17 = .ok (.iload_n 2, 1) := by decide +kernel
theorem dX2_replica_18 : decode cX2_replica 18 = .ok (.invokestatic 169, 3) := by decide +kernel
theorem dX2_replica_21 : decode cX2_replica 21 = .ok (.ifCond .eq 5, 3) := by decide +kernel
theorem dX2_replica_24 : decode cX2_replica 24 = .ok (.iconst 1, 1) := by decide +kernel
theorem dX2_replica_25 : decode cX2_replica 25 = .ok (.ireturn, 1) := by decide +kernel
theorem dX2_replica_26 : decode cX2_replica 26 = .ok (.aload_n 0, 1) := by decide +kernel
theorem dX2_replica_27 : decode cX2_replica 27 = .ok (.getfield 12, 3) := by decide +kernel
theorem dX2_replica_30 : decode cX2_replica 30 = .ok (.getfield 200, 3) := by decide +kernel
theorem dX2_replica_33 : decode cX2_replica 33 = .ok (.iload_n 1, 1) := by decide +kernel
theorem dX2_replica_34 : decode cX2_replica 34 = .ok (.iaload, 1) := by decide +kernel
theorem dX2_replica_35 : decode cX2_replica 35 = .ok (.iload_n 2, 1) := by decide +kernel
theorem dX2_replica_36 : decode cX2_replica 36 = .ok (.invokestatic 169, 3) := by decide +kernel
theorem dX2_replica_39 : decode cX2_replica 39 = .ok (.ifCond .eq 7, 3) := by decide +kernel
theorem dX2_replica_42 : decode cX2_replica 42 = .ok (.iconst 2, 1) := by decide +kernel
theorem dX2_replica_43 : decode cX2_replica 43 = .ok (.goto 4, 3) := by decide +kernel
theorem dX2_replica_46 : decode cX2_replica 46 = .ok (.iconst 0, 1) := by decide +kernel
theorem dX2_replica_47 : decode cX2_replica 47 = .ok (.ireturn, 1) := by decide +kernel
theorem dX2_transfer_0 : decode cX2_transfer 0 = .ok (.iload_n 1, 1) := by decide +kernel
theorem dX2_transfer_1 : decode cX2_transfer 1 = .ok (.iconst 0, 1) := by decide +kernel
theorem dX2_transfer_2 : decode cX2_transfer 2 = .ok (.iconst 3, 1) := by decide +kernel
theorem dX2_transfer_3 : decode cX2_transfer 3 = .ok (.invokestatic 51, 3) := by decide +kernel
theorem dX2_transfer_6 : decode cX2_transfer 6 = .ok (.aload_n 0, 1) := by decide +kernel
theorem dX2_transfer_7 : decode cX2_transfer 7 = .ok (.getfield 12, 3) := by decide +kernel
theorem dX2_transfer_10 : decode cX2_transfer 10 = .ok (.getfield 203, 3) := by decide +kernel
theorem dX2_transfer_13 : decode cX2_transfer 13 = .ok (.iconst (-1), 1) := by decide +kernel
theorem dX2_transfer_14 : decode cX2_transfer 14 = .ok (.if_icmp .ne 5, 3) := by decide +kernel
theorem dX2_transfer_17 : decode cX2_transfer 17 = .ok (.iconst (-1), 1) := by decide +kernel
theorem dX2_transfer_18 : decode cX2_transfer 18 = .ok (.ireturn, 1) := by decide +kernel
theorem dX2_transfer_19 : decode cX2_transfer 19 = .ok (.iload_n 1, 1) := by decide +kernel
theorem dX2_transfer_20 : decode cX2_transfer 20 = .ok (.tableswitch 52 0 2 #[28, 36, 44], 28) := by decide +kernel
theorem dX2_transfer_48 : decode cX2_transfer 48 = .ok (.aload_n 0, 1) := by decide +kernel
theorem dX2_transfer_49 : decode cX2_transfer 49 = .ok (.getfield 12, 3) := by decide +kernel
theorem dX2_transfer_52 : decode cX2_transfer 52 = .ok (.getfield 203, 3) := by decide +kernel
theorem dX2_transfer_55 : decode cX2_transfer 55 = .ok (.ireturn, 1) := by decide +kernel
theorem dX2_transfer_56 : decode cX2_transfer 56 = .ok (.aload_n 0, 1) := by decide +kernel
theorem dX2_transfer_57 : decode cX2_transfer 57 = .ok (.getfield 12, 3) := by decide +kernel
theorem dX2_transfer_60 : decode cX2_transfer 60 = .ok (.getfield 206, 3) := by decide +kernel
theorem dX2_transfer_63 : decode cX2_transfer 63 = .ok (.ireturn, 1) := by decide +kernel
theorem dX2_transfer_64 : decode cX2_transfer 64 = .ok (.aload_n 0, 1) := by decide +kernel
theorem dX2_transfer_65 : decode cX2_transfer 65 = .ok (.getfield 12, 3) := by decide +kernel
theorem dX2_transfer_68 : decode cX2_transfer 68 = .ok (.getfield 209, 3) := by decide +kernel
theorem dX2_transfer_71 : decode cX2_transfer 71 = .ok (.ireturn, 1) := by decide +kernel
theorem dX2_transfer_72 : decode cX2_transfer 72 = .ok (.aload_n 0, 1) := by decide +kernel
theorem dX2_transfer_73 : decode cX2_transfer 73 = .ok (.getfield 12, 3) := by decide +kernel
theorem dX2_transfer_76 : decode cX2_transfer 76 = .ok (.getfield 212, 3) := by decide +kernel
theorem dX2_transfer_79 : decode cX2_transfer 79 = .ok (.aload_n 0, 1) := by decide +kernel
theorem dX2_transfer_80 : decode cX2_transfer 80 = .ok (.getfield 12, 3) := by decide +kernel
theorem dX2_transfer_83 : decode cX2_transfer 83 = .ok (.getfield 166, 3) := by decide +kernel
theorem dX2_transfer_86 : decode cX2_transfer 86 = .ok (.isub, 1) := by decide +kernel
theorem dX2_transfer_87 : decode cX2_transfer 87 = .ok (.ireturn, 1) := by decide +kernel
theorem dX2_completedTransfers_0 : decode cX2_completedTransfers 0 = .ok (.aload_n 0, 1) := by decide +kernel
theorem dX2_completedTransfers_1 : decode cX2_completedTransfers 1 = .ok (.getfield 12, 3) := by decide +kernel
theorem dX2_completedTransfers_4 : decode cX2_completedTransfers 4 = .ok (.getfield 215, 3) := by decide +kernel
theorem dX2_completedTransfers_7 : decode cX2_completedTransfers 7 = .ok (.ireturn, 1) := by decide +kernel
theorem dX2_time_0 : decode cX2_time 0 = .ok (.aload_n 0, 1) := by decide +kernel
theorem dX2_time_1 : decode cX2_time 1 = .ok (.getfield 12, 3) := by decide +kernel
theorem dX2_time_4 : decode cX2_time 4 = .ok (.getfield 166, 3) := by decide +kernel
theorem dX2_time_7 : decode cX2_time 7 = .ok (.ireturn, 1) := by decide +kernel
theorem dX2_lostWithout_0 : decode cX2_lostWithout 0 = .ok (.iload_n 1, 1) := by decide +kernel
theorem dX2_lostWithout_1 : decode cX2_lostWithout 1 = .ok (.iconst 0, 1) := by decide +kernel
theorem dX2_lostWithout_2 : decode cX2_lostWithout 2 = .ok (.bipush 63, 2) := by decide +kernel
theorem dX2_lostWithout_4 : decode cX2_lostWithout 4 = .ok (.invokestatic 51, 3) := by decide +kernel
theorem dX2_lostWithout_7 : decode cX2_lostWithout 7 = .ok (.aload_n 0, 1) := by decide +kernel
theorem dX2_lostWithout_8 : decode cX2_lostWithout 8 = .ok (.getfield 12, 3) := by decide +kernel
theorem dX2_lostWithout_11 : decode cX2_lostWithout 11 = .ok (.iload_n 1, 1) := by decide +kernel
theorem dX2_lostWithout_12 : decode cX2_lostWithout 12 = .ok (.invokevirtual 218, 3) := by decide +kernel
theorem dX2_lostWithout_15 : decode cX2_lostWithout 15 = .ok (.ireturn, 1) := by decide +kernel
theorem dX2_worstPair_0 : decode cX2_worstPair 0 = .ok (.iconst (-1), 1) := by decide +kernel
theorem dX2_worstPair_1 : decode cX2_worstPair 1 = .ok (.istore_n 1, 1) := by decide +kernel
theorem dX2_worstPair_2 : decode cX2_worstPair 2 = .ok (.iconst (-1), 1) := by decide +kernel
theorem dX2_worstPair_3 : decode cX2_worstPair 3 = .ok (.istore_n 2, 1) := by decide +kernel
theorem dX2_worstPair_4 : decode cX2_worstPair 4 = .ok (.iconst 0, 1) := by decide +kernel
theorem dX2_worstPair_5 : decode cX2_worstPair 5 = .ok (.istore_n 3, 1) := by decide +kernel
theorem dX2_worstPair_6 : decode cX2_worstPair 6 = .ok (.iload_n 3, 1) := by decide +kernel
theorem dX2_worstPair_7 : decode cX2_worstPair 7 = .ok (.bipush 6, 2) := by decide +kernel
theorem dX2_worstPair_9 : decode cX2_worstPair 9 = .ok (.if_icmp .ge 61, 3) := by decide +kernel
theorem dX2_worstPair_12 : decode cX2_worstPair 12 = .ok (.iload_n 3, 1) := by decide +kernel
theorem dX2_worstPair_13 : decode cX2_worstPair 13 = .ok (.iconst 1, 1) := by decide +kernel
theorem dX2_worstPair_14 : decode cX2_worstPair 14 = .ok (.iadd, 1) := by decide +kernel
theorem dX2_worstPair_15 : decode cX2_worstPair 15 = .ok (.istore 4, 2) := by decide +kernel
theorem dX2_worstPair_17 : decode cX2_worstPair 17 = .ok (.iload 4, 2) := by decide +kernel
theorem dX2_worstPair_19 : decode cX2_worstPair 19 = .ok (.bipush 6, 2) := by decide +kernel
theorem dX2_worstPair_21 : decode cX2_worstPair 21 = .ok (.if_icmp .ge 43, 3) := by decide +kernel
theorem dX2_worstPair_24 : decode cX2_worstPair 24 = .ok (.aload_n 0, 1) := by decide +kernel
theorem dX2_worstPair_25 : decode cX2_worstPair 25 = .ok (.getfield 12, 3) := by decide +kernel
theorem dX2_worstPair_28 : decode cX2_worstPair 28 = .ok (.iconst 1, 1) := by decide +kernel
theorem dX2_worstPair_29 : decode cX2_worstPair 29 = .ok (.iload_n 3, 1) := by decide +kernel
theorem dX2_worstPair_30 : decode cX2_worstPair 30 = .ok (.ishl, 1) := by decide +kernel
theorem dX2_worstPair_31 : decode cX2_worstPair 31 = .ok (.iconst 1, 1) := by decide +kernel
theorem dX2_worstPair_32 : decode cX2_worstPair 32 = .ok (.iload 4, 2) := by decide +kernel
theorem dX2_worstPair_34 : decode cX2_worstPair 34 = .ok (.ishl, 1) := by decide +kernel
theorem dX2_worstPair_35 : decode cX2_worstPair 35 = .ok (.ior, 1) := by decide +kernel
theorem dX2_worstPair_36 : decode cX2_worstPair 36 = .ok (.invokevirtual 218, 3) := by decide +kernel
theorem dX2_worstPair_39 : decode cX2_worstPair 39 = .ok (.istore 5, 2) := by decide +kernel
theorem dX2_worstPair_41 : decode cX2_worstPair 41 = .ok (.iload 5, 2) := by decide +kernel
theorem dX2_worstPair_43 : decode cX2_worstPair 43 = .ok (.iload_n 2, 1) := by decide +kernel
theorem dX2_worstPair_44 : decode cX2_worstPair 44 = .ok (.if_icmp .le 14, 3) := by decide +kernel
theorem dX2_worstPair_47 : decode cX2_worstPair 47 = .ok (.iload 5, 2) := by decide +kernel
theorem dX2_worstPair_49 : decode cX2_worstPair 49 = .ok (.istore_n 2, 1) := by decide +kernel
theorem dX2_worstPair_50 : decode cX2_worstPair 50 = .ok (.bipush 6, 2) := by decide +kernel
theorem dX2_worstPair_52 : decode cX2_worstPair 52 = .ok (.iload_n 3, 1) := by decide +kernel
theorem dX2_worstPair_53 : decode cX2_worstPair 53 = .ok (.imul, 1) := by decide +kernel
theorem dX2_worstPair_54 : decode cX2_worstPair 54 = .ok (.iload 4, 2) := by decide +kernel
theorem dX2_worstPair_56 : decode cX2_worstPair 56 = .ok (.iadd, 1) := by decide +kernel
theorem dX2_worstPair_57 : decode cX2_worstPair 57 = .ok (.istore_n 1, 1) := by decide +kernel
theorem dX2_worstPair_58 : decode cX2_worstPair 58 = .ok (.iinc 4 1, 3) := by decide +kernel
theorem dX2_worstPair_61 : decode cX2_worstPair 61 = .ok (.goto (-44), 3) := by decide +kernel
theorem dX2_worstPair_64 : decode cX2_worstPair 64 = .ok (.iinc 3 1, 3) := by decide +kernel
theorem dX2_worstPair_67 : decode cX2_worstPair 67 = .ok (.goto (-61), 3) := by decide +kernel
theorem dX2_worstPair_70 : decode cX2_worstPair 70 = .ok (.iload_n 1, 1) := by decide +kernel
theorem dX2_worstPair_71 : decode cX2_worstPair 71 = .ok (.ireturn, 1) := by decide +kernel
theorem dX2_lostIn_0 : decode cX2_lostIn 0 = .ok (.iload_n 1, 1) := by decide +kernel
theorem dX2_lostIn_1 : decode cX2_lostIn 1 = .ok (.iconst 1, 1) := by decide +kernel
theorem dX2_lostIn_2 : decode cX2_lostIn 2 = .ok (.sipush 600, 3) := by decide +kernel
theorem dX2_lostIn_5 : decode cX2_lostIn 5 = .ok (.invokestatic 51, 3) := by decide +kernel
theorem dX2_lostIn_8 : decode cX2_lostIn 8 = .ok (.aload_n 0, 1) := by decide +kernel
theorem dX2_lostIn_9 : decode cX2_lostIn 9 = .ok (.getfield 12, 3) := by decide +kernel
theorem dX2_lostIn_12 : decode cX2_lostIn 12 = .ok (.aload_n 0, 1) := by decide +kernel
theorem dX2_lostIn_13 : decode cX2_lostIn 13 = .ok (.getfield 16, 3) := by decide +kernel
theorem dX2_lostIn_16 : decode cX2_lostIn 16 = .ok (.invokestatic 158, 3) := by decide +kernel
theorem dX2_lostIn_19 : decode cX2_lostIn 19 = .ok (.aload_n 0, 1) := by decide +kernel
theorem dX2_lostIn_20 : decode cX2_lostIn 20 = .ok (.getfield 16, 3) := by decide +kernel
theorem dX2_lostIn_23 : decode cX2_lostIn 23 = .ok (.iload_n 1, 1) := by decide +kernel
theorem dX2_lostIn_24 : decode cX2_lostIn 24 = .ok (.invokevirtual 123, 3) := by decide +kernel
theorem dX2_lostIn_27 : decode cX2_lostIn 27 = .ok (.pop, 1) := by decide +kernel
theorem dX2_lostIn_28 : decode cX2_lostIn 28 = .ok (.aload_n 0, 1) := by decide +kernel
theorem dX2_lostIn_29 : decode cX2_lostIn 29 = .ok (.getfield 16, 3) := by decide +kernel
theorem dX2_lostIn_32 : decode cX2_lostIn 32 = .ok (.bipush (-2), 2) := by decide +kernel
theorem dX2_lostIn_34 : decode cX2_lostIn 34 = .ok (.invokevirtual 179, 3) := by decide +kernel
theorem dX2_lostIn_37 : decode cX2_lostIn 37 = .ok (.ireturn, 1) := by decide +kernel
theorem dX2_restsIn_0 : decode cX2_restsIn 0 = .ok (.aload_n 0, 1) := by decide +kernel
theorem dX2_restsIn_1 : decode cX2_restsIn 1 = .ok (.getfield 12, 3) := by decide +kernel
theorem dX2_restsIn_4 : decode cX2_restsIn 4 = .ok (.aload_n 0, 1) := by decide +kernel
theorem dX2_restsIn_5 : decode cX2_restsIn 5 = .ok (.getfield 16, 3) := by decide +kernel
theorem dX2_restsIn_8 : decode cX2_restsIn 8 = .ok (.invokestatic 158, 3) := by decide +kernel
theorem dX2_restsIn_11 : decode cX2_restsIn 11 = .ok (.aload_n 0, 1) := by decide +kernel
theorem dX2_restsIn_12 : decode cX2_restsIn 12 = .ok (.getfield 16, 3) := by decide +kernel
theorem dX2_restsIn_15 : decode cX2_restsIn 15 = .ok (.getfield 166, 3) := by decide +kernel
theorem dX2_restsIn_18 : decode cX2_restsIn 18 = .ok (.istore_n 1, 1) := by decide +kernel
theorem dX2_restsIn_19 : decode cX2_restsIn 19 = .ok (.iload_n 1, 1) := by decide +kernel
theorem dX2_restsIn_20 : decode cX2_restsIn 20 = .ok (.sipush 600, 3) := by decide +kernel
theorem dX2_restsIn_23 : decode cX2_restsIn 23 = .ok (.iadd, 1) := by decide +kernel
theorem dX2_restsIn_24 : decode cX2_restsIn 24 = .ok (.istore_n 2, 1) := by decide +kernel
theorem dX2_restsIn_25 : decode cX2_restsIn 25 = .ok (.iconst 0, 1) := by decide +kernel
theorem dX2_restsIn_26 : decode cX2_restsIn 26 = .ok (.istore_n 3, 1) := by decide +kernel
theorem dX2_restsIn_27 : decode cX2_restsIn 27 = .ok (.iload_n 3, 1) := by decide +kernel
theorem dX2_restsIn_28 : decode cX2_restsIn 28 = .ok (.sipush 600, 3) := by decide +kernel
theorem dX2_restsIn_31 : decode cX2_restsIn 31 = .ok (.if_icmp .gt 66, 3) := by decide +kernel
theorem dX2_restsIn_34 : decode cX2_restsIn 34 = .ok (.aload_n 0, 1) := by decide +kernel
theorem dX2_restsIn_35 : decode cX2_restsIn 35 = .ok (.getfield 16, 3) := by decide +kernel
theorem dX2_restsIn_38 : decode cX2_restsIn 38 = .ok (.invokevirtual 221, 3) := by decide +kernel
theorem dX2_restsIn_41 : decode cX2_restsIn 41 = .ok (.ifCond .eq 13, 3) := by decide +kernel
theorem dX2_restsIn_44 : decode cX2_restsIn 44 = .ok (.aload_n 0, 1) := by decide +kernel
theorem dX2_restsIn_45 : decode cX2_restsIn 45 = .ok (.getfield 16, 3) := by decide +kernel
theorem dX2_restsIn_48 : decode cX2_restsIn 48 = .ok (.getfield 166, 3) := by decide +kernel
theorem dX2_restsIn_51 : decode cX2_restsIn 51 = .ok (.iload_n 1, 1) := by decide +kernel
theorem dX2_restsIn_52 : decode cX2_restsIn 52 = .ok (.isub, 1) := by decide +kernel
theorem dX2_restsIn_53 : decode cX2_restsIn 53 = .ok (.ireturn, 1) := by decide +kernel
theorem dX2_restsIn_54 : decode cX2_restsIn 54 = .ok (.aload_n 0, 1) := by decide +kernel
theorem dX2_restsIn_55 : decode cX2_restsIn 55 = .ok (.getfield 16, 3) := by decide +kernel
theorem dX2_restsIn_58 : decode cX2_restsIn 58 = .ok (.getfield 166, 3) := by decide +kernel
theorem dX2_restsIn_61 : decode cX2_restsIn 61 = .ok (.iload_n 2, 1) := by decide +kernel
theorem dX2_restsIn_62 : decode cX2_restsIn 62 = .ok (.if_icmp .lt 5, 3) := by decide +kernel
theorem dX2_restsIn_65 : decode cX2_restsIn 65 = .ok (.iconst (-1), 1) := by decide +kernel
theorem dX2_restsIn_66 : decode cX2_restsIn 66 = .ok (.ireturn, 1) := by decide +kernel
theorem dX2_restsIn_67 : decode cX2_restsIn 67 = .ok (.aload_n 0, 1) := by decide +kernel
theorem dX2_restsIn_68 : decode cX2_restsIn 68 = .ok (.getfield 16, 3) := by decide +kernel
theorem dX2_restsIn_71 : decode cX2_restsIn 71 = .ok (.aload_n 0, 1) := by decide +kernel
theorem dX2_restsIn_72 : decode cX2_restsIn 72 = .ok (.getfield 16, 3) := by decide +kernel
theorem dX2_restsIn_75 : decode cX2_restsIn 75 = .ok (.iload_n 2, 1) := by decide +kernel
theorem dX2_restsIn_76 : decode cX2_restsIn 76 = .ok (.invokevirtual 224, 3) := by decide +kernel
theorem dX2_restsIn_79 : decode cX2_restsIn 79 = .ok (.aload_n 0, 1) := by decide +kernel
theorem dX2_restsIn_80 : decode cX2_restsIn 80 = .ok (.getfield 16, 3) := by decide +kernel
theorem dX2_restsIn_83 : decode cX2_restsIn 83 = .ok (.getfield 166, 3) := by decide +kernel
theorem dX2_restsIn_86 : decode cX2_restsIn 86 = .ok (.isub, 1) := by decide +kernel
theorem dX2_restsIn_87 : decode cX2_restsIn 87 = .ok (.invokevirtual 123, 3) := by decide +kernel
theorem dX2_restsIn_90 : decode cX2_restsIn 90 = .ok (.pop, 1) := by decide +kernel
theorem dX2_restsIn_91 : decode cX2_restsIn 91 = .ok (.iinc 3 1, 3) := by decide +kernel
theorem dX2_restsIn_94 : decode cX2_restsIn 94 = .ok (.goto (-67), 3) := by decide +kernel
theorem dX2_restsIn_97 : decode cX2_restsIn 97 = .ok (.iconst (-1), 1) := by decide +kernel
theorem dX2_restsIn_98 : decode cX2_restsIn 98 = .ok (.ireturn, 1) := by decide +kernel
theorem dX2_savedStates_0 : decode cX2_savedStates 0 = .ok (.aload_n 0, 1) := by decide +kernel
theorem dX2_savedStates_1 : decode cX2_savedStates 1 = .ok (.getfield 23, 3) := by decide +kernel
theorem dX2_savedStates_4 : decode cX2_savedStates 4 = .ok (.ireturn, 1) := by decide +kernel
theorem dX2_textLength_0 : decode cX2_textLength 0 = .ok (.aload_n 0, 1) := by decide +kernel
theorem dX2_textLength_1 : decode cX2_textLength 1 = .ok (.getfield 37, 3) := by decide +kernel
theorem dX2_textLength_4 : decode cX2_textLength 4 = .ok (.ireturn, 1) := by decide +kernel
theorem dX2_requireIndex_0 : decode cX2_requireIndex 0 = .ok (.iload_n 0, 1) := by decide +kernel
theorem dX2_requireIndex_1 : decode cX2_requireIndex 1 = .ok (.ifCond .lt 8, 3) := by decide +kernel
theorem dX2_requireIndex_4 : decode cX2_requireIndex 4 = .ok (.iload_n 0, 1) := by decide +kernel
theorem dX2_requireIndex_5 : decode cX2_requireIndex 5 = .ok (.iload_n 1, 1) := by decide +kernel
theorem dX2_requireIndex_6 : decode cX2_requireIndex 6 = .ok (.if_icmp .lt 13, 3) := by decide +kernel
theorem dX2_requireIndex_9 : decode cX2_requireIndex 9 = .ok (.new 227, 3) := by decide +kernel
theorem dX2_requireIndex_12 : decode cX2_requireIndex 12 = .ok (.dup, 1) := by decide +kernel
theorem dX2_requireIndex_13 : decode cX2_requireIndex 13 = .ok (.ldc 229, 2) := by decide +kernel
theorem dX2_requireIndex_15 : decode cX2_requireIndex 15 = .ok (.invokespecial 231, 3) := by decide +kernel
theorem dX2_requireIndex_18 : decode cX2_requireIndex 18 = .ok (.athrow, 1) := by decide +kernel
theorem dX2_requireIndex_19 : decode cX2_requireIndex 19 = .ok (.return_, 1) := by decide +kernel
theorem dX2_requirePage_0 : decode cX2_requirePage 0 = .ok (.iload_n 0, 1) := by decide +kernel
theorem dX2_requirePage_1 : decode cX2_requirePage 1 = .ok (.bipush 30, 2) := by decide +kernel
theorem dX2_requirePage_3 : decode cX2_requirePage 3 = .ok (.invokestatic 162, 3) := by decide +kernel
theorem dX2_requirePage_6 : decode cX2_requirePage 6 = .ok (.return_, 1) := by decide +kernel
theorem dX2_requireHost_0 : decode cX2_requireHost 0 = .ok (.iload_n 0, 1) := by decide +kernel
theorem dX2_requireHost_1 : decode cX2_requireHost 1 = .ok (.bipush 6, 2) := by decide +kernel
theorem dX2_requireHost_3 : decode cX2_requireHost 3 = .ok (.invokestatic 162, 3) := by decide +kernel
theorem dX2_requireHost_6 : decode cX2_requireHost 6 = .ok (.return_, 1) := by decide +kernel
theorem dX2_requireRange_0 : decode cX2_requireRange 0 = .ok (.iload_n 0, 1) := by decide +kernel
theorem dX2_requireRange_1 : decode cX2_requireRange 1 = .ok (.iload_n 1, 1) := by decide +kernel
theorem dX2_requireRange_2 : decode cX2_requireRange 2 = .ok (.if_icmp .lt 8, 3) := by decide +kernel
theorem dX2_requireRange_5 : decode cX2_requireRange 5 = .ok (.iload_n 0, 1) := by decide +kernel
theorem dX2_requireRange_6 : decode cX2_requireRange 6 = .ok (.iload_n 2, 1) := by decide +kernel
theorem dX2_requireRange_7 : decode cX2_requireRange 7 = .ok (.if_icmp .le 13, 3) := by decide +kernel
theorem dX2_requireRange_10 : decode cX2_requireRange 10 = .ok (.new 234, 3) := by decide +kernel
theorem dX2_requireRange_13 : decode cX2_requireRange 13 = .ok (.dup, 1) := by decide +kernel
theorem dX2_requireRange_14 : decode cX2_requireRange 14 = .ok (.ldc 236, 2) := by decide +kernel
theorem dX2_requireRange_16 : decode cX2_requireRange 16 = .ok (.invokespecial 238, 3) := by decide +kernel
theorem dX2_requireRange_19 : decode cX2_requireRange 19 = .ok (.athrow, 1) := by decide +kernel
theorem dX2_requireRange_20 : decode cX2_requireRange 20 = .ok (.return_, 1) := by decide +kernel
theorem dX2_requireState_0 : decode cX2_requireState 0 = .ok (.iload_n 0, 1) := by decide +kernel
theorem dX2_requireState_1 : decode cX2_requireState 1 = .ok (.ifCond .ne 13, 3) := by decide +kernel
theorem dX2_requireState_4 : decode cX2_requireState 4 = .ok (.new 239, 3) := by decide +kernel
theorem dX2_requireState_7 : decode cX2_requireState 7 = .ok (.dup, 1) := by decide +kernel
theorem dX2_requireState_8 : decode cX2_requireState 8 = .ok (.ldc 241, 2) := by decide +kernel
theorem dX2_requireState_10 : decode cX2_requireState 10 = .ok (.invokespecial 243, 3) := by decide +kernel
theorem dX2_requireState_13 : decode cX2_requireState 13 = .ok (.athrow, 1) := by decide +kernel
theorem dX2_requireState_14 : decode cX2_requireState 14 = .ok (.return_, 1) := by decide +kernel
theorem dX2_has_0 : decode cX2_has 0 = .ok (.iload_n 0, 1) := by decide +kernel
theorem dX2_has_1 : decode cX2_has 1 = .ok (.iload_n 1, 1) := by decide +kernel
theorem dX2_has_2 : decode cX2_has 2 = .ok (.ishr, 1) := by decide +kernel
theorem dX2_has_3 : decode cX2_has 3 = .ok (.iconst 1, 1) := by decide +kernel
theorem dX2_has_4 : decode cX2_has 4 = .ok (.iand, 1) := by decide +kernel
theorem dX2_has_5 : decode cX2_has 5 = .ok (.ifCond .eq 7, 3) := by decide +kernel
theorem dX2_has_8 : decode cX2_has 8 = .ok (.iconst 1, 1) := by decide +kernel
theorem dX2_has_9 : decode cX2_has 9 = .ok (.goto 4, 3) := by decide +kernel
theorem dX2_has_12 : decode cX2_has 12 = .ok (.iconst 0, 1) := by decide +kernel
theorem dX2_has_13 : decode cX2_has 13 = .ok (.ireturn, 1) := by decide +kernel
theorem dX2_remember_0 : decode cX2_remember 0 = .ok (.aload_n 0, 1) := by decide +kernel
theorem dX2_remember_1 : decode cX2_remember 1 = .ok (.getfield 23, 3) := by decide +kernel
theorem dX2_remember_4 : decode cX2_remember 4 = .ok (.bipush 6, 2) := by decide +kernel
theorem dX2_remember_6 : decode cX2_remember 6 = .ok (.if_icmp .ne 58, 3) := by decide +kernel
theorem dX2_remember_9 : decode cX2_remember 9 = .ok (.aload_n 0, 1) := by decide +kernel
theorem dX2_remember_10 : decode cX2_remember 10 = .ok (.getfield 19, 3) := by decide +kernel
theorem dX2_remember_13 : decode cX2_remember 13 = .ok (.iconst 0, 1) := by decide +kernel
theorem dX2_remember_14 : decode cX2_remember 14 = .ok (.aaload, 1) := by decide +kernel
theorem dX2_remember_15 : decode cX2_remember 15 = .ok (.astore_n 1, 1) := by decide +kernel
theorem dX2_remember_16 : decode cX2_remember 16 = .ok (.iconst 1, 1) := by decide +kernel
theorem dX2_remember_17 : decode cX2_remember 17 = .ok (.istore_n 2, 1) := by decide +kernel
theorem dX2_remember_18 : decode cX2_remember 18 = .ok (.iload_n 2, 1) := by decide +kernel
theorem dX2_remember_19 : decode cX2_remember 19 = .ok (.bipush 6, 2) := by decide +kernel
theorem dX2_remember_21 : decode cX2_remember 21 = .ok (.if_icmp .ge 23, 3) := by decide +kernel
theorem dX2_remember_24 : decode cX2_remember 24 = .ok (.aload_n 0, 1) := by decide +kernel
theorem dX2_remember_25 : decode cX2_remember 25 = .ok (.getfield 19, 3) := by decide +kernel
theorem dX2_remember_28 : decode cX2_remember 28 = .ok (.iload_n 2, 1) := by decide +kernel
theorem dX2_remember_29 : decode cX2_remember 29 = .ok (.iconst 1, 1) := by decide +kernel
theorem dX2_remember_30 : decode cX2_remember 30 = .ok (.isub, 1) := by decide +kernel
theorem dX2_remember_31 : decode cX2_remember 31 = .ok (.aload_n 0, 1) := by decide +kernel
theorem dX2_remember_32 : decode cX2_remember 32 = .ok (.getfield 19, 3) := by decide +kernel
theorem dX2_remember_35 : decode cX2_remember 35 = .ok (.iload_n 2, 1) := by decide +kernel
theorem dX2_remember_36 : decode cX2_remember 36 = .ok (.aaload, 1) := by decide +kernel
theorem dX2_remember_37 : decode cX2_remember 37 = .ok (.aastore, 1) := by decide +kernel
theorem dX2_remember_38 : decode cX2_remember 38 = .ok (.iinc 2 1, 3) := by decide +kernel
theorem dX2_remember_41 : decode cX2_remember 41 = .ok (.goto (-23), 3) := by decide +kernel
theorem dX2_remember_44 : decode cX2_remember 44 = .ok (.aload_n 0, 1) := by decide +kernel
theorem dX2_remember_45 : decode cX2_remember 45 = .ok (.dup, 1) := by decide +kernel
theorem dX2_remember_46 : decode cX2_remember 46 = .ok (.getfield 23, 3) := by decide +kernel
theorem dX2_remember_49 : decode cX2_remember 49 = .ok (.iconst 1, 1) := by decide +kernel
theorem dX2_remember_50 : decode cX2_remember 50 = .ok (.isub, 1) := by decide +kernel
theorem dX2_remember_51 : decode cX2_remember 51 = .ok (.putfield 23, 3) := by decide +kernel
theorem dX2_remember_54 : decode cX2_remember 54 = .ok (.aload_n 0, 1) := by decide +kernel
theorem dX2_remember_55 : decode cX2_remember 55 = .ok (.getfield 19, 3) := by decide +kernel
theorem dX2_remember_58 : decode cX2_remember 58 = .ok (.aload_n 0, 1) := by decide +kernel
theorem dX2_remember_59 : decode cX2_remember 59 = .ok (.getfield 23, 3) := by decide +kernel
theorem dX2_remember_62 : decode cX2_remember 62 = .ok (.aload_n 1, 1) := by decide +kernel
theorem dX2_remember_63 : decode cX2_remember 63 = .ok (.aastore, 1) := by decide +kernel
theorem dX2_remember_64 : decode cX2_remember 64 = .ok (.aload_n 0, 1) := by decide +kernel
theorem dX2_remember_65 : decode cX2_remember 65 = .ok (.getfield 12, 3) := by decide +kernel
theorem dX2_remember_68 : decode cX2_remember 68 = .ok (.aload_n 0, 1) := by decide +kernel
theorem dX2_remember_69 : decode cX2_remember 69 = .ok (.getfield 19, 3) := by decide +kernel
theorem dX2_remember_72 : decode cX2_remember 72 = .ok (.aload_n 0, 1) := by decide +kernel
theorem dX2_remember_73 : decode cX2_remember 73 = .ok (.getfield 23, 3) := by decide +kernel
theorem dX2_remember_76 : decode cX2_remember 76 = .ok (.aaload, 1) := by decide +kernel
theorem dX2_remember_77 : decode cX2_remember 77 = .ok (.invokestatic 158, 3) := by decide +kernel
theorem dX2_remember_80 : decode cX2_remember 80 = .ok (.aload_n 0, 1) := by decide +kernel
theorem dX2_remember_81 : decode cX2_remember 81 = .ok (.dup, 1) := by decide +kernel
theorem dX2_remember_82 : decode cX2_remember 82 = .ok (.getfield 23, 3) := by decide +kernel
theorem dX2_remember_85 : decode cX2_remember 85 = .ok (.iconst 1, 1) := by decide +kernel
theorem dX2_remember_86 : decode cX2_remember 86 = .ok (.iadd, 1) := by decide +kernel
theorem dX2_remember_87 : decode cX2_remember 87 = .ok (.putfield 23, 3) := by decide +kernel
theorem dX2_remember_90 : decode cX2_remember 90 = .ok (.return_, 1) := by decide +kernel
theorem dX2_execute_0 : decode cX2_execute 0 = .ok (.aload_n 0, 1) := by decide +kernel
theorem dX2_execute_1 : decode cX2_execute 1 = .ok (.iload_n 1, 1) := by decide +kernel
theorem dX2_execute_2 : decode cX2_execute 2 = .ok (.iload_n 2, 1) := by decide +kernel
theorem dX2_execute_3 : decode cX2_execute 3 = .ok (.invokevirtual 244, 3) := by decide +kernel
theorem dX2_execute_6 : decode cX2_execute 6 = .ok (.ifCond .ne 5, 3) := by decide +kernel
theorem dX2_execute_9 : decode cX2_execute 9 = .ok (.iconst 0, 1) := by decide +kernel
theorem dX2_execute_10 : decode cX2_execute 10 = .ok (.ireturn, 1) := by decide +kernel
theorem dX2_execute_11 : decode cX2_execute 11 = .ok (.iload_n 1, 1) := by decide +kernel
theorem dX2_execute_12 : decode cX2_execute 12 = .ok (.tableswitch 204 99 120 #[180, 130, 204, 204, 204, 204, 204, 204, 204, 142, 204, 204, 168, 204, 204, 155, 104, 204, 204, 204, 117, 192], 104) := by decide +kernel
theorem dX2_execute_116 : decode cX2_execute 116 = .ok (.aload_n 0, 1) := by decide +kernel
theorem dX2_execute_117 : decode cX2_execute 117 = .ok (.getfield 12, 3) := by decide +kernel
theorem dX2_execute_120 : decode cX2_execute 120 = .ok (.iload_n 2, 1) := by decide +kernel
theorem dX2_execute_121 : decode cX2_execute 121 = .ok (.iload_n 3, 1) := by decide +kernel
theorem dX2_execute_122 : decode cX2_execute 122 = .ok (.invokevirtual 66, 3) := by decide +kernel
theorem dX2_execute_125 : decode cX2_execute 125 = .ok (.pop, 1) := by decide +kernel
theorem dX2_execute_126 : decode cX2_execute 126 = .ok (.goto 99, 3) := by decide +kernel
theorem dX2_execute_129 : decode cX2_execute 129 = .ok (.aload_n 0, 1) := by decide +kernel
theorem dX2_execute_130 : decode cX2_execute 130 = .ok (.getfield 12, 3) := by decide +kernel
theorem dX2_execute_133 : decode cX2_execute 133 = .ok (.iload_n 2, 1) := by decide +kernel
theorem dX2_execute_134 : decode cX2_execute 134 = .ok (.iload_n 3, 1) := by decide +kernel
theorem dX2_execute_135 : decode cX2_execute 135 = .ok (.invokevirtual 73, 3) := by decide +kernel
theorem dX2_execute_138 : decode cX2_execute 138 = .ok (.pop, 1) := by decide +kernel
theorem dX2_execute_139 : decode cX2_execute 139 = .ok (.goto 86, 3) := by decide +kernel
theorem dX2_execute_142 : decode cX2_execute 142 = .ok (.aload_n 0, 1) := by decide +kernel
theorem dX2_execute_143 : decode cX2_execute 143 = .ok (.getfield 12, 3) := by decide +kernel
theorem dX2_execute_146 : decode cX2_execute 146 = .ok (.iload_n 2, 1) := by decide +kernel
theorem dX2_execute_147 : decode cX2_execute 147 = .ok (.invokevirtual 83, 3) := by decide +kernel
theorem dX2_execute_150 : decode cX2_execute 150 = .ok (.pop, 1) := by decide +kernel
theorem dX2_execute_151 : decode cX2_execute 151 = .ok (.goto 74, 3) := by decide +kernel
theorem dX2_execute_154 : decode cX2_execute 154 = .ok (.aload_n 0, 1) := by decide +kernel
theorem dX2_execute_155 : decode cX2_execute 155 = .ok (.getfield 12, 3) := by decide +kernel
theorem dX2_execute_158 : decode cX2_execute 158 = .ok (.iload_n 2, 1) := by decide +kernel
theorem dX2_execute_159 : decode cX2_execute 159 = .ok (.iload_n 3, 1) := by decide +kernel
theorem dX2_execute_160 : decode cX2_execute 160 = .ok (.invokevirtual 93, 3) := by decide +kernel
theorem dX2_execute_163 : decode cX2_execute 163 = .ok (.pop, 1) := by decide +kernel
theorem dX2_execute_164 : decode cX2_execute 164 = .ok (.goto 61, 3) := by decide +kernel
theorem dX2_execute_167 : decode cX2_execute 167 = .ok (.aload_n 0, 1) := by decide +kernel
theorem dX2_execute_168 : decode cX2_execute 168 = .ok (.getfield 12, 3) := by decide +kernel
theorem dX2_execute_171 : decode cX2_execute 171 = .ok (.iload_n 2, 1) := by decide +kernel
theorem dX2_execute_172 : decode cX2_execute 172 = .ok (.iload_n 3, 1) := by decide +kernel
theorem dX2_execute_173 : decode cX2_execute 173 = .ok (.invokevirtual 99, 3) := by decide +kernel
theorem dX2_execute_176 : decode cX2_execute 176 = .ok (.pop, 1) := by decide +kernel
theorem dX2_execute_177 : decode cX2_execute 177 = .ok (.goto 48, 3) := by decide +kernel
theorem dX2_execute_180 : decode cX2_execute 180 = .ok (.aload_n 0, 1) := by decide +kernel
theorem dX2_execute_181 : decode cX2_execute 181 = .ok (.getfield 12, 3) := by decide +kernel
theorem dX2_execute_184 : decode cX2_execute 184 = .ok (.iload_n 2, 1) := by decide +kernel
theorem dX2_execute_185 : decode cX2_execute 185 = .ok (.invokevirtual 105, 3) := by decide +kernel
theorem dX2_execute_188 : decode cX2_execute 188 = .ok (.pop, 1) := by decide +kernel
theorem dX2_execute_189 : decode cX2_execute 189 = .ok (.goto 36, 3) := by decide +kernel
theorem dX2_execute_192 : decode cX2_execute 192 = .ok (.aload_n 0, 1) := by decide +kernel
theorem dX2_execute_193 : decode cX2_execute 193 = .ok (.getfield 12, 3) := by decide +kernel
theorem dX2_execute_196 : decode cX2_execute 196 = .ok (.iload_n 2, 1) := by decide +kernel
theorem dX2_execute_197 : decode cX2_execute 197 = .ok (.invokevirtual 111, 3) := by decide +kernel
theorem dX2_execute_200 : decode cX2_execute 200 = .ok (.pop, 1) := by decide +kernel
theorem dX2_execute_201 : decode cX2_execute 201 = .ok (.goto 24, 3) := by decide +kernel
theorem dX2_execute_204 : decode cX2_execute 204 = .ok (.aload_n 0, 1) := by decide +kernel
theorem dX2_execute_205 : decode cX2_execute 205 = .ok (.getfield 12, 3) := by decide +kernel
theorem dX2_execute_208 : decode cX2_execute 208 = .ok (.iload_n 2, 1) := by decide +kernel
theorem dX2_execute_209 : decode cX2_execute 209 = .ok (.invokevirtual 117, 3) := by decide +kernel
theorem dX2_execute_212 : decode cX2_execute 212 = .ok (.pop, 1) := by decide +kernel
theorem dX2_execute_213 : decode cX2_execute 213 = .ok (.goto 12, 3) := by decide +kernel
theorem dX2_execute_216 : decode cX2_execute 216 = .ok (.aload_n 0, 1) := by decide +kernel
theorem dX2_execute_217 : decode cX2_execute 217 = .ok (.getfield 12, 3) := by decide +kernel
theorem dX2_execute_220 : decode cX2_execute 220 = .ok (.iload_n 2, 1) := by decide +kernel
theorem dX2_execute_221 : decode cX2_execute 221 = .ok (.invokevirtual 123, 3) := by decide +kernel
theorem dX2_execute_224 : decode cX2_execute 224 = .ok (.pop, 1) := by decide +kernel
theorem dX2_execute_225 : decode cX2_execute 225 = .ok (.iconst 1, 1) := by decide +kernel
theorem dX2_execute_226 : decode cX2_execute 226 = .ok (.ireturn, 1) := by decide +kernel
theorem dX2_isAllowed_0 : decode cX2_isAllowed 0 = .ok (.iload_n 1, 1) := by decide +kernel
theorem dX2_isAllowed_1 : decode cX2_isAllowed 1 = .ok (.tableswitch 175 99 120 #[157, 121, 175, 175, 175, 175, 175, 175, 175, 130, 175, 175, 148, 175, 175, 139, 103, 175, 175, 175, 112, 166], 103) := by decide +kernel
theorem dX2_isAllowed_104 : decode cX2_isAllowed 104 = .ok (.aload_n 0, 1) := by decide +kernel
theorem dX2_isAllowed_105 : decode cX2_isAllowed 105 = .ok (.getfield 12, 3) := by decide +kernel
theorem dX2_isAllowed_108 : decode cX2_isAllowed 108 = .ok (.iload_n 2, 1) := by decide +kernel
theorem dX2_isAllowed_109 : decode cX2_isAllowed 109 = .ok (.invokevirtual 55, 3) := by decide +kernel
theorem dX2_isAllowed_112 : decode cX2_isAllowed 112 = .ok (.ireturn, 1) := by decide +kernel
theorem dX2_isAllowed_113 : decode cX2_isAllowed 113 = .ok (.aload_n 0, 1) := by decide +kernel
theorem dX2_isAllowed_114 : decode cX2_isAllowed 114 = .ok (.getfield 12, 3) := by decide +kernel
theorem dX2_isAllowed_117 : decode cX2_isAllowed 117 = .ok (.iload_n 2, 1) := by decide +kernel
theorem dX2_isAllowed_118 : decode cX2_isAllowed 118 = .ok (.invokevirtual 70, 3) := by decide +kernel
theorem dX2_isAllowed_121 : decode cX2_isAllowed 121 = .ok (.ireturn, 1) := by decide +kernel
theorem dX2_isAllowed_122 : decode cX2_isAllowed 122 = .ok (.aload_n 0, 1) := by decide +kernel
theorem dX2_isAllowed_123 : decode cX2_isAllowed 123 = .ok (.getfield 12, 3) := by decide +kernel
theorem dX2_isAllowed_126 : decode cX2_isAllowed 126 = .ok (.iload_n 2, 1) := by decide +kernel
theorem dX2_isAllowed_127 : decode cX2_isAllowed 127 = .ok (.invokevirtual 80, 3) := by decide +kernel
theorem dX2_isAllowed_130 : decode cX2_isAllowed 130 = .ok (.ireturn, 1) := by decide +kernel
theorem dX2_isAllowed_131 : decode cX2_isAllowed 131 = .ok (.aload_n 0, 1) := by decide +kernel
theorem dX2_isAllowed_132 : decode cX2_isAllowed 132 = .ok (.getfield 12, 3) := by decide +kernel
theorem dX2_isAllowed_135 : decode cX2_isAllowed 135 = .ok (.iload_n 2, 1) := by decide +kernel
theorem dX2_isAllowed_136 : decode cX2_isAllowed 136 = .ok (.invokevirtual 90, 3) := by decide +kernel
theorem dX2_isAllowed_139 : decode cX2_isAllowed 139 = .ok (.ireturn, 1) := by decide +kernel
theorem dX2_isAllowed_140 : decode cX2_isAllowed 140 = .ok (.aload_n 0, 1) := by decide +kernel
theorem dX2_isAllowed_141 : decode cX2_isAllowed 141 = .ok (.getfield 12, 3) := by decide +kernel
theorem dX2_isAllowed_144 : decode cX2_isAllowed 144 = .ok (.iload_n 2, 1) := by decide +kernel
theorem dX2_isAllowed_145 : decode cX2_isAllowed 145 = .ok (.invokevirtual 96, 3) := by decide +kernel
theorem dX2_isAllowed_148 : decode cX2_isAllowed 148 = .ok (.ireturn, 1) := by decide +kernel
theorem dX2_isAllowed_149 : decode cX2_isAllowed 149 = .ok (.aload_n 0, 1) := by decide +kernel
theorem dX2_isAllowed_150 : decode cX2_isAllowed 150 = .ok (.getfield 12, 3) := by decide +kernel
theorem dX2_isAllowed_153 : decode cX2_isAllowed 153 = .ok (.iload_n 2, 1) := by decide +kernel
theorem dX2_isAllowed_154 : decode cX2_isAllowed 154 = .ok (.invokevirtual 102, 3) := by decide +kernel
theorem dX2_isAllowed_157 : decode cX2_isAllowed 157 = .ok (.ireturn, 1) := by decide +kernel
theorem dX2_isAllowed_158 : decode cX2_isAllowed 158 = .ok (.aload_n 0, 1) := by decide +kernel
theorem dX2_isAllowed_159 : decode cX2_isAllowed 159 = .ok (.getfield 12, 3) := by decide +kernel
theorem dX2_isAllowed_162 : decode cX2_isAllowed 162 = .ok (.iload_n 2, 1) := by decide +kernel
theorem dX2_isAllowed_163 : decode cX2_isAllowed 163 = .ok (.invokevirtual 108, 3) := by decide +kernel
theorem dX2_isAllowed_166 : decode cX2_isAllowed 166 = .ok (.ireturn, 1) := by decide +kernel
theorem dX2_isAllowed_167 : decode cX2_isAllowed 167 = .ok (.aload_n 0, 1) := by decide +kernel
theorem dX2_isAllowed_168 : decode cX2_isAllowed 168 = .ok (.getfield 12, 3) := by decide +kernel
theorem dX2_isAllowed_171 : decode cX2_isAllowed 171 = .ok (.iload_n 2, 1) := by decide +kernel
theorem dX2_isAllowed_172 : decode cX2_isAllowed 172 = .ok (.invokevirtual 114, 3) := by decide +kernel
theorem dX2_isAllowed_175 : decode cX2_isAllowed 175 = .ok (.ireturn, 1) := by decide +kernel
theorem dX2_isAllowed_176 : decode cX2_isAllowed 176 = .ok (.aload_n 0, 1) := by decide +kernel
theorem dX2_isAllowed_177 : decode cX2_isAllowed 177 = .ok (.getfield 12, 3) := by decide +kernel
theorem dX2_isAllowed_180 : decode cX2_isAllowed 180 = .ok (.iload_n 2, 1) := by decide +kernel
theorem dX2_isAllowed_181 : decode cX2_isAllowed 181 = .ok (.invokevirtual 120, 3) := by decide +kernel
theorem dX2_isAllowed_184 : decode cX2_isAllowed 184 = .ok (.ireturn, 1) := by decide +kernel
theorem dX3_init_0 : decode cX3_init 0 = .ok (.aload_n 0, 1) := by decide +kernel
theorem dX3_init_1 : decode cX3_init 1 = .ok (.invokespecial 1, 3) := by decide +kernel
theorem dX3_init_4 : decode cX3_init 4 = .ok (.aload_n 0, 1) := by decide +kernel
theorem dX3_init_5 : decode cX3_init 5 = .ok (.sipush 2720, 3) := by decide +kernel
theorem dX3_init_8 : decode cX3_init 8 = .ok (.newarray .int, 2) := by decide +kernel
theorem dX3_init_10 : decode cX3_init 10 = .ok (.putfield 7, 3) := by decide +kernel
theorem dX3_init_13 : decode cX3_init 13 = .ok (.aload_n 0, 1) := by decide +kernel
theorem dX3_init_14 : decode cX3_init 14 = .ok (.iconst 2, 1) := by decide +kernel
theorem dX3_init_15 : decode cX3_init 15 = .ok (.newarray .boolean, 2) := by decide +kernel
theorem dX3_init_17 : decode cX3_init 17 = .ok (.putfield 13, 3) := by decide +kernel
theorem dX3_init_20 : decode cX3_init 20 = .ok (.aload_n 0, 1) := by decide +kernel
theorem dX3_init_21 : decode cX3_init 21 = .ok (.bipush 80, 2) := by decide +kernel
theorem dX3_init_23 : decode cX3_init 23 = .ok (.newarray .int, 2) := by decide +kernel
theorem dX3_init_25 : decode cX3_init 25 = .ok (.putfield 17, 3) := by decide +kernel
theorem dX3_init_28 : decode cX3_init 28 = .ok (.aload_n 0, 1) := by decide +kernel
theorem dX3_init_29 : decode cX3_init 29 = .ok (.getfield 7, 3) := by decide +kernel
theorem dX3_init_32 : decode cX3_init 32 = .ok (.iconst 2, 1) := by decide +kernel
theorem dX3_init_33 : decode cX3_init 33 = .ok (.iconst 5, 1) := by decide +kernel
theorem dX3_init_34 : decode cX3_init 34 = .ok (.iastore, 1) := by decide +kernel
theorem dX3_init_35 : decode cX3_init 35 = .ok (.aload_n 0, 1) := by decide +kernel
theorem dX3_init_36 : decode cX3_init 36 = .ok (.getfield 7, 3) := by decide +kernel
theorem dX3_init_39 : decode cX3_init 39 = .ok (.iconst 4, 1) := by decide +kernel
theorem dX3_init_40 : decode cX3_init 40 = .ok (.iconst (-1), 1) := by decide +kernel
theorem dX3_init_41 : decode cX3_init 41 = .ok (.iastore, 1) := by decide +kernel
theorem dX3_init_42 : decode cX3_init 42 = .ok (.iconst 0, 1) := by decide +kernel
theorem dX3_init_43 : decode cX3_init 43 = .ok (.istore_n 1, 1) := by decide +kernel
theorem dX3_init_44 : decode cX3_init 44 = .ok (.iload_n 1, 1) := by decide +kernel
theorem dX3_init_45 : decode cX3_init 45 = .ok (.bipush 6, 2) := by decide +kernel
theorem dX3_init_47 : decode cX3_init 47 = .ok (.if_icmp .ge 23, 3) := by decide +kernel
theorem dX3_init_50 : decode cX3_init 50 = .ok (.aload_n 0, 1) := by decide +kernel
theorem dX3_init_51 : decode cX3_init 51 = .ok (.getfield 7, 3) := by decide +kernel
theorem dX3_init_54 : decode cX3_init 54 = .ok (.bipush 8, 2) := by decide +kernel
theorem dX3_init_56 : decode cX3_init 56 = .ok (.iconst 4, 1) := by decide +kernel
theorem dX3_init_57 : decode cX3_init 57 = .ok (.iload_n 1, 1) := by decide +kernel
theorem dX3_init_58 : decode cX3_init 58 = .ok (.imul, 1) := by decide +kernel
theorem dX3_init_59 : decode cX3_init 59 = .ok (.iadd, 1) := by decide +kernel
theorem dX3_init_60 : decode cX3_init 60 = .ok (.iconst 1, 1) := by decide +kernel
theorem dX3_init_61 : decode cX3_init 61 = .ok (.iadd, 1) := by decide +kernel
theorem dX3_init_62 : decode cX3_init 62 = .ok (.iconst 1, 1) := by decide +kernel
theorem dX3_init_63 : decode cX3_init 63 = .ok (.iastore, 1) := by decide +kernel
theorem dX3_init_64 : decode cX3_init 64 = .ok (.iinc 1 1, 3) := by decide +kernel
theorem dX3_init_67 : decode cX3_init 67 = .ok (.goto (-23), 3) := by decide +kernel
theorem dX3_init_70 : decode cX3_init 70 = .ok (.return_, 1) := by decide +kernel
theorem dX3_thrown_0 : decode cX3_thrown 0 = .ok (.aload_n 0, 1) := by decide +kernel
theorem dX3_thrown_1 : decode cX3_thrown 1 = .ok (.getfield 20, 3) := by decide +kernel
theorem dX3_thrown_4 : decode cX3_thrown 4 = .ok (.ireturn, 1) := by decide +kernel
theorem dX3_in_0 : decode cX3_in 0 = .ok (.iload_n 0, 1) := by decide +kernel
theorem dX3_in_1 : decode cX3_in 1 = .ok (.iload_n 1, 1) := by decide +kernel
theorem dX3_in_2 : decode cX3_in 2 = .ok (.if_icmp .lt 12, 3) := by decide +kernel
theorem dX3_in_5 : decode cX3_in 5 = .ok (.iload_n 0, 1) := by decide +kernel
theorem dX3_in_6 : decode cX3_in 6 = .ok (.iload_n 2, 1) := by decide +kernel
theorem dX3_in_7 : decode cX3_in 7 = .ok (.if_icmp .gt 7, 3) := by decide +kernel
theorem dX3_in_10 : decode cX3_in 10 = .ok (.iconst 1, 1) := by decide +kernel
theorem dX3_in_11 : decode cX3_in 11 = .ok (.goto 4, 3) := by decide +kernel
theorem dX3_in_14 : decode cX3_in 14 = .ok (.iconst 0, 1) := by decide +kernel
theorem dX3_in_15 : decode cX3_in 15 = .ok (.ireturn, 1) := by decide +kernel
theorem dX3_holds_0 : decode cX3_holds 0 = .ok (.aload_n 0, 1) := by decide +kernel
theorem dX3_holds_1 : decode cX3_holds 1 = .ok (.iload_n 1, 1) := by decide +kernel
theorem dX3_holds_2 : decode cX3_holds 2 = .ok (.putfield 20, 3) := by decide +kernel
theorem dX3_holds_5 : decode cX3_holds 5 = .ok (.iload_n 1, 1) := by decide +kernel
theorem dX3_holds_6 : decode cX3_holds 6 = .ok (.ifCond .ne 7, 3) := by decide +kernel
theorem dX3_holds_9 : decode cX3_holds 9 = .ok (.iconst 1, 1) := by decide +kernel
theorem dX3_holds_10 : decode cX3_holds 10 = .ok (.goto 4, 3) := by decide +kernel
theorem dX3_holds_13 : decode cX3_holds 13 = .ok (.iconst 0, 1) := by decide +kernel
theorem dX3_holds_14 : decode cX3_holds 14 = .ok (.ireturn, 1) := by decide +kernel
theorem dX3_isHost_0 : decode cX3_isHost 0 = .ok (.iload_n 0, 1) := by decide +kernel
theorem dX3_isHost_1 : decode cX3_isHost 1 = .ok (.iconst 0, 1) := by decide +kernel
theorem dX3_isHost_2 : decode cX3_isHost 2 = .ok (.iconst 5, 1) := by decide +kernel
theorem dX3_isHost_3 : decode cX3_isHost 3 = .ok (.invokestatic 24, 3) := by decide +kernel
theorem dX3_isHost_6 : decode cX3_isHost 6 = .ok (.ireturn, 1) := by decide +kernel
theorem dX3_isPage_0 : decode cX3_isPage 0 = .ok (.iload_n 0, 1) := by decide +kernel
theorem dX3_isPage_1 : decode cX3_isPage 1 = .ok (.iconst 0, 1) := by decide +kernel
theorem dX3_isPage_2 : decode cX3_isPage 2 = .ok (.bipush 29, 2) := by decide +kernel
theorem dX3_isPage_4 : decode cX3_isPage 4 = .ok (.invokestatic 24, 3) := by decide +kernel
theorem dX3_isPage_7 : decode cX3_isPage 7 = .ok (.ireturn, 1) := by decide +kernel
theorem dX3_of_0 : decode cX3_of 0 = .ok (.aload_n 0, 1) := by decide +kernel
theorem dX3_of_1 : decode cX3_of 1 = .ok (.getfield 7, 3) := by decide +kernel
theorem dX3_of_4 : decode cX3_of 4 = .ok (.iload_n 1, 1) := by decide +kernel
theorem dX3_of_5 : decode cX3_of 5 = .ok (.bipush 8, 2) := by decide +kernel
theorem dX3_of_7 : decode cX3_of 7 = .ok (.iadd, 1) := by decide +kernel
theorem dX3_of_8 : decode cX3_of 8 = .ok (.iconst 4, 1) := by decide +kernel
theorem dX3_of_9 : decode cX3_of 9 = .ok (.iload_n 2, 1) := by decide +kernel
theorem dX3_of_10 : decode cX3_of 10 = .ok (.imul, 1) := by decide +kernel
theorem dX3_of_11 : decode cX3_of 11 = .ok (.iadd, 1) := by decide +kernel
theorem dX3_of_12 : decode cX3_of 12 = .ok (.iload_n 3, 1) := by decide +kernel
theorem dX3_of_13 : decode cX3_of 13 = .ok (.iadd, 1) := by decide +kernel
theorem dX3_of_14 : decode cX3_of 14 = .ok (.iaload, 1) := by decide +kernel
theorem dX3_of_15 : decode cX3_of 15 = .ok (.ireturn, 1) := by decide +kernel
theorem dX3_lay_0 : decode cX3_lay 0 = .ok (.aload_n 0, 1) := by decide +kernel
theorem dX3_lay_1 : decode cX3_lay 1 = .ok (.getfield 7, 3) := by decide +kernel
theorem dX3_lay_4 : decode cX3_lay 4 = .ok (.iload_n 1, 1) := by decide +kernel
theorem dX3_lay_5 : decode cX3_lay 5 = .ok (.bipush 8, 2) := by decide +kernel
theorem dX3_lay_7 : decode cX3_lay 7 = .ok (.iadd, 1) := by decide +kernel
theorem dX3_lay_8 : decode cX3_lay 8 = .ok (.iconst 4, 1) := by decide +kernel
theorem dX3_lay_9 : decode cX3_lay 9 = .ok (.iload_n 2, 1) := by decide +kernel
theorem dX3_lay_10 : decode cX3_lay 10 = .ok (.imul, 1) := by decide +kernel
theorem dX3_lay_11 : decode cX3_lay 11 = .ok (.iadd, 1) := by decide +kernel
theorem dX3_lay_12 : decode cX3_lay 12 = .ok (.iload_n 3, 1) := by decide +kernel
theorem dX3_lay_13 : decode cX3_lay 13 = .ok (.iadd, 1) := by decide +kernel
theorem dX3_lay_14 : decode cX3_lay 14 = .ok (.iload 4, 2) := by decide +kernel
theorem dX3_lay_16 : decode cX3_lay 16 = .ok (.iastore, 1) := by decide +kernel
theorem dX3_lay_17 : decode cX3_lay 17 = .ok (.return_, 1) := by decide +kernel
theorem dX3_replicaOf_0 : decode cX3_replicaOf 0 = .ok (.aload_n 0, 1) := by decide +kernel
theorem dX3_replicaOf_1 : decode cX3_replicaOf 1 = .ok (.getfield 7, 3) := by decide +kernel
theorem dX3_replicaOf_4 : decode cX3_replicaOf 4 = .ok (.iload_n 1, 1) := by decide +kernel
theorem dX3_replicaOf_5 : decode cX3_replicaOf 5 = .ok (.bipush 92, 2) := by decide +kernel
theorem dX3_replicaOf_7 : decode cX3_replicaOf 7 = .ok (.iadd, 1) := by decide +kernel
theorem dX3_replicaOf_8 : decode cX3_replicaOf 8 = .ok (.bipush 30, 2) := by decide +kernel
theorem dX3_replicaOf_10 : decode cX3_replicaOf 10 = .ok (.iload_n 2, 1) := by decide +kernel
theorem dX3_replicaOf_11 : decode cX3_replicaOf 11 = .ok (.imul, 1) := by decide +kernel
theorem dX3_replicaOf_12 : decode cX3_replicaOf 12 = .ok (.iadd, 1) := by decide +kernel
theorem dX3_replicaOf_13 : decode cX3_replicaOf 13 = .ok (.iload_n 3, 1) := by decide +kernel
theorem dX3_replicaOf_14 : decode cX3_replicaOf 14 = .ok (.iadd, 1) := by decide +kernel
theorem dX3_replicaOf_15 : decode cX3_replicaOf 15 = .ok (.iaload, 1) := by decide +kernel
theorem dX3_replicaOf_16 : decode cX3_replicaOf 16 = .ok (.ireturn, 1) := by decide +kernel
theorem dX3_layReplica_0 : decode cX3_layReplica 0 = .ok (.aload_n 0, 1) := by decide +kernel
theorem dX3_layReplica_1 : decode cX3_layReplica 1 = .ok (.getfield 7, 3) := by decide +kernel
theorem dX3_layReplica_4 : decode cX3_layReplica 4 = .ok (.iload_n 1, 1) := by decide +kernel
theorem dX3_layReplica_5 : decode cX3_layReplica 5 = .ok (.bipush 92, 2) := by decide +kernel
theorem dX3_layReplica_7 : decode cX3_layReplica 7 = .ok (.iadd, 1) := by decide +kernel
theorem dX3_layReplica_8 : decode cX3_layReplica 8 = .ok (.bipush 30, 2) := by decide +kernel
theorem dX3_layReplica_10 : decode cX3_layReplica 10 = .ok (.iload_n 2, 1) := by decide +kernel
theorem dX3_layReplica_11 : decode cX3_layReplica 11 = .ok (.imul, 1) := by decide +kernel
theorem dX3_layReplica_12 : decode cX3_layReplica 12 = .ok (.iadd, 1) := by decide +kernel
theorem dX3_layReplica_13 : decode cX3_layReplica 13 = .ok (.iload_n 3, 1) := by decide +kernel
theorem dX3_layReplica_14 : decode cX3_layReplica 14 = .ok (.iadd, 1) := by decide +kernel
theorem dX3_layReplica_15 : decode cX3_layReplica 15 = .ok (.iload 4, 2) := by decide +kernel
theorem dX3_layReplica_17 : decode cX3_layReplica 17 = .ok (.iastore, 1) := by decide +kernel
theorem dX3_layReplica_18 : decode cX3_layReplica 18 = .ok (.return_, 1) := by decide +kernel
theorem dX3_isThere_0 : decode cX3_isThere 0 = .ok (.aload_n 0, 1) := by decide +kernel
theorem dX3_isThere_1 : decode cX3_isThere 1 = .ok (.getfield 7, 3) := by decide +kernel
theorem dX3_isThere_4 : decode cX3_isThere 4 = .ok (.iload_n 1, 1) := by decide +kernel
theorem dX3_isThere_5 : decode cX3_isThere 5 = .ok (.bipush 32, 2) := by decide +kernel
theorem dX3_isThere_7 : decode cX3_isThere 7 = .ok (.iadd, 1) := by decide +kernel
theorem dX3_isThere_8 : decode cX3_isThere 8 = .ok (.iload_n 2, 1) := by decide +kernel
theorem dX3_isThere_9 : decode cX3_isThere 9 = .ok (.iadd, 1) := by decide +kernel
theorem dX3_isThere_10 : decode cX3_isThere 10 = .ok (.iaload, 1) := by decide +kernel
theorem dX3_isThere_11 : decode cX3_isThere 11 = .ok (.ifCond .le 7, 3) := by decide +kernel
theorem dX3_isThere_14 : decode cX3_isThere 14 = .ok (.iconst 1, 1) := by decide +kernel
theorem dX3_isThere_15 : decode cX3_isThere 15 = .ok (.goto 4, 3) := by decide +kernel
theorem dX3_isThere_18 : decode cX3_isThere 18 = .ok (.iconst 0, 1) := by decide +kernel
theorem dX3_isThere_19 : decode cX3_isThere 19 = .ok (.ireturn, 1) := by decide +kernel
theorem dX3_isFresh_0 : decode cX3_isFresh 0 = .ok (.aload_n 0, 1) := by decide +kernel
theorem dX3_isFresh_1 : decode cX3_isFresh 1 = .ok (.iload_n 1, 1) := by decide +kernel
theorem dX3_isFresh_2 : decode cX3_isFresh 2 = .ok (.iload_n 3, 1) := by decide +kernel
theorem dX3_isFresh_3 : decode cX3_isFresh 3 = .ok (.invokevirtual 28, 3) := by decide +kernel
theorem dX3_isFresh_6 : decode cX3_isFresh 6 = .ok (.ifCond .eq 28, 3) := by decide +kernel
theorem dX3_isFresh_9 : decode cX3_isFresh 9 = .ok (.aload_n 0, 1) := by decide +kernel
theorem dX3_isFresh_10 : decode cX3_isFresh 10 = .ok (.iload_n 1, 1) := by decide +kernel
theorem dX3_isFresh_11 : decode cX3_isFresh 11 = .ok (.iload_n 2, 1) := by decide +kernel
theorem dX3_isFresh_12 : decode cX3_isFresh 12 = .ok (.iload_n 3, 1) := by decide +kernel
theorem dX3_isFresh_13 : decode cX3_isFresh 13 = .ok (.invokevirtual 32, 3) := by decide +kernel
theorem dX3_isFresh_16 : decode cX3_isFresh 16 = .ok (.aload_n 0, 1) := by decide +kernel
theorem dX3_isFresh_17 : decode cX3_isFresh 17 = .ok (.getfield 7, 3) := by decide +kernel
theorem dX3_isFresh_20 : decode cX3_isFresh 20 = .ok (.iload_n 1, 1) := by decide +kernel
theorem dX3_isFresh_21 : decode cX3_isFresh 21 = .ok (.bipush 32, 2) := by decide +kernel
theorem dX3_isFresh_23 : decode cX3_isFresh 23 = .ok (.iadd, 1) := by decide +kernel
theorem dX3_isFresh_24 : decode cX3_isFresh 24 = .ok (.iload_n 3, 1) := by decide +kernel
theorem dX3_isFresh_25 : decode cX3_isFresh 25 = .ok (.iadd, 1) := by decide +kernel
theorem dX3_isFresh_26 : decode cX3_isFresh 26 = .ok (.iaload, 1) := by decide +kernel
theorem dX3_isFresh_27 : decode cX3_isFresh 27 = .ok (.if_icmp .ne 7, 3) := by decide +kernel
theorem dX3_isFresh_30 : decode cX3_isFresh 30 = .ok (.iconst 1, 1) := by decide +kernel
theorem dX3_isFresh_31 : decode cX3_isFresh 31 = .ok (.goto 4, 3) := by decide +kernel
theorem dX3_isFresh_34 : decode cX3_isFresh 34 = .ok (.iconst 0, 1) := by decide +kernel
theorem dX3_isFresh_35 : decode cX3_isFresh 35 = .ok (.ireturn, 1) := by decide +kernel
theorem dX3_copiesOf_0 : decode cX3_copiesOf 0 = .ok (.iconst 0, 1) := by decide +kernel
theorem dX3_copiesOf_1 : decode cX3_copiesOf 1 = .ok (.istore_n 3, 1) := by decide +kernel
theorem dX3_copiesOf_2 : decode cX3_copiesOf 2 = .ok (.iconst 0, 1) := by decide +kernel
theorem dX3_copiesOf_3 : decode cX3_copiesOf 3 = .ok (.istore 4, 2) := by decide +kernel
theorem dX3_copiesOf_5 : decode cX3_copiesOf 5 = .ok (.iload 4, 2) := by decide +kernel
theorem dX3_copiesOf_7 : decode cX3_copiesOf 7 = .ok (.bipush 6, 2) := by decide +kernel
theorem dX3_copiesOf_9 : decode cX3_copiesOf 9 = .ok (.if_icmp .ge 43, 3) := by decide +kernel
theorem dX3_copiesOf_12 : decode cX3_copiesOf 12 = .ok (.iload_n 3, 1) := by decide +kernel
theorem dX3_copiesOf_13 : decode cX3_copiesOf 13 = .ok (.aload_n 0, 1) := by decide +kernel
theorem dX3_copiesOf_14 : decode cX3_copiesOf 14 = .ok (.iload_n 1, 1) := by decide +kernel
theorem dX3_copiesOf_15 : decode cX3_copiesOf 15 = .ok (.iload 4, 2) := by decide +kernel
theorem dX3_copiesOf_17 : decode cX3_copiesOf 17 = .ok (.iconst 1, 1) := by decide +kernel
theorem dX3_copiesOf_18 : decode cX3_copiesOf 18 = .ok (.invokevirtual 36, 3) := by decide +kernel
theorem dX3_copiesOf_21 : decode cX3_copiesOf 21 = .ok (.iconst 1, 1) := by decide +kernel
theorem dX3_copiesOf_22 : decode cX3_copiesOf 22 = .ok (.if_icmp .ne 21, 3) := by decide +kernel
theorem dX3_copiesOf_25 : decode cX3_copiesOf 25 = .ok (.aload_n 0, 1) := by decide +kernel
