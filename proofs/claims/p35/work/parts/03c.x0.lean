theorem dX0_init_0 : decode cX0_init 0 = .ok (.aload_n 0, 1) := by decide +kernel
theorem dX0_init_1 : decode cX0_init 1 = .ok (.invokespecial 3, 3) := by decide +kernel
theorem dX0_init_4 : decode cX0_init 4 = .ok (.aload_n 0, 1) := by decide +kernel
theorem dX0_init_5 : decode cX0_init 5 = .ok (.iconst 0, 1) := by decide +kernel
theorem dX0_init_6 : decode cX0_init 6 = .ok (.putfield 9, 3) := by decide +kernel
theorem dX0_init_9 : decode cX0_init 9 = .ok (.aload_n 0, 1) := by decide +kernel
theorem dX0_init_10 : decode cX0_init 10 = .ok (.iconst 0, 1) := by decide +kernel
theorem dX0_init_11 : decode cX0_init 11 = .ok (.putfield 15, 3) := by decide +kernel
theorem dX0_init_14 : decode cX0_init 14 = .ok (.aload_n 0, 1) := by decide +kernel
theorem dX0_init_15 : decode cX0_init 15 = .ok (.iconst 0, 1) := by decide +kernel
theorem dX0_init_16 : decode cX0_init 16 = .ok (.putfield 18, 3) := by decide +kernel
theorem dX0_init_19 : decode cX0_init 19 = .ok (.aload_n 0, 1) := by decide +kernel
theorem dX0_init_20 : decode cX0_init 20 = .ok (.iconst 0, 1) := by decide +kernel
theorem dX0_init_21 : decode cX0_init 21 = .ok (.putfield 21, 3) := by decide +kernel
theorem dX0_init_24 : decode cX0_init 24 = .ok (.aload_n 0, 1) := by decide +kernel
theorem dX0_init_25 : decode cX0_init 25 = .ok (.bipush 24, 2) := by decide +kernel
theorem dX0_init_27 : decode cX0_init 27 = .ok (.newarray .int, 2) := by decide +kernel
theorem dX0_init_29 : decode cX0_init 29 = .ok (.putfield 24, 3) := by decide +kernel
theorem dX0_init_32 : decode cX0_init 32 = .ok (.aload_n 0, 1) := by decide +kernel
theorem dX0_init_33 : decode cX0_init 33 = .ok (.bipush 24, 2) := by decide +kernel
theorem dX0_init_35 : decode cX0_init 35 = .ok (.newarray .int, 2) := by decide +kernel
theorem dX0_init_37 : decode cX0_init 37 = .ok (.putfield 28, 3) := by decide +kernel
theorem dX0_init_40 : decode cX0_init 40 = .ok (.aload_n 0, 1) := by decide +kernel
theorem dX0_init_41 : decode cX0_init 41 = .ok (.bipush 24, 2) := by decide +kernel
theorem dX0_init_43 : decode cX0_init 43 = .ok (.newarray .int, 2) := by decide +kernel
theorem dX0_init_45 : decode cX0_init 45 = .ok (.putfield 31, 3) := by decide +kernel
theorem dX0_init_48 : decode cX0_init 48 = .ok (.aload_n 0, 1) := by decide +kernel
theorem dX0_init_49 : decode cX0_init 49 = .ok (.bipush 24, 2) := by decide +kernel
theorem dX0_init_51 : decode cX0_init 51 = .ok (.newarray .int, 2) := by decide +kernel
theorem dX0_init_53 : decode cX0_init 53 = .ok (.putfield 34, 3) := by decide +kernel
theorem dX0_init_56 : decode cX0_init 56 = .ok (.aload_n 0, 1) := by decide +kernel
theorem dX0_init_57 : decode cX0_init 57 = .ok (.bipush 24, 2) := by decide +kernel
theorem dX0_init_59 : decode cX0_init 59 = .ok (.newarray .int, 2) := by decide +kernel
theorem dX0_init_61 : decode cX0_init 61 = .ok (.putfield 37, 3) := by decide +kernel
theorem dX0_init_64 : decode cX0_init 64 = .ok (.aload_n 0, 1) := by decide +kernel
theorem dX0_init_65 : decode cX0_init 65 = .ok (.bipush 24, 2) := by decide +kernel
theorem dX0_init_67 : decode cX0_init 67 = .ok (.newarray .int, 2) := by decide +kernel
theorem dX0_init_69 : decode cX0_init 69 = .ok (.putfield 40, 3) := by decide +kernel
theorem dX0_init_72 : decode cX0_init 72 = .ok (.aload_n 0, 1) := by decide +kernel
theorem dX0_init_73 : decode cX0_init 73 = .ok (.bipush 24, 2) := by decide +kernel
theorem dX0_init_75 : decode cX0_init 75 = .ok (.newarray .int, 2) := by decide +kernel
theorem dX0_init_77 : decode cX0_init 77 = .ok (.putfield 43, 3) := by decide +kernel
theorem dX0_init_80 : decode cX0_init 80 = .ok (.aload_n 0, 1) := by decide +kernel
theorem dX0_init_81 : decode cX0_init 81 = .ok (.iconst 0, 1) := by decide +kernel
theorem dX0_init_82 : decode cX0_init 82 = .ok (.putfield 46, 3) := by decide +kernel
theorem dX0_init_85 : decode cX0_init 85 = .ok (.aload_n 0, 1) := by decide +kernel
theorem dX0_init_86 : decode cX0_init 86 = .ok (.bipush 8, 2) := by decide +kernel
theorem dX0_init_88 : decode cX0_init 88 = .ok (.newarray .int, 2) := by decide +kernel
theorem dX0_init_90 : decode cX0_init 90 = .ok (.putfield 49, 3) := by decide +kernel
theorem dX0_init_93 : decode cX0_init 93 = .ok (.aload_n 0, 1) := by decide +kernel
theorem dX0_init_94 : decode cX0_init 94 = .ok (.bipush 8, 2) := by decide +kernel
theorem dX0_init_96 : decode cX0_init 96 = .ok (.newarray .int, 2) := by decide +kernel
theorem dX0_init_98 : decode cX0_init 98 = .ok (.putfield 52, 3) := by decide +kernel
theorem dX0_init_101 : decode cX0_init 101 = .ok (.aload_n 0, 1) := by decide +kernel
theorem dX0_init_102 : decode cX0_init 102 = .ok (.bipush 8, 2) := by decide +kernel
theorem dX0_init_104 : decode cX0_init 104 = .ok (.newarray .int, 2) := by decide +kernel
theorem dX0_init_106 : decode cX0_init 106 = .ok (.putfield 55, 3) := by decide +kernel
theorem dX0_init_109 : decode cX0_init 109 = .ok (.return_, 1) := by decide +kernel
theorem dX0_admitGuard_0 : decode cX0_admitGuard 0 = .ok (.aload_n 0, 1) := by decide +kernel
theorem dX0_admitGuard_1 : decode cX0_admitGuard 1 = .ok (.getfield 46, 3) := by decide +kernel
theorem dX0_admitGuard_4 : decode cX0_admitGuard 4 = .ok (.bipush 8, 2) := by decide +kernel
theorem dX0_admitGuard_6 : decode cX0_admitGuard 6 = .ok (.if_icmp .lt 4, 3) := by decide +kernel
theorem dX0_admitGuard_9 : decode cX0_admitGuard 9 = .ok (.return_, 1) := by decide +kernel
theorem dX0_admitGuard_10 : decode cX0_admitGuard 10 = .ok (.aload_n 0, 1) := by decide +kernel
theorem dX0_admitGuard_11 : decode cX0_admitGuard 11 = .ok (.getfield 49, 3) := by decide +kernel
theorem dX0_admitGuard_14 : decode cX0_admitGuard 14 = .ok (.aload_n 0, 1) := by decide +kernel
theorem dX0_admitGuard_15 : decode cX0_admitGuard 15 = .ok (.getfield 46, 3) := by decide +kernel
theorem dX0_admitGuard_18 : decode cX0_admitGuard 18 = .ok (.bipush 9, 2) := by decide +kernel
theorem dX0_admitGuard_20 : decode cX0_admitGuard 20 = .ok (.iastore, 1) := by decide +kernel
theorem dX0_admitGuard_21 : decode cX0_admitGuard 21 = .ok (.aload_n 0, 1) := by decide +kernel
theorem dX0_admitGuard_22 : decode cX0_admitGuard 22 = .ok (.getfield 52, 3) := by decide +kernel
theorem dX0_admitGuard_25 : decode cX0_admitGuard 25 = .ok (.aload_n 0, 1) := by decide +kernel
theorem dX0_admitGuard_26 : decode cX0_admitGuard 26 = .ok (.getfield 46, 3) := by decide +kernel
theorem dX0_admitGuard_29 : decode cX0_admitGuard 29 = .ok (.iconst (-1), 1) := by decide +kernel
theorem dX0_admitGuard_30 : decode cX0_admitGuard 30 = .ok (.iastore, 1) := by decide +kernel
theorem dX0_admitGuard_31 : decode cX0_admitGuard 31 = .ok (.aload_n 0, 1) := by decide +kernel
theorem dX0_admitGuard_32 : decode cX0_admitGuard 32 = .ok (.getfield 55, 3) := by decide +kernel
theorem dX0_admitGuard_35 : decode cX0_admitGuard 35 = .ok (.aload_n 0, 1) := by decide +kernel
theorem dX0_admitGuard_36 : decode cX0_admitGuard 36 = .ok (.getfield 46, 3) := by decide +kernel
theorem dX0_admitGuard_39 : decode cX0_admitGuard 39 = .ok (.iconst 0, 1) := by decide +kernel
theorem dX0_admitGuard_40 : decode cX0_admitGuard 40 = .ok (.iastore, 1) := by decide +kernel
theorem dX0_admitGuard_41 : decode cX0_admitGuard 41 = .ok (.aload_n 0, 1) := by decide +kernel
theorem dX0_admitGuard_42 : decode cX0_admitGuard 42 = .ok (.dup, 1) := by decide +kernel
theorem dX0_admitGuard_43 : decode cX0_admitGuard 43 = .ok (.getfield 46, 3) := by decide +kernel
theorem dX0_admitGuard_46 : decode cX0_admitGuard 46 = .ok (.iconst 1, 1) := by decide +kernel
theorem dX0_admitGuard_47 : decode cX0_admitGuard 47 = .ok (.iadd, 1) := by decide +kernel
theorem dX0_admitGuard_48 : decode cX0_admitGuard 48 = .ok (.putfield 46, 3) := by decide +kernel
theorem dX0_admitGuard_51 : decode cX0_admitGuard 51 = .ok (.return_, 1) := by decide +kernel
theorem dX0_admitTraveller_0 : decode cX0_admitTraveller 0 = .ok (.aload_n 0, 1) := by decide +kernel
theorem dX0_admitTraveller_1 : decode cX0_admitTraveller 1 = .ok (.getfield 21, 3) := by decide +kernel
theorem dX0_admitTraveller_4 : decode cX0_admitTraveller 4 = .ok (.bipush 24, 2) := by decide +kernel
theorem dX0_admitTraveller_6 : decode cX0_admitTraveller 6 = .ok (.if_icmp .lt 4, 3) := by decide +kernel
theorem dX0_admitTraveller_9 : decode cX0_admitTraveller 9 = .ok (.return_, 1) := by decide +kernel
theorem dX0_admitTraveller_10 : decode cX0_admitTraveller 10 = .ok (.aload_n 0, 1) := by decide +kernel
theorem dX0_admitTraveller_11 : decode cX0_admitTraveller 11 = .ok (.getfield 24, 3) := by decide +kernel
theorem dX0_admitTraveller_14 : decode cX0_admitTraveller 14 = .ok (.aload_n 0, 1) := by decide +kernel
theorem dX0_admitTraveller_15 : decode cX0_admitTraveller 15 = .ok (.getfield 21, 3) := by decide +kernel
theorem dX0_admitTraveller_18 : decode cX0_admitTraveller 18 = .ok (.iload_n 1, 1) := by decide +kernel
theorem dX0_admitTraveller_19 : decode cX0_admitTraveller 19 = .ok (.iastore, 1) := by decide +kernel
theorem dX0_admitTraveller_20 : decode cX0_admitTraveller 20 = .ok (.aload_n 0, 1) := by decide +kernel
theorem dX0_admitTraveller_21 : decode cX0_admitTraveller 21 = .ok (.getfield 28, 3) := by decide +kernel
theorem dX0_admitTraveller_24 : decode cX0_admitTraveller 24 = .ok (.aload_n 0, 1) := by decide +kernel
theorem dX0_admitTraveller_25 : decode cX0_admitTraveller 25 = .ok (.getfield 21, 3) := by decide +kernel
theorem dX0_admitTraveller_28 : decode cX0_admitTraveller 28 = .ok (.iload_n 2, 1) := by decide +kernel
theorem dX0_admitTraveller_29 : decode cX0_admitTraveller 29 = .ok (.iastore, 1) := by decide +kernel
theorem dX0_admitTraveller_30 : decode cX0_admitTraveller 30 = .ok (.aload_n 0, 1) := by decide +kernel
theorem dX0_admitTraveller_31 : decode cX0_admitTraveller 31 = .ok (.getfield 31, 3) := by decide +kernel
theorem dX0_admitTraveller_34 : decode cX0_admitTraveller 34 = .ok (.aload_n 0, 1) := by decide +kernel
theorem dX0_admitTraveller_35 : decode cX0_admitTraveller 35 = .ok (.getfield 21, 3) := by decide +kernel
theorem dX0_admitTraveller_38 : decode cX0_admitTraveller 38 = .ok (.iload_n 3, 1) := by decide +kernel
theorem dX0_admitTraveller_39 : decode cX0_admitTraveller 39 = .ok (.iastore, 1) := by decide +kernel
theorem dX0_admitTraveller_40 : decode cX0_admitTraveller 40 = .ok (.aload_n 0, 1) := by decide +kernel
theorem dX0_admitTraveller_41 : decode cX0_admitTraveller 41 = .ok (.getfield 34, 3) := by decide +kernel
theorem dX0_admitTraveller_44 : decode cX0_admitTraveller 44 = .ok (.aload_n 0, 1) := by decide +kernel
theorem dX0_admitTraveller_45 : decode cX0_admitTraveller 45 = .ok (.getfield 21, 3) := by decide +kernel
theorem dX0_admitTraveller_48 : decode cX0_admitTraveller 48 = .ok (.iload 4, 2) := by decide +kernel
theorem dX0_admitTraveller_50 : decode cX0_admitTraveller 50 = .ok (.iastore, 1) := by decide +kernel
theorem dX0_admitTraveller_51 : decode cX0_admitTraveller 51 = .ok (.aload_n 0, 1) := by decide +kernel
theorem dX0_admitTraveller_52 : decode cX0_admitTraveller 52 = .ok (.getfield 37, 3) := by decide +kernel
theorem dX0_admitTraveller_55 : decode cX0_admitTraveller 55 = .ok (.aload_n 0, 1) := by decide +kernel
theorem dX0_admitTraveller_56 : decode cX0_admitTraveller 56 = .ok (.getfield 21, 3) := by decide +kernel
theorem dX0_admitTraveller_59 : decode cX0_admitTraveller 59 = .ok (.iconst 0, 1) := by decide +kernel
theorem dX0_admitTraveller_60 : decode cX0_admitTraveller 60 = .ok (.iastore, 1) := by decide +kernel
theorem dX0_admitTraveller_61 : decode cX0_admitTraveller 61 = .ok (.aload_n 0, 1) := by decide +kernel
theorem dX0_admitTraveller_62 : decode cX0_admitTraveller 62 = .ok (.dup, 1) := by decide +kernel
theorem dX0_admitTraveller_63 : decode cX0_admitTraveller 63 = .ok (.getfield 21, 3) := by decide +kernel
theorem dX0_admitTraveller_66 : decode cX0_admitTraveller 66 = .ok (.iconst 1, 1) := by decide +kernel
theorem dX0_admitTraveller_67 : decode cX0_admitTraveller 67 = .ok (.iadd, 1) := by decide +kernel
theorem dX0_admitTraveller_68 : decode cX0_admitTraveller 68 = .ok (.putfield 21, 3) := by decide +kernel
theorem dX0_admitTraveller_71 : decode cX0_admitTraveller 71 = .ok (.return_, 1) := by decide +kernel
theorem dX0_isTraveller_0 : decode cX0_isTraveller 0 = .ok (.iload_n 1, 1) := by decide +kernel
theorem dX0_isTraveller_1 : decode cX0_isTraveller 1 = .ok (.ifCond .lt 15, 3) := by decide +kernel
theorem dX0_isTraveller_4 : decode cX0_isTraveller 4 = .ok (.iload_n 1, 1) := by decide +kernel
theorem dX0_isTraveller_5 : decode cX0_isTraveller 5 = .ok (.aload_n 0, 1) := by decide +kernel
theorem dX0_isTraveller_6 : decode cX0_isTraveller 6 = .ok (.getfield 21, 3) := by decide +kernel
theorem dX0_isTraveller_9 : decode cX0_isTraveller 9 = .ok (.if_icmp .ge 7, 3) := by decide +kernel
theorem dX0_isTraveller_12 : decode cX0_isTraveller 12 = .ok (.iconst 1, 1) := by decide +kernel
theorem dX0_isTraveller_13 : decode cX0_isTraveller 13 = .ok (.goto 4, 3) := by decide +kernel
theorem dX0_isTraveller_16 : decode cX0_isTraveller 16 = .ok (.iconst 0, 1) := by decide +kernel
theorem dX0_isTraveller_17 : decode cX0_isTraveller 17 = .ok (.ireturn, 1) := by decide +kernel
theorem dX0_isGuard_0 : decode cX0_isGuard 0 = .ok (.iload_n 1, 1) := by decide +kernel
theorem dX0_isGuard_1 : decode cX0_isGuard 1 = .ok (.ifCond .lt 15, 3) := by decide +kernel
theorem dX0_isGuard_4 : decode cX0_isGuard 4 = .ok (.iload_n 1, 1) := by decide +kernel
theorem dX0_isGuard_5 : decode cX0_isGuard 5 = .ok (.aload_n 0, 1) := by decide +kernel
theorem dX0_isGuard_6 : decode cX0_isGuard 6 = .ok (.getfield 46, 3) := by decide +kernel
theorem dX0_isGuard_9 : decode cX0_isGuard 9 = .ok (.if_icmp .ge 7, 3) := by decide +kernel
theorem dX0_isGuard_12 : decode cX0_isGuard 12 = .ok (.iconst 1, 1) := by decide +kernel
theorem dX0_isGuard_13 : decode cX0_isGuard 13 = .ok (.goto 4, 3) := by decide +kernel
theorem dX0_isGuard_16 : decode cX0_isGuard 16 = .ok (.iconst 0, 1) := by decide +kernel
theorem dX0_isGuard_17 : decode cX0_isGuard 17 = .ok (.ireturn, 1) := by decide +kernel
theorem dX0_countIn_0 : decode cX0_countIn 0 = .ok (.iconst 0, 1) := by decide +kernel
theorem dX0_countIn_1 : decode cX0_countIn 1 = .ok (.istore_n 2, 1) := by decide +kernel
theorem dX0_countIn_2 : decode cX0_countIn 2 = .ok (.iconst 0, 1) := by decide +kernel
theorem dX0_countIn_3 : decode cX0_countIn 3 = .ok (.istore_n 3, 1) := by decide +kernel
theorem dX0_countIn_4 : decode cX0_countIn 4 = .ok (.iload_n 3, 1) := by decide +kernel
theorem dX0_countIn_5 : decode cX0_countIn 5 = .ok (.aload_n 0, 1) := by decide +kernel
theorem dX0_countIn_6 : decode cX0_countIn 6 = .ok (.getfield 21, 3) := by decide +kernel
theorem dX0_countIn_9 : decode cX0_countIn 9 = .ok (.if_icmp .ge 22, 3) := by decide +kernel
theorem dX0_countIn_12 : decode cX0_countIn 12 = .ok (.aload_n 0, 1) := by decide +kernel
theorem dX0_countIn_13 : decode cX0_countIn 13 = .ok (.getfield 37, 3) := by decide +kernel
theorem dX0_countIn_16 : decode cX0_countIn 16 = .ok (.iload_n 3, 1) := by decide +kernel
theorem dX0_countIn_17 : decode cX0_countIn 17 = .ok (.iaload, 1) := by decide +kernel
theorem dX0_countIn_18 : decode cX0_countIn 18 = .ok (.iload_n 1, 1) := by decide +kernel
theorem dX0_countIn_19 : decode cX0_countIn 19 = .ok (.if_icmp .ne 6, 3) := by decide +kernel
theorem dX0_countIn_22 : decode cX0_countIn 22 = .ok (.iinc 2 1, 3) := by decide +kernel
theorem dX0_countIn_25 : decode cX0_countIn 25 = .ok (.iinc 3 1, 3) := by decide +kernel
theorem dX0_countIn_28 : decode cX0_countIn 28 = .ok (.goto (-24), 3) := by decide +kernel
theorem dX0_countIn_31 : decode cX0_countIn 31 = .ok (.iload_n 2, 1) := by decide +kernel
theorem dX0_countIn_32 : decode cX0_countIn 32 = .ok (.ireturn, 1) := by decide +kernel
theorem dX0_waitingAhead_0 : decode cX0_waitingAhead 0 = .ok (.iconst 0, 1) := by decide +kernel
theorem dX0_waitingAhead_1 : decode cX0_waitingAhead 1 = .ok (.istore_n 2, 1) := by decide +kernel
theorem dX0_waitingAhead_2 : decode cX0_waitingAhead 2 = .ok (.iconst 0, 1) := by decide +kernel
theorem dX0_waitingAhead_3 : decode cX0_waitingAhead 3 = .ok (.istore_n 3, 1) := by decide +kernel
theorem dX0_waitingAhead_4 : decode cX0_waitingAhead 4 = .ok (.iload_n 3, 1) := by decide +kernel
theorem dX0_waitingAhead_5 : decode cX0_waitingAhead 5 = .ok (.aload_n 0, 1) := by decide +kernel
theorem dX0_waitingAhead_6 : decode cX0_waitingAhead 6 = .ok (.getfield 21, 3) := by decide +kernel
theorem dX0_waitingAhead_9 : decode cX0_waitingAhead 9 = .ok (.if_icmp .ge 26, 3) := by decide +kernel
theorem dX0_waitingAhead_12 : decode cX0_waitingAhead 12 = .ok (.iload_n 3, 1) := by decide +kernel
theorem dX0_waitingAhead_13 : decode cX0_waitingAhead 13 = .ok (.iload_n 1, 1) := by decide +kernel
theorem dX0_waitingAhead_14 : decode cX0_waitingAhead 14 = .ok (.if_icmp .ge 21, 3) := by decide +kernel
theorem dX0_waitingAhead_17 : decode cX0_waitingAhead 17 = .ok (.aload_n 0, 1) := by decide +kernel
theorem dX0_waitingAhead_18 : decode cX0_waitingAhead 18 = .ok (.getfield 37, 3) := by decide +kernel
theorem dX0_waitingAhead_21 : decode cX0_waitingAhead 21 = .ok (.iload_n 3, 1) := by decide +kernel
theorem dX0_waitingAhead_22 : decode cX0_waitingAhead 22 = .ok (.iaload, 1) := by decide +kernel
theorem dX0_waitingAhead_23 : decode cX0_waitingAhead 23 = .ok (.ifCond .ne 6, 3) := by decide +kernel
theorem dX0_waitingAhead_26 : decode cX0_waitingAhead 26 = .ok (.iinc 2 1, 3) := by decide +kernel
theorem dX0_waitingAhead_29 : decode cX0_waitingAhead 29 = .ok (.iinc 3 1, 3) := by decide +kernel
theorem dX0_waitingAhead_32 : decode cX0_waitingAhead 32 = .ok (.goto (-28), 3) := by decide +kernel
theorem dX0_waitingAhead_35 : decode cX0_waitingAhead 35 = .ok (.iload_n 2, 1) := by decide +kernel
theorem dX0_waitingAhead_36 : decode cX0_waitingAhead 36 = .ok (.ireturn, 1) := by decide +kernel
theorem dX0_firstWaiting_0 : decode cX0_firstWaiting 0 = .ok (.iconst 0, 1) := by decide +kernel
theorem dX0_firstWaiting_1 : decode cX0_firstWaiting 1 = .ok (.istore_n 1, 1) := by decide +kernel
theorem dX0_firstWaiting_2 : decode cX0_firstWaiting 2 = .ok (.iload_n 1, 1) := by decide +kernel
theorem dX0_firstWaiting_3 : decode cX0_firstWaiting 3 = .ok (.aload_n 0, 1) := by decide +kernel
theorem dX0_firstWaiting_4 : decode cX0_firstWaiting 4 = .ok (.getfield 21, 3) := by decide +kernel
theorem dX0_firstWaiting_7 : decode cX0_firstWaiting 7 = .ok (.if_icmp .ge 20, 3) := by decide +kernel
theorem dX0_firstWaiting_10 : decode cX0_firstWaiting 10 = .ok (.aload_n 0, 1) := by decide +kernel
theorem dX0_firstWaiting_11 : decode cX0_firstWaiting 11 = .ok (.getfield 37, 3) := by decide +kernel
theorem dX0_firstWaiting_14 : decode cX0_firstWaiting 14 = .ok (.iload_n 1, 1) := by decide +kernel
theorem dX0_firstWaiting_15 : decode cX0_firstWaiting 15 = .ok (.iaload, 1) := by decide +kernel
theorem dX0_firstWaiting_16 : decode cX0_firstWaiting 16 = .ok (.ifCond .ne 5, 3) := by decide +kernel
theorem dX0_firstWaiting_19 : decode cX0_firstWaiting 19 = .ok (.iload_n 1, 1) := by decide +kernel
theorem dX0_firstWaiting_20 : decode cX0_firstWaiting 20 = .ok (.ireturn, 1) := by decide +kernel
theorem dX0_firstWaiting_21 : decode cX0_firstWaiting 21 = .ok (.iinc 1 1, 3) := by decide +kernel
theorem dX0_firstWaiting_24 : decode cX0_firstWaiting 24 = .ok (.goto (-22), 3) := by decide +kernel
theorem dX0_firstWaiting_27 : decode cX0_firstWaiting 27 = .ok (.iconst (-1), 1) := by decide +kernel
theorem dX0_firstWaiting_28 : decode cX0_firstWaiting 28 = .ok (.ireturn, 1) := by decide +kernel
theorem dX0_addedSnores_0 : decode cX0_addedSnores 0 = .ok (.iconst 0, 1) := by decide +kernel
theorem dX0_addedSnores_1 : decode cX0_addedSnores 1 = .ok (.istore_n 1, 1) := by decide +kernel
theorem dX0_addedSnores_2 : decode cX0_addedSnores 2 = .ok (.iconst 0, 1) := by decide +kernel
theorem dX0_addedSnores_3 : decode cX0_addedSnores 3 = .ok (.istore_n 2, 1) := by decide +kernel
theorem dX0_addedSnores_4 : decode cX0_addedSnores 4 = .ok (.iload_n 2, 1) := by decide +kernel
theorem dX0_addedSnores_5 : decode cX0_addedSnores 5 = .ok (.aload_n 0, 1) := by decide +kernel
theorem dX0_addedSnores_6 : decode cX0_addedSnores 6 = .ok (.getfield 21, 3) := by decide +kernel
theorem dX0_addedSnores_9 : decode cX0_addedSnores 9 = .ok (.if_icmp .ge 28, 3) := by decide +kernel
theorem dX0_addedSnores_12 : decode cX0_addedSnores 12 = .ok (.aload_n 0, 1) := by decide +kernel
theorem dX0_addedSnores_13 : decode cX0_addedSnores 13 = .ok (.getfield 37, 3) := by decide +kernel
theorem dX0_addedSnores_16 : decode cX0_addedSnores 16 = .ok (.iload_n 2, 1) := by decide +kernel
theorem dX0_addedSnores_17 : decode cX0_addedSnores 17 = .ok (.iaload, 1) := by decide +kernel
theorem dX0_addedSnores_18 : decode cX0_addedSnores 18 = .ok (.iconst 2, 1) := by decide +kernel
theorem dX0_addedSnores_19 : decode cX0_addedSnores 19 = .ok (.if_icmp .ne 12, 3) := by decide +kernel
theorem dX0_addedSnores_22 : decode cX0_addedSnores 22 = .ok (.iload_n 1, 1) := by decide +kernel
theorem dX0_addedSnores_23 : decode cX0_addedSnores 23 = .ok (.aload_n 0, 1) := by decide +kernel
theorem dX0_addedSnores_24 : decode cX0_addedSnores 24 = .ok (.getfield 31, 3) := by decide +kernel
theorem dX0_addedSnores_27 : decode cX0_addedSnores 27 = .ok (.iload_n 2, 1) := by decide +kernel
theorem dX0_addedSnores_28 : decode cX0_addedSnores 28 = .ok (.iaload, 1) := by decide +kernel
theorem dX0_addedSnores_29 : decode cX0_addedSnores 29 = .ok (.iadd, 1) := by decide +kernel
theorem dX0_addedSnores_30 : decode cX0_addedSnores 30 = .ok (.istore_n 1, 1) := by decide +kernel
theorem dX0_addedSnores_31 : decode cX0_addedSnores 31 = .ok (.iinc 2 1, 3) := by decide +kernel
theorem dX0_addedSnores_34 : decode cX0_addedSnores 34 = .ok (.goto (-30), 3) := by decide +kernel
theorem dX0_addedSnores_37 : decode cX0_addedSnores 37 = .ok (.iload_n 1, 1) := by decide +kernel
theorem dX0_addedSnores_38 : decode cX0_addedSnores 38 = .ok (.ireturn, 1) := by decide +kernel
theorem dX0_hiddenDreams_0 : decode cX0_hiddenDreams 0 = .ok (.aload_n 0, 1) := by decide +kernel
theorem dX0_hiddenDreams_1 : decode cX0_hiddenDreams 1 = .ok (.getfield 24, 3) := by decide +kernel
theorem dX0_hiddenDreams_4 : decode cX0_hiddenDreams 4 = .ok (.iload_n 1, 1) := by decide +kernel
theorem dX0_hiddenDreams_5 : decode cX0_hiddenDreams 5 = .ok (.iaload, 1) := by decide +kernel
theorem dX0_hiddenDreams_6 : decode cX0_hiddenDreams 6 = .ok (.aload_n 0, 1) := by decide +kernel
theorem dX0_hiddenDreams_7 : decode cX0_hiddenDreams 7 = .ok (.getfield 28, 3) := by decide +kernel
theorem dX0_hiddenDreams_10 : decode cX0_hiddenDreams 10 = .ok (.iload_n 1, 1) := by decide +kernel
theorem dX0_hiddenDreams_11 : decode cX0_hiddenDreams 11 = .ok (.iaload, 1) := by decide +kernel
theorem dX0_hiddenDreams_12 : decode cX0_hiddenDreams 12 = .ok (.isub, 1) := by decide +kernel
theorem dX0_hiddenDreams_13 : decode cX0_hiddenDreams 13 = .ok (.istore_n 2, 1) := by decide +kernel
theorem dX0_hiddenDreams_14 : decode cX0_hiddenDreams 14 = .ok (.iload_n 2, 1) := by decide +kernel
theorem dX0_hiddenDreams_15 : decode cX0_hiddenDreams 15 = .ok (.ifCond .le 7, 3) := by decide +kernel
theorem dX0_hiddenDreams_18 : decode cX0_hiddenDreams 18 = .ok (.iload_n 2, 1) := by decide +kernel
theorem dX0_hiddenDreams_19 : decode cX0_hiddenDreams 19 = .ok (.goto 4, 3) := by decide +kernel
theorem dX0_hiddenDreams_22 : decode cX0_hiddenDreams 22 = .ok (.iconst 0, 1) := by decide +kernel
theorem dX0_hiddenDreams_23 : decode cX0_hiddenDreams 23 = .ok (.ireturn, 1) := by decide +kernel
set_option maxRecDepth 20000 in
theorem ggX0_searchMinutes_X0_addedSnores : GoodIn wsX0_searchMinutes wsX0_addedSnores := goodIn_r _ [6, 7, 8, 9, 10, 11, 12, 13, 14, 15, 16, 17, 18, 19, 20, 21, 22, 23, 24] (by decide +kernel) (by decide +kernel)
set_option maxRecDepth 20000 in
theorem gX0_searchMinutes_X0_addedSnores : GoodIn wsX0_searchMinutes (wsV RX0 58 RX0 yX0_addedSnores wsX0_addedSnores) := goodIn_app (goodIn_of _ (by decide +kernel)) ggX0_searchMinutes_X0_addedSnores
theorem dX0_searchMinutes_0 : decode cX0_searchMinutes 0 = .ok (.iconst 2, 1) := by decide +kernel
theorem dX0_searchMinutes_1 : decode cX0_searchMinutes 1 = .ok (.aload_n 0, 1) := by decide +kernel
theorem dX0_searchMinutes_2 : decode cX0_searchMinutes 2 = .ok (.getfield 28, 3) := by decide +kernel
theorem dX0_searchMinutes_5 : decode cX0_searchMinutes 5 = .ok (.iload_n 1, 1) := by decide +kernel
theorem dX0_searchMinutes_6 : decode cX0_searchMinutes 6 = .ok (.iaload, 1) := by decide +kernel
theorem dX0_searchMinutes_7 : decode cX0_searchMinutes 7 = .ok (.iadd, 1) := by decide +kernel
theorem dX0_searchMinutes_8 : decode cX0_searchMinutes 8 = .ok (.aload_n 0, 1) := by decide +kernel
theorem dX0_searchMinutes_9 : decode cX0_searchMinutes 9 = .ok (.invokevirtual 58, 3) := by decide +kernel
theorem dX0_searchMinutes_12 : decode cX0_searchMinutes 12 = .ok (.iconst 4, 1) := by decide +kernel
theorem dX0_searchMinutes_13 : decode cX0_searchMinutes 13 = .ok (.idiv, 1) := by decide +kernel
theorem dX0_searchMinutes_14 : decode cX0_searchMinutes 14 = .ok (.iadd, 1) := by decide +kernel
theorem dX0_searchMinutes_15 : decode cX0_searchMinutes 15 = .ok (.ireturn, 1) := by decide +kernel
set_option maxRecDepth 20000 in
theorem ggX0_finds_X0_hiddenDreams : GoodIn wsX0_finds wsX0_hiddenDreams := goodIn_r _ [6, 7, 8, 9, 10, 11, 12, 13, 14, 15, 16, 17, 18, 19, 20, 21, 22, 23] (by decide +kernel) (by decide +kernel)
set_option maxRecDepth 20000 in
theorem gX0_finds_X0_hiddenDreams : GoodIn wsX0_finds (wsV RX0 62 RX0 yX0_hiddenDreams wsX0_hiddenDreams) := goodIn_app (goodIn_of _ (by decide +kernel)) ggX0_finds_X0_hiddenDreams
theorem dX0_finds_0 : decode cX0_finds 0 = .ok (.aload_n 0, 1) := by decide +kernel
theorem dX0_finds_1 : decode cX0_finds 1 = .ok (.iload_n 2, 1) := by decide +kernel
theorem dX0_finds_2 : decode cX0_finds 2 = .ok (.invokevirtual 62, 3) := by decide +kernel
theorem dX0_finds_5 : decode cX0_finds 5 = .ok (.istore_n 3, 1) := by decide +kernel
theorem dX0_finds_6 : decode cX0_finds 6 = .ok (.iload_n 3, 1) := by decide +kernel
theorem dX0_finds_7 : decode cX0_finds 7 = .ok (.ifCond .le 20, 3) := by decide +kernel
theorem dX0_finds_10 : decode cX0_finds 10 = .ok (.iload_n 3, 1) := by decide +kernel
theorem dX0_finds_11 : decode cX0_finds 11 = .ok (.aload_n 0, 1) := by decide +kernel
theorem dX0_finds_12 : decode cX0_finds 12 = .ok (.getfield 49, 3) := by decide +kernel
theorem dX0_finds_15 : decode cX0_finds 15 = .ok (.iload_n 1, 1) := by decide +kernel
theorem dX0_finds_16 : decode cX0_finds 16 = .ok (.iaload, 1) := by decide +kernel
theorem dX0_finds_17 : decode cX0_finds 17 = .ok (.iadd, 1) := by decide +kernel
theorem dX0_finds_18 : decode cX0_finds 18 = .ok (.bipush 10, 2) := by decide +kernel
theorem dX0_finds_20 : decode cX0_finds 20 = .ok (.if_icmp .lt 7, 3) := by decide +kernel
theorem dX0_finds_23 : decode cX0_finds 23 = .ok (.iconst 1, 1) := by decide +kernel
theorem dX0_finds_24 : decode cX0_finds 24 = .ok (.goto 4, 3) := by decide +kernel
theorem dX0_finds_27 : decode cX0_finds 27 = .ok (.iconst 0, 1) := by decide +kernel
theorem dX0_finds_28 : decode cX0_finds 28 = .ok (.ireturn, 1) := by decide +kernel
set_option maxRecDepth 20000 in
theorem ggX0_goOneMinute_X0_advanceTransits : GoodIn wsX0_goOneMinute wsX0_advanceTransits := goodIn_r _ [8, 9, 10, 11, 12, 3, 64, 65, 66, 67, 68, 69, 70, 71, 72, 73, 74, 75, 76, 77, 78] (by decide +kernel) (by decide +kernel)
set_option maxRecDepth 20000 in
theorem gX0_goOneMinute_X0_advanceTransits : GoodIn wsX0_goOneMinute (wsV RX0 73 RX0 yX0_advanceTransits wsX0_advanceTransits) := goodIn_app (goodIn_of _ (by decide +kernel)) ggX0_goOneMinute_X0_advanceTransits
set_option maxRecDepth 20000 in
theorem ggX0_goOneMinute_X0_shortenLullabies : GoodIn wsX0_goOneMinute wsX0_shortenLullabies := goodIn_r _ [16, 9, 10, 17, 18, 64, 65, 66, 67, 68, 69, 70, 71, 72, 73, 74, 75, 76, 77, 78] (by decide +kernel) (by decide +kernel)
set_option maxRecDepth 20000 in
theorem gX0_goOneMinute_X0_shortenLullabies : GoodIn wsX0_goOneMinute (wsV RX0 76 RX0 yX0_shortenLullabies wsX0_shortenLullabies) := goodIn_app (goodIn_of _ (by decide +kernel)) ggX0_goOneMinute_X0_shortenLullabies
set_option maxRecDepth 20000 in
theorem ggX0_goOneMinute_X0_isTraveller : GoodIn wsX0_goOneMinute wsX0_isTraveller := goodIn_r _ [22, 9, 64, 65, 66, 67, 68, 69, 70, 71, 72, 73, 74, 75, 76, 77, 78] (by decide +kernel) (by decide +kernel)
set_option maxRecDepth 20000 in
theorem gX0_goOneMinute_X0_isTraveller : GoodIn wsX0_goOneMinute (wsV RX0 79 RX0 yX0_isTraveller wsX0_isTraveller) := goodIn_app (goodIn_of _ (by decide +kernel)) ggX0_goOneMinute_X0_isTraveller
set_option maxRecDepth 20000 in
theorem ggX0_goOneMinute_X0_searchOn : GoodIn wsX0_goOneMinute wsX0_searchOn := goodIn_r _ [26, 27, 28, 10, 11, 2, 29, 30, 31, 32, 33, 34, 35, 36, 7, 37, 38, 39, 40, 41, 42, 43, 64, 65, 66, 67, 68, 69, 70, 71, 72, 73, 74, 75, 76, 77, 78] (by decide +kernel) (by decide +kernel)
set_option maxRecDepth 20000 in
theorem gX0_goOneMinute_X0_searchOn : GoodIn wsX0_goOneMinute (wsV RX0 83 RX0 yX0_searchOn wsX0_searchOn) := goodIn_app (goodIn_of _ (by decide +kernel)) ggX0_goOneMinute_X0_searchOn
set_option maxRecDepth 20000 in
theorem ggX0_goOneMinute_X0_beginSearchOrRest : GoodIn wsX0_goOneMinute wsX0_beginSearchOrRest := goodIn_r _ [47, 2, 27, 10, 29, 48, 49, 32, 50, 51, 52, 53, 7, 54, 9, 19, 20, 21, 22, 55, 56, 57, 58, 43, 59, 60, 61, 62, 63, 64, 65, 66, 67, 68, 69, 70, 71, 72, 73, 74, 75, 76, 77, 78] (by decide +kernel) (by decide +kernel)
set_option maxRecDepth 20000 in
theorem gX0_goOneMinute_X0_beginSearchOrRest : GoodIn wsX0_goOneMinute (wsV RX0 87 RX0 yX0_beginSearchOrRest wsX0_beginSearchOrRest) := goodIn_app (goodIn_of _ (by decide +kernel)) ggX0_goOneMinute_X0_beginSearchOrRest
theorem dX0_goOneMinute_0 : decode cX0_goOneMinute 0 = .ok (.aload_n 0, 1) := by decide +kernel
theorem dX0_goOneMinute_1 : decode cX0_goOneMinute 1 = .ok (.invokevirtual 73, 3) := by decide +kernel
theorem dX0_goOneMinute_4 : decode cX0_goOneMinute 4 = .ok (.aload_n 0, 1) := by decide +kernel
theorem dX0_goOneMinute_5 : decode cX0_goOneMinute 5 = .ok (.invokevirtual 76, 3) := by decide +kernel
theorem dX0_goOneMinute_8 : decode cX0_goOneMinute 8 = .ok (.iconst 0, 1) := by decide +kernel
theorem dX0_goOneMinute_9 : decode cX0_goOneMinute 9 = .ok (.istore_n 1, 1) := by decide +kernel
theorem dX0_goOneMinute_10 : decode cX0_goOneMinute 10 = .ok (.iload_n 1, 1) := by decide +kernel
theorem dX0_goOneMinute_11 : decode cX0_goOneMinute 11 = .ok (.aload_n 0, 1) := by decide +kernel
theorem dX0_goOneMinute_12 : decode cX0_goOneMinute 12 = .ok (.getfield 46, 3) := by decide +kernel
theorem dX0_goOneMinute_15 : decode cX0_goOneMinute 15 = .ok (.if_icmp .ge 38, 3) := by decide +kernel
theorem dX0_goOneMinute_18 : decode cX0_goOneMinute 18 = .ok (.aload_n 0, 1) := by decide +kernel
theorem dX0_goOneMinute_19 : decode cX0_goOneMinute 19 = .ok (.getfield 52, 3) := by decide +kernel
theorem dX0_goOneMinute_22 : decode cX0_goOneMinute 22 = .ok (.iload_n 1, 1) := by decide +kernel
theorem dX0_goOneMinute_23 : decode cX0_goOneMinute 23 = .ok (.iaload, 1) := by decide +kernel
theorem dX0_goOneMinute_24 : decode cX0_goOneMinute 24 = .ok (.istore_n 2, 1) := by decide +kernel
theorem dX0_goOneMinute_25 : decode cX0_goOneMinute 25 = .ok (.aload_n 0, 1) := by decide +kernel
theorem dX0_goOneMinute_26 : decode cX0_goOneMinute 26 = .ok (.iload_n 2, 1) := by decide +kernel
theorem dX0_goOneMinute_27 : decode cX0_goOneMinute 27 = .ok (.invokevirtual 79, 3) := by decide +kernel
theorem dX0_goOneMinute_30 : decode cX0_goOneMinute 30 = .ok (.ifCond .eq 12, 3) := by decide +kernel
theorem dX0_goOneMinute_33 : decode cX0_goOneMinute 33 = .ok (.aload_n 0, 1) := by decide +kernel
theorem dX0_goOneMinute_34 : decode cX0_goOneMinute 34 = .ok (.iload_n 1, 1) := by decide +kernel
theorem dX0_goOneMinute_35 : decode cX0_goOneMinute 35 = .ok (.iload_n 2, 1) := by decide +kernel
theorem dX0_goOneMinute_36 : decode cX0_goOneMinute 36 = .ok (.invokevirtual 83, 3) := by decide +kernel
theorem dX0_goOneMinute_39 : decode cX0_goOneMinute 39 = .ok (.goto 8, 3) := by decide +kernel
theorem dX0_goOneMinute_42 : decode cX0_goOneMinute 42 = .ok (.aload_n 0, 1) := by decide +kernel
theorem dX0_goOneMinute_43 : decode cX0_goOneMinute 43 = .ok (.iload_n 1, 1) := by decide +kernel
theorem dX0_goOneMinute_44 : decode cX0_goOneMinute 44 = .ok (.invokevirtual 87, 3) := by decide +kernel
theorem dX0_goOneMinute_47 : decode cX0_goOneMinute 47 = .ok (.iinc 1 1, 3) := by decide +kernel
theorem dX0_goOneMinute_50 : decode cX0_goOneMinute 50 = .ok (.goto (-40), 3) := by decide +kernel
theorem dX0_goOneMinute_53 : decode cX0_goOneMinute 53 = .ok (.aload_n 0, 1) := by decide +kernel
theorem dX0_goOneMinute_54 : decode cX0_goOneMinute 54 = .ok (.dup, 1) := by decide +kernel
theorem dX0_goOneMinute_55 : decode cX0_goOneMinute 55 = .ok (.getfield 9, 3) := by decide +kernel
theorem dX0_goOneMinute_58 : decode cX0_goOneMinute 58 = .ok (.iconst 1, 1) := by decide +kernel
theorem dX0_goOneMinute_59 : decode cX0_goOneMinute 59 = .ok (.iadd, 1) := by decide +kernel
theorem dX0_goOneMinute_60 : decode cX0_goOneMinute 60 = .ok (.putfield 9, 3) := by decide +kernel
theorem dX0_goOneMinute_63 : decode cX0_goOneMinute 63 = .ok (.return_, 1) := by decide +kernel
theorem dX0_advanceTransits_0 : decode cX0_advanceTransits 0 = .ok (.iconst 0, 1) := by decide +kernel
theorem dX0_advanceTransits_1 : decode cX0_advanceTransits 1 = .ok (.istore_n 1, 1) := by decide +kernel
theorem dX0_advanceTransits_2 : decode cX0_advanceTransits 2 = .ok (.iload_n 1, 1) := by decide +kernel
theorem dX0_advanceTransits_3 : decode cX0_advanceTransits 3 = .ok (.aload_n 0, 1) := by decide +kernel
theorem dX0_advanceTransits_4 : decode cX0_advanceTransits 4 = .ok (.getfield 21, 3) := by decide +kernel
theorem dX0_advanceTransits_7 : decode cX0_advanceTransits 7 = .ok (.if_icmp .ge 57, 3) := by decide +kernel
theorem dX0_advanceTransits_10 : decode cX0_advanceTransits 10 = .ok (.aload_n 0, 1) := by decide +kernel
theorem dX0_advanceTransits_11 : decode cX0_advanceTransits 11 = .ok (.getfield 37, 3) := by decide +kernel
theorem dX0_advanceTransits_14 : decode cX0_advanceTransits 14 = .ok (.iload_n 1, 1) := by decide +kernel
theorem dX0_advanceTransits_15 : decode cX0_advanceTransits 15 = .ok (.iaload, 1) := by decide +kernel
theorem dX0_advanceTransits_16 : decode cX0_advanceTransits 16 = .ok (.iconst 2, 1) := by decide +kernel
theorem dX0_advanceTransits_17 : decode cX0_advanceTransits 17 = .ok (.if_icmp .ne 41, 3) := by decide +kernel
theorem dX0_advanceTransits_20 : decode cX0_advanceTransits 20 = .ok (.aload_n 0, 1) := by decide +kernel
theorem dX0_advanceTransits_21 : decode cX0_advanceTransits 21 = .ok (.getfield 40, 3) := by decide +kernel
theorem dX0_advanceTransits_24 : decode cX0_advanceTransits 24 = .ok (.iload_n 1, 1) := by decide +kernel
theorem dX0_advanceTransits_25 : decode cX0_advanceTransits 25 = .ok (.dup2, 1) := by decide +kernel
theorem dX0_advanceTransits_26 : decode cX0_advanceTransits 26 = .ok (.iaload, 1) := by decide +kernel
theorem dX0_advanceTransits_27 : decode cX0_advanceTransits 27 = .ok (.iconst 1, 1) := by decide +kernel
theorem dX0_advanceTransits_28 : decode cX0_advanceTransits 28 = .ok (.isub, 1) := by decide +kernel
theorem dX0_advanceTransits_29 : decode cX0_advanceTransits 29 = .ok (.iastore, 1) := by decide +kernel
theorem dX0_advanceTransits_30 : decode cX0_advanceTransits 30 = .ok (.aload_n 0, 1) := by decide +kernel
theorem dX0_advanceTransits_31 : decode cX0_advanceTransits 31 = .ok (.getfield 40, 3) := by decide +kernel
theorem dX0_advanceTransits_34 : decode cX0_advanceTransits 34 = .ok (.iload_n 1, 1) := by decide +kernel
theorem dX0_advanceTransits_35 : decode cX0_advanceTransits 35 = .ok (.iaload, 1) := by decide +kernel
theorem dX0_advanceTransits_36 : decode cX0_advanceTransits 36 = .ok (.ifCond .gt 22, 3) := by decide +kernel
theorem dX0_advanceTransits_39 : decode cX0_advanceTransits 39 = .ok (.aload_n 0, 1) := by decide +kernel
theorem dX0_advanceTransits_40 : decode cX0_advanceTransits 40 = .ok (.getfield 37, 3) := by decide +kernel
theorem dX0_advanceTransits_43 : decode cX0_advanceTransits 43 = .ok (.iload_n 1, 1) := by decide +kernel
theorem dX0_advanceTransits_44 : decode cX0_advanceTransits 44 = .ok (.iconst 3, 1) := by decide +kernel
theorem dX0_advanceTransits_45 : decode cX0_advanceTransits 45 = .ok (.iastore, 1) := by decide +kernel
theorem dX0_advanceTransits_46 : decode cX0_advanceTransits 46 = .ok (.aload_n 0, 1) := by decide +kernel
theorem dX0_advanceTransits_47 : decode cX0_advanceTransits 47 = .ok (.getfield 43, 3) := by decide +kernel
theorem dX0_advanceTransits_50 : decode cX0_advanceTransits 50 = .ok (.iload_n 1, 1) := by decide +kernel
theorem dX0_advanceTransits_51 : decode cX0_advanceTransits 51 = .ok (.aload_n 0, 1) := by decide +kernel
theorem dX0_advanceTransits_52 : decode cX0_advanceTransits 52 = .ok (.getfield 9, 3) := by decide +kernel
theorem dX0_advanceTransits_55 : decode cX0_advanceTransits 55 = .ok (.iconst 1, 1) := by decide +kernel
theorem dX0_advanceTransits_56 : decode cX0_advanceTransits 56 = .ok (.iadd, 1) := by decide +kernel
theorem dX0_advanceTransits_57 : decode cX0_advanceTransits 57 = .ok (.iastore, 1) := by decide +kernel
theorem dX0_advanceTransits_58 : decode cX0_advanceTransits 58 = .ok (.iinc 1 1, 3) := by decide +kernel
theorem dX0_advanceTransits_61 : decode cX0_advanceTransits 61 = .ok (.goto (-59), 3) := by decide +kernel
theorem dX0_advanceTransits_64 : decode cX0_advanceTransits 64 = .ok (.return_, 1) := by decide +kernel
theorem dX0_shortenLullabies_0 : decode cX0_shortenLullabies 0 = .ok (.iconst 0, 1) := by decide +kernel
theorem dX0_shortenLullabies_1 : decode cX0_shortenLullabies 1 = .ok (.istore_n 1, 1) := by decide +kernel
theorem dX0_shortenLullabies_2 : decode cX0_shortenLullabies 2 = .ok (.iload_n 1, 1) := by decide +kernel
theorem dX0_shortenLullabies_3 : decode cX0_shortenLullabies 3 = .ok (.aload_n 0, 1) := by decide +kernel
theorem dX0_shortenLullabies_4 : decode cX0_shortenLullabies 4 = .ok (.getfield 21, 3) := by decide +kernel
theorem dX0_shortenLullabies_7 : decode cX0_shortenLullabies 7 = .ok (.if_icmp .ge 54, 3) := by decide +kernel
theorem dX0_shortenLullabies_10 : decode cX0_shortenLullabies 10 = .ok (.aload_n 0, 1) := by decide +kernel
theorem dX0_shortenLullabies_11 : decode cX0_shortenLullabies 11 = .ok (.getfield 37, 3) := by decide +kernel
theorem dX0_shortenLullabies_14 : decode cX0_shortenLullabies 14 = .ok (.iload_n 1, 1) := by decide +kernel
theorem dX0_shortenLullabies_15 : decode cX0_shortenLullabies 15 = .ok (.iaload, 1) := by decide +kernel
theorem dX0_shortenLullabies_16 : decode cX0_shortenLullabies 16 = .ok (.ifCond .ne 39, 3) := by decide +kernel
theorem dX0_shortenLullabies_19 : decode cX0_shortenLullabies 19 = .ok (.aload_n 0, 1) := by decide +kernel
theorem dX0_shortenLullabies_20 : decode cX0_shortenLullabies 20 = .ok (.getfield 34, 3) := by decide +kernel
theorem dX0_shortenLullabies_23 : decode cX0_shortenLullabies 23 = .ok (.iload_n 1, 1) := by decide +kernel
theorem dX0_shortenLullabies_24 : decode cX0_shortenLullabies 24 = .ok (.dup2, 1) := by decide +kernel
theorem dX0_shortenLullabies_25 : decode cX0_shortenLullabies 25 = .ok (.iaload, 1) := by decide +kernel
theorem dX0_shortenLullabies_26 : decode cX0_shortenLullabies 26 = .ok (.iconst 1, 1) := by decide +kernel
theorem dX0_shortenLullabies_27 : decode cX0_shortenLullabies 27 = .ok (.isub, 1) := by decide +kernel
theorem dX0_shortenLullabies_28 : decode cX0_shortenLullabies 28 = .ok (.iastore, 1) := by decide +kernel
theorem dX0_shortenLullabies_29 : decode cX0_shortenLullabies 29 = .ok (.aload_n 0, 1) := by decide +kernel
theorem dX0_shortenLullabies_30 : decode cX0_shortenLullabies 30 = .ok (.getfield 34, 3) := by decide +kernel
theorem dX0_shortenLullabies_33 : decode cX0_shortenLullabies 33 = .ok (.iload_n 1, 1) := by decide +kernel
theorem dX0_shortenLullabies_34 : decode cX0_shortenLullabies 34 = .ok (.iaload, 1) := by decide +kernel
theorem dX0_shortenLullabies_35 : decode cX0_shortenLullabies 35 = .ok (.ifCond .gt 20, 3) := by decide +kernel
theorem dX0_shortenLullabies_38 : decode cX0_shortenLullabies 38 = .ok (.aload_n 0, 1) := by decide +kernel
theorem dX0_shortenLullabies_39 : decode cX0_shortenLullabies 39 = .ok (.getfield 37, 3) := by decide +kernel
theorem dX0_shortenLullabies_42 : decode cX0_shortenLullabies 42 = .ok (.iload_n 1, 1) := by decide +kernel
theorem dX0_shortenLullabies_43 : decode cX0_shortenLullabies 43 = .ok (.iconst 4, 1) := by decide +kernel
theorem dX0_shortenLullabies_44 : decode cX0_shortenLullabies 44 = .ok (.iastore, 1) := by decide +kernel
theorem dX0_shortenLullabies_45 : decode cX0_shortenLullabies 45 = .ok (.aload_n 0, 1) := by decide +kernel
theorem dX0_shortenLullabies_46 : decode cX0_shortenLullabies 46 = .ok (.dup, 1) := by decide +kernel
theorem dX0_shortenLullabies_47 : decode cX0_shortenLullabies 47 = .ok (.getfield 15, 3) := by decide +kernel
theorem dX0_shortenLullabies_50 : decode cX0_shortenLullabies 50 = .ok (.iconst 1, 1) := by decide +kernel
theorem dX0_shortenLullabies_51 : decode cX0_shortenLullabies 51 = .ok (.iadd, 1) := by decide +kernel
theorem dX0_shortenLullabies_52 : decode cX0_shortenLullabies 52 = .ok (.putfield 15, 3) := by decide +kernel
theorem dX0_shortenLullabies_55 : decode cX0_shortenLullabies 55 = .ok (.iinc 1 1, 3) := by decide +kernel
theorem dX0_shortenLullabies_58 : decode cX0_shortenLullabies 58 = .ok (.goto (-56), 3) := by decide +kernel
theorem dX0_shortenLullabies_61 : decode cX0_shortenLullabies 61 = .ok (.return_, 1) := by decide +kernel
set_option maxRecDepth 20000 in
theorem ggX0_beginSearchOrRest_X0_firstWaiting : GoodIn wsX0_beginSearchOrRest wsX0_firstWaiting := goodIn_r _ [13, 14, 3, 29, 30, 31, 32, 33, 34, 35, 36, 37, 38, 39, 40, 41, 42, 43] (by decide +kernel) (by decide +kernel)
set_option maxRecDepth 20000 in
theorem gX0_beginSearchOrRest_X0_firstWaiting : GoodIn wsX0_beginSearchOrRest (wsV RX0 91 RX0 yX0_firstWaiting wsX0_firstWaiting) := goodIn_app (goodIn_of _ (by decide +kernel)) ggX0_beginSearchOrRest_X0_firstWaiting
set_option maxRecDepth 20000 in
theorem ggX0_beginSearchOrRest_X0_isTraveller : GoodIn wsX0_beginSearchOrRest wsX0_isTraveller := goodIn_r _ [18, 14, 29, 30, 31, 32, 33, 34, 35, 36, 37, 38, 39, 40, 41, 42, 43] (by decide +kernel) (by decide +kernel)
set_option maxRecDepth 20000 in
theorem gX0_beginSearchOrRest_X0_isTraveller : GoodIn wsX0_beginSearchOrRest (wsV RX0 79 RX0 yX0_isTraveller wsX0_isTraveller) := goodIn_app (goodIn_of _ (by decide +kernel)) ggX0_beginSearchOrRest_X0_isTraveller
set_option maxRecDepth 20000 in
theorem ggX0_beginSearchOrRest_X0_searchMinutes : GoodIn wsX0_beginSearchOrRest wsX0_searchMinutes := goodIn_r _ [22, 23, 24, 25, 26, 12, 27, 14, 3, 28, 29, 30, 31, 32, 33, 34, 35, 36, 37, 38, 39, 40, 41, 42, 43] (by decide +kernel) (by decide +kernel)
set_option maxRecDepth 20000 in
theorem gX0_beginSearchOrRest_X0_searchMinutes : GoodIn wsX0_beginSearchOrRest (wsV RX0 94 RX0 yX0_searchMinutes wsX0_searchMinutes) := goodIn_app (goodIn_of _ (by decide +kernel)) ggX0_beginSearchOrRest_X0_searchMinutes
theorem dX0_beginSearchOrRest_0 : decode cX0_beginSearchOrRest 0 = .ok (.aload_n 0, 1) := by decide +kernel
theorem dX0_beginSearchOrRest_1 : decode cX0_beginSearchOrRest 1 = .ok (.invokevirtual 91, 3) := by decide +kernel
theorem dX0_beginSearchOrRest_4 : decode cX0_beginSearchOrRest 4 = .ok (.istore_n 2, 1) := by decide +kernel
theorem dX0_beginSearchOrRest_5 : decode cX0_beginSearchOrRest 5 = .ok (.aload_n 0, 1) := by decide +kernel
theorem dX0_beginSearchOrRest_6 : decode cX0_beginSearchOrRest 6 = .ok (.iload_n 2, 1) := by decide +kernel
theorem dX0_beginSearchOrRest_7 : decode cX0_beginSearchOrRest 7 = .ok (.invokevirtual 79, 3) := by decide +kernel
theorem dX0_beginSearchOrRest_10 : decode cX0_beginSearchOrRest 10 = .ok (.ifCond .eq 31, 3) := by decide +kernel
theorem dX0_beginSearchOrRest_13 : decode cX0_beginSearchOrRest 13 = .ok (.aload_n 0, 1) := by decide +kernel
theorem dX0_beginSearchOrRest_14 : decode cX0_beginSearchOrRest 14 = .ok (.getfield 52, 3) := by decide +kernel
theorem dX0_beginSearchOrRest_17 : decode cX0_beginSearchOrRest 17 = .ok (.iload_n 1, 1) := by decide +kernel
theorem dX0_beginSearchOrRest_18 : decode cX0_beginSearchOrRest 18 = .ok (.iload_n 2, 1) := by decide +kernel
theorem dX0_beginSearchOrRest_19 : decode cX0_beginSearchOrRest 19 = .ok (.iastore, 1) := by decide +kernel
theorem dX0_beginSearchOrRest_20 : decode cX0_beginSearchOrRest 20 = .ok (.aload_n 0, 1) := by decide +kernel
theorem dX0_beginSearchOrRest_21 : decode cX0_beginSearchOrRest 21 = .ok (.getfield 55, 3) := by decide +kernel
theorem dX0_beginSearchOrRest_24 : decode cX0_beginSearchOrRest 24 = .ok (.iload_n 1, 1) := by decide +kernel
theorem dX0_beginSearchOrRest_25 : decode cX0_beginSearchOrRest 25 = .ok (.aload_n 0, 1) := by decide +kernel
theorem dX0_beginSearchOrRest_26 : decode cX0_beginSearchOrRest 26 = .ok (.iload_n 2, 1) := by decide +kernel
theorem dX0_beginSearchOrRest_27 : decode cX0_beginSearchOrRest 27 = .ok (.invokevirtual 94, 3) := by decide +kernel
theorem dX0_beginSearchOrRest_30 : decode cX0_beginSearchOrRest 30 = .ok (.iastore, 1) := by decide +kernel
theorem dX0_beginSearchOrRest_31 : decode cX0_beginSearchOrRest 31 = .ok (.aload_n 0, 1) := by decide +kernel
theorem dX0_beginSearchOrRest_32 : decode cX0_beginSearchOrRest 32 = .ok (.getfield 37, 3) := by decide +kernel
theorem dX0_beginSearchOrRest_35 : decode cX0_beginSearchOrRest 35 = .ok (.iload_n 2, 1) := by decide +kernel
theorem dX0_beginSearchOrRest_36 : decode cX0_beginSearchOrRest 36 = .ok (.iconst 1, 1) := by decide +kernel
theorem dX0_beginSearchOrRest_37 : decode cX0_beginSearchOrRest 37 = .ok (.iastore, 1) := by decide +kernel
theorem dX0_beginSearchOrRest_38 : decode cX0_beginSearchOrRest 38 = .ok (.goto 22, 3) := by decide +kernel
theorem dX0_beginSearchOrRest_41 : decode cX0_beginSearchOrRest 41 = .ok (.aload_n 0, 1) := by decide +kernel
theorem dX0_beginSearchOrRest_42 : decode cX0_beginSearchOrRest 42 = .ok (.getfield 49, 3) := by decide +kernel
theorem dX0_beginSearchOrRest_45 : decode cX0_beginSearchOrRest 45 = .ok (.iload_n 1, 1) := by decide +kernel
theorem dX0_beginSearchOrRest_46 : decode cX0_beginSearchOrRest 46 = .ok (.aload_n 0, 1) := by decide +kernel
theorem dX0_beginSearchOrRest_47 : decode cX0_beginSearchOrRest 47 = .ok (.getfield 49, 3) := by decide +kernel
theorem dX0_beginSearchOrRest_50 : decode cX0_beginSearchOrRest 50 = .ok (.iload_n 1, 1) := by decide +kernel
theorem dX0_beginSearchOrRest_51 : decode cX0_beginSearchOrRest 51 = .ok (.iaload, 1) := by decide +kernel
theorem dX0_beginSearchOrRest_52 : decode cX0_beginSearchOrRest 52 = .ok (.iconst 1, 1) := by decide +kernel
theorem dX0_beginSearchOrRest_53 : decode cX0_beginSearchOrRest 53 = .ok (.iadd, 1) := by decide +kernel
theorem dX0_beginSearchOrRest_54 : decode cX0_beginSearchOrRest 54 = .ok (.bipush 9, 2) := by decide +kernel
theorem dX0_beginSearchOrRest_56 : decode cX0_beginSearchOrRest 56 = .ok (.invokestatic 97, 3) := by decide +kernel
theorem dX0_beginSearchOrRest_59 : decode cX0_beginSearchOrRest 59 = .ok (.iastore, 1) := by decide +kernel
theorem dX0_beginSearchOrRest_60 : decode cX0_beginSearchOrRest 60 = .ok (.return_, 1) := by decide +kernel
set_option maxRecDepth 20000 in
theorem ggX0_searchOn_X0_finds : GoodIn wsX0_searchOn wsX0_finds := goodIn_r _ [15, 6, 16, 17, 18, 14, 19, 20, 21, 22, 23, 24, 25, 26, 27, 28, 29, 30, 31, 32, 33, 34, 35, 36] (by decide +kernel) (by decide +kernel)
set_option maxRecDepth 20000 in
theorem gX0_searchOn_X0_finds : GoodIn wsX0_searchOn (wsV RX0 103 RX0 yX0_finds wsX0_finds) := goodIn_app (goodIn_of _ (by decide +kernel)) ggX0_searchOn_X0_finds
set_option maxRecDepth 20000 in
theorem ggX0_searchOn_X0_hiddenDreams : GoodIn wsX0_searchOn wsX0_hiddenDreams := goodIn_r _ [19, 20, 21, 22, 23, 24, 25, 26, 27, 28, 29, 30, 31, 32, 33, 34, 35, 36] (by decide +kernel) (by decide +kernel)
set_option maxRecDepth 20000 in
theorem gX0_searchOn_X0_hiddenDreams : GoodIn wsX0_searchOn (wsV RX0 62 RX0 yX0_hiddenDreams wsX0_hiddenDreams) := goodIn_app (goodIn_of _ (by decide +kernel)) ggX0_searchOn_X0_hiddenDreams
theorem dX0_searchOn_0 : decode cX0_searchOn 0 = .ok (.aload_n 0, 1) := by decide +kernel
theorem dX0_searchOn_1 : decode cX0_searchOn 1 = .ok (.getfield 55, 3) := by decide +kernel
theorem dX0_searchOn_4 : decode cX0_searchOn 4 = .ok (.iload_n 1, 1) := by decide +kernel
theorem dX0_searchOn_5 : decode cX0_searchOn 5 = .ok (.dup2, 1) := by decide +kernel
theorem dX0_searchOn_6 : decode cX0_searchOn 6 = .ok (.iaload, 1) := by decide +kernel
theorem dX0_searchOn_7 : decode cX0_searchOn 7 = .ok (.iconst 1, 1) := by decide +kernel
theorem dX0_searchOn_8 : decode cX0_searchOn 8 = .ok (.isub, 1) := by decide +kernel
theorem dX0_searchOn_9 : decode cX0_searchOn 9 = .ok (.iastore, 1) := by decide +kernel
theorem dX0_searchOn_10 : decode cX0_searchOn 10 = .ok (.aload_n 0, 1) := by decide +kernel
theorem dX0_searchOn_11 : decode cX0_searchOn 11 = .ok (.getfield 55, 3) := by decide +kernel
theorem dX0_searchOn_14 : decode cX0_searchOn 14 = .ok (.iload_n 1, 1) := by decide +kernel
theorem dX0_searchOn_15 : decode cX0_searchOn 15 = .ok (.iaload, 1) := by decide +kernel
theorem dX0_searchOn_16 : decode cX0_searchOn 16 = .ok (.ifCond .le 4, 3) := by decide +kernel
theorem dX0_searchOn_19 : decode cX0_searchOn 19 = .ok (.return_, 1) := by decide +kernel
theorem dX0_searchOn_20 : decode cX0_searchOn 20 = .ok (.aload_n 0, 1) := by decide +kernel
theorem dX0_searchOn_21 : decode cX0_searchOn 21 = .ok (.iload_n 1, 1) := by decide +kernel
theorem dX0_searchOn_22 : decode cX0_searchOn 22 = .ok (.iload_n 2, 1) := by decide +kernel
theorem dX0_searchOn_23 : decode cX0_searchOn 23 = .ok (.invokevirtual 103, 3) := by decide +kernel
theorem dX0_searchOn_26 : decode cX0_searchOn 26 = .ok (.ifCond .eq 29, 3) := by decide +kernel
theorem dX0_searchOn_29 : decode cX0_searchOn 29 = .ok (.aload_n 0, 1) := by decide +kernel
theorem dX0_searchOn_30 : decode cX0_searchOn 30 = .ok (.dup, 1) := by decide +kernel
theorem dX0_searchOn_31 : decode cX0_searchOn 31 = .ok (.getfield 18, 3) := by decide +kernel
theorem dX0_searchOn_34 : decode cX0_searchOn 34 = .ok (.iconst 3, 1) := by decide +kernel
theorem dX0_searchOn_35 : decode cX0_searchOn 35 = .ok (.aload_n 0, 1) := by decide +kernel
theorem dX0_searchOn_36 : decode cX0_searchOn 36 = .ok (.iload_n 2, 1) := by decide +kernel
theorem dX0_searchOn_37 : decode cX0_searchOn 37 = .ok (.invokevirtual 62, 3) := by decide +kernel
theorem dX0_searchOn_40 : decode cX0_searchOn 40 = .ok (.imul, 1) := by decide +kernel
theorem dX0_searchOn_41 : decode cX0_searchOn 41 = .ok (.iadd, 1) := by decide +kernel
theorem dX0_searchOn_42 : decode cX0_searchOn 42 = .ok (.putfield 18, 3) := by decide +kernel
theorem dX0_searchOn_45 : decode cX0_searchOn 45 = .ok (.aload_n 0, 1) := by decide +kernel
theorem dX0_searchOn_46 : decode cX0_searchOn 46 = .ok (.getfield 37, 3) := by decide +kernel
theorem dX0_searchOn_49 : decode cX0_searchOn 49 = .ok (.iload_n 2, 1) := by decide +kernel
theorem dX0_searchOn_50 : decode cX0_searchOn 50 = .ok (.iconst 4, 1) := by decide +kernel
theorem dX0_searchOn_51 : decode cX0_searchOn 51 = .ok (.iastore, 1) := by decide +kernel
theorem dX0_searchOn_52 : decode cX0_searchOn 52 = .ok (.goto 17, 3) := by decide +kernel
theorem dX0_searchOn_55 : decode cX0_searchOn 55 = .ok (.aload_n 0, 1) := by decide +kernel
theorem dX0_searchOn_56 : decode cX0_searchOn 56 = .ok (.getfield 37, 3) := by decide +kernel
theorem dX0_searchOn_59 : decode cX0_searchOn 59 = .ok (.iload_n 2, 1) := by decide +kernel
theorem dX0_searchOn_60 : decode cX0_searchOn 60 = .ok (.iconst 2, 1) := by decide +kernel
theorem dX0_searchOn_61 : decode cX0_searchOn 61 = .ok (.iastore, 1) := by decide +kernel
theorem dX0_searchOn_62 : decode cX0_searchOn 62 = .ok (.aload_n 0, 1) := by decide +kernel
theorem dX0_searchOn_63 : decode cX0_searchOn 63 = .ok (.getfield 40, 3) := by decide +kernel
theorem dX0_searchOn_66 : decode cX0_searchOn 66 = .ok (.iload_n 2, 1) := by decide +kernel
theorem dX0_searchOn_67 : decode cX0_searchOn 67 = .ok (.iconst 5, 1) := by decide +kernel
theorem dX0_searchOn_68 : decode cX0_searchOn 68 = .ok (.iastore, 1) := by decide +kernel
theorem dX0_searchOn_69 : decode cX0_searchOn 69 = .ok (.aload_n 0, 1) := by decide +kernel
theorem dX0_searchOn_70 : decode cX0_searchOn 70 = .ok (.getfield 52, 3) := by decide +kernel
theorem dX0_searchOn_73 : decode cX0_searchOn 73 = .ok (.iload_n 1, 1) := by decide +kernel
theorem dX0_searchOn_74 : decode cX0_searchOn 74 = .ok (.iconst (-1), 1) := by decide +kernel
theorem dX0_searchOn_75 : decode cX0_searchOn 75 = .ok (.iastore, 1) := by decide +kernel
theorem dX0_searchOn_76 : decode cX0_searchOn 76 = .ok (.aload_n 0, 1) := by decide +kernel
theorem dX0_searchOn_77 : decode cX0_searchOn 77 = .ok (.getfield 49, 3) := by decide +kernel
theorem dX0_searchOn_80 : decode cX0_searchOn 80 = .ok (.iload_n 1, 1) := by decide +kernel
theorem dX0_searchOn_81 : decode cX0_searchOn 81 = .ok (.aload_n 0, 1) := by decide +kernel
theorem dX0_searchOn_82 : decode cX0_searchOn 82 = .ok (.getfield 49, 3) := by decide +kernel
theorem dX0_searchOn_85 : decode cX0_searchOn 85 = .ok (.iload_n 1, 1) := by decide +kernel
theorem dX0_searchOn_86 : decode cX0_searchOn 86 = .ok (.iaload, 1) := by decide +kernel
theorem dX0_searchOn_87 : decode cX0_searchOn 87 = .ok (.iconst 1, 1) := by decide +kernel
theorem dX0_searchOn_88 : decode cX0_searchOn 88 = .ok (.isub, 1) := by decide +kernel
theorem dX0_searchOn_89 : decode cX0_searchOn 89 = .ok (.iconst 0, 1) := by decide +kernel
theorem dX0_searchOn_90 : decode cX0_searchOn 90 = .ok (.invokestatic 107, 3) := by decide +kernel
theorem dX0_searchOn_93 : decode cX0_searchOn 93 = .ok (.iastore, 1) := by decide +kernel
theorem dX0_searchOn_94 : decode cX0_searchOn 94 = .ok (.return_, 1) := by decide +kernel
