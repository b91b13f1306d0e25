theorem dX7_init_27 : decode cX7_init 27 = .ok (.bipush 6, 2) := by decide +kernel
theorem dX7_init_29 : decode cX7_init 29 = .ok (.newarray .int, 2) := by decide +kernel
theorem dX7_init_31 : decode cX7_init 31 = .ok (.putfield 25, 3) := by decide +kernel
theorem dX7_init_34 : decode cX7_init 34 = .ok (.aload_n 0, 1) := by decide +kernel
theorem dX7_init_35 : decode cX7_init 35 = .ok (.bipush 30, 2) := by decide +kernel
theorem dX7_init_37 : decode cX7_init 37 = .ok (.newarray .int, 2) := by decide +kernel
theorem dX7_init_39 : decode cX7_init 39 = .ok (.putfield 29, 3) := by decide +kernel
theorem dX7_init_42 : decode cX7_init 42 = .ok (.aload_n 0, 1) := by decide +kernel
theorem dX7_init_43 : decode cX7_init 43 = .ok (.bipush 30, 2) := by decide +kernel
theorem dX7_init_45 : decode cX7_init 45 = .ok (.newarray .int, 2) := by decide +kernel
theorem dX7_init_47 : decode cX7_init 47 = .ok (.putfield 32, 3) := by decide +kernel
theorem dX7_init_50 : decode cX7_init 50 = .ok (.aload_n 0, 1) := by decide +kernel
theorem dX7_init_51 : decode cX7_init 51 = .ok (.bipush 30, 2) := by decide +kernel
theorem dX7_init_53 : decode cX7_init 53 = .ok (.newarray .int, 2) := by decide +kernel
theorem dX7_init_55 : decode cX7_init 55 = .ok (.putfield 35, 3) := by decide +kernel
theorem dX7_init_58 : decode cX7_init 58 = .ok (.return_, 1) := by decide +kernel
theorem dX7_resetAt_0 : decode cX7_resetAt 0 = .ok (.aload_n 0, 1) := by decide +kernel
theorem dX7_resetAt_1 : decode cX7_resetAt 1 = .ok (.getfield 12, 3) := by decide +kernel
theorem dX7_resetAt_4 : decode cX7_resetAt 4 = .ok (.invokevirtual 38, 3) := by decide +kernel
theorem dX7_resetAt_7 : decode cX7_resetAt 7 = .ok (.aload_n 0, 1) := by decide +kernel
theorem dX7_resetAt_8 : decode cX7_resetAt 8 = .ok (.getfield 21, 3) := by decide +kernel
theorem dX7_resetAt_11 : decode cX7_resetAt 11 = .ok (.iconst 0, 1) := by decide +kernel
theorem dX7_resetAt_12 : decode cX7_resetAt 12 = .ok (.putfield 41, 3) := by decide +kernel
theorem dX7_resetAt_15 : decode cX7_resetAt 15 = .ok (.aload_n 0, 1) := by decide +kernel
theorem dX7_resetAt_16 : decode cX7_resetAt 16 = .ok (.iload_n 1, 1) := by decide +kernel
theorem dX7_resetAt_17 : decode cX7_resetAt 17 = .ok (.putfield 45, 3) := by decide +kernel
theorem dX7_resetAt_20 : decode cX7_resetAt 20 = .ok (.aload_n 0, 1) := by decide +kernel
theorem dX7_resetAt_21 : decode cX7_resetAt 21 = .ok (.iconst 0, 1) := by decide +kernel
theorem dX7_resetAt_22 : decode cX7_resetAt 22 = .ok (.putfield 48, 3) := by decide +kernel
theorem dX7_resetAt_25 : decode cX7_resetAt 25 = .ok (.aload_n 0, 1) := by decide +kernel
theorem dX7_resetAt_26 : decode cX7_resetAt 26 = .ok (.iconst 0, 1) := by decide +kernel
theorem dX7_resetAt_27 : decode cX7_resetAt 27 = .ok (.putfield 51, 3) := by decide +kernel
theorem dX7_resetAt_30 : decode cX7_resetAt 30 = .ok (.aload_n 0, 1) := by decide +kernel
theorem dX7_resetAt_31 : decode cX7_resetAt 31 = .ok (.iconst 0, 1) := by decide +kernel
theorem dX7_resetAt_32 : decode cX7_resetAt 32 = .ok (.putfield 54, 3) := by decide +kernel
theorem dX7_resetAt_35 : decode cX7_resetAt 35 = .ok (.return_, 1) := by decide +kernel
theorem dX7_putInHead_0 : decode cX7_putInHead 0 = .ok (.aload_n 0, 1) := by decide +kernel
theorem dX7_putInHead_1 : decode cX7_putInHead 1 = .ok (.getfield 29, 3) := by decide +kernel
theorem dX7_putInHead_4 : decode cX7_putInHead 4 = .ok (.aload_n 0, 1) := by decide +kernel
theorem dX7_putInHead_5 : decode cX7_putInHead 5 = .ok (.getfield 48, 3) := by decide +kernel
theorem dX7_putInHead_8 : decode cX7_putInHead 8 = .ok (.iload_n 1, 1) := by decide +kernel
theorem dX7_putInHead_9 : decode cX7_putInHead 9 = .ok (.iastore, 1) := by decide +kernel
theorem dX7_putInHead_10 : decode cX7_putInHead 10 = .ok (.aload_n 0, 1) := by decide +kernel
theorem dX7_putInHead_11 : decode cX7_putInHead 11 = .ok (.dup, 1) := by decide +kernel
theorem dX7_putInHead_12 : decode cX7_putInHead 12 = .ok (.getfield 48, 3) := by decide +kernel
theorem dX7_putInHead_15 : decode cX7_putInHead 15 = .ok (.iconst 1, 1) := by decide +kernel
theorem dX7_putInHead_16 : decode cX7_putInHead 16 = .ok (.iadd, 1) := by decide +kernel
theorem dX7_putInHead_17 : decode cX7_putInHead 17 = .ok (.putfield 48, 3) := by decide +kernel
theorem dX7_putInHead_20 : decode cX7_putInHead 20 = .ok (.return_, 1) := by decide +kernel
theorem dX7_putInBody_0 : decode cX7_putInBody 0 = .ok (.aload_n 0, 1) := by decide +kernel
theorem dX7_putInBody_1 : decode cX7_putInBody 1 = .ok (.getfield 32, 3) := by decide +kernel
theorem dX7_putInBody_4 : decode cX7_putInBody 4 = .ok (.aload_n 0, 1) := by decide +kernel
theorem dX7_putInBody_5 : decode cX7_putInBody 5 = .ok (.getfield 51, 3) := by decide +kernel
theorem dX7_putInBody_8 : decode cX7_putInBody 8 = .ok (.iload_n 1, 1) := by decide +kernel
theorem dX7_putInBody_9 : decode cX7_putInBody 9 = .ok (.iastore, 1) := by decide +kernel
theorem dX7_putInBody_10 : decode cX7_putInBody 10 = .ok (.aload_n 0, 1) := by decide +kernel
theorem dX7_putInBody_11 : decode cX7_putInBody 11 = .ok (.getfield 35, 3) := by decide +kernel
theorem dX7_putInBody_14 : decode cX7_putInBody 14 = .ok (.aload_n 0, 1) := by decide +kernel
theorem dX7_putInBody_15 : decode cX7_putInBody 15 = .ok (.getfield 51, 3) := by decide +kernel
theorem dX7_putInBody_18 : decode cX7_putInBody 18 = .ok (.iload_n 2, 1) := by decide +kernel
theorem dX7_putInBody_19 : decode cX7_putInBody 19 = .ok (.iastore, 1) := by decide +kernel
theorem dX7_putInBody_20 : decode cX7_putInBody 20 = .ok (.aload_n 0, 1) := by decide +kernel
theorem dX7_putInBody_21 : decode cX7_putInBody 21 = .ok (.dup, 1) := by decide +kernel
theorem dX7_putInBody_22 : decode cX7_putInBody 22 = .ok (.getfield 51, 3) := by decide +kernel
theorem dX7_putInBody_25 : decode cX7_putInBody 25 = .ok (.iconst 1, 1) := by decide +kernel
theorem dX7_putInBody_26 : decode cX7_putInBody 26 = .ok (.iadd, 1) := by decide +kernel
theorem dX7_putInBody_27 : decode cX7_putInBody 27 = .ok (.putfield 51, 3) := by decide +kernel
theorem dX7_putInBody_30 : decode cX7_putInBody 30 = .ok (.iload_n 1, 1) := by decide +kernel
theorem dX7_putInBody_31 : decode cX7_putInBody 31 = .ok (.iconst 2, 1) := by decide +kernel
theorem dX7_putInBody_32 : decode cX7_putInBody 32 = .ok (.if_icmp .ne 13, 3) := by decide +kernel
theorem dX7_putInBody_35 : decode cX7_putInBody 35 = .ok (.aload_n 0, 1) := by decide +kernel
theorem dX7_putInBody_36 : decode cX7_putInBody 36 = .ok (.dup, 1) := by decide +kernel
theorem dX7_putInBody_37 : decode cX7_putInBody 37 = .ok (.getfield 54, 3) := by decide +kernel
theorem dX7_putInBody_40 : decode cX7_putInBody 40 = .ok (.iconst 1, 1) := by decide +kernel
theorem dX7_putInBody_41 : decode cX7_putInBody 41 = .ok (.iadd, 1) := by decide +kernel
theorem dX7_putInBody_42 : decode cX7_putInBody 42 = .ok (.putfield 54, 3) := by decide +kernel
theorem dX7_putInBody_45 : decode cX7_putInBody 45 = .ok (.return_, 1) := by decide +kernel
theorem dX7_bodyOperations_0 : decode cX7_bodyOperations 0 = .ok (.aload_n 0, 1) := by decide +kernel
theorem dX7_bodyOperations_1 : decode cX7_bodyOperations 1 = .ok (.getfield 51, 3) := by decide +kernel
theorem dX7_bodyOperations_4 : decode cX7_bodyOperations 4 = .ok (.aload_n 0, 1) := by decide +kernel
theorem dX7_bodyOperations_5 : decode cX7_bodyOperations 5 = .ok (.getfield 21, 3) := by decide +kernel
theorem dX7_bodyOperations_8 : decode cX7_bodyOperations 8 = .ok (.getfield 41, 3) := by decide +kernel
theorem dX7_bodyOperations_11 : decode cX7_bodyOperations 11 = .ok (.isub, 1) := by decide +kernel
theorem dX7_bodyOperations_12 : decode cX7_bodyOperations 12 = .ok (.aload_n 0, 1) := by decide +kernel
theorem dX7_bodyOperations_13 : decode cX7_bodyOperations 13 = .ok (.getfield 54, 3) := by decide +kernel
theorem dX7_bodyOperations_16 : decode cX7_bodyOperations 16 = .ok (.isub, 1) := by decide +kernel
theorem dX7_bodyOperations_17 : decode cX7_bodyOperations 17 = .ok (.ireturn, 1) := by decide +kernel
theorem dX7_stays_0 : decode cX7_stays 0 = .ok (.aload_n 0, 1) := by decide +kernel
theorem dX7_stays_1 : decode cX7_stays 1 = .ok (.getfield 25, 3) := by decide +kernel
theorem dX7_stays_4 : decode cX7_stays 4 = .ok (.iload_n 1, 1) := by decide +kernel
theorem dX7_stays_5 : decode cX7_stays 5 = .ok (.iaload, 1) := by decide +kernel
theorem dX7_stays_6 : decode cX7_stays 6 = .ok (.iload_n 1, 1) := by decide +kernel
theorem dX7_stays_7 : decode cX7_stays 7 = .ok (.if_icmp .ne 7, 3) := by decide +kernel
theorem dX7_stays_10 : decode cX7_stays 10 = .ok (.iconst 1, 1) := by decide +kernel
theorem dX7_stays_11 : decode cX7_stays 11 = .ok (.goto 4, 3) := by decide +kernel
theorem dX7_stays_14 : decode cX7_stays 14 = .ok (.iconst 0, 1) := by decide +kernel
theorem dX7_stays_15 : decode cX7_stays 15 = .ok (.ireturn, 1) := by decide +kernel
theorem dX7_countStaying_0 : decode cX7_countStaying 0 = .ok (.iconst 0, 1) := by decide +kernel
theorem dX7_countStaying_1 : decode cX7_countStaying 1 = .ok (.istore_n 1, 1) := by decide +kernel
theorem dX7_countStaying_2 : decode cX7_countStaying 2 = .ok (.iconst 0, 1) := by decide +kernel
theorem dX7_countStaying_3 : decode cX7_countStaying 3 = .ok (.istore_n 2, 1) := by decide +kernel
theorem dX7_countStaying_4 : decode cX7_countStaying 4 = .ok (.iload_n 2, 1) := by decide +kernel
theorem dX7_countStaying_5 : decode cX7_countStaying 5 = .ok (.bipush 6, 2) := by decide +kernel
theorem dX7_countStaying_7 : decode cX7_countStaying 7 = .ok (.if_icmp .ge 25, 3) := by decide +kernel
theorem dX7_countStaying_10 : decode cX7_countStaying 10 = .ok (.iload_n 1, 1) := by decide +kernel
theorem dX7_countStaying_11 : decode cX7_countStaying 11 = .ok (.aload_n 0, 1) := by decide +kernel
theorem dX7_countStaying_12 : decode cX7_countStaying 12 = .ok (.iload_n 2, 1) := by decide +kernel
theorem dX7_countStaying_13 : decode cX7_countStaying 13 = .ok (.invokevirtual 57, 3) := by decide +kernel
theorem dX7_countStaying_16 : decode cX7_countStaying 16 = .ok (.ifCond .eq 7, 3) := by decide +kernel
theorem dX7_countStaying_19 : decode cX7_countStaying 19 = .ok (.iconst 1, 1) := by decide +kernel
theorem dX7_countStaying_20 : decode cX7_countStaying 20 = .ok (.goto 4, 3) := by decide +kernel
theorem dX7_countStaying_23 : decode cX7_countStaying 23 = .ok (.iconst 0, 1) := by decide +kernel
theorem dX7_countStaying_24 : decode cX7_countStaying 24 = .ok (.iadd, 1) := by decide +kernel
theorem dX7_countStaying_25 : decode cX7_countStaying 25 = .ok (.istore_n 1, 1) := by decide +kernel
theorem dX7_countStaying_26 : decode cX7_countStaying 26 = .ok (.iinc 2 1, 3) := by decide +kernel
theorem dX7_countStaying_29 : decode cX7_countStaying 29 = .ok (.goto (-25), 3) := by decide +kernel
theorem dX7_countStaying_32 : decode cX7_countStaying 32 = .ok (.iload_n 1, 1) := by decide +kernel
theorem dX7_countStaying_33 : decode cX7_countStaying 33 = .ok (.ireturn, 1) := by decide +kernel
theorem dX7_doHead_0 : decode cX7_doHead 0 = .ok (.iconst 0, 1) := by decide +kernel
theorem dX7_doHead_1 : decode cX7_doHead 1 = .ok (.istore_n 2, 1) := by decide +kernel
theorem dX7_doHead_2 : decode cX7_doHead 2 = .ok (.iload_n 2, 1) := by decide +kernel
theorem dX7_doHead_3 : decode cX7_doHead 3 = .ok (.aload_n 0, 1) := by decide +kernel
theorem dX7_doHead_4 : decode cX7_doHead 4 = .ok (.getfield 48, 3) := by decide +kernel
theorem dX7_doHead_7 : decode cX7_doHead 7 = .ok (.if_icmp .ge 22, 3) := by decide +kernel
theorem dX7_doHead_10 : decode cX7_doHead 10 = .ok (.aload_n 0, 1) := by decide +kernel
theorem dX7_doHead_11 : decode cX7_doHead 11 = .ok (.getfield 12, 3) := by decide +kernel
theorem dX7_doHead_14 : decode cX7_doHead 14 = .ok (.aload_n 0, 1) := by decide +kernel
theorem dX7_doHead_15 : decode cX7_doHead 15 = .ok (.getfield 29, 3) := by decide +kernel
theorem dX7_doHead_18 : decode cX7_doHead 18 = .ok (.iload_n 2, 1) := by decide +kernel
theorem dX7_doHead_19 : decode cX7_doHead 19 = .ok (.iaload, 1) := by decide +kernel
theorem dX7_doHead_20 : decode cX7_doHead 20 = .ok (.invokevirtual 61, 3) := by decide +kernel
theorem dX7_doHead_23 : decode cX7_doHead 23 = .ok (.iinc 2 1, 3) := by decide +kernel
theorem dX7_doHead_26 : decode cX7_doHead 26 = .ok (.goto (-24), 3) := by decide +kernel
theorem dX7_doHead_29 : decode cX7_doHead 29 = .ok (.aload_n 1, 1) := by decide +kernel
theorem dX7_doHead_30 : decode cX7_doHead 30 = .ok (.dup, 1) := by decide +kernel
theorem dX7_doHead_31 : decode cX7_doHead 31 = .ok (.getfield 65, 3) := by decide +kernel
theorem dX7_doHead_34 : decode cX7_doHead 34 = .ok (.aload_n 0, 1) := by decide +kernel
theorem dX7_doHead_35 : decode cX7_doHead 35 = .ok (.getfield 48, 3) := by decide +kernel
theorem dX7_doHead_38 : decode cX7_doHead 38 = .ok (.iadd, 1) := by decide +kernel
theorem dX7_doHead_39 : decode cX7_doHead 39 = .ok (.putfield 65, 3) := by decide +kernel
theorem dX7_doHead_42 : decode cX7_doHead 42 = .ok (.return_, 1) := by decide +kernel
theorem dX7_doBody_0 : decode cX7_doBody 0 = .ok (.iconst 0, 1) := by decide +kernel
theorem dX7_doBody_1 : decode cX7_doBody 1 = .ok (.istore 4, 2) := by decide +kernel
theorem dX7_doBody_3 : decode cX7_doBody 3 = .ok (.iload 4, 2) := by decide +kernel
theorem dX7_doBody_5 : decode cX7_doBody 5 = .ok (.aload_n 0, 1) := by decide +kernel
theorem dX7_doBody_6 : decode cX7_doBody 6 = .ok (.getfield 51, 3) := by decide +kernel
theorem dX7_doBody_9 : decode cX7_doBody 9 = .ok (.if_icmp .ge 116, 3) := by decide +kernel
theorem dX7_doBody_12 : decode cX7_doBody 12 = .ok (.aload_n 0, 1) := by decide +kernel
theorem dX7_doBody_13 : decode cX7_doBody 13 = .ok (.getfield 35, 3) := by decide +kernel
theorem dX7_doBody_16 : decode cX7_doBody 16 = .ok (.iload 4, 2) := by decide +kernel
theorem dX7_doBody_18 : decode cX7_doBody 18 = .ok (.iaload, 1) := by decide +kernel
theorem dX7_doBody_19 : decode cX7_doBody 19 = .ok (.istore 5, 2) := by decide +kernel
theorem dX7_doBody_21 : decode cX7_doBody 21 = .ok (.aload_n 3, 1) := by decide +kernel
theorem dX7_doBody_22 : decode cX7_doBody 22 = .ok (.dup, 1) := by decide +kernel
theorem dX7_doBody_23 : decode cX7_doBody 23 = .ok (.getfield 65, 3) := by decide +kernel
theorem dX7_doBody_26 : decode cX7_doBody 26 = .ok (.iconst 1, 1) := by decide +kernel
theorem dX7_doBody_27 : decode cX7_doBody 27 = .ok (.iadd, 1) := by decide +kernel
theorem dX7_doBody_28 : decode cX7_doBody 28 = .ok (.putfield 65, 3) := by decide +kernel
theorem dX7_doBody_31 : decode cX7_doBody 31 = .ok (.aload_n 0, 1) := by decide +kernel
theorem dX7_doBody_32 : decode cX7_doBody 32 = .ok (.getfield 32, 3) := by decide +kernel
theorem dX7_doBody_35 : decode cX7_doBody 35 = .ok (.iload 4, 2) := by decide +kernel
theorem dX7_doBody_37 : decode cX7_doBody 37 = .ok (.iaload, 1) := by decide +kernel
theorem dX7_doBody_38 : decode cX7_doBody 38 = .ok (.ifCond .ne 15, 3) := by decide +kernel
theorem dX7_doBody_41 : decode cX7_doBody 41 = .ok (.aload_n 0, 1) := by decide +kernel
theorem dX7_doBody_42 : decode cX7_doBody 42 = .ok (.getfield 12, 3) := by decide +kernel
theorem dX7_doBody_45 : decode cX7_doBody 45 = .ok (.iload 5, 2) := by decide +kernel
theorem dX7_doBody_47 : decode cX7_doBody 47 = .ok (.invokevirtual 61, 3) := by decide +kernel
theorem dX7_doBody_50 : decode cX7_doBody 50 = .ok (.goto 69, 3) := by decide +kernel
theorem dX7_doBody_53 : decode cX7_doBody 53 = .ok (.aload_n 0, 1) := by decide +kernel
theorem dX7_doBody_54 : decode cX7_doBody 54 = .ok (.getfield 32, 3) := by decide +kernel
theorem dX7_doBody_57 : decode cX7_doBody 57 = .ok (.iload 4, 2) := by decide +kernel
theorem dX7_doBody_59 : decode cX7_doBody 59 = .ok (.iaload, 1) := by decide +kernel
theorem dX7_doBody_60 : decode cX7_doBody 60 = .ok (.iconst 2, 1) := by decide +kernel
theorem dX7_doBody_61 : decode cX7_doBody 61 = .ok (.if_icmp .ne 20, 3) := by decide +kernel
theorem dX7_doBody_64 : decode cX7_doBody 64 = .ok (.aload_n 2, 1) := by decide +kernel
theorem dX7_doBody_65 : decode cX7_doBody 65 = .ok (.aload_n 0, 1) := by decide +kernel
theorem dX7_doBody_66 : decode cX7_doBody 66 = .ok (.getfield 12, 3) := by decide +kernel
theorem dX7_doBody_69 : decode cX7_doBody 69 = .ok (.getfield 70, 3) := by decide +kernel
theorem dX7_doBody_72 : decode cX7_doBody 72 = .ok (.iload 5, 2) := by decide +kernel
theorem dX7_doBody_74 : decode cX7_doBody 74 = .ok (.iaload, 1) := by decide +kernel
theorem dX7_doBody_75 : decode cX7_doBody 75 = .ok (.invokevirtual 73, 3) := by decide +kernel
theorem dX7_doBody_78 : decode cX7_doBody 78 = .ok (.goto 41, 3) := by decide +kernel
theorem dX7_doBody_81 : decode cX7_doBody 81 = .ok (.aload_n 0, 1) := by decide +kernel
theorem dX7_doBody_82 : decode cX7_doBody 82 = .ok (.getfield 21, 3) := by decide +kernel
theorem dX7_doBody_85 : decode cX7_doBody 85 = .ok (.iload 5, 2) := by decide +kernel
theorem dX7_doBody_87 : decode cX7_doBody 87 = .ok (.aload_n 0, 1) := by decide +kernel
theorem dX7_doBody_88 : decode cX7_doBody 88 = .ok (.getfield 12, 3) := by decide +kernel
theorem dX7_doBody_91 : decode cX7_doBody 91 = .ok (.getfield 70, 3) := by decide +kernel
theorem dX7_doBody_94 : decode cX7_doBody 94 = .ok (.invokevirtual 78, 3) := by decide +kernel
theorem dX7_doBody_97 : decode cX7_doBody 97 = .ok (.ifCond .ne 22, 3) := by decide +kernel
theorem dX7_doBody_100 : decode cX7_doBody 100 = .ok (.aload_n 0, 1) := by decide +kernel
theorem dX7_doBody_101 : decode cX7_doBody 101 = .ok (.getfield 21, 3) := by decide +kernel
theorem dX7_doBody_104 : decode cX7_doBody 104 = .ok (.iload 5, 2) := by decide +kernel
theorem dX7_doBody_106 : decode cX7_doBody 106 = .ok (.aload_n 0, 1) := by decide +kernel
theorem dX7_doBody_107 : decode cX7_doBody 107 = .ok (.getfield 12, 3) := by decide +kernel
theorem dX7_doBody_110 : decode cX7_doBody 110 = .ok (.getfield 70, 3) := by decide +kernel
theorem dX7_doBody_113 : decode cX7_doBody 113 = .ok (.aload_n 1, 1) := by decide +kernel
theorem dX7_doBody_114 : decode cX7_doBody 114 = .ok (.invokevirtual 82, 3) := by decide +kernel
theorem dX7_doBody_117 : decode cX7_doBody 117 = .ok (.iconst 0, 1) := by decide +kernel
theorem dX7_doBody_118 : decode cX7_doBody 118 = .ok (.ireturn, 1) := by decide +kernel
theorem dX7_doBody_119 : decode cX7_doBody 119 = .ok (.iinc 4 1, 3) := by decide +kernel
theorem dX7_doBody_122 : decode cX7_doBody 122 = .ok (.goto (-119), 3) := by decide +kernel
theorem dX7_doBody_125 : decode cX7_doBody 125 = .ok (.iconst 0, 1) := by decide +kernel
theorem dX7_doBody_126 : decode cX7_doBody 126 = .ok (.istore 4, 2) := by decide +kernel
theorem dX7_doBody_128 : decode cX7_doBody 128 = .ok (.iload 4, 2) := by decide +kernel
theorem dX7_doBody_130 : decode cX7_doBody 130 = .ok (.bipush 6, 2) := by decide +kernel
theorem dX7_doBody_132 : decode cX7_doBody 132 = .ok (.if_icmp .ge 31, 3) := by decide +kernel
theorem dX7_doBody_135 : decode cX7_doBody 135 = .ok (.aload_n 1, 1) := by decide +kernel
theorem dX7_doBody_136 : decode cX7_doBody 136 = .ok (.getfield 86, 3) := by decide +kernel
theorem dX7_doBody_139 : decode cX7_doBody 139 = .ok (.iload 4, 2) := by decide +kernel
theorem dX7_doBody_141 : decode cX7_doBody 141 = .ok (.aload_n 0, 1) := by decide +kernel
theorem dX7_doBody_142 : decode cX7_doBody 142 = .ok (.getfield 12, 3) := by decide +kernel
theorem dX7_doBody_145 : decode cX7_doBody 145 = .ok (.getfield 70, 3) := by decide +kernel
theorem dX7_doBody_148 : decode cX7_doBody 148 = .ok (.aload_n 0, 1) := by decide +kernel
theorem dX7_doBody_149 : decode cX7_doBody 149 = .ok (.getfield 25, 3) := by decide +kernel
theorem dX7_doBody_152 : decode cX7_doBody 152 = .ok (.iload 4, 2) := by decide +kernel
theorem dX7_doBody_154 : decode cX7_doBody 154 = .ok (.iaload, 1) := by decide +kernel
theorem dX7_doBody_155 : decode cX7_doBody 155 = .ok (.iaload, 1) := by decide +kernel
theorem dX7_doBody_156 : decode cX7_doBody 156 = .ok (.iastore, 1) := by decide +kernel
theorem dX7_doBody_157 : decode cX7_doBody 157 = .ok (.iinc 4 1, 3) := by decide +kernel
theorem dX7_doBody_160 : decode cX7_doBody 160 = .ok (.goto (-32), 3) := by decide +kernel
theorem dX7_doBody_163 : decode cX7_doBody 163 = .ok (.iconst 1, 1) := by decide +kernel
theorem dX7_doBody_164 : decode cX7_doBody 164 = .ok (.ireturn, 1) := by decide +kernel
theorem dX8_init_0 : decode cX8_init 0 = .ok (.aload_n 0, 1) := by decide +kernel
theorem dX8_init_1 : decode cX8_init 1 = .ok (.invokespecial 3, 3) := by decide +kernel
theorem dX8_init_4 : decode cX8_init 4 = .ok (.aload_n 0, 1) := by decide +kernel
theorem dX8_init_5 : decode cX8_init 5 = .ok (.new 9, 3) := by decide +kernel
theorem dX8_init_8 : decode cX8_init 8 = .ok (.dup, 1) := by decide +kernel
theorem dX8_init_9 : decode cX8_init 9 = .ok (.invokespecial 11, 3) := by decide +kernel
theorem dX8_init_12 : decode cX8_init 12 = .ok (.putfield 12, 3) := by decide +kernel
theorem dX8_init_15 : decode cX8_init 15 = .ok (.aload_n 0, 1) := by decide +kernel
theorem dX8_init_16 : decode cX8_init 16 = .ok (.bipush 30, 2) := by decide +kernel
theorem dX8_init_18 : decode cX8_init 18 = .ok (.newarray .int, 2) := by decide +kernel
theorem dX8_init_20 : decode cX8_init 20 = .ok (.putfield 18, 3) := by decide +kernel
theorem dX8_init_23 : decode cX8_init 23 = .ok (.aload_n 0, 1) := by decide +kernel
theorem dX8_init_24 : decode cX8_init 24 = .ok (.bipush 30, 2) := by decide +kernel
theorem dX8_init_26 : decode cX8_init 26 = .ok (.newarray .int, 2) := by decide +kernel
theorem dX8_init_28 : decode cX8_init 28 = .ok (.putfield 22, 3) := by decide +kernel
theorem dX8_init_31 : decode cX8_init 31 = .ok (.aload_n 0, 1) := by decide +kernel
theorem dX8_init_32 : decode cX8_init 32 = .ok (.bipush 36, 2) := by decide +kernel
theorem dX8_init_34 : decode cX8_init 34 = .ok (.newarray .boolean, 2) := by decide +kernel
theorem dX8_init_36 : decode cX8_init 36 = .ok (.putfield 25, 3) := by decide +kernel
theorem dX8_init_39 : decode cX8_init 39 = .ok (.aload_n 0, 1) := by decide +kernel
theorem dX8_init_40 : decode cX8_init 40 = .ok (.bipush 36, 2) := by decide +kernel
theorem dX8_init_42 : decode cX8_init 42 = .ok (.newarray .boolean, 2) := by decide +kernel
theorem dX8_init_44 : decode cX8_init 44 = .ok (.putfield 29, 3) := by decide +kernel
theorem dX8_init_47 : decode cX8_init 47 = .ok (.return_, 1) := by decide +kernel
theorem dX8_make_0 : decode cX8_make 0 = .ok (.aload_n 1, 1) := by decide +kernel
theorem dX8_make_1 : decode cX8_make 1 = .ok (.aload_n 3, 1) := by decide +kernel
theorem dX8_make_2 : decode cX8_make 2 = .ok (.getfield 32, 3) := by decide +kernel
theorem dX8_make_5 : decode cX8_make 5 = .ok (.invokevirtual 38, 3) := by decide +kernel
theorem dX8_make_8 : decode cX8_make 8 = .ok (.aload_n 0, 1) := by decide +kernel
theorem dX8_make_9 : decode cX8_make 9 = .ok (.invokevirtual 44, 3) := by decide +kernel
theorem dX8_make_12 : decode cX8_make 12 = .ok (.iconst 0, 1) := by decide +kernel
theorem dX8_make_13 : decode cX8_make 13 = .ok (.istore 4, 2) := by decide +kernel
theorem dX8_make_15 : decode cX8_make 15 = .ok (.iload 4, 2) := by decide +kernel
theorem dX8_make_17 : decode cX8_make 17 = .ok (.aload_n 3, 1) := by decide +kernel
theorem dX8_make_18 : decode cX8_make 18 = .ok (.getfield 47, 3) := by decide +kernel
theorem dX8_make_21 : decode cX8_make 21 = .ok (.if_icmp .ge 33, 3) := by decide +kernel
theorem dX8_make_24 : decode cX8_make 24 = .ok (.aload_n 3, 1) := by decide +kernel
theorem dX8_make_25 : decode cX8_make 25 = .ok (.getfield 50, 3) := by decide +kernel
theorem dX8_make_28 : decode cX8_make 28 = .ok (.iload 4, 2) := by decide +kernel
theorem dX8_make_30 : decode cX8_make 30 = .ok (.iaload, 1) := by decide +kernel
theorem dX8_make_31 : decode cX8_make 31 = .ok (.istore 5, 2) := by decide +kernel
theorem dX8_make_33 : decode cX8_make 33 = .ok (.aload_n 0, 1) := by decide +kernel
theorem dX8_make_34 : decode cX8_make 34 = .ok (.aload_n 1, 1) := by decide +kernel
theorem dX8_make_35 : decode cX8_make 35 = .ok (.iload 5, 2) := by decide +kernel
theorem dX8_make_37 : decode cX8_make 37 = .ok (.aload_n 3, 1) := by decide +kernel
theorem dX8_make_38 : decode cX8_make 38 = .ok (.getfield 53, 3) := by decide +kernel
theorem dX8_make_41 : decode cX8_make 41 = .ok (.iload 4, 2) := by decide +kernel
theorem dX8_make_43 : decode cX8_make 43 = .ok (.baload, 1) := by decide +kernel
theorem dX8_make_44 : decode cX8_make 44 = .ok (.aload_n 2, 1) := by decide +kernel
theorem dX8_make_45 : decode cX8_make 45 = .ok (.invokevirtual 56, 3) := by decide +kernel
theorem dX8_make_48 : decode cX8_make 48 = .ok (.iinc 4 1, 3) := by decide +kernel
theorem dX8_make_51 : decode cX8_make 51 = .ok (.goto (-36), 3) := by decide +kernel
theorem dX8_make_54 : decode cX8_make 54 = .ok (.iconst 0, 1) := by decide +kernel
theorem dX8_make_55 : decode cX8_make 55 = .ok (.istore 4, 2) := by decide +kernel
theorem dX8_make_57 : decode cX8_make 57 = .ok (.iload 4, 2) := by decide +kernel
theorem dX8_make_59 : decode cX8_make 59 = .ok (.bipush 6, 2) := by decide +kernel
theorem dX8_make_61 : decode cX8_make 61 = .ok (.if_icmp .ge 42, 3) := by decide +kernel
theorem dX8_make_64 : decode cX8_make 64 = .ok (.aload_n 1, 1) := by decide +kernel
theorem dX8_make_65 : decode cX8_make 65 = .ok (.getfield 60, 3) := by decide +kernel
theorem dX8_make_68 : decode cX8_make 68 = .ok (.iload 4, 2) := by decide +kernel
theorem dX8_make_70 : decode cX8_make 70 = .ok (.aload_n 0, 1) := by decide +kernel
theorem dX8_make_71 : decode cX8_make 71 = .ok (.getfield 12, 3) := by decide +kernel
theorem dX8_make_74 : decode cX8_make 74 = .ok (.getfield 63, 3) := by decide +kernel
theorem dX8_make_77 : decode cX8_make 77 = .ok (.iload 4, 2) := by decide +kernel
theorem dX8_make_79 : decode cX8_make 79 = .ok (.iaload, 1) := by decide +kernel
theorem dX8_make_80 : decode cX8_make 80 = .ok (.iastore, 1) := by decide +kernel
theorem dX8_make_81 : decode cX8_make 81 = .ok (.aload_n 0, 1) := by decide +kernel
theorem dX8_make_82 : decode cX8_make 82 = .ok (.getfield 25, 3) := by decide +kernel
theorem dX8_make_85 : decode cX8_make 85 = .ok (.aload_n 0, 1) := by decide +kernel
theorem dX8_make_86 : decode cX8_make 86 = .ok (.getfield 12, 3) := by decide +kernel
theorem dX8_make_89 : decode cX8_make 89 = .ok (.getfield 63, 3) := by decide +kernel
theorem dX8_make_92 : decode cX8_make 92 = .ok (.iload 4, 2) := by decide +kernel
theorem dX8_make_94 : decode cX8_make 94 = .ok (.iaload, 1) := by decide +kernel
theorem dX8_make_95 : decode cX8_make 95 = .ok (.iconst 1, 1) := by decide +kernel
theorem dX8_make_96 : decode cX8_make 96 = .ok (.bastore, 1) := by decide +kernel
theorem dX8_make_97 : decode cX8_make 97 = .ok (.iinc 4 1, 3) := by decide +kernel
theorem dX8_make_100 : decode cX8_make 100 = .ok (.goto (-43), 3) := by decide +kernel
theorem dX8_make_103 : decode cX8_make 103 = .ok (.aload_n 0, 1) := by decide +kernel
theorem dX8_make_104 : decode cX8_make 104 = .ok (.aload_n 1, 1) := by decide +kernel
theorem dX8_make_105 : decode cX8_make 105 = .ok (.getfield 66, 3) := by decide +kernel
theorem dX8_make_108 : decode cX8_make 108 = .ok (.invokevirtual 70, 3) := by decide +kernel
theorem dX8_make_111 : decode cX8_make 111 = .ok (.aload_n 0, 1) := by decide +kernel
theorem dX8_make_112 : decode cX8_make 112 = .ok (.aload_n 1, 1) := by decide +kernel
theorem dX8_make_113 : decode cX8_make 113 = .ok (.invokevirtual 74, 3) := by decide +kernel
theorem dX8_make_116 : decode cX8_make 116 = .ok (.aload_n 0, 1) := by decide +kernel
theorem dX8_make_117 : decode cX8_make 117 = .ok (.aload_n 1, 1) := by decide +kernel
theorem dX8_make_118 : decode cX8_make 118 = .ok (.invokevirtual 78, 3) := by decide +kernel
theorem dX8_make_121 : decode cX8_make 121 = .ok (.return_, 1) := by decide +kernel
theorem dX8_forgetLast_0 : decode cX8_forgetLast 0 = .ok (.aload_n 0, 1) := by decide +kernel
theorem dX8_forgetLast_1 : decode cX8_forgetLast 1 = .ok (.getfield 12, 3) := by decide +kernel
theorem dX8_forgetLast_4 : decode cX8_forgetLast 4 = .ok (.invokevirtual 81, 3) := by decide +kernel
theorem dX8_forgetLast_7 : decode cX8_forgetLast 7 = .ok (.iconst 0, 1) := by decide +kernel
theorem dX8_forgetLast_8 : decode cX8_forgetLast 8 = .ok (.istore_n 1, 1) := by decide +kernel
theorem dX8_forgetLast_9 : decode cX8_forgetLast 9 = .ok (.iload_n 1, 1) := by decide +kernel
theorem dX8_forgetLast_10 : decode cX8_forgetLast 10 = .ok (.bipush 6, 2) := by decide +kernel
theorem dX8_forgetLast_12 : decode cX8_forgetLast 12 = .ok (.if_icmp .ge 19, 3) := by decide +kernel
theorem dX8_forgetLast_15 : decode cX8_forgetLast 15 = .ok (.aload_n 0, 1) := by decide +kernel
theorem dX8_forgetLast_16 : decode cX8_forgetLast 16 = .ok (.getfield 12, 3) := by decide +kernel
theorem dX8_forgetLast_19 : decode cX8_forgetLast 19 = .ok (.getfield 63, 3) := by decide +kernel
theorem dX8_forgetLast_22 : decode cX8_forgetLast 22 = .ok (.iload_n 1, 1) := by decide +kernel
theorem dX8_forgetLast_23 : decode cX8_forgetLast 23 = .ok (.iload_n 1, 1) := by decide +kernel
theorem dX8_forgetLast_24 : decode cX8_forgetLast 24 = .ok (.iastore, 1) := by decide +kernel
theorem dX8_forgetLast_25 : decode cX8_forgetLast 25 = .ok (.iinc 1 1, 3) := by decide +kernel
theorem dX8_forgetLast_28 : decode cX8_forgetLast 28 = .ok (.goto (-19), 3) := by decide +kernel
theorem dX8_forgetLast_31 : decode cX8_forgetLast 31 = .ok (.aload_n 0, 1) := by decide +kernel
theorem dX8_forgetLast_32 : decode cX8_forgetLast 32 = .ok (.iconst 0, 1) := by decide +kernel
theorem dX8_forgetLast_33 : decode cX8_forgetLast 33 = .ok (.putfield 84, 3) := by decide +kernel
theorem dX8_forgetLast_36 : decode cX8_forgetLast 36 = .ok (.iconst 0, 1) := by decide +kernel
theorem dX8_forgetLast_37 : decode cX8_forgetLast 37 = .ok (.istore_n 1, 1) := by decide +kernel
theorem dX8_forgetLast_38 : decode cX8_forgetLast 38 = .ok (.iload_n 1, 1) := by decide +kernel
theorem dX8_forgetLast_39 : decode cX8_forgetLast 39 = .ok (.bipush 36, 2) := by decide +kernel
theorem dX8_forgetLast_41 : decode cX8_forgetLast 41 = .ok (.if_icmp .ge 16, 3) := by decide +kernel
theorem dX8_forgetLast_44 : decode cX8_forgetLast 44 = .ok (.aload_n 0, 1) := by decide +kernel
theorem dX8_forgetLast_45 : decode cX8_forgetLast 45 = .ok (.getfield 25, 3) := by decide +kernel
theorem dX8_forgetLast_48 : decode cX8_forgetLast 48 = .ok (.iload_n 1, 1) := by decide +kernel
theorem dX8_forgetLast_49 : decode cX8_forgetLast 49 = .ok (.iconst 0, 1) := by decide +kernel
theorem dX8_forgetLast_50 : decode cX8_forgetLast 50 = .ok (.bastore, 1) := by decide +kernel
theorem dX8_forgetLast_51 : decode cX8_forgetLast 51 = .ok (.iinc 1 1, 3) := by decide +kernel
theorem dX8_forgetLast_54 : decode cX8_forgetLast 54 = .ok (.goto (-16), 3) := by decide +kernel
theorem dX8_forgetLast_57 : decode cX8_forgetLast 57 = .ok (.return_, 1) := by decide +kernel
theorem dX8_follow_0 : decode cX8_follow 0 = .ok (.aload 4, 2) := by decide +kernel
theorem dX8_follow_2 : decode cX8_follow 2 = .ok (.getfield 87, 3) := by decide +kernel
theorem dX8_follow_5 : decode cX8_follow 5 = .ok (.iload_n 2, 1) := by decide +kernel
theorem dX8_follow_6 : decode cX8_follow 6 = .ok (.iaload, 1) := by decide +kernel
theorem dX8_follow_7 : decode cX8_follow 7 = .ok (.istore 5, 2) := by decide +kernel
theorem dX8_follow_9 : decode cX8_follow 9 = .ok (.aload 4, 2) := by decide +kernel
theorem dX8_follow_11 : decode cX8_follow 11 = .ok (.getfield 92, 3) := by decide +kernel
theorem dX8_follow_14 : decode cX8_follow 14 = .ok (.iload_n 2, 1) := by decide +kernel
theorem dX8_follow_15 : decode cX8_follow 15 = .ok (.iaload, 1) := by decide +kernel
theorem dX8_follow_16 : decode cX8_follow 16 = .ok (.istore 6, 2) := by decide +kernel
theorem dX8_follow_18 : decode cX8_follow 18 = .ok (.iload 5, 2) := by decide +kernel
theorem dX8_follow_20 : decode cX8_follow 20 = .ok (.tableswitch 194 0 14 #[76, 194, 194, 97, 97, 97, 97, 97, 97, 194, 194, 194, 139, 194, 166], 76) := by decide +kernel
theorem dX8_follow_96 : decode cX8_follow 96 = .ok (.aload_n 0, 1) := by decide +kernel
theorem dX8_follow_97 : decode cX8_follow 97 = .ok (.getfield 12, 3) := by decide +kernel
theorem dX8_follow_100 : decode cX8_follow 100 = .ok (.aload_n 1, 1) := by decide +kernel
theorem dX8_follow_101 : decode cX8_follow 101 = .ok (.getfield 66, 3) := by decide +kernel
theorem dX8_follow_104 : decode cX8_follow 104 = .ok (.iconst 0, 1) := by decide +kernel
theorem dX8_follow_105 : decode cX8_follow 105 = .ok (.iload 6, 2) := by decide +kernel
theorem dX8_follow_107 : decode cX8_follow 107 = .ok (.iconst 0, 1) := by decide +kernel
theorem dX8_follow_108 : decode cX8_follow 108 = .ok (.invokevirtual 95, 3) := by decide +kernel
theorem dX8_follow_111 : decode cX8_follow 111 = .ok (.invokevirtual 101, 3) := by decide +kernel
theorem dX8_follow_114 : decode cX8_follow 114 = .ok (.goto 111, 3) := by decide +kernel
theorem dX8_follow_117 : decode cX8_follow 117 = .ok (.aload_n 0, 1) := by decide +kernel
theorem dX8_follow_118 : decode cX8_follow 118 = .ok (.getfield 12, 3) := by decide +kernel
theorem dX8_follow_121 : decode cX8_follow 121 = .ok (.invokevirtual 104, 3) := by decide +kernel
theorem dX8_follow_124 : decode cX8_follow 124 = .ok (.istore 7, 2) := by decide +kernel
theorem dX8_follow_126 : decode cX8_follow 126 = .ok (.aload_n 0, 1) := by decide +kernel
theorem dX8_follow_127 : decode cX8_follow 127 = .ok (.getfield 12, 3) := by decide +kernel
theorem dX8_follow_130 : decode cX8_follow 130 = .ok (.invokevirtual 104, 3) := by decide +kernel
theorem dX8_follow_133 : decode cX8_follow 133 = .ok (.istore 8, 2) := by decide +kernel
theorem dX8_follow_135 : decode cX8_follow 135 = .ok (.aload_n 0, 1) := by decide +kernel
theorem dX8_follow_136 : decode cX8_follow 136 = .ok (.getfield 12, 3) := by decide +kernel
theorem dX8_follow_139 : decode cX8_follow 139 = .ok (.aload_n 0, 1) := by decide +kernel
theorem dX8_follow_140 : decode cX8_follow 140 = .ok (.aload_n 1, 1) := by decide +kernel
theorem dX8_follow_141 : decode cX8_follow 141 = .ok (.getfield 66, 3) := by decide +kernel
theorem dX8_follow_144 : decode cX8_follow 144 = .ok (.iload 5, 2) := by decide +kernel
theorem dX8_follow_146 : decode cX8_follow 146 = .ok (.iload 8, 2) := by decide +kernel
theorem dX8_follow_148 : decode cX8_follow 148 = .ok (.iload 7, 2) := by decide +kernel
theorem dX8_follow_150 : decode cX8_follow 150 = .ok (.invokevirtual 108, 3) := by decide +kernel
theorem dX8_follow_153 : decode cX8_follow 153 = .ok (.invokevirtual 101, 3) := by decide +kernel
theorem dX8_follow_156 : decode cX8_follow 156 = .ok (.goto 69, 3) := by decide +kernel
theorem dX8_follow_159 : decode cX8_follow 159 = .ok (.aload_n 0, 1) := by decide +kernel
theorem dX8_follow_160 : decode cX8_follow 160 = .ok (.getfield 12, 3) := by decide +kernel
theorem dX8_follow_163 : decode cX8_follow 163 = .ok (.invokevirtual 104, 3) := by decide +kernel
theorem dX8_follow_166 : decode cX8_follow 166 = .ok (.istore 9, 2) := by decide +kernel
theorem dX8_follow_168 : decode cX8_follow 168 = .ok (.aload_n 0, 1) := by decide +kernel
theorem dX8_follow_169 : decode cX8_follow 169 = .ok (.getfield 25, 3) := by decide +kernel
theorem dX8_follow_172 : decode cX8_follow 172 = .ok (.iload 9, 2) := by decide +kernel
theorem dX8_follow_174 : decode cX8_follow 174 = .ok (.iconst 1, 1) := by decide +kernel
theorem dX8_follow_175 : decode cX8_follow 175 = .ok (.bastore, 1) := by decide +kernel
theorem dX8_follow_176 : decode cX8_follow 176 = .ok (.aload_n 0, 1) := by decide +kernel
theorem dX8_follow_177 : decode cX8_follow 177 = .ok (.iconst 2, 1) := by decide +kernel
theorem dX8_follow_178 : decode cX8_follow 178 = .ok (.iload 9, 2) := by decide +kernel
theorem dX8_follow_180 : decode cX8_follow 180 = .ok (.invokevirtual 112, 3) := by decide +kernel
theorem dX8_follow_183 : decode cX8_follow 183 = .ok (.goto 42, 3) := by decide +kernel
theorem dX8_follow_186 : decode cX8_follow 186 = .ok (.aload_n 0, 1) := by decide +kernel
theorem dX8_follow_187 : decode cX8_follow 187 = .ok (.aload_n 1, 1) := by decide +kernel
theorem dX8_follow_188 : decode cX8_follow 188 = .ok (.aload_n 0, 1) := by decide +kernel
theorem dX8_follow_189 : decode cX8_follow 189 = .ok (.getfield 12, 3) := by decide +kernel
theorem dX8_follow_192 : decode cX8_follow 192 = .ok (.invokevirtual 104, 3) := by decide +kernel
theorem dX8_follow_195 : decode cX8_follow 195 = .ok (.iload_n 3, 1) := by decide +kernel
theorem dX8_follow_196 : decode cX8_follow 196 = .ok (.iload_n 3, 1) := by decide +kernel
theorem dX8_follow_197 : decode cX8_follow 197 = .ok (.ifCond .eq 9, 3) := by decide +kernel
theorem dX8_follow_200 : decode cX8_follow 200 = .ok (.iload_n 2, 1) := by decide +kernel
theorem dX8_follow_201 : decode cX8_follow 201 = .ok (.iconst 1, 1) := by decide +kernel
theorem dX8_follow_202 : decode cX8_follow 202 = .ok (.iadd, 1) := by decide +kernel
theorem dX8_follow_203 : decode cX8_follow 203 = .ok (.goto 5, 3) := by decide +kernel
theorem dX8_follow_206 : decode cX8_follow 206 = .ok (.iload 6, 2) := by decide +kernel
theorem dX8_follow_208 : decode cX8_follow 208 = .ok (.invokevirtual 116, 3) := by decide +kernel
theorem dX8_follow_211 : decode cX8_follow 211 = .ok (.goto 14, 3) := by decide +kernel
theorem dX8_follow_214 : decode cX8_follow 214 = .ok (.aload_n 0, 1) := by decide +kernel
theorem dX8_follow_215 : decode cX8_follow 215 = .ok (.getfield 12, 3) := by decide +kernel
theorem dX8_follow_218 : decode cX8_follow 218 = .ok (.iload 5, 2) := by decide +kernel
theorem dX8_follow_220 : decode cX8_follow 220 = .ok (.iload 6, 2) := by decide +kernel
theorem dX8_follow_222 : decode cX8_follow 222 = .ok (.invokevirtual 120, 3) := by decide +kernel
theorem dX8_follow_225 : decode cX8_follow 225 = .ok (.return_, 1) := by decide +kernel
theorem dX8_combine_0 : decode cX8_combine 0 = .ok (.aload_n 1, 1) := by decide +kernel
theorem dX8_combine_1 : decode cX8_combine 1 = .ok (.iload_n 3, 1) := by decide +kernel
theorem dX8_combine_2 : decode cX8_combine 2 = .ok (.invokevirtual 123, 3) := by decide +kernel
theorem dX8_combine_5 : decode cX8_combine 5 = .ok (.ifCond .eq 40, 3) := by decide +kernel
theorem dX8_combine_8 : decode cX8_combine 8 = .ok (.aload_n 1, 1) := by decide +kernel
theorem dX8_combine_9 : decode cX8_combine 9 = .ok (.iload 4, 2) := by decide +kernel
theorem dX8_combine_11 : decode cX8_combine 11 = .ok (.invokevirtual 123, 3) := by decide +kernel
theorem dX8_combine_14 : decode cX8_combine 14 = .ok (.ifCond .eq 31, 3) := by decide +kernel
theorem dX8_combine_17 : decode cX8_combine 17 = .ok (.iload_n 2, 1) := by decide +kernel
theorem dX8_combine_18 : decode cX8_combine 18 = .ok (.aload_n 1, 1) := by decide +kernel
theorem dX8_combine_19 : decode cX8_combine 19 = .ok (.getfield 127, 3) := by decide +kernel
theorem dX8_combine_22 : decode cX8_combine 22 = .ok (.iload_n 3, 1) := by decide +kernel
theorem dX8_combine_23 : decode cX8_combine 23 = .ok (.iaload, 1) := by decide +kernel
theorem dX8_combine_24 : decode cX8_combine 24 = .ok (.aload_n 1, 1) := by decide +kernel
theorem dX8_combine_25 : decode cX8_combine 25 = .ok (.getfield 127, 3) := by decide +kernel
theorem dX8_combine_28 : decode cX8_combine 28 = .ok (.iload 4, 2) := by decide +kernel
theorem dX8_combine_30 : decode cX8_combine 30 = .ok (.iaload, 1) := by decide +kernel
theorem dX8_combine_31 : decode cX8_combine 31 = .ok (.invokestatic 130, 3) := by decide +kernel
theorem dX8_combine_34 : decode cX8_combine 34 = .ok (.istore 5, 2) := by decide +kernel
theorem dX8_combine_36 : decode cX8_combine 36 = .ok (.aload_n 1, 1) := by decide +kernel
theorem dX8_combine_37 : decode cX8_combine 37 = .ok (.iconst 0, 1) := by decide +kernel
theorem dX8_combine_38 : decode cX8_combine 38 = .ok (.iload 5, 2) := by decide +kernel
theorem dX8_combine_40 : decode cX8_combine 40 = .ok (.iconst 0, 1) := by decide +kernel
theorem dX8_combine_41 : decode cX8_combine 41 = .ok (.invokevirtual 95, 3) := by decide +kernel
theorem dX8_combine_44 : decode cX8_combine 44 = .ok (.ireturn, 1) := by decide +kernel
theorem dX8_combine_45 : decode cX8_combine 45 = .ok (.aload_n 1, 1) := by decide +kernel
theorem dX8_combine_46 : decode cX8_combine 46 = .ok (.getfield 133, 3) := by decide +kernel
theorem dX8_combine_49 : decode cX8_combine 49 = .ok (.istore 5, 2) := by decide +kernel
theorem dX8_combine_51 : decode cX8_combine 51 = .ok (.aload_n 1, 1) := by decide +kernel
theorem dX8_combine_52 : decode cX8_combine 52 = .ok (.iload_n 2, 1) := by decide +kernel
theorem dX8_combine_53 : decode cX8_combine 53 = .ok (.iload_n 3, 1) := by decide +kernel
theorem dX8_combine_54 : decode cX8_combine 54 = .ok (.iload 4, 2) := by decide +kernel
theorem dX8_combine_56 : decode cX8_combine 56 = .ok (.invokevirtual 95, 3) := by decide +kernel
theorem dX8_combine_59 : decode cX8_combine 59 = .ok (.istore 6, 2) := by decide +kernel
theorem dX8_combine_61 : decode cX8_combine 61 = .ok (.aload_n 1, 1) := by decide +kernel
theorem dX8_combine_62 : decode cX8_combine 62 = .ok (.getfield 133, 3) := by decide +kernel
theorem dX8_combine_65 : decode cX8_combine 65 = .ok (.iload 5, 2) := by decide +kernel
theorem dX8_combine_67 : decode cX8_combine 67 = .ok (.if_icmp .le 10, 3) := by decide +kernel
theorem dX8_combine_70 : decode cX8_combine 70 = .ok (.aload_n 0, 1) := by decide +kernel
theorem dX8_combine_71 : decode cX8_combine 71 = .ok (.iconst 0, 1) := by decide +kernel
theorem dX8_combine_72 : decode cX8_combine 72 = .ok (.iload 6, 2) := by decide +kernel
theorem dX8_combine_74 : decode cX8_combine 74 = .ok (.invokevirtual 112, 3) := by decide +kernel
theorem dX8_combine_77 : decode cX8_combine 77 = .ok (.iload 6, 2) := by decide +kernel
theorem dX8_combine_79 : decode cX8_combine 79 = .ok (.ireturn, 1) := by decide +kernel
theorem dX8_guard_0 : decode cX8_guard 0 = .ok (.aload_n 1, 1) := by decide +kernel
theorem dX8_guard_1 : decode cX8_guard 1 = .ok (.getfield 66, 3) := by decide +kernel
theorem dX8_guard_4 : decode cX8_guard 4 = .ok (.iload_n 2, 1) := by decide +kernel
theorem dX8_guard_5 : decode cX8_guard 5 = .ok (.invokevirtual 123, 3) := by decide +kernel
theorem dX8_guard_8 : decode cX8_guard 8 = .ok (.ifCond .ne 15, 3) := by decide +kernel
theorem dX8_guard_11 : decode cX8_guard 11 = .ok (.aload_n 1, 1) := by decide +kernel
theorem dX8_guard_12 : decode cX8_guard 12 = .ok (.getfield 136, 3) := by decide +kernel
theorem dX8_guard_15 : decode cX8_guard 15 = .ok (.iload_n 2, 1) := by decide +kernel
theorem dX8_guard_16 : decode cX8_guard 16 = .ok (.iload_n 3, 1) := by decide +kernel
theorem dX8_guard_17 : decode cX8_guard 17 = .ok (.invokevirtual 140, 3) := by decide +kernel
theorem dX8_guard_20 : decode cX8_guard 20 = .ok (.ifCond .eq 4, 3) := by decide +kernel
theorem dX8_guard_23 : decode cX8_guard 23 = .ok (.return_, 1) := by decide +kernel
theorem dX8_guard_24 : decode cX8_guard 24 = .ok (.aload_n 0, 1) := by decide +kernel
theorem dX8_guard_25 : decode cX8_guard 25 = .ok (.iconst 1, 1) := by decide +kernel
theorem dX8_guard_26 : decode cX8_guard 26 = .ok (.aload_n 1, 1) := by decide +kernel
theorem dX8_guard_27 : decode cX8_guard 27 = .ok (.getfield 136, 3) := by decide +kernel
theorem dX8_guard_30 : decode cX8_guard 30 = .ok (.iload_n 2, 1) := by decide +kernel
theorem dX8_guard_31 : decode cX8_guard 31 = .ok (.iload_n 3, 1) := by decide +kernel
theorem dX8_guard_32 : decode cX8_guard 32 = .ok (.iload 4, 2) := by decide +kernel
theorem dX8_guard_34 : decode cX8_guard 34 = .ok (.aload_n 0, 1) := by decide +kernel
theorem dX8_guard_35 : decode cX8_guard 35 = .ok (.getfield 12, 3) := by decide +kernel
theorem dX8_guard_38 : decode cX8_guard 38 = .ok (.invokevirtual 146, 3) := by decide +kernel
theorem dX8_guard_41 : decode cX8_guard 41 = .ok (.invokevirtual 112, 3) := by decide +kernel
theorem dX8_guard_44 : decode cX8_guard 44 = .ok (.aload_n 0, 1) := by decide +kernel
theorem dX8_guard_45 : decode cX8_guard 45 = .ok (.getfield 25, 3) := by decide +kernel
theorem dX8_guard_48 : decode cX8_guard 48 = .ok (.iload_n 2, 1) := by decide +kernel
theorem dX8_guard_49 : decode cX8_guard 49 = .ok (.iconst 1, 1) := by decide +kernel
theorem dX8_guard_50 : decode cX8_guard 50 = .ok (.bastore, 1) := by decide +kernel
theorem dX8_guard_51 : decode cX8_guard 51 = .ok (.iconst 0, 1) := by decide +kernel
theorem dX8_guard_52 : decode cX8_guard 52 = .ok (.istore 5, 2) := by decide +kernel
theorem dX8_guard_54 : decode cX8_guard 54 = .ok (.iload 5, 2) := by decide +kernel
theorem dX8_guard_56 : decode cX8_guard 56 = .ok (.bipush 6, 2) := by decide +kernel
theorem dX8_guard_58 : decode cX8_guard 58 = .ok (.if_icmp .ge 25, 3) := by decide +kernel
theorem dX8_guard_61 : decode cX8_guard 61 = .ok (.aload_n 0, 1) := by decide +kernel
theorem dX8_guard_62 : decode cX8_guard 62 = .ok (.getfield 25, 3) := by decide +kernel
theorem dX8_guard_65 : decode cX8_guard 65 = .ok (.aload_n 0, 1) := by decide +kernel
theorem dX8_guard_66 : decode cX8_guard 66 = .ok (.getfield 12, 3) := by decide +kernel
theorem dX8_guard_69 : decode cX8_guard 69 = .ok (.getfield 63, 3) := by decide +kernel
theorem dX8_guard_72 : decode cX8_guard 72 = .ok (.iload 5, 2) := by decide +kernel
theorem dX8_guard_74 : decode cX8_guard 74 = .ok (.iaload, 1) := by decide +kernel
theorem dX8_guard_75 : decode cX8_guard 75 = .ok (.iconst 1, 1) := by decide +kernel
theorem dX8_guard_76 : decode cX8_guard 76 = .ok (.bastore, 1) := by decide +kernel
theorem dX8_guard_77 : decode cX8_guard 77 = .ok (.iinc 5 1, 3) := by decide +kernel
theorem dX8_guard_80 : decode cX8_guard 80 = .ok (.goto (-26), 3) := by decide +kernel
theorem dX8_guard_83 : decode cX8_guard 83 = .ok (.iconst 0, 1) := by decide +kernel
theorem dX8_guard_84 : decode cX8_guard 84 = .ok (.istore 5, 2) := by decide +kernel
theorem dX8_guard_86 : decode cX8_guard 86 = .ok (.iload 5, 2) := by decide +kernel
theorem dX8_guard_88 : decode cX8_guard 88 = .ok (.aload_n 0, 1) := by decide +kernel
theorem dX8_guard_89 : decode cX8_guard 89 = .ok (.getfield 12, 3) := by decide +kernel
theorem dX8_guard_92 : decode cX8_guard 92 = .ok (.getfield 150, 3) := by decide +kernel
theorem dX8_guard_95 : decode cX8_guard 95 = .ok (.if_icmp .ge 25, 3) := by decide +kernel
theorem dX8_guard_98 : decode cX8_guard 98 = .ok (.aload_n 0, 1) := by decide +kernel
theorem dX8_guard_99 : decode cX8_guard 99 = .ok (.getfield 25, 3) := by decide +kernel
theorem dX8_guard_102 : decode cX8_guard 102 = .ok (.aload_n 0, 1) := by decide +kernel
theorem dX8_guard_103 : decode cX8_guard 103 = .ok (.getfield 12, 3) := by decide +kernel
theorem dX8_guard_106 : decode cX8_guard 106 = .ok (.getfield 153, 3) := by decide +kernel
theorem dX8_guard_109 : decode cX8_guard 109 = .ok (.iload 5, 2) := by decide +kernel
theorem dX8_guard_111 : decode cX8_guard 111 = .ok (.iaload, 1) := by decide +kernel
theorem dX8_guard_112 : decode cX8_guard 112 = .ok (.iconst 1, 1) := by decide +kernel
theorem dX8_guard_113 : decode cX8_guard 113 = .ok (.bastore, 1) := by decide +kernel
theorem dX8_guard_114 : decode cX8_guard 114 = .ok (.iinc 5 1, 3) := by decide +kernel
theorem dX8_guard_117 : decode cX8_guard 117 = .ok (.goto (-31), 3) := by decide +kernel
theorem dX8_guard_120 : decode cX8_guard 120 = .ok (.return_, 1) := by decide +kernel
theorem dX8_came_0 : decode cX8_came 0 = .ok (.aload_n 0, 1) := by decide +kernel
theorem dX8_came_1 : decode cX8_came 1 = .ok (.getfield 18, 3) := by decide +kernel
theorem dX8_came_4 : decode cX8_came 4 = .ok (.aload_n 0, 1) := by decide +kernel
theorem dX8_came_5 : decode cX8_came 5 = .ok (.getfield 84, 3) := by decide +kernel
theorem dX8_came_8 : decode cX8_came 8 = .ok (.iload_n 1, 1) := by decide +kernel
theorem dX8_came_9 : decode cX8_came 9 = .ok (.iastore, 1) := by decide +kernel
theorem dX8_came_10 : decode cX8_came 10 = .ok (.aload_n 0, 1) := by decide +kernel
theorem dX8_came_11 : decode cX8_came 11 = .ok (.getfield 22, 3) := by decide +kernel
theorem dX8_came_14 : decode cX8_came 14 = .ok (.aload_n 0, 1) := by decide +kernel
theorem dX8_came_15 : decode cX8_came 15 = .ok (.getfield 84, 3) := by decide +kernel
theorem dX8_came_18 : decode cX8_came 18 = .ok (.iload_n 2, 1) := by decide +kernel
theorem dX8_came_19 : decode cX8_came 19 = .ok (.iastore, 1) := by decide +kernel
theorem dX8_came_20 : decode cX8_came 20 = .ok (.aload_n 0, 1) := by decide +kernel
theorem dX8_came_21 : decode cX8_came 21 = .ok (.dup, 1) := by decide +kernel
theorem dX8_came_22 : decode cX8_came 22 = .ok (.getfield 84, 3) := by decide +kernel
theorem dX8_came_25 : decode cX8_came 25 = .ok (.iconst 1, 1) := by decide +kernel
theorem dX8_came_26 : decode cX8_came 26 = .ok (.iadd, 1) := by decide +kernel
theorem dX8_came_27 : decode cX8_came 27 = .ok (.putfield 84, 3) := by decide +kernel
theorem dX8_came_30 : decode cX8_came 30 = .ok (.return_, 1) := by decide +kernel
theorem dX8_markParts_0 : decode cX8_markParts 0 = .ok (.aload_n 1, 1) := by decide +kernel
theorem dX8_markParts_1 : decode cX8_markParts 1 = .ok (.getfield 133, 3) := by decide +kernel
theorem dX8_markParts_4 : decode cX8_markParts 4 = .ok (.iconst 1, 1) := by decide +kernel
theorem dX8_markParts_5 : decode cX8_markParts 5 = .ok (.isub, 1) := by decide +kernel
theorem dX8_markParts_6 : decode cX8_markParts 6 = .ok (.istore_n 2, 1) := by decide +kernel
theorem dX8_markParts_7 : decode cX8_markParts 7 = .ok (.iload_n 2, 1) := by decide +kernel
theorem dX8_markParts_8 : decode cX8_markParts 8 = .ok (.ifCond .lt 50, 3) := by decide +kernel
theorem dX8_markParts_11 : decode cX8_markParts 11 = .ok (.aload_n 0, 1) := by decide +kernel
theorem dX8_markParts_12 : decode cX8_markParts 12 = .ok (.getfield 25, 3) := by decide +kernel
theorem dX8_markParts_15 : decode cX8_markParts 15 = .ok (.iload_n 2, 1) := by decide +kernel
theorem dX8_markParts_16 : decode cX8_markParts 16 = .ok (.baload, 1) := by decide +kernel
theorem dX8_markParts_17 : decode cX8_markParts 17 = .ok (.ifCond .eq 35, 3) := by decide +kernel
theorem dX8_markParts_20 : decode cX8_markParts 20 = .ok (.aload_n 1, 1) := by decide +kernel
theorem dX8_markParts_21 : decode cX8_markParts 21 = .ok (.iload_n 2, 1) := by decide +kernel
theorem dX8_markParts_22 : decode cX8_markParts 22 = .ok (.invokevirtual 156, 3) := by decide +kernel
theorem dX8_markParts_25 : decode cX8_markParts 25 = .ok (.ifCond .eq 27, 3) := by decide +kernel
theorem dX8_markParts_28 : decode cX8_markParts 28 = .ok (.aload_n 0, 1) := by decide +kernel
theorem dX8_markParts_29 : decode cX8_markParts 29 = .ok (.getfield 25, 3) := by decide +kernel
theorem dX8_markParts_32 : decode cX8_markParts 32 = .ok (.aload_n 1, 1) := by decide +kernel
theorem dX8_markParts_33 : decode cX8_markParts 33 = .ok (.getfield 127, 3) := by decide +kernel
theorem dX8_markParts_36 : decode cX8_markParts 36 = .ok (.iload_n 2, 1) := by decide +kernel
theorem dX8_markParts_37 : decode cX8_markParts 37 = .ok (.iaload, 1) := by decide +kernel
theorem dX8_markParts_38 : decode cX8_markParts 38 = .ok (.iconst 1, 1) := by decide +kernel
theorem dX8_markParts_39 : decode cX8_markParts 39 = .ok (.bastore, 1) := by decide +kernel
theorem dX8_markParts_40 : decode cX8_markParts 40 = .ok (.aload_n 0, 1) := by decide +kernel
theorem dX8_markParts_41 : decode cX8_markParts 41 = .ok (.getfield 25, 3) := by decide +kernel
theorem dX8_markParts_44 : decode cX8_markParts 44 = .ok (.aload_n 1, 1) := by decide +kernel
theorem dX8_markParts_45 : decode cX8_markParts 45 = .ok (.getfield 159, 3) := by decide +kernel
theorem dX8_markParts_48 : decode cX8_markParts 48 = .ok (.iload_n 2, 1) := by decide +kernel
theorem dX8_markParts_49 : decode cX8_markParts 49 = .ok (.iaload, 1) := by decide +kernel
theorem dX8_markParts_50 : decode cX8_markParts 50 = .ok (.iconst 1, 1) := by decide +kernel
theorem dX8_markParts_51 : decode cX8_markParts 51 = .ok (.bastore, 1) := by decide +kernel
theorem dX8_markParts_52 : decode cX8_markParts 52 = .ok (.iinc 2 (-1), 3) := by decide +kernel
theorem dX8_markParts_55 : decode cX8_markParts 55 = .ok (.goto (-48), 3) := by decide +kernel
theorem dX8_markParts_58 : decode cX8_markParts 58 = .ok (.return_, 1) := by decide +kernel
theorem dX8_markConstant_0 : decode cX8_markConstant 0 = .ok (.aload_n 1, 1) := by decide +kernel
theorem dX8_markConstant_1 : decode cX8_markConstant 1 = .ok (.getfield 66, 3) := by decide +kernel
theorem dX8_markConstant_4 : decode cX8_markConstant 4 = .ok (.astore_n 2, 1) := by decide +kernel
theorem dX8_markConstant_5 : decode cX8_markConstant 5 = .ok (.iconst 0, 1) := by decide +kernel
theorem dX8_markConstant_6 : decode cX8_markConstant 6 = .ok (.istore_n 3, 1) := by decide +kernel
theorem dX8_markConstant_7 : decode cX8_markConstant 7 = .ok (.iload_n 3, 1) := by decide +kernel
theorem dX8_markConstant_8 : decode cX8_markConstant 8 = .ok (.aload_n 2, 1) := by decide +kernel
theorem dX8_markConstant_9 : decode cX8_markConstant 9 = .ok (.getfield 133, 3) := by decide +kernel
theorem dX8_markConstant_12 : decode cX8_markConstant 12 = .ok (.if_icmp .ge 86, 3) := by decide +kernel
theorem dX8_markConstant_15 : decode cX8_markConstant 15 = .ok (.aload_n 2, 1) := by decide +kernel
theorem dX8_markConstant_16 : decode cX8_markConstant 16 = .ok (.iload_n 3, 1) := by decide +kernel
theorem dX8_markConstant_17 : decode cX8_markConstant 17 = .ok (.invokevirtual 156, 3) := by decide +kernel
theorem dX8_markConstant_20 : decode cX8_markConstant 20 = .ok (.ifCond .eq 45, 3) := by decide +kernel
theorem dX8_markConstant_23 : decode cX8_markConstant 23 = .ok (.aload_n 0, 1) := by decide +kernel
theorem dX8_markConstant_24 : decode cX8_markConstant 24 = .ok (.getfield 29, 3) := by decide +kernel
theorem dX8_markConstant_27 : decode cX8_markConstant 27 = .ok (.iload_n 3, 1) := by decide +kernel
theorem dX8_markConstant_28 : decode cX8_markConstant 28 = .ok (.aload_n 0, 1) := by decide +kernel
theorem dX8_markConstant_29 : decode cX8_markConstant 29 = .ok (.getfield 29, 3) := by decide +kernel
theorem dX8_markConstant_32 : decode cX8_markConstant 32 = .ok (.aload_n 2, 1) := by decide +kernel
theorem dX8_markConstant_33 : decode cX8_markConstant 33 = .ok (.getfield 127, 3) := by decide +kernel
theorem dX8_markConstant_36 : decode cX8_markConstant 36 = .ok (.iload_n 3, 1) := by decide +kernel
theorem dX8_markConstant_37 : decode cX8_markConstant 37 = .ok (.iaload, 1) := by decide +kernel
theorem dX8_markConstant_38 : decode cX8_markConstant 38 = .ok (.baload, 1) := by decide +kernel
theorem dX8_markConstant_39 : decode cX8_markConstant 39 = .ok (.ifCond .eq 21, 3) := by decide +kernel
theorem dX8_markConstant_42 : decode cX8_markConstant 42 = .ok (.aload_n 0, 1) := by decide +kernel
theorem dX8_markConstant_43 : decode cX8_markConstant 43 = .ok (.getfield 29, 3) := by decide +kernel
theorem dX8_markConstant_46 : decode cX8_markConstant 46 = .ok (.aload_n 2, 1) := by decide +kernel
theorem dX8_markConstant_47 : decode cX8_markConstant 47 = .ok (.getfield 159, 3) := by decide +kernel
theorem dX8_markConstant_50 : decode cX8_markConstant 50 = .ok (.iload_n 3, 1) := by decide +kernel
theorem dX8_markConstant_51 : decode cX8_markConstant 51 = .ok (.iaload, 1) := by decide +kernel
theorem dX8_markConstant_52 : decode cX8_markConstant 52 = .ok (.baload, 1) := by decide +kernel
theorem dX8_markConstant_53 : decode cX8_markConstant 53 = .ok (.ifCond .eq 7, 3) := by decide +kernel
theorem dX8_markConstant_56 : decode cX8_markConstant 56 = .ok (.iconst 1, 1) := by decide +kernel
theorem dX8_markConstant_57 : decode cX8_markConstant 57 = .ok (.goto 4, 3) := by decide +kernel
theorem dX8_markConstant_60 : decode cX8_markConstant 60 = .ok (.iconst 0, 1) := by decide +kernel
theorem dX8_markConstant_61 : decode cX8_markConstant 61 = .ok (.bastore, 1) := by decide +kernel
theorem dX8_markConstant_62 : decode cX8_markConstant 62 = .ok (.goto 30, 3) := by decide +kernel
theorem dX8_markConstant_65 : decode cX8_markConstant 65 = .ok (.aload_n 0, 1) := by decide +kernel
theorem dX8_markConstant_66 : decode cX8_markConstant 66 = .ok (.getfield 29, 3) := by decide +kernel
theorem dX8_markConstant_69 : decode cX8_markConstant 69 = .ok (.iload_n 3, 1) := by decide +kernel
theorem dX8_markConstant_70 : decode cX8_markConstant 70 = .ok (.aload_n 2, 1) := by decide +kernel
theorem dX8_markConstant_71 : decode cX8_markConstant 71 = .ok (.iload_n 3, 1) := by decide +kernel
theorem dX8_markConstant_72 : decode cX8_markConstant 72 = .ok (.invokevirtual 123, 3) := by decide +kernel
theorem dX8_markConstant_75 : decode cX8_markConstant 75 = .ok (.ifCond .ne 11, 3) := by decide +kernel
theorem dX8_markConstant_78 : decode cX8_markConstant 78 = .ok (.aload_n 1, 1) := by decide +kernel
theorem dX8_markConstant_79 : decode cX8_markConstant 79 = .ok (.iload_n 3, 1) := by decide +kernel
theorem dX8_markConstant_80 : decode cX8_markConstant 80 = .ok (.invokevirtual 162, 3) := by decide +kernel
theorem dX8_markConstant_83 : decode cX8_markConstant 83 = .ok (.ifCond .eq 7, 3) := by decide +kernel
theorem dX8_markConstant_86 : decode cX8_markConstant 86 = .ok (.iconst 1, 1) := by decide +kernel
theorem dX8_markConstant_87 : decode cX8_markConstant 87 = .ok (.goto 4, 3) := by decide +kernel
theorem dX8_markConstant_90 : decode cX8_markConstant 90 = .ok (.iconst 0, 1) := by decide +kernel
theorem dX8_markConstant_91 : decode cX8_markConstant 91 = .ok (.bastore, 1) := by decide +kernel
theorem dX8_markConstant_92 : decode cX8_markConstant 92 = .ok (.iinc 3 1, 3) := by decide +kernel
theorem dX8_markConstant_95 : decode cX8_markConstant 95 = .ok (.goto (-88), 3) := by decide +kernel
theorem dX8_markConstant_98 : decode cX8_markConstant 98 = .ok (.return_, 1) := by decide +kernel
theorem dX8_sortOut_0 : decode cX8_sortOut 0 = .ok (.iconst 0, 1) := by decide +kernel
theorem dX8_sortOut_1 : decode cX8_sortOut 1 = .ok (.istore_n 2, 1) := by decide +kernel
theorem dX8_sortOut_2 : decode cX8_sortOut 2 = .ok (.iload_n 2, 1) := by decide +kernel
theorem dX8_sortOut_3 : decode cX8_sortOut 3 = .ok (.aload_n 0, 1) := by decide +kernel
theorem dX8_sortOut_4 : decode cX8_sortOut 4 = .ok (.getfield 84, 3) := by decide +kernel
theorem dX8_sortOut_7 : decode cX8_sortOut 7 = .ok (.if_icmp .ge 84, 3) := by decide +kernel
theorem dX8_sortOut_10 : decode cX8_sortOut 10 = .ok (.aload_n 0, 1) := by decide +kernel
theorem dX8_sortOut_11 : decode cX8_sortOut 11 = .ok (.getfield 18, 3) := by decide +kernel
theorem dX8_sortOut_14 : decode cX8_sortOut 14 = .ok (.iload_n 2, 1) := by decide +kernel
theorem dX8_sortOut_15 : decode cX8_sortOut 15 = .ok (.iaload, 1) := by decide +kernel
theorem dX8_sortOut_16 : decode cX8_sortOut 16 = .ok (.istore_n 3, 1) := by decide +kernel
theorem dX8_sortOut_17 : decode cX8_sortOut 17 = .ok (.aload_n 0, 1) := by decide +kernel
theorem dX8_sortOut_18 : decode cX8_sortOut 18 = .ok (.getfield 22, 3) := by decide +kernel
theorem dX8_sortOut_21 : decode cX8_sortOut 21 = .ok (.iload_n 2, 1) := by decide +kernel
theorem dX8_sortOut_22 : decode cX8_sortOut 22 = .ok (.iaload, 1) := by decide +kernel
theorem dX8_sortOut_23 : decode cX8_sortOut 23 = .ok (.istore 4, 2) := by decide +kernel
theorem dX8_sortOut_25 : decode cX8_sortOut 25 = .ok (.iload_n 3, 1) := by decide +kernel
theorem dX8_sortOut_26 : decode cX8_sortOut 26 = .ok (.ifCond .eq 13, 3) := by decide +kernel
theorem dX8_sortOut_29 : decode cX8_sortOut 29 = .ok (.aload_n 1, 1) := by decide +kernel
theorem dX8_sortOut_30 : decode cX8_sortOut 30 = .ok (.iload_n 3, 1) := by decide +kernel
theorem dX8_sortOut_31 : decode cX8_sortOut 31 = .ok (.iload 4, 2) := by decide +kernel
theorem dX8_sortOut_33 : decode cX8_sortOut 33 = .ok (.invokevirtual 165, 3) := by decide +kernel
theorem dX8_sortOut_36 : decode cX8_sortOut 36 = .ok (.goto 49, 3) := by decide +kernel
theorem dX8_sortOut_39 : decode cX8_sortOut 39 = .ok (.aload_n 0, 1) := by decide +kernel
theorem dX8_sortOut_40 : decode cX8_sortOut 40 = .ok (.getfield 25, 3) := by decide +kernel
theorem dX8_sortOut_43 : decode cX8_sortOut 43 = .ok (.iload 4, 2) := by decide +kernel
theorem dX8_sortOut_45 : decode cX8_sortOut 45 = .ok (.baload, 1) := by decide +kernel
theorem dX8_sortOut_46 : decode cX8_sortOut 46 = .ok (.ifCond .eq 22, 3) := by decide +kernel
theorem dX8_sortOut_49 : decode cX8_sortOut 49 = .ok (.aload_n 0, 1) := by decide +kernel
theorem dX8_sortOut_50 : decode cX8_sortOut 50 = .ok (.getfield 29, 3) := by decide +kernel
theorem dX8_sortOut_53 : decode cX8_sortOut 53 = .ok (.iload 4, 2) := by decide +kernel
theorem dX8_sortOut_55 : decode cX8_sortOut 55 = .ok (.baload, 1) := by decide +kernel
theorem dX8_sortOut_56 : decode cX8_sortOut 56 = .ok (.ifCond .eq 12, 3) := by decide +kernel
theorem dX8_sortOut_59 : decode cX8_sortOut 59 = .ok (.aload_n 1, 1) := by decide +kernel
theorem dX8_sortOut_60 : decode cX8_sortOut 60 = .ok (.iload 4, 2) := by decide +kernel
theorem dX8_sortOut_62 : decode cX8_sortOut 62 = .ok (.invokevirtual 168, 3) := by decide +kernel
theorem dX8_sortOut_65 : decode cX8_sortOut 65 = .ok (.goto 20, 3) := by decide +kernel
theorem dX8_sortOut_68 : decode cX8_sortOut 68 = .ok (.aload_n 0, 1) := by decide +kernel
theorem dX8_sortOut_69 : decode cX8_sortOut 69 = .ok (.getfield 25, 3) := by decide +kernel
theorem dX8_sortOut_72 : decode cX8_sortOut 72 = .ok (.iload 4, 2) := by decide +kernel
theorem dX8_sortOut_74 : decode cX8_sortOut 74 = .ok (.baload, 1) := by decide +kernel
theorem dX8_sortOut_75 : decode cX8_sortOut 75 = .ok (.ifCond .eq 10, 3) := by decide +kernel
theorem dX8_sortOut_78 : decode cX8_sortOut 78 = .ok (.aload_n 1, 1) := by decide +kernel
theorem dX8_sortOut_79 : decode cX8_sortOut 79 = .ok (.iload_n 3, 1) := by decide +kernel
theorem dX8_sortOut_80 : decode cX8_sortOut 80 = .ok (.iload 4, 2) := by decide +kernel
theorem dX8_sortOut_82 : decode cX8_sortOut 82 = .ok (.invokevirtual 165, 3) := by decide +kernel
theorem dX8_sortOut_85 : decode cX8_sortOut 85 = .ok (.iinc 2 1, 3) := by decide +kernel
theorem dX8_sortOut_88 : decode cX8_sortOut 88 = .ok (.goto (-86), 3) := by decide +kernel
theorem dX8_sortOut_91 : decode cX8_sortOut 91 = .ok (.return_, 1) := by decide +kernel
theorem dX9_init_0 : decode cX9_init 0 = .ok (.aload_n 0, 1) := by decide +kernel
theorem dX9_init_1 : decode cX9_init 1 = .ok (.invokespecial 3, 3) := by decide +kernel
theorem dX9_init_4 : decode cX9_init 4 = .ok (.aload_n 0, 1) := by decide +kernel
theorem dX9_init_5 : decode cX9_init 5 = .ok (.bipush 36, 2) := by decide +kernel
theorem dX9_init_7 : decode cX9_init 7 = .ok (.newarray .int, 2) := by decide +kernel
theorem dX9_init_9 : decode cX9_init 9 = .ok (.putfield 9, 3) := by decide +kernel
theorem dX9_init_12 : decode cX9_init 12 = .ok (.aload_n 0, 1) := by decide +kernel
theorem dX9_init_13 : decode cX9_init 13 = .ok (.bipush 36, 2) := by decide +kernel
theorem dX9_init_15 : decode cX9_init 15 = .ok (.newarray .int, 2) := by decide +kernel
theorem dX9_init_17 : decode cX9_init 17 = .ok (.putfield 15, 3) := by decide +kernel
theorem dX9_init_20 : decode cX9_init 20 = .ok (.aload_n 0, 1) := by decide +kernel
theorem dX9_init_21 : decode cX9_init 21 = .ok (.bipush 36, 2) := by decide +kernel
theorem dX9_init_23 : decode cX9_init 23 = .ok (.newarray .int, 2) := by decide +kernel
theorem dX9_init_25 : decode cX9_init 25 = .ok (.putfield 18, 3) := by decide +kernel
theorem dX9_init_28 : decode cX9_init 28 = .ok (.aload_n 0, 1) := by decide +kernel
theorem dX9_init_29 : decode cX9_init 29 = .ok (.bipush 36, 2) := by decide +kernel
theorem dX9_init_31 : decode cX9_init 31 = .ok (.newarray .int, 2) := by decide +kernel
theorem dX9_init_33 : decode cX9_init 33 = .ok (.putfield 21, 3) := by decide +kernel
theorem dX9_init_36 : decode cX9_init 36 = .ok (.return_, 1) := by decide +kernel
theorem dX9_result_0 : decode cX9_result 0 = .ok (.iload_n 0, 1) := by decide +kernel
theorem dX9_result_1 : decode cX9_result 1 = .ok (.tableswitch 62 3 7 #[35, 39, 43, 47, 51], 35) := by decide +kernel
theorem dX9_result_36 : decode cX9_result 36 = .ok (.iload_n 1, 1) := by decide +kernel
theorem dX9_result_37 : decode cX9_result 37 = .ok (.iload_n 2, 1) := by decide +kernel
theorem dX9_result_38 : decode cX9_result 38 = .ok (.iadd, 1) := by decide +kernel
theorem dX9_result_39 : decode cX9_result 39 = .ok (.ireturn, 1) := by decide +kernel
theorem dX9_result_40 : decode cX9_result 40 = .ok (.iload_n 1, 1) := by decide +kernel
theorem dX9_result_41 : decode cX9_result 41 = .ok (.iload_n 2, 1) := by decide +kernel
theorem dX9_result_42 : decode cX9_result 42 = .ok (.isub, 1) := by decide +kernel
theorem dX9_result_43 : decode cX9_result 43 = .ok (.ireturn, 1) := by decide +kernel
theorem dX9_result_44 : decode cX9_result 44 = .ok (.iload_n 1, 1) := by decide +kernel
theorem dX9_result_45 : decode cX9_result 45 = .ok (.iload_n 2, 1) := by decide +kernel
theorem dX9_result_46 : decode cX9_result 46 = .ok (.imul, 1) := by decide +kernel
theorem dX9_result_47 : decode cX9_result 47 = .ok (.ireturn, 1) := by decide +kernel
theorem dX9_result_48 : decode cX9_result 48 = .ok (.iload_n 1, 1) := by decide +kernel
theorem dX9_result_49 : decode cX9_result 49 = .ok (.iload_n 2, 1) := by decide +kernel
theorem dX9_result_50 : decode cX9_result 50 = .ok (.iand, 1) := by decide +kernel
theorem dX9_result_51 : decode cX9_result 51 = .ok (.ireturn, 1) := by decide +kernel
theorem dX9_result_52 : decode cX9_result 52 = .ok (.iload_n 1, 1) := by decide +kernel
theorem dX9_result_53 : decode cX9_result 53 = .ok (.iload_n 2, 1) := by decide +kernel
theorem dX9_result_54 : decode cX9_result 54 = .ok (.if_icmp .ge 7, 3) := by decide +kernel
theorem dX9_result_57 : decode cX9_result 57 = .ok (.iconst 1, 1) := by decide +kernel
theorem dX9_result_58 : decode cX9_result 58 = .ok (.goto 4, 3) := by decide +kernel
theorem dX9_result_61 : decode cX9_result 61 = .ok (.iconst 0, 1) := by decide +kernel
theorem dX9_result_62 : decode cX9_result 62 = .ok (.ireturn, 1) := by decide +kernel
theorem dX9_result_63 : decode cX9_result 63 = .ok (.iload_n 1, 1) := by decide +kernel
theorem dX9_result_64 : decode cX9_result 64 = .ok (.iload_n 2, 1) := by decide +kernel
theorem dX9_result_65 : decode cX9_result 65 = .ok (.if_icmp .ne 7, 3) := by decide +kernel
theorem dX9_result_68 : decode cX9_result 68 = .ok (.iconst 1, 1) := by decide +kernel
theorem dX9_result_69 : decode cX9_result 69 = .ok (.goto 4, 3) := by decide +kernel
theorem dX9_result_72 : decode cX9_result 72 = .ok (.iconst 0, 1) := by decide +kernel
theorem dX9_result_73 : decode cX9_result 73 = .ok (.ireturn, 1) := by decide +kernel
theorem dX9_reset_0 : decode cX9_reset 0 = .ok (.aload_n 0, 1) := by decide +kernel
theorem dX9_reset_1 : decode cX9_reset 1 = .ok (.iconst 0, 1) := by decide +kernel
theorem dX9_reset_2 : decode cX9_reset 2 = .ok (.putfield 24, 3) := by decide +kernel
theorem dX9_reset_5 : decode cX9_reset 5 = .ok (.iconst 0, 1) := by decide +kernel
theorem dX9_reset_6 : decode cX9_reset 6 = .ok (.istore_n 1, 1) := by decide +kernel
theorem dX9_reset_7 : decode cX9_reset 7 = .ok (.iload_n 1, 1) := by decide +kernel
theorem dX9_reset_8 : decode cX9_reset 8 = .ok (.bipush 6, 2) := by decide +kernel
theorem dX9_reset_10 : decode cX9_reset 10 = .ok (.if_icmp .ge 17, 3) := by decide +kernel
theorem dX9_reset_13 : decode cX9_reset 13 = .ok (.aload_n 0, 1) := by decide +kernel
theorem dX9_reset_14 : decode cX9_reset 14 = .ok (.iconst 1, 1) := by decide +kernel
theorem dX9_reset_15 : decode cX9_reset 15 = .ok (.iload_n 1, 1) := by decide +kernel
theorem dX9_reset_16 : decode cX9_reset 16 = .ok (.iconst 0, 1) := by decide +kernel
theorem dX9_reset_17 : decode cX9_reset 17 = .ok (.invokevirtual 28, 3) := by decide +kernel
theorem dX9_reset_20 : decode cX9_reset 20 = .ok (.pop, 1) := by decide +kernel
theorem dX9_reset_21 : decode cX9_reset 21 = .ok (.iinc 1 1, 3) := by decide +kernel
theorem dX9_reset_24 : decode cX9_reset 24 = .ok (.goto (-17), 3) := by decide +kernel
theorem dX9_reset_27 : decode cX9_reset 27 = .ok (.return_, 1) := by decide +kernel
theorem dX9_share_0 : decode cX9_share 0 = .ok (.iconst 0, 1) := by decide +kernel
theorem dX9_share_1 : decode cX9_share 1 = .ok (.istore 4, 2) := by decide +kernel
theorem dX9_share_3 : decode cX9_share 3 = .ok (.iload 4, 2) := by decide +kernel
theorem dX9_share_5 : decode cX9_share 5 = .ok (.aload_n 0, 1) := by decide +kernel
theorem dX9_share_6 : decode cX9_share 6 = .ok (.getfield 24, 3) := by decide +kernel
theorem dX9_share_9 : decode cX9_share 9 = .ok (.if_icmp .ge 45, 3) := by decide +kernel
theorem dX9_share_12 : decode cX9_share 12 = .ok (.aload_n 0, 1) := by decide +kernel
theorem dX9_share_13 : decode cX9_share 13 = .ok (.getfield 9, 3) := by decide +kernel
theorem dX9_share_16 : decode cX9_share 16 = .ok (.iload 4, 2) := by decide +kernel
theorem dX9_share_18 : decode cX9_share 18 = .ok (.iaload, 1) := by decide +kernel
theorem dX9_share_19 : decode cX9_share 19 = .ok (.iload_n 1, 1) := by decide +kernel
theorem dX9_share_20 : decode cX9_share 20 = .ok (.if_icmp .ne 28, 3) := by decide +kernel
theorem dX9_share_23 : decode cX9_share 23 = .ok (.aload_n 0, 1) := by decide +kernel
theorem dX9_share_24 : decode cX9_share 24 = .ok (.getfield 15, 3) := by decide +kernel
theorem dX9_share_27 : decode cX9_share 27 = .ok (.iload 4, 2) := by decide +kernel
theorem dX9_share_29 : decode cX9_share 29 = .ok (.iaload, 1) := by decide +kernel
theorem dX9_share_30 : decode cX9_share 30 = .ok (.iload_n 2, 1) := by decide +kernel
theorem dX9_share_31 : decode cX9_share 31 = .ok (.if_icmp .ne 17, 3) := by decide +kernel
theorem dX9_share_34 : decode cX9_share 34 = .ok (.aload_n 0, 1) := by decide +kernel
theorem dX9_share_35 : decode cX9_share 35 = .ok (.getfield 18, 3) := by decide +kernel
theorem dX9_share_38 : decode cX9_share 38 = .ok (.iload 4, 2) := by decide +kernel
theorem dX9_share_40 : decode cX9_share 40 = .ok (.iaload, 1) := by decide +kernel
theorem dX9_share_41 : decode cX9_share 41 = .ok (.iload_n 3, 1) := by decide +kernel
theorem dX9_share_42 : decode cX9_share 42 = .ok (.if_icmp .ne 6, 3) := by decide +kernel
theorem dX9_share_45 : decode cX9_share 45 = .ok (.iload 4, 2) := by decide +kernel
theorem dX9_share_47 : decode cX9_share 47 = .ok (.ireturn, 1) := by decide +kernel
theorem dX9_share_48 : decode cX9_share 48 = .ok (.iinc 4 1, 3) := by decide +kernel
theorem dX9_share_51 : decode cX9_share 51 = .ok (.goto (-48), 3) := by decide +kernel
theorem dX9_share_54 : decode cX9_share 54 = .ok (.aload_n 0, 1) := by decide +kernel
theorem dX9_share_55 : decode cX9_share 55 = .ok (.getfield 9, 3) := by decide +kernel
theorem dX9_share_58 : decode cX9_share 58 = .ok (.aload_n 0, 1) := by decide +kernel
theorem dX9_share_59 : decode cX9_share 59 = .ok (.getfield 24, 3) := by decide +kernel
theorem dX9_share_62 : decode cX9_share 62 = .ok (.iload_n 1, 1) := by decide +kernel
theorem dX9_share_63 : decode cX9_share 63 = .ok (.iastore, 1) := by decide +kernel
theorem dX9_share_64 : decode cX9_share 64 = .ok (.aload_n 0, 1) := by decide +kernel
theorem dX9_share_65 : decode cX9_share 65 = .ok (.getfield 15, 3) := by decide +kernel
theorem dX9_share_68 : decode cX9_share 68 = .ok (.aload_n 0, 1) := by decide +kernel
theorem dX9_share_69 : decode cX9_share 69 = .ok (.getfield 24, 3) := by decide +kernel
theorem dX9_share_72 : decode cX9_share 72 = .ok (.iload_n 2, 1) := by decide +kernel
theorem dX9_share_73 : decode cX9_share 73 = .ok (.iastore, 1) := by decide +kernel
theorem dX9_share_74 : decode cX9_share 74 = .ok (.aload_n 0, 1) := by decide +kernel
theorem dX9_share_75 : decode cX9_share 75 = .ok (.getfield 18, 3) := by decide +kernel
theorem dX9_share_78 : decode cX9_share 78 = .ok (.aload_n 0, 1) := by decide +kernel
theorem dX9_share_79 : decode cX9_share 79 = .ok (.getfield 24, 3) := by decide +kernel
theorem dX9_share_82 : decode cX9_share 82 = .ok (.iload_n 3, 1) := by decide +kernel
theorem dX9_share_83 : decode cX9_share 83 = .ok (.iastore, 1) := by decide +kernel
theorem dX9_share_84 : decode cX9_share 84 = .ok (.aload_n 0, 1) := by decide +kernel
theorem dX9_share_85 : decode cX9_share 85 = .ok (.getfield 21, 3) := by decide +kernel
theorem dX9_share_88 : decode cX9_share 88 = .ok (.aload_n 0, 1) := by decide +kernel
theorem dX9_share_89 : decode cX9_share 89 = .ok (.getfield 24, 3) := by decide +kernel
theorem dX9_share_92 : decode cX9_share 92 = .ok (.iload_n 1, 1) := by decide +kernel
theorem dX9_share_93 : decode cX9_share 93 = .ok (.ifCond .ne 7, 3) := by decide +kernel
theorem dX9_share_96 : decode cX9_share 96 = .ok (.iload_n 2, 1) := by decide +kernel
theorem dX9_share_97 : decode cX9_share 97 = .ok (.goto 4, 3) := by decide +kernel
theorem dX9_share_100 : decode cX9_share 100 = .ok (.iconst 0, 1) := by decide +kernel
theorem dX9_share_101 : decode cX9_share 101 = .ok (.iastore, 1) := by decide +kernel
theorem dX9_share_102 : decode cX9_share 102 = .ok (.aload_n 0, 1) := by decide +kernel
theorem dX9_share_103 : decode cX9_share 103 = .ok (.dup, 1) := by decide +kernel
theorem dX9_share_104 : decode cX9_share 104 = .ok (.getfield 24, 3) := by decide +kernel
theorem dX9_share_107 : decode cX9_share 107 = .ok (.iconst 1, 1) := by decide +kernel
theorem dX9_share_108 : decode cX9_share 108 = .ok (.iadd, 1) := by decide +kernel
theorem dX9_share_109 : decode cX9_share 109 = .ok (.putfield 24, 3) := by decide +kernel
theorem dX9_share_112 : decode cX9_share 112 = .ok (.aload_n 0, 1) := by decide +kernel
theorem dX9_share_113 : decode cX9_share 113 = .ok (.getfield 24, 3) := by decide +kernel
theorem dX9_share_116 : decode cX9_share 116 = .ok (.iconst 1, 1) := by decide +kernel
theorem dX9_share_117 : decode cX9_share 117 = .ok (.isub, 1) := by decide +kernel
theorem dX9_share_118 : decode cX9_share 118 = .ok (.ireturn, 1) := by decide +kernel
theorem dX9_isNumber_0 : decode cX9_isNumber 0 = .ok (.aload_n 0, 1) := by decide +kernel
theorem dX9_isNumber_1 : decode cX9_isNumber 1 = .ok (.getfield 9, 3) := by decide +kernel
theorem dX9_isNumber_4 : decode cX9_isNumber 4 = .ok (.iload_n 1, 1) := by decide +kernel
theorem dX9_isNumber_5 : decode cX9_isNumber 5 = .ok (.iaload, 1) := by decide +kernel
theorem dX9_isNumber_6 : decode cX9_isNumber 6 = .ok (.ifCond .ne 7, 3) := by decide +kernel
theorem dX9_isNumber_9 : decode cX9_isNumber 9 = .ok (.iconst 1, 1) := by decide +kernel
theorem dX9_isNumber_10 : decode cX9_isNumber 10 = .ok (.goto 4, 3) := by decide +kernel
theorem dX9_isNumber_13 : decode cX9_isNumber 13 = .ok (.iconst 0, 1) := by decide +kernel
theorem dX9_isNumber_14 : decode cX9_isNumber 14 = .ok (.ireturn, 1) := by decide +kernel
theorem dX9_isOperation_0 : decode cX9_isOperation 0 = .ok (.aload_n 0, 1) := by decide +kernel
theorem dX9_isOperation_1 : decode cX9_isOperation 1 = .ok (.getfield 9, 3) := by decide +kernel
theorem dX9_isOperation_4 : decode cX9_isOperation 4 = .ok (.iload_n 1, 1) := by decide +kernel
theorem dX9_isOperation_5 : decode cX9_isOperation 5 = .ok (.iaload, 1) := by decide +kernel
theorem dX9_isOperation_6 : decode cX9_isOperation 6 = .ok (.ifCond .eq 17, 3) := by decide +kernel
theorem dX9_isOperation_9 : decode cX9_isOperation 9 = .ok (.aload_n 0, 1) := by decide +kernel
theorem dX9_isOperation_10 : decode cX9_isOperation 10 = .ok (.getfield 9, 3) := by decide +kernel
theorem dX9_isOperation_13 : decode cX9_isOperation 13 = .ok (.iload_n 1, 1) := by decide +kernel
theorem dX9_isOperation_14 : decode cX9_isOperation 14 = .ok (.iaload, 1) := by decide +kernel
theorem dX9_isOperation_15 : decode cX9_isOperation 15 = .ok (.iconst 1, 1) := by decide +kernel
theorem dX9_isOperation_16 : decode cX9_isOperation 16 = .ok (.if_icmp .eq 7, 3) := by decide +kernel
theorem dX9_isOperation_19 : decode cX9_isOperation 19 = .ok (.iconst 1, 1) := by decide +kernel
theorem dX9_isOperation_20 : decode cX9_isOperation 20 = .ok (.goto 4, 3) := by decide +kernel
theorem dX9_isOperation_23 : decode cX9_isOperation 23 = .ok (.iconst 0, 1) := by decide +kernel
theorem dX9_isOperation_24 : decode cX9_isOperation 24 = .ok (.ireturn, 1) := by decide +kernel
theorem dX9_takeLocals_0 : decode cX9_takeLocals 0 = .ok (.aload_n 1, 1) := by decide +kernel
theorem dX9_takeLocals_1 : decode cX9_takeLocals 1 = .ok (.iconst 0, 1) := by decide +kernel
theorem dX9_takeLocals_2 : decode cX9_takeLocals 2 = .ok (.aload_n 0, 1) := by decide +kernel
theorem dX9_takeLocals_3 : decode cX9_takeLocals 3 = .ok (.getfield 21, 3) := by decide +kernel
theorem dX9_takeLocals_6 : decode cX9_takeLocals 6 = .ok (.iconst 0, 1) := by decide +kernel
theorem dX9_takeLocals_7 : decode cX9_takeLocals 7 = .ok (.bipush 6, 2) := by decide +kernel
theorem dX9_takeLocals_9 : decode cX9_takeLocals 9 = .ok (.invokestatic 32, 3) := by decide +kernel
theorem dX9_takeLocals_12 : decode cX9_takeLocals 12 = .ok (.return_, 1) := by decide +kernel
theorem dX9_work_0 : decode cX9_work 0 = .ok (.aload_n 0, 1) := by decide +kernel
theorem dX9_work_1 : decode cX9_work 1 = .ok (.getfield 21, 3) := by decide +kernel
theorem dX9_work_4 : decode cX9_work 4 = .ok (.iload_n 1, 1) := by decide +kernel
theorem dX9_work_5 : decode cX9_work 5 = .ok (.aload_n 0, 1) := by decide +kernel
theorem dX9_work_6 : decode cX9_work 6 = .ok (.getfield 9, 3) := by decide +kernel
theorem dX9_work_9 : decode cX9_work 9 = .ok (.iload_n 1, 1) := by decide +kernel
theorem dX9_work_10 : decode cX9_work 10 = .ok (.iaload, 1) := by decide +kernel
theorem dX9_work_11 : decode cX9_work 11 = .ok (.aload_n 0, 1) := by decide +kernel
theorem dX9_work_12 : decode cX9_work 12 = .ok (.getfield 21, 3) := by decide +kernel
theorem dX9_work_15 : decode cX9_work 15 = .ok (.aload_n 0, 1) := by decide +kernel
theorem dX9_work_16 : decode cX9_work 16 = .ok (.getfield 15, 3) := by decide +kernel
theorem dX9_work_19 : decode cX9_work 19 = .ok (.iload_n 1, 1) := by decide +kernel
theorem dX9_work_20 : decode cX9_work 20 = .ok (.iaload, 1) := by decide +kernel
theorem dX9_work_21 : decode cX9_work 21 = .ok (.iaload, 1) := by decide +kernel
theorem dX9_work_22 : decode cX9_work 22 = .ok (.aload_n 0, 1) := by decide +kernel
theorem dX9_work_23 : decode cX9_work 23 = .ok (.getfield 21, 3) := by decide +kernel
theorem dX9_work_26 : decode cX9_work 26 = .ok (.aload_n 0, 1) := by decide +kernel
theorem dX9_work_27 : decode cX9_work 27 = .ok (.getfield 18, 3) := by decide +kernel
theorem dX9_work_30 : decode cX9_work 30 = .ok (.iload_n 1, 1) := by decide +kernel
theorem dX9_work_31 : decode cX9_work 31 = .ok (.iaload, 1) := by decide +kernel
theorem dX9_work_32 : decode cX9_work 32 = .ok (.iaload, 1) := by decide +kernel
theorem dX9_work_33 : decode cX9_work 33 = .ok (.invokestatic 38, 3) := by decide +kernel
theorem dX9_work_36 : decode cX9_work 36 = .ok (.iastore, 1) := by decide +kernel
theorem dX9_work_37 : decode cX9_work 37 = .ok (.return_, 1) := by decide +kernel
theorem dJ9_floorMod_7cf53_0 : decode cJ9_floorMod_7cf53 0 = .ok (.iload_n 0, 1) := by decide +kernel
theorem dJ9_floorMod_7cf53_1 : decode cJ9_floorMod_7cf53 1 = .ok (.iload_n 1, 1) := by decide +kernel
theorem dJ9_floorMod_7cf53_2 : decode cJ9_floorMod_7cf53 2 = .ok (.irem, 1) := by decide +kernel
theorem dJ9_floorMod_7cf53_3 : decode cJ9_floorMod_7cf53 3 = .ok (.istore_n 2, 1) := by decide +kernel
theorem dJ9_floorMod_7cf53_4 : decode cJ9_floorMod_7cf53 4 = .ok (.iload_n 0, 1) := by decide +kernel
theorem dJ9_floorMod_7cf53_5 : decode cJ9_floorMod_7cf53 5 = .ok (.iload_n 1, 1) := by decide +kernel
theorem dJ9_floorMod_7cf53_6 : decode cJ9_floorMod_7cf53 6 = .ok (.ixor, 1) := by decide +kernel
theorem dJ9_floorMod_7cf53_7 : decode cJ9_floorMod_7cf53 7 = .ok (.ifCond .ge 11, 3) := by decide +kernel
theorem dJ9_floorMod_7cf53_10 : decode cJ9_floorMod_7cf53 10 = .ok (.iload_n 2, 1) := by decide +kernel
theorem dJ9_floorMod_7cf53_11 : decode cJ9_floorMod_7cf53 11 = .ok (.ifCond .eq 7, 3) := by decide +kernel
theorem dJ9_floorMod_7cf53_14 : decode cJ9_floorMod_7cf53 14 = .ok (.iload_n 2, 1) := by decide +kernel
theorem dJ9_floorMod_7cf53_15 : decode cJ9_floorMod_7cf53 15 = .ok (.iload_n 1, 1) := by decide +kernel
theorem dJ9_floorMod_7cf53_16 : decode cJ9_floorMod_7cf53 16 = .ok (.iadd, 1) := by decide +kernel
theorem dJ9_floorMod_7cf53_17 : decode cJ9_floorMod_7cf53 17 = .ok (.ireturn, 1) := by decide +kernel
theorem dJ9_floorMod_7cf53_18 : decode cJ9_floorMod_7cf53 18 = .ok (.iload_n 2, 1) := by decide +kernel
theorem dJ9_floorMod_7cf53_19 : decode cJ9_floorMod_7cf53 19 = .ok (.ireturn, 1) := by decide +kernel
theorem dJ7_fill_53178_0 : decode cJ7_fill_53178 0 = .ok (.iconst 0, 1) := by decide +kernel
theorem dJ7_fill_53178_1 : decode cJ7_fill_53178 1 = .ok (.istore_n 2, 1) := by decide +kernel
theorem dJ7_fill_53178_2 : decode cJ7_fill_53178 2 = .ok (.aload_n 0, 1) := by decide +kernel
theorem dJ7_fill_53178_3 : decode cJ7_fill_53178 3 = .ok (.arraylength, 1) := by decide +kernel
theorem dJ7_fill_53178_4 : decode cJ7_fill_53178 4 = .ok (.istore_n 3, 1) := by decide +kernel
theorem dJ7_fill_53178_5 : decode cJ7_fill_53178 5 = .ok (.iload_n 2, 1) := by decide +kernel
theorem dJ7_fill_53178_6 : decode cJ7_fill_53178 6 = .ok (.iload_n 3, 1) := by decide +kernel
theorem dJ7_fill_53178_7 : decode cJ7_fill_53178 7 = .ok (.if_icmp .ge 13, 3) := by decide +kernel
theorem dJ7_fill_53178_10 : decode cJ7_fill_53178 10 = .ok (.aload_n 0, 1) := by decide +kernel
theorem dJ7_fill_53178_11 : decode cJ7_fill_53178 11 = .ok (.iload_n 2, 1) := by decide +kernel
theorem dJ7_fill_53178_12 : decode cJ7_fill_53178 12 = .ok (.iload_n 1, 1) := by decide +kernel
theorem dJ7_fill_53178_13 : decode cJ7_fill_53178 13 = .ok (.iastore, 1) := by decide +kernel
theorem dJ7_fill_53178_14 : decode cJ7_fill_53178 14 = .ok (.iinc 2 1, 3) := by decide +kernel
theorem dJ7_fill_53178_17 : decode cJ7_fill_53178 17 = .ok (.goto (-12), 3) := by decide +kernel
theorem dJ7_fill_53178_20 : decode cJ7_fill_53178 20 = .ok (.return_, 1) := by decide +kernel
