theorem dX0_init_0 : decode cX0_init 0 = .ok (.aload_n 0, 1) := by decide +kernel
theorem dX0_init_1 : decode cX0_init 1 = .ok (.invokespecial 3, 3) := by decide +kernel
theorem dX0_init_4 : decode cX0_init 4 = .ok (.aload_n 0, 1) := by decide +kernel
theorem dX0_init_5 : decode cX0_init 5 = .ok (.bipush 40, 2) := by decide +kernel
theorem dX0_init_7 : decode cX0_init 7 = .ok (.newarray .int, 2) := by decide +kernel
theorem dX0_init_9 : decode cX0_init 9 = .ok (.putfield 9, 3) := by decide +kernel
theorem dX0_init_12 : decode cX0_init 12 = .ok (.aload_n 0, 1) := by decide +kernel
theorem dX0_init_13 : decode cX0_init 13 = .ok (.bipush 40, 2) := by decide +kernel
theorem dX0_init_15 : decode cX0_init 15 = .ok (.newarray .int, 2) := by decide +kernel
theorem dX0_init_17 : decode cX0_init 17 = .ok (.putfield 15, 3) := by decide +kernel
theorem dX0_init_20 : decode cX0_init 20 = .ok (.aload_n 0, 1) := by decide +kernel
theorem dX0_init_21 : decode cX0_init 21 = .ok (.bipush 40, 2) := by decide +kernel
theorem dX0_init_23 : decode cX0_init 23 = .ok (.newarray .int, 2) := by decide +kernel
theorem dX0_init_25 : decode cX0_init 25 = .ok (.putfield 18, 3) := by decide +kernel
theorem dX0_init_28 : decode cX0_init 28 = .ok (.aload_n 0, 1) := by decide +kernel
theorem dX0_init_29 : decode cX0_init 29 = .ok (.bipush 40, 2) := by decide +kernel
theorem dX0_init_31 : decode cX0_init 31 = .ok (.newarray .int, 2) := by decide +kernel
theorem dX0_init_33 : decode cX0_init 33 = .ok (.putfield 21, 3) := by decide +kernel
theorem dX0_init_36 : decode cX0_init 36 = .ok (.return_, 1) := by decide +kernel
theorem dX0_isInstruction_0 : decode cX0_isInstruction 0 = .ok (.iload_n 0, 1) := by decide +kernel
theorem dX0_isInstruction_1 : decode cX0_isInstruction 1 = .ok (.tableswitch 127 0 14 #[75, 95, 95, 127, 127, 127, 127, 127, 127, 127, 127, 127, 127, 111, 111], 75) := by decide +kernel
theorem dX0_isInstruction_76 : decode cX0_isInstruction 76 = .ok (.iload_n 1, 1) := by decide +kernel
theorem dX0_isInstruction_77 : decode cX0_isInstruction 77 = .ok (.sipush (-32768), 3) := by decide +kernel
theorem dX0_isInstruction_80 : decode cX0_isInstruction 80 = .ok (.if_icmp .lt 14, 3) := by decide +kernel
theorem dX0_isInstruction_83 : decode cX0_isInstruction 83 = .ok (.iload_n 1, 1) := by decide +kernel
theorem dX0_isInstruction_84 : decode cX0_isInstruction 84 = .ok (.sipush 32767, 3) := by decide +kernel
theorem dX0_isInstruction_87 : decode cX0_isInstruction 87 = .ok (.if_icmp .gt 7, 3) := by decide +kernel
theorem dX0_isInstruction_90 : decode cX0_isInstruction 90 = .ok (.iconst 1, 1) := by decide +kernel
theorem dX0_isInstruction_91 : decode cX0_isInstruction 91 = .ok (.goto 4, 3) := by decide +kernel
theorem dX0_isInstruction_94 : decode cX0_isInstruction 94 = .ok (.iconst 0, 1) := by decide +kernel
theorem dX0_isInstruction_95 : decode cX0_isInstruction 95 = .ok (.ireturn, 1) := by decide +kernel
theorem dX0_isInstruction_96 : decode cX0_isInstruction 96 = .ok (.iload_n 1, 1) := by decide +kernel
theorem dX0_isInstruction_97 : decode cX0_isInstruction 97 = .ok (.ifCond .lt 13, 3) := by decide +kernel
theorem dX0_isInstruction_100 : decode cX0_isInstruction 100 = .ok (.iload_n 1, 1) := by decide +kernel
theorem dX0_isInstruction_101 : decode cX0_isInstruction 101 = .ok (.bipush 6, 2) := by decide +kernel
theorem dX0_isInstruction_103 : decode cX0_isInstruction 103 = .ok (.if_icmp .ge 7, 3) := by decide +kernel
theorem dX0_isInstruction_106 : decode cX0_isInstruction 106 = .ok (.iconst 1, 1) := by decide +kernel
theorem dX0_isInstruction_107 : decode cX0_isInstruction 107 = .ok (.goto 4, 3) := by decide +kernel
theorem dX0_isInstruction_110 : decode cX0_isInstruction 110 = .ok (.iconst 0, 1) := by decide +kernel
theorem dX0_isInstruction_111 : decode cX0_isInstruction 111 = .ok (.ireturn, 1) := by decide +kernel
theorem dX0_isInstruction_112 : decode cX0_isInstruction 112 = .ok (.iload_n 1, 1) := by decide +kernel
theorem dX0_isInstruction_113 : decode cX0_isInstruction 113 = .ok (.ifCond .lt 13, 3) := by decide +kernel
theorem dX0_isInstruction_116 : decode cX0_isInstruction 116 = .ok (.iload_n 1, 1) := by decide +kernel
theorem dX0_isInstruction_117 : decode cX0_isInstruction 117 = .ok (.bipush 40, 2) := by decide +kernel
theorem dX0_isInstruction_119 : decode cX0_isInstruction 119 = .ok (.if_icmp .ge 7, 3) := by decide +kernel
theorem dX0_isInstruction_122 : decode cX0_isInstruction 122 = .ok (.iconst 1, 1) := by decide +kernel
theorem dX0_isInstruction_123 : decode cX0_isInstruction 123 = .ok (.goto 4, 3) := by decide +kernel
theorem dX0_isInstruction_126 : decode cX0_isInstruction 126 = .ok (.iconst 0, 1) := by decide +kernel
theorem dX0_isInstruction_127 : decode cX0_isInstruction 127 = .ok (.ireturn, 1) := by decide +kernel
theorem dX0_isInstruction_128 : decode cX0_isInstruction 128 = .ok (.iload_n 0, 1) := by decide +kernel
theorem dX0_isInstruction_129 : decode cX0_isInstruction 129 = .ok (.ifCond .lt 13, 3) := by decide +kernel
theorem dX0_isInstruction_132 : decode cX0_isInstruction 132 = .ok (.iload_n 0, 1) := by decide +kernel
theorem dX0_isInstruction_133 : decode cX0_isInstruction 133 = .ok (.bipush 15, 2) := by decide +kernel
theorem dX0_isInstruction_135 : decode cX0_isInstruction 135 = .ok (.if_icmp .gt 7, 3) := by decide +kernel
theorem dX0_isInstruction_138 : decode cX0_isInstruction 138 = .ok (.iconst 1, 1) := by decide +kernel
theorem dX0_isInstruction_139 : decode cX0_isInstruction 139 = .ok (.goto 4, 3) := by decide +kernel
theorem dX0_isInstruction_142 : decode cX0_isInstruction 142 = .ok (.iconst 0, 1) := by decide +kernel
theorem dX0_isInstruction_143 : decode cX0_isInstruction 143 = .ok (.ireturn, 1) := by decide +kernel
theorem dX0_append_0 : decode cX0_append 0 = .ok (.aload_n 0, 1) := by decide +kernel
theorem dX0_append_1 : decode cX0_append 1 = .ok (.getfield 9, 3) := by decide +kernel
theorem dX0_append_4 : decode cX0_append 4 = .ok (.aload_n 0, 1) := by decide +kernel
theorem dX0_append_5 : decode cX0_append 5 = .ok (.getfield 24, 3) := by decide +kernel
theorem dX0_append_8 : decode cX0_append 8 = .ok (.iload_n 1, 1) := by decide +kernel
theorem dX0_append_9 : decode cX0_append 9 = .ok (.iastore, 1) := by decide +kernel
theorem dX0_append_10 : decode cX0_append 10 = .ok (.aload_n 0, 1) := by decide +kernel
theorem dX0_append_11 : decode cX0_append 11 = .ok (.getfield 15, 3) := by decide +kernel
theorem dX0_append_14 : decode cX0_append 14 = .ok (.aload_n 0, 1) := by decide +kernel
theorem dX0_append_15 : decode cX0_append 15 = .ok (.getfield 24, 3) := by decide +kernel
theorem dX0_append_18 : decode cX0_append 18 = .ok (.iload_n 2, 1) := by decide +kernel
theorem dX0_append_19 : decode cX0_append 19 = .ok (.iastore, 1) := by decide +kernel
theorem dX0_append_20 : decode cX0_append 20 = .ok (.aload_n 0, 1) := by decide +kernel
theorem dX0_append_21 : decode cX0_append 21 = .ok (.dup, 1) := by decide +kernel
theorem dX0_append_22 : decode cX0_append 22 = .ok (.getfield 24, 3) := by decide +kernel
theorem dX0_append_25 : decode cX0_append 25 = .ok (.iconst 1, 1) := by decide +kernel
theorem dX0_append_26 : decode cX0_append 26 = .ok (.iadd, 1) := by decide +kernel
theorem dX0_append_27 : decode cX0_append 27 = .ok (.putfield 24, 3) := by decide +kernel
theorem dX0_append_30 : decode cX0_append 30 = .ok (.return_, 1) := by decide +kernel
theorem dX0_isSound_0 : decode cX0_isSound 0 = .ok (.aload_n 0, 1) := by decide +kernel
theorem dX0_isSound_1 : decode cX0_isSound 1 = .ok (.getfield 18, 3) := by decide +kernel
theorem dX0_isSound_4 : decode cX0_isSound 4 = .ok (.iconst (-1), 1) := by decide +kernel
theorem dX0_isSound_5 : decode cX0_isSound 5 = .ok (.invokestatic 28, 3) := by decide +kernel
theorem dX0_isSound_8 : decode cX0_isSound 8 = .ok (.aload_n 0, 1) := by decide +kernel
theorem dX0_isSound_9 : decode cX0_isSound 9 = .ok (.iconst 0, 1) := by decide +kernel
theorem dX0_isSound_10 : decode cX0_isSound 10 = .ok (.putfield 34, 3) := by decide +kernel
theorem dX0_isSound_13 : decode cX0_isSound 13 = .ok (.aload_n 0, 1) := by decide +kernel
theorem dX0_isSound_14 : decode cX0_isSound 14 = .ok (.iconst 0, 1) := by decide +kernel
theorem dX0_isSound_15 : decode cX0_isSound 15 = .ok (.iconst 0, 1) := by decide +kernel
theorem dX0_isSound_16 : decode cX0_isSound 16 = .ok (.invokevirtual 37, 3) := by decide +kernel
theorem dX0_isSound_19 : decode cX0_isSound 19 = .ok (.istore_n 1, 1) := by decide +kernel
theorem dX0_isSound_20 : decode cX0_isSound 20 = .ok (.iconst 0, 1) := by decide +kernel
theorem dX0_isSound_21 : decode cX0_isSound 21 = .ok (.istore_n 2, 1) := by decide +kernel
theorem dX0_isSound_22 : decode cX0_isSound 22 = .ok (.iload_n 1, 1) := by decide +kernel
theorem dX0_isSound_23 : decode cX0_isSound 23 = .ok (.ifCond .eq 36, 3) := by decide +kernel
theorem dX0_isSound_26 : decode cX0_isSound 26 = .ok (.iload_n 2, 1) := by decide +kernel
theorem dX0_isSound_27 : decode cX0_isSound 27 = .ok (.aload_n 0, 1) := by decide +kernel
theorem dX0_isSound_28 : decode cX0_isSound 28 = .ok (.getfield 34, 3) := by decide +kernel
theorem dX0_isSound_31 : decode cX0_isSound 31 = .ok (.if_icmp .ge 28, 3) := by decide +kernel
theorem dX0_isSound_34 : decode cX0_isSound 34 = .ok (.iload_n 2, 1) := by decide +kernel
theorem dX0_isSound_35 : decode cX0_isSound 35 = .ok (.aload_n 0, 1) := by decide +kernel
theorem dX0_isSound_36 : decode cX0_isSound 36 = .ok (.getfield 24, 3) := by decide +kernel
theorem dX0_isSound_39 : decode cX0_isSound 39 = .ok (.if_icmp .ge 20, 3) := by decide +kernel
theorem dX0_isSound_42 : decode cX0_isSound 42 = .ok (.aload_n 0, 1) := by decide +kernel
theorem dX0_isSound_43 : decode cX0_isSound 43 = .ok (.aload_n 0, 1) := by decide +kernel
theorem dX0_isSound_44 : decode cX0_isSound 44 = .ok (.getfield 21, 3) := by decide +kernel
theorem dX0_isSound_47 : decode cX0_isSound 47 = .ok (.iload_n 2, 1) := by decide +kernel
theorem dX0_isSound_48 : decode cX0_isSound 48 = .ok (.iaload, 1) := by decide +kernel
theorem dX0_isSound_49 : decode cX0_isSound 49 = .ok (.invokevirtual 41, 3) := by decide +kernel
theorem dX0_isSound_52 : decode cX0_isSound 52 = .ok (.istore_n 1, 1) := by decide +kernel
theorem dX0_isSound_53 : decode cX0_isSound 53 = .ok (.iinc 2 1, 3) := by decide +kernel
theorem dX0_isSound_56 : decode cX0_isSound 56 = .ok (.goto (-34), 3) := by decide +kernel
theorem dX0_isSound_59 : decode cX0_isSound 59 = .ok (.iload_n 1, 1) := by decide +kernel
theorem dX0_isSound_60 : decode cX0_isSound 60 = .ok (.ireturn, 1) := by decide +kernel
theorem dX0_reach_0 : decode cX0_reach 0 = .ok (.iload_n 1, 1) := by decide +kernel
theorem dX0_reach_1 : decode cX0_reach 1 = .ok (.aload_n 0, 1) := by decide +kernel
theorem dX0_reach_2 : decode cX0_reach 2 = .ok (.getfield 24, 3) := by decide +kernel
theorem dX0_reach_5 : decode cX0_reach 5 = .ok (.if_icmp .lt 5, 3) := by decide +kernel
theorem dX0_reach_8 : decode cX0_reach 8 = .ok (.iconst 0, 1) := by decide +kernel
theorem dX0_reach_9 : decode cX0_reach 9 = .ok (.ireturn, 1) := by decide +kernel
theorem dX0_reach_10 : decode cX0_reach 10 = .ok (.aload_n 0, 1) := by decide +kernel
theorem dX0_reach_11 : decode cX0_reach 11 = .ok (.getfield 18, 3) := by decide +kernel
theorem dX0_reach_14 : decode cX0_reach 14 = .ok (.iload_n 1, 1) := by decide +kernel
theorem dX0_reach_15 : decode cX0_reach 15 = .ok (.iaload, 1) := by decide +kernel
theorem dX0_reach_16 : decode cX0_reach 16 = .ok (.iconst (-1), 1) := by decide +kernel
theorem dX0_reach_17 : decode cX0_reach 17 = .ok (.if_icmp .ne 30, 3) := by decide +kernel
theorem dX0_reach_20 : decode cX0_reach 20 = .ok (.aload_n 0, 1) := by decide +kernel
theorem dX0_reach_21 : decode cX0_reach 21 = .ok (.getfield 18, 3) := by decide +kernel
theorem dX0_reach_24 : decode cX0_reach 24 = .ok (.iload_n 1, 1) := by decide +kernel
theorem dX0_reach_25 : decode cX0_reach 25 = .ok (.iload_n 2, 1) := by decide +kernel
theorem dX0_reach_26 : decode cX0_reach 26 = .ok (.iastore, 1) := by decide +kernel
theorem dX0_reach_27 : decode cX0_reach 27 = .ok (.aload_n 0, 1) := by decide +kernel
theorem dX0_reach_28 : decode cX0_reach 28 = .ok (.getfield 21, 3) := by decide +kernel
theorem dX0_reach_31 : decode cX0_reach 31 = .ok (.aload_n 0, 1) := by decide +kernel
theorem dX0_reach_32 : decode cX0_reach 32 = .ok (.getfield 34, 3) := by decide +kernel
theorem dX0_reach_35 : decode cX0_reach 35 = .ok (.iload_n 1, 1) := by decide +kernel
theorem dX0_reach_36 : decode cX0_reach 36 = .ok (.iastore, 1) := by decide +kernel
theorem dX0_reach_37 : decode cX0_reach 37 = .ok (.aload_n 0, 1) := by decide +kernel
theorem dX0_reach_38 : decode cX0_reach 38 = .ok (.dup, 1) := by decide +kernel
theorem dX0_reach_39 : decode cX0_reach 39 = .ok (.getfield 34, 3) := by decide +kernel
theorem dX0_reach_42 : decode cX0_reach 42 = .ok (.iconst 1, 1) := by decide +kernel
theorem dX0_reach_43 : decode cX0_reach 43 = .ok (.iadd, 1) := by decide +kernel
theorem dX0_reach_44 : decode cX0_reach 44 = .ok (.putfield 34, 3) := by decide +kernel
theorem dX0_reach_47 : decode cX0_reach 47 = .ok (.aload_n 0, 1) := by decide +kernel
theorem dX0_reach_48 : decode cX0_reach 48 = .ok (.getfield 18, 3) := by decide +kernel
theorem dX0_reach_51 : decode cX0_reach 51 = .ok (.iload_n 1, 1) := by decide +kernel
theorem dX0_reach_52 : decode cX0_reach 52 = .ok (.iaload, 1) := by decide +kernel
theorem dX0_reach_53 : decode cX0_reach 53 = .ok (.iload_n 2, 1) := by decide +kernel
theorem dX0_reach_54 : decode cX0_reach 54 = .ok (.if_icmp .ne 7, 3) := by decide +kernel
theorem dX0_reach_57 : decode cX0_reach 57 = .ok (.iconst 1, 1) := by decide +kernel
theorem dX0_reach_58 : decode cX0_reach 58 = .ok (.goto 4, 3) := by decide +kernel
theorem dX0_reach_61 : decode cX0_reach 61 = .ok (.iconst 0, 1) := by decide +kernel
theorem dX0_reach_62 : decode cX0_reach 62 = .ok (.ireturn, 1) := by decide +kernel
theorem dX0_leadsOnWell_0 : decode cX0_leadsOnWell 0 = .ok (.aload_n 0, 1) := by decide +kernel
theorem dX0_leadsOnWell_1 : decode cX0_leadsOnWell 1 = .ok (.getfield 9, 3) := by decide +kernel
theorem dX0_leadsOnWell_4 : decode cX0_leadsOnWell 4 = .ok (.iload_n 1, 1) := by decide +kernel
theorem dX0_leadsOnWell_5 : decode cX0_leadsOnWell 5 = .ok (.iaload, 1) := by decide +kernel
theorem dX0_leadsOnWell_6 : decode cX0_leadsOnWell 6 = .ok (.istore_n 2, 1) := by decide +kernel
theorem dX0_leadsOnWell_7 : decode cX0_leadsOnWell 7 = .ok (.aload_n 0, 1) := by decide +kernel
theorem dX0_leadsOnWell_8 : decode cX0_leadsOnWell 8 = .ok (.getfield 18, 3) := by decide +kernel
theorem dX0_leadsOnWell_11 : decode cX0_leadsOnWell 11 = .ok (.iload_n 1, 1) := by decide +kernel
theorem dX0_leadsOnWell_12 : decode cX0_leadsOnWell 12 = .ok (.iaload, 1) := by decide +kernel
theorem dX0_leadsOnWell_13 : decode cX0_leadsOnWell 13 = .ok (.getstatic 45, 3) := by decide +kernel
theorem dX0_leadsOnWell_16 : decode cX0_leadsOnWell 16 = .ok (.iload_n 2, 1) := by decide +kernel
theorem dX0_leadsOnWell_17 : decode cX0_leadsOnWell 17 = .ok (.iaload, 1) := by decide +kernel
theorem dX0_leadsOnWell_18 : decode cX0_leadsOnWell 18 = .ok (.isub, 1) := by decide +kernel
theorem dX0_leadsOnWell_19 : decode cX0_leadsOnWell 19 = .ok (.istore_n 3, 1) := by decide +kernel
theorem dX0_leadsOnWell_20 : decode cX0_leadsOnWell 20 = .ok (.iload_n 3, 1) := by decide +kernel
theorem dX0_leadsOnWell_21 : decode cX0_leadsOnWell 21 = .ok (.getstatic 48, 3) := by decide +kernel
theorem dX0_leadsOnWell_24 : decode cX0_leadsOnWell 24 = .ok (.iload_n 2, 1) := by decide +kernel
theorem dX0_leadsOnWell_25 : decode cX0_leadsOnWell 25 = .ok (.iaload, 1) := by decide +kernel
theorem dX0_leadsOnWell_26 : decode cX0_leadsOnWell 26 = .ok (.iadd, 1) := by decide +kernel
theorem dX0_leadsOnWell_27 : decode cX0_leadsOnWell 27 = .ok (.istore 4, 2) := by decide +kernel
theorem dX0_leadsOnWell_29 : decode cX0_leadsOnWell 29 = .ok (.iload_n 3, 1) := by decide +kernel
theorem dX0_leadsOnWell_30 : decode cX0_leadsOnWell 30 = .ok (.ifCond .lt 10, 3) := by decide +kernel
theorem dX0_leadsOnWell_33 : decode cX0_leadsOnWell 33 = .ok (.iload 4, 2) := by decide +kernel
theorem dX0_leadsOnWell_35 : decode cX0_leadsOnWell 35 = .ok (.bipush 6, 2) := by decide +kernel
theorem dX0_leadsOnWell_37 : decode cX0_leadsOnWell 37 = .ok (.if_icmp .le 5, 3) := by decide +kernel
theorem dX0_leadsOnWell_40 : decode cX0_leadsOnWell 40 = .ok (.iconst 0, 1) := by decide +kernel
theorem dX0_leadsOnWell_41 : decode cX0_leadsOnWell 41 = .ok (.ireturn, 1) := by decide +kernel
theorem dX0_leadsOnWell_42 : decode cX0_leadsOnWell 42 = .ok (.iload_n 2, 1) := by decide +kernel
theorem dX0_leadsOnWell_43 : decode cX0_leadsOnWell 43 = .ok (.bipush 13, 2) := by decide +kernel
theorem dX0_leadsOnWell_45 : decode cX0_leadsOnWell 45 = .ok (.if_icmp .eq 9, 3) := by decide +kernel
theorem dX0_leadsOnWell_48 : decode cX0_leadsOnWell 48 = .ok (.iload_n 2, 1) := by decide +kernel
theorem dX0_leadsOnWell_49 : decode cX0_leadsOnWell 49 = .ok (.bipush 14, 2) := by decide +kernel
theorem dX0_leadsOnWell_51 : decode cX0_leadsOnWell 51 = .ok (.if_icmp .ne 7, 3) := by decide +kernel
theorem dX0_leadsOnWell_54 : decode cX0_leadsOnWell 54 = .ok (.iconst 1, 1) := by decide +kernel
theorem dX0_leadsOnWell_55 : decode cX0_leadsOnWell 55 = .ok (.goto 4, 3) := by decide +kernel
theorem dX0_leadsOnWell_58 : decode cX0_leadsOnWell 58 = .ok (.iconst 0, 1) := by decide +kernel
theorem dX0_leadsOnWell_59 : decode cX0_leadsOnWell 59 = .ok (.istore 5, 2) := by decide +kernel
theorem dX0_leadsOnWell_61 : decode cX0_leadsOnWell 61 = .ok (.iload_n 2, 1) := by decide +kernel
theorem dX0_leadsOnWell_62 : decode cX0_leadsOnWell 62 = .ok (.bipush 13, 2) := by decide +kernel
theorem dX0_leadsOnWell_64 : decode cX0_leadsOnWell 64 = .ok (.if_icmp .eq 13, 3) := by decide +kernel
theorem dX0_leadsOnWell_67 : decode cX0_leadsOnWell 67 = .ok (.iload_n 2, 1) := by decide +kernel
theorem dX0_leadsOnWell_68 : decode cX0_leadsOnWell 68 = .ok (.bipush 15, 2) := by decide +kernel
theorem dX0_leadsOnWell_70 : decode cX0_leadsOnWell 70 = .ok (.if_icmp .eq 7, 3) := by decide +kernel
theorem dX0_leadsOnWell_73 : decode cX0_leadsOnWell 73 = .ok (.iconst 1, 1) := by decide +kernel
theorem dX0_leadsOnWell_74 : decode cX0_leadsOnWell 74 = .ok (.goto 4, 3) := by decide +kernel
theorem dX0_leadsOnWell_77 : decode cX0_leadsOnWell 77 = .ok (.iconst 0, 1) := by decide +kernel
theorem dX0_leadsOnWell_78 : decode cX0_leadsOnWell 78 = .ok (.istore 6, 2) := by decide +kernel
theorem dX0_leadsOnWell_80 : decode cX0_leadsOnWell 80 = .ok (.iload 5, 2) := by decide +kernel
theorem dX0_leadsOnWell_82 : decode cX0_leadsOnWell 82 = .ok (.ifCond .eq 18, 3) := by decide +kernel
theorem dX0_leadsOnWell_85 : decode cX0_leadsOnWell 85 = .ok (.aload_n 0, 1) := by decide +kernel
theorem dX0_leadsOnWell_86 : decode cX0_leadsOnWell 86 = .ok (.aload_n 0, 1) := by decide +kernel
theorem dX0_leadsOnWell_87 : decode cX0_leadsOnWell 87 = .ok (.getfield 15, 3) := by decide +kernel
theorem dX0_leadsOnWell_90 : decode cX0_leadsOnWell 90 = .ok (.iload_n 1, 1) := by decide +kernel
theorem dX0_leadsOnWell_91 : decode cX0_leadsOnWell 91 = .ok (.iaload, 1) := by decide +kernel
theorem dX0_leadsOnWell_92 : decode cX0_leadsOnWell 92 = .ok (.iload 4, 2) := by decide +kernel
theorem dX0_leadsOnWell_94 : decode cX0_leadsOnWell 94 = .ok (.invokevirtual 37, 3) := by decide +kernel
theorem dX0_leadsOnWell_97 : decode cX0_leadsOnWell 97 = .ok (.ifCond .eq 24, 3) := by decide +kernel
theorem dX0_leadsOnWell_100 : decode cX0_leadsOnWell 100 = .ok (.iload 6, 2) := by decide +kernel
theorem dX0_leadsOnWell_102 : decode cX0_leadsOnWell 102 = .ok (.ifCond .eq 15, 3) := by decide +kernel
theorem dX0_leadsOnWell_105 : decode cX0_leadsOnWell 105 = .ok (.aload_n 0, 1) := by decide +kernel
theorem dX0_leadsOnWell_106 : decode cX0_leadsOnWell 106 = .ok (.iload_n 1, 1) := by decide +kernel
theorem dX0_leadsOnWell_107 : decode cX0_leadsOnWell 107 = .ok (.iconst 1, 1) := by decide +kernel
theorem dX0_leadsOnWell_108 : decode cX0_leadsOnWell 108 = .ok (.iadd, 1) := by decide +kernel
theorem dX0_leadsOnWell_109 : decode cX0_leadsOnWell 109 = .ok (.iload 4, 2) := by decide +kernel
theorem dX0_leadsOnWell_111 : decode cX0_leadsOnWell 111 = .ok (.invokevirtual 37, 3) := by decide +kernel
theorem dX0_leadsOnWell_114 : decode cX0_leadsOnWell 114 = .ok (.ifCond .eq 7, 3) := by decide +kernel
theorem dX0_leadsOnWell_117 : decode cX0_leadsOnWell 117 = .ok (.iconst 1, 1) := by decide +kernel
theorem dX0_leadsOnWell_118 : decode cX0_leadsOnWell 118 = .ok (.goto 4, 3) := by decide +kernel
theorem dX0_leadsOnWell_121 : decode cX0_leadsOnWell 121 = .ok (.iconst 0, 1) := by decide +kernel
theorem dX0_leadsOnWell_122 : decode cX0_leadsOnWell 122 = .ok (.ireturn, 1) := by decide +kernel
theorem dX1_init_0 : decode cX1_init 0 = .ok (.aload_n 0, 1) := by decide +kernel
theorem dX1_init_1 : decode cX1_init 1 = .ok (.invokespecial 3, 3) := by decide +kernel
theorem dX1_init_4 : decode cX1_init 4 = .ok (.aload_n 0, 1) := by decide +kernel
theorem dX1_init_5 : decode cX1_init 5 = .ok (.bipush 6, 2) := by decide +kernel
theorem dX1_init_7 : decode cX1_init 7 = .ok (.newarray .int, 2) := by decide +kernel
theorem dX1_init_9 : decode cX1_init 9 = .ok (.putfield 9, 3) := by decide +kernel
theorem dX1_init_12 : decode cX1_init 12 = .ok (.aload_n 0, 1) := by decide +kernel
theorem dX1_init_13 : decode cX1_init 13 = .ok (.bipush 6, 2) := by decide +kernel
theorem dX1_init_15 : decode cX1_init 15 = .ok (.newarray .int, 2) := by decide +kernel
theorem dX1_init_17 : decode cX1_init 17 = .ok (.putfield 15, 3) := by decide +kernel
theorem dX1_init_20 : decode cX1_init 20 = .ok (.return_, 1) := by decide +kernel
theorem dX1_reset_0 : decode cX1_reset 0 = .ok (.aload_n 0, 1) := by decide +kernel
theorem dX1_reset_1 : decode cX1_reset 1 = .ok (.getfield 9, 3) := by decide +kernel
theorem dX1_reset_4 : decode cX1_reset 4 = .ok (.iconst 0, 1) := by decide +kernel
theorem dX1_reset_5 : decode cX1_reset 5 = .ok (.invokestatic 18, 3) := by decide +kernel
theorem dX1_reset_8 : decode cX1_reset 8 = .ok (.aload_n 0, 1) := by decide +kernel
theorem dX1_reset_9 : decode cX1_reset 9 = .ok (.iconst 0, 1) := by decide +kernel
theorem dX1_reset_10 : decode cX1_reset 10 = .ok (.putfield 24, 3) := by decide +kernel
theorem dX1_reset_13 : decode cX1_reset 13 = .ok (.aload_n 0, 1) := by decide +kernel
theorem dX1_reset_14 : decode cX1_reset 14 = .ok (.iconst 0, 1) := by decide +kernel
theorem dX1_reset_15 : decode cX1_reset 15 = .ok (.putfield 28, 3) := by decide +kernel
theorem dX1_reset_18 : decode cX1_reset 18 = .ok (.return_, 1) := by decide +kernel
theorem dX1_push_0 : decode cX1_push 0 = .ok (.aload_n 0, 1) := by decide +kernel
theorem dX1_push_1 : decode cX1_push 1 = .ok (.getfield 24, 3) := by decide +kernel
theorem dX1_push_4 : decode cX1_push 4 = .ok (.bipush 6, 2) := by decide +kernel
theorem dX1_push_6 : decode cX1_push 6 = .ok (.if_icmp .ge 23, 3) := by decide +kernel
theorem dX1_push_9 : decode cX1_push 9 = .ok (.aload_n 0, 1) := by decide +kernel
theorem dX1_push_10 : decode cX1_push 10 = .ok (.getfield 15, 3) := by decide +kernel
theorem dX1_push_13 : decode cX1_push 13 = .ok (.aload_n 0, 1) := by decide +kernel
theorem dX1_push_14 : decode cX1_push 14 = .ok (.getfield 24, 3) := by decide +kernel
theorem dX1_push_17 : decode cX1_push 17 = .ok (.iload_n 1, 1) := by decide +kernel
theorem dX1_push_18 : decode cX1_push 18 = .ok (.iastore, 1) := by decide +kernel
theorem dX1_push_19 : decode cX1_push 19 = .ok (.aload_n 0, 1) := by decide +kernel
theorem dX1_push_20 : decode cX1_push 20 = .ok (.dup, 1) := by decide +kernel
theorem dX1_push_21 : decode cX1_push 21 = .ok (.getfield 24, 3) := by decide +kernel
theorem dX1_push_24 : decode cX1_push 24 = .ok (.iconst 1, 1) := by decide +kernel
theorem dX1_push_25 : decode cX1_push 25 = .ok (.iadd, 1) := by decide +kernel
theorem dX1_push_26 : decode cX1_push 26 = .ok (.putfield 24, 3) := by decide +kernel
theorem dX1_push_29 : decode cX1_push 29 = .ok (.return_, 1) := by decide +kernel
theorem dX1_pop_0 : decode cX1_pop 0 = .ok (.aload_n 0, 1) := by decide +kernel
theorem dX1_pop_1 : decode cX1_pop 1 = .ok (.getfield 24, 3) := by decide +kernel
theorem dX1_pop_4 : decode cX1_pop 4 = .ok (.ifCond .ne 5, 3) := by decide +kernel
theorem dX1_pop_7 : decode cX1_pop 7 = .ok (.iconst 0, 1) := by decide +kernel
theorem dX1_pop_8 : decode cX1_pop 8 = .ok (.ireturn, 1) := by decide +kernel
theorem dX1_pop_9 : decode cX1_pop 9 = .ok (.aload_n 0, 1) := by decide +kernel
theorem dX1_pop_10 : decode cX1_pop 10 = .ok (.dup, 1) := by decide +kernel
theorem dX1_pop_11 : decode cX1_pop 11 = .ok (.getfield 24, 3) := by decide +kernel
theorem dX1_pop_14 : decode cX1_pop 14 = .ok (.iconst 1, 1) := by decide +kernel
theorem dX1_pop_15 : decode cX1_pop 15 = .ok (.isub, 1) := by decide +kernel
theorem dX1_pop_16 : decode cX1_pop 16 = .ok (.putfield 24, 3) := by decide +kernel
theorem dX1_pop_19 : decode cX1_pop 19 = .ok (.aload_n 0, 1) := by decide +kernel
theorem dX1_pop_20 : decode cX1_pop 20 = .ok (.getfield 15, 3) := by decide +kernel
theorem dX1_pop_23 : decode cX1_pop 23 = .ok (.aload_n 0, 1) := by decide +kernel
theorem dX1_pop_24 : decode cX1_pop 24 = .ok (.getfield 24, 3) := by decide +kernel
theorem dX1_pop_27 : decode cX1_pop 27 = .ok (.iaload, 1) := by decide +kernel
theorem dX1_pop_28 : decode cX1_pop 28 = .ok (.ireturn, 1) := by decide +kernel
theorem dX1_move_0 : decode cX1_move 0 = .ok (.iload_n 1, 1) := by decide +kernel
theorem dX1_move_1 : decode cX1_move 1 = .ok (.tableswitch 138 1 11 #[59, 72, 138, 138, 138, 138, 138, 138, 85, 103, 111], 59) := by decide +kernel
theorem dX1_move_60 : decode cX1_move 60 = .ok (.aload_n 0, 1) := by decide +kernel
theorem dX1_move_61 : decode cX1_move 61 = .ok (.aload_n 0, 1) := by decide +kernel
theorem dX1_move_62 : decode cX1_move 62 = .ok (.getfield 9, 3) := by decide +kernel
theorem dX1_move_65 : decode cX1_move 65 = .ok (.iload_n 2, 1) := by decide +kernel
theorem dX1_move_66 : decode cX1_move 66 = .ok (.iaload, 1) := by decide +kernel
theorem dX1_move_67 : decode cX1_move 67 = .ok (.invokevirtual 31, 3) := by decide +kernel
theorem dX1_move_70 : decode cX1_move 70 = .ok (.goto 69, 3) := by decide +kernel
theorem dX1_move_73 : decode cX1_move 73 = .ok (.aload_n 0, 1) := by decide +kernel
theorem dX1_move_74 : decode cX1_move 74 = .ok (.getfield 9, 3) := by decide +kernel
theorem dX1_move_77 : decode cX1_move 77 = .ok (.iload_n 2, 1) := by decide +kernel
theorem dX1_move_78 : decode cX1_move 78 = .ok (.aload_n 0, 1) := by decide +kernel
theorem dX1_move_79 : decode cX1_move 79 = .ok (.invokevirtual 35, 3) := by decide +kernel
theorem dX1_move_82 : decode cX1_move 82 = .ok (.iastore, 1) := by decide +kernel
theorem dX1_move_83 : decode cX1_move 83 = .ok (.goto 56, 3) := by decide +kernel
theorem dX1_move_86 : decode cX1_move 86 = .ok (.aload_n 0, 1) := by decide +kernel
theorem dX1_move_87 : decode cX1_move 87 = .ok (.invokevirtual 35, 3) := by decide +kernel
theorem dX1_move_90 : decode cX1_move 90 = .ok (.istore_n 3, 1) := by decide +kernel
theorem dX1_move_91 : decode cX1_move 91 = .ok (.aload_n 0, 1) := by decide +kernel
theorem dX1_move_92 : decode cX1_move 92 = .ok (.iload_n 3, 1) := by decide +kernel
theorem dX1_move_93 : decode cX1_move 93 = .ok (.invokevirtual 31, 3) := by decide +kernel
theorem dX1_move_96 : decode cX1_move 96 = .ok (.aload_n 0, 1) := by decide +kernel
theorem dX1_move_97 : decode cX1_move 97 = .ok (.iload_n 3, 1) := by decide +kernel
theorem dX1_move_98 : decode cX1_move 98 = .ok (.invokevirtual 31, 3) := by decide +kernel
theorem dX1_move_101 : decode cX1_move 101 = .ok (.goto 38, 3) := by decide +kernel
theorem dX1_move_104 : decode cX1_move 104 = .ok (.aload_n 0, 1) := by decide +kernel
theorem dX1_move_105 : decode cX1_move 105 = .ok (.invokevirtual 35, 3) := by decide +kernel
theorem dX1_move_108 : decode cX1_move 108 = .ok (.pop, 1) := by decide +kernel
theorem dX1_move_109 : decode cX1_move 109 = .ok (.goto 30, 3) := by decide +kernel
theorem dX1_move_112 : decode cX1_move 112 = .ok (.aload_n 0, 1) := by decide +kernel
theorem dX1_move_113 : decode cX1_move 113 = .ok (.invokevirtual 35, 3) := by decide +kernel
theorem dX1_move_116 : decode cX1_move 116 = .ok (.istore 4, 2) := by decide +kernel
theorem dX1_move_118 : decode cX1_move 118 = .ok (.aload_n 0, 1) := by decide +kernel
theorem dX1_move_119 : decode cX1_move 119 = .ok (.invokevirtual 35, 3) := by decide +kernel
theorem dX1_move_122 : decode cX1_move 122 = .ok (.istore 5, 2) := by decide +kernel
theorem dX1_move_124 : decode cX1_move 124 = .ok (.aload_n 0, 1) := by decide +kernel
theorem dX1_move_125 : decode cX1_move 125 = .ok (.iload 4, 2) := by decide +kernel
theorem dX1_move_127 : decode cX1_move 127 = .ok (.invokevirtual 31, 3) := by decide +kernel
theorem dX1_move_130 : decode cX1_move 130 = .ok (.aload_n 0, 1) := by decide +kernel
theorem dX1_move_131 : decode cX1_move 131 = .ok (.iload 5, 2) := by decide +kernel
theorem dX1_move_133 : decode cX1_move 133 = .ok (.invokevirtual 31, 3) := by decide +kernel
theorem dX1_move_136 : decode cX1_move 136 = .ok (.goto 3, 3) := by decide +kernel
theorem dX1_move_139 : decode cX1_move 139 = .ok (.return_, 1) := by decide +kernel
theorem dX2_init_0 : decode cX2_init 0 = .ok (.aload_n 0, 1) := by decide +kernel
theorem dX2_init_1 : decode cX2_init 1 = .ok (.invokespecial 3, 3) := by decide +kernel
theorem dX2_init_4 : decode cX2_init 4 = .ok (.aload_n 0, 1) := by decide +kernel
theorem dX2_init_5 : decode cX2_init 5 = .ok (.bipush 30, 2) := by decide +kernel
theorem dX2_init_7 : decode cX2_init 7 = .ok (.newarray .int, 2) := by decide +kernel
theorem dX2_init_9 : decode cX2_init 9 = .ok (.putfield 9, 3) := by decide +kernel
theorem dX2_init_12 : decode cX2_init 12 = .ok (.return_, 1) := by decide +kernel
theorem dX2_reset_0 : decode cX2_reset 0 = .ok (.aload_n 0, 1) := by decide +kernel
theorem dX2_reset_1 : decode cX2_reset 1 = .ok (.iconst 0, 1) := by decide +kernel
theorem dX2_reset_2 : decode cX2_reset 2 = .ok (.putfield 15, 3) := by decide +kernel
theorem dX2_reset_5 : decode cX2_reset 5 = .ok (.aload_n 0, 1) := by decide +kernel
theorem dX2_reset_6 : decode cX2_reset 6 = .ok (.iconst 0, 1) := by decide +kernel
theorem dX2_reset_7 : decode cX2_reset 7 = .ok (.putfield 19, 3) := by decide +kernel
theorem dX2_reset_10 : decode cX2_reset 10 = .ok (.return_, 1) := by decide +kernel
theorem dX2_give_0 : decode cX2_give 0 = .ok (.aload_n 0, 1) := by decide +kernel
theorem dX2_give_1 : decode cX2_give 1 = .ok (.aload_n 0, 1) := by decide +kernel
theorem dX2_give_2 : decode cX2_give 2 = .ok (.getfield 15, 3) := by decide +kernel
theorem dX2_give_5 : decode cX2_give 5 = .ok (.iconst 1, 1) := by decide +kernel
theorem dX2_give_6 : decode cX2_give 6 = .ok (.iadd, 1) := by decide +kernel
theorem dX2_give_7 : decode cX2_give 7 = .ok (.bipush 30, 2) := by decide +kernel
theorem dX2_give_9 : decode cX2_give 9 = .ok (.if_icmp .ge 12, 3) := by decide +kernel
theorem dX2_give_12 : decode cX2_give 12 = .ok (.aload_n 0, 1) := by decide +kernel
theorem dX2_give_13 : decode cX2_give 13 = .ok (.getfield 15, 3) := by decide +kernel
theorem dX2_give_16 : decode cX2_give 16 = .ok (.iconst 1, 1) := by decide +kernel
theorem dX2_give_17 : decode cX2_give 17 = .ok (.iadd, 1) := by decide +kernel
theorem dX2_give_18 : decode cX2_give 18 = .ok (.goto 4, 3) := by decide +kernel
theorem dX2_give_21 : decode cX2_give 21 = .ok (.iconst 0, 1) := by decide +kernel
theorem dX2_give_22 : decode cX2_give 22 = .ok (.putfield 15, 3) := by decide +kernel
theorem dX2_give_25 : decode cX2_give 25 = .ok (.aload_n 0, 1) := by decide +kernel
theorem dX2_give_26 : decode cX2_give 26 = .ok (.getfield 9, 3) := by decide +kernel
theorem dX2_give_29 : decode cX2_give 29 = .ok (.aload_n 0, 1) := by decide +kernel
theorem dX2_give_30 : decode cX2_give 30 = .ok (.getfield 15, 3) := by decide +kernel
theorem dX2_give_33 : decode cX2_give 33 = .ok (.iload_n 1, 1) := by decide +kernel
theorem dX2_give_34 : decode cX2_give 34 = .ok (.iastore, 1) := by decide +kernel
theorem dX2_give_35 : decode cX2_give 35 = .ok (.aload_n 0, 1) := by decide +kernel
theorem dX2_give_36 : decode cX2_give 36 = .ok (.dup, 1) := by decide +kernel
theorem dX2_give_37 : decode cX2_give 37 = .ok (.getfield 19, 3) := by decide +kernel
theorem dX2_give_40 : decode cX2_give 40 = .ok (.iconst 1, 1) := by decide +kernel
theorem dX2_give_41 : decode cX2_give 41 = .ok (.iadd, 1) := by decide +kernel
theorem dX2_give_42 : decode cX2_give 42 = .ok (.putfield 19, 3) := by decide +kernel
theorem dX2_give_45 : decode cX2_give 45 = .ok (.return_, 1) := by decide +kernel
theorem dX2_keeps_0 : decode cX2_keeps 0 = .ok (.iload_n 1, 1) := by decide +kernel
theorem dX2_keeps_1 : decode cX2_keeps 1 = .ok (.ifCond .lt 21, 3) := by decide +kernel
theorem dX2_keeps_4 : decode cX2_keeps 4 = .ok (.iload_n 1, 1) := by decide +kernel
theorem dX2_keeps_5 : decode cX2_keeps 5 = .ok (.bipush 30, 2) := by decide +kernel
theorem dX2_keeps_7 : decode cX2_keeps 7 = .ok (.if_icmp .ge 15, 3) := by decide +kernel
theorem dX2_keeps_10 : decode cX2_keeps 10 = .ok (.iload_n 1, 1) := by decide +kernel
theorem dX2_keeps_11 : decode cX2_keeps 11 = .ok (.aload_n 0, 1) := by decide +kernel
theorem dX2_keeps_12 : decode cX2_keeps 12 = .ok (.getfield 19, 3) := by decide +kernel
theorem dX2_keeps_15 : decode cX2_keeps 15 = .ok (.if_icmp .ge 7, 3) := by decide +kernel
theorem dX2_keeps_18 : decode cX2_keeps 18 = .ok (.iconst 1, 1) := by decide +kernel
theorem dX2_keeps_19 : decode cX2_keeps 19 = .ok (.goto 4, 3) := by decide +kernel
theorem dX2_keeps_22 : decode cX2_keeps 22 = .ok (.iconst 0, 1) := by decide +kernel
theorem dX2_keeps_23 : decode cX2_keeps 23 = .ok (.ireturn, 1) := by decide +kernel
theorem dX2_back_0 : decode cX2_back 0 = .ok (.aload_n 0, 1) := by decide +kernel
theorem dX2_back_1 : decode cX2_back 1 = .ok (.getfield 9, 3) := by decide +kernel
theorem dX2_back_4 : decode cX2_back 4 = .ok (.aload_n 0, 1) := by decide +kernel
theorem dX2_back_5 : decode cX2_back 5 = .ok (.getfield 15, 3) := by decide +kernel
theorem dX2_back_8 : decode cX2_back 8 = .ok (.iload_n 1, 1) := by decide +kernel
theorem dX2_back_9 : decode cX2_back 9 = .ok (.isub, 1) := by decide +kernel
theorem dX2_back_10 : decode cX2_back 10 = .ok (.bipush 30, 2) := by decide +kernel
theorem dX2_back_12 : decode cX2_back 12 = .ok (.invokestatic 22, 3) := by decide +kernel
theorem dX2_back_15 : decode cX2_back 15 = .ok (.iaload, 1) := by decide +kernel
theorem dX2_back_16 : decode cX2_back 16 = .ok (.ireturn, 1) := by decide +kernel
theorem dX3_init_0 : decode cX3_init 0 = .ok (.aload_n 0, 1) := by decide +kernel
theorem dX3_init_1 : decode cX3_init 1 = .ok (.invokespecial 3, 3) := by decide +kernel
theorem dX3_init_4 : decode cX3_init 4 = .ok (.aload_n 0, 1) := by decide +kernel
theorem dX3_init_5 : decode cX3_init 5 = .ok (.bipush 15, 2) := by decide +kernel
theorem dX3_init_7 : decode cX3_init 7 = .ok (.newarray .int, 2) := by decide +kernel
theorem dX3_init_9 : decode cX3_init 9 = .ok (.putfield 9, 3) := by decide +kernel
theorem dX3_init_12 : decode cX3_init 12 = .ok (.aload_n 0, 1) := by decide +kernel
theorem dX3_init_13 : decode cX3_init 13 = .ok (.bipush 15, 2) := by decide +kernel
theorem dX3_init_15 : decode cX3_init 15 = .ok (.newarray .boolean, 2) := by decide +kernel
theorem dX3_init_17 : decode cX3_init 17 = .ok (.putfield 15, 3) := by decide +kernel
theorem dX3_init_20 : decode cX3_init 20 = .ok (.aload_n 0, 1) := by decide +kernel
theorem dX3_init_21 : decode cX3_init 21 = .ok (.bipush 15, 2) := by decide +kernel
theorem dX3_init_23 : decode cX3_init 23 = .ok (.newarray .int, 2) := by decide +kernel
theorem dX3_init_25 : decode cX3_init 25 = .ok (.putfield 19, 3) := by decide +kernel
theorem dX3_init_28 : decode cX3_init 28 = .ok (.aload_n 0, 1) := by decide +kernel
theorem dX3_init_29 : decode cX3_init 29 = .ok (.bipush 15, 2) := by decide +kernel
theorem dX3_init_31 : decode cX3_init 31 = .ok (.newarray .int, 2) := by decide +kernel
theorem dX3_init_33 : decode cX3_init 33 = .ok (.putfield 22, 3) := by decide +kernel
theorem dX3_init_36 : decode cX3_init 36 = .ok (.aload_n 0, 1) := by decide +kernel
theorem dX3_init_37 : decode cX3_init 37 = .ok (.sipush 180, 3) := by decide +kernel
theorem dX3_init_40 : decode cX3_init 40 = .ok (.newarray .int, 2) := by decide +kernel
theorem dX3_init_42 : decode cX3_init 42 = .ok (.putfield 25, 3) := by decide +kernel
theorem dX3_init_45 : decode cX3_init 45 = .ok (.return_, 1) := by decide +kernel
theorem dX3_has_0 : decode cX3_has 0 = .ok (.iconst 0, 1) := by decide +kernel
theorem dX3_has_1 : decode cX3_has 1 = .ok (.istore_n 3, 1) := by decide +kernel
theorem dX3_has_2 : decode cX3_has 2 = .ok (.iload_n 3, 1) := by decide +kernel
theorem dX3_has_3 : decode cX3_has 3 = .ok (.aload_n 0, 1) := by decide +kernel
theorem dX3_has_4 : decode cX3_has 4 = .ok (.getfield 28, 3) := by decide +kernel
theorem dX3_has_7 : decode cX3_has 7 = .ok (.if_icmp .ge 31, 3) := by decide +kernel
theorem dX3_has_10 : decode cX3_has 10 = .ok (.aload_n 0, 1) := by decide +kernel
theorem dX3_has_11 : decode cX3_has 11 = .ok (.getfield 9, 3) := by decide +kernel
theorem dX3_has_14 : decode cX3_has 14 = .ok (.iload_n 3, 1) := by decide +kernel
theorem dX3_has_15 : decode cX3_has 15 = .ok (.iaload, 1) := by decide +kernel
theorem dX3_has_16 : decode cX3_has 16 = .ok (.iload_n 1, 1) := by decide +kernel
theorem dX3_has_17 : decode cX3_has 17 = .ok (.if_icmp .ne 15, 3) := by decide +kernel
theorem dX3_has_20 : decode cX3_has 20 = .ok (.aload_n 0, 1) := by decide +kernel
theorem dX3_has_21 : decode cX3_has 21 = .ok (.getfield 15, 3) := by decide +kernel
theorem dX3_has_24 : decode cX3_has 24 = .ok (.iload_n 3, 1) := by decide +kernel
theorem dX3_has_25 : decode cX3_has 25 = .ok (.baload, 1) := by decide +kernel
theorem dX3_has_26 : decode cX3_has 26 = .ok (.iload_n 2, 1) := by decide +kernel
theorem dX3_has_27 : decode cX3_has 27 = .ok (.if_icmp .ne 5, 3) := by decide +kernel
theorem dX3_has_30 : decode cX3_has 30 = .ok (.iconst 1, 1) := by decide +kernel
theorem dX3_has_31 : decode cX3_has 31 = .ok (.ireturn, 1) := by decide +kernel
theorem dX3_has_32 : decode cX3_has 32 = .ok (.iinc 3 1, 3) := by decide +kernel
theorem dX3_has_35 : decode cX3_has 35 = .ok (.goto (-33), 3) := by decide +kernel
theorem dX3_has_38 : decode cX3_has 38 = .ok (.iconst 0, 1) := by decide +kernel
theorem dX3_has_39 : decode cX3_has 39 = .ok (.ireturn, 1) := by decide +kernel
theorem dX3_put_0 : decode cX3_put 0 = .ok (.aload_n 0, 1) := by decide +kernel
theorem dX3_put_1 : decode cX3_put 1 = .ok (.getfield 28, 3) := by decide +kernel
theorem dX3_put_4 : decode cX3_put 4 = .ok (.istore 5, 2) := by decide +kernel
theorem dX3_put_6 : decode cX3_put 6 = .ok (.aload_n 0, 1) := by decide +kernel
theorem dX3_put_7 : decode cX3_put 7 = .ok (.getfield 9, 3) := by decide +kernel
theorem dX3_put_10 : decode cX3_put 10 = .ok (.iload 5, 2) := by decide +kernel
theorem dX3_put_12 : decode cX3_put 12 = .ok (.iload_n 1, 1) := by decide +kernel
theorem dX3_put_13 : decode cX3_put 13 = .ok (.iastore, 1) := by decide +kernel
theorem dX3_put_14 : decode cX3_put 14 = .ok (.aload_n 0, 1) := by decide +kernel
theorem dX3_put_15 : decode cX3_put 15 = .ok (.getfield 15, 3) := by decide +kernel
theorem dX3_put_18 : decode cX3_put 18 = .ok (.iload 5, 2) := by decide +kernel
theorem dX3_put_20 : decode cX3_put 20 = .ok (.iload_n 2, 1) := by decide +kernel
theorem dX3_put_21 : decode cX3_put 21 = .ok (.bastore, 1) := by decide +kernel
theorem dX3_put_22 : decode cX3_put 22 = .ok (.aload_n 0, 1) := by decide +kernel
theorem dX3_put_23 : decode cX3_put 23 = .ok (.getfield 19, 3) := by decide +kernel
theorem dX3_put_26 : decode cX3_put 26 = .ok (.iload 5, 2) := by decide +kernel
theorem dX3_put_28 : decode cX3_put 28 = .ok (.iload_n 3, 1) := by decide +kernel
theorem dX3_put_29 : decode cX3_put 29 = .ok (.iastore, 1) := by decide +kernel
theorem dX3_put_30 : decode cX3_put 30 = .ok (.aload_n 0, 1) := by decide +kernel
theorem dX3_put_31 : decode cX3_put 31 = .ok (.getfield 22, 3) := by decide +kernel
theorem dX3_put_34 : decode cX3_put 34 = .ok (.iload 5, 2) := by decide +kernel
theorem dX3_put_36 : decode cX3_put 36 = .ok (.aload 4, 2) := by decide +kernel
theorem dX3_put_38 : decode cX3_put 38 = .ok (.getfield 32, 3) := by decide +kernel
theorem dX3_put_41 : decode cX3_put 41 = .ok (.iastore, 1) := by decide +kernel
theorem dX3_put_42 : decode cX3_put 42 = .ok (.aload 4, 2) := by decide +kernel
theorem dX3_put_44 : decode cX3_put 44 = .ok (.getfield 37, 3) := by decide +kernel
theorem dX3_put_47 : decode cX3_put 47 = .ok (.iconst 0, 1) := by decide +kernel
theorem dX3_put_48 : decode cX3_put 48 = .ok (.aload_n 0, 1) := by decide +kernel
theorem dX3_put_49 : decode cX3_put 49 = .ok (.getfield 25, 3) := by decide +kernel
theorem dX3_put_52 : decode cX3_put 52 = .ok (.iload 5, 2) := by decide +kernel
theorem dX3_put_54 : decode cX3_put 54 = .ok (.bipush 12, 2) := by decide +kernel
theorem dX3_put_56 : decode cX3_put 56 = .ok (.imul, 1) := by decide +kernel
theorem dX3_put_57 : decode cX3_put 57 = .ok (.bipush 6, 2) := by decide +kernel
theorem dX3_put_59 : decode cX3_put 59 = .ok (.invokestatic 40, 3) := by decide +kernel
theorem dX3_put_62 : decode cX3_put 62 = .ok (.aload 4, 2) := by decide +kernel
theorem dX3_put_64 : decode cX3_put 64 = .ok (.getfield 46, 3) := by decide +kernel
theorem dX3_put_67 : decode cX3_put 67 = .ok (.iconst 0, 1) := by decide +kernel
theorem dX3_put_68 : decode cX3_put 68 = .ok (.aload_n 0, 1) := by decide +kernel
theorem dX3_put_69 : decode cX3_put 69 = .ok (.getfield 25, 3) := by decide +kernel
theorem dX3_put_72 : decode cX3_put 72 = .ok (.iload 5, 2) := by decide +kernel
theorem dX3_put_74 : decode cX3_put 74 = .ok (.bipush 12, 2) := by decide +kernel
theorem dX3_put_76 : decode cX3_put 76 = .ok (.imul, 1) := by decide +kernel
theorem dX3_put_77 : decode cX3_put 77 = .ok (.bipush 6, 2) := by decide +kernel
theorem dX3_put_79 : decode cX3_put 79 = .ok (.iadd, 1) := by decide +kernel
theorem dX3_put_80 : decode cX3_put 80 = .ok (.aload 4, 2) := by decide +kernel
theorem dX3_put_82 : decode cX3_put 82 = .ok (.getfield 32, 3) := by decide +kernel
theorem dX3_put_85 : decode cX3_put 85 = .ok (.invokestatic 40, 3) := by decide +kernel
theorem dX3_put_88 : decode cX3_put 88 = .ok (.aload_n 0, 1) := by decide +kernel
theorem dX3_put_89 : decode cX3_put 89 = .ok (.dup, 1) := by decide +kernel
theorem dX3_put_90 : decode cX3_put 90 = .ok (.getfield 28, 3) := by decide +kernel
theorem dX3_put_93 : decode cX3_put 93 = .ok (.iconst 1, 1) := by decide +kernel
theorem dX3_put_94 : decode cX3_put 94 = .ok (.iadd, 1) := by decide +kernel
theorem dX3_put_95 : decode cX3_put 95 = .ok (.putfield 28, 3) := by decide +kernel
theorem dX3_put_98 : decode cX3_put 98 = .ok (.iload 5, 2) := by decide +kernel
theorem dX3_put_100 : decode cX3_put 100 = .ok (.ireturn, 1) := by decide +kernel
theorem dX3_holds_0 : decode cX3_holds 0 = .ok (.aload_n 2, 1) := by decide +kernel
theorem dX3_holds_1 : decode cX3_holds 1 = .ok (.aload_n 0, 1) := by decide +kernel
theorem dX3_holds_2 : decode cX3_holds 2 = .ok (.getfield 9, 3) := by decide +kernel
theorem dX3_holds_5 : decode cX3_holds 5 = .ok (.iload_n 1, 1) := by decide +kernel
theorem dX3_holds_6 : decode cX3_holds 6 = .ok (.iaload, 1) := by decide +kernel
theorem dX3_holds_7 : decode cX3_holds 7 = .ok (.iaload, 1) := by decide +kernel
theorem dX3_holds_8 : decode cX3_holds 8 = .ok (.ifCond .eq 7, 3) := by decide +kernel
theorem dX3_holds_11 : decode cX3_holds 11 = .ok (.iconst 1, 1) := by decide +kernel
theorem dX3_holds_12 : decode cX3_holds 12 = .ok (.goto 4, 3) := by decide +kernel
theorem dX3_holds_15 : decode cX3_holds 15 = .ok (.iconst 0, 1) := by decide +kernel
theorem dX3_holds_16 : decode cX3_holds 16 = .ok (.aload_n 0, 1) := by decide +kernel
theorem dX3_holds_17 : decode cX3_holds 17 = .ok (.getfield 15, 3) := by decide +kernel
theorem dX3_holds_20 : decode cX3_holds 20 = .ok (.iload_n 1, 1) := by decide +kernel
theorem dX3_holds_21 : decode cX3_holds 21 = .ok (.baload, 1) := by decide +kernel
theorem dX3_holds_22 : decode cX3_holds 22 = .ok (.if_icmp .ne 7, 3) := by decide +kernel
theorem dX3_holds_25 : decode cX3_holds 25 = .ok (.iconst 1, 1) := by decide +kernel
theorem dX3_holds_26 : decode cX3_holds 26 = .ok (.goto 4, 3) := by decide +kernel
theorem dX3_holds_29 : decode cX3_holds 29 = .ok (.iconst 0, 1) := by decide +kernel
theorem dX3_holds_30 : decode cX3_holds 30 = .ok (.ireturn, 1) := by decide +kernel
theorem dX3_restore_0 : decode cX3_restore 0 = .ok (.iload_n 1, 1) := by decide +kernel
theorem dX3_restore_1 : decode cX3_restore 1 = .ok (.bipush 12, 2) := by decide +kernel
theorem dX3_restore_3 : decode cX3_restore 3 = .ok (.imul, 1) := by decide +kernel
theorem dX3_restore_4 : decode cX3_restore 4 = .ok (.istore 4, 2) := by decide +kernel
theorem dX3_restore_6 : decode cX3_restore 6 = .ok (.iconst 0, 1) := by decide +kernel
theorem dX3_restore_7 : decode cX3_restore 7 = .ok (.istore 5, 2) := by decide +kernel
theorem dX3_restore_9 : decode cX3_restore 9 = .ok (.iload 5, 2) := by decide +kernel
theorem dX3_restore_11 : decode cX3_restore 11 = .ok (.bipush 6, 2) := by decide +kernel
theorem dX3_restore_13 : decode cX3_restore 13 = .ok (.if_icmp .ge 28, 3) := by decide +kernel
theorem dX3_restore_16 : decode cX3_restore 16 = .ok (.aload_n 3, 1) := by decide +kernel
theorem dX3_restore_17 : decode cX3_restore 17 = .ok (.getfield 37, 3) := by decide +kernel
theorem dX3_restore_20 : decode cX3_restore 20 = .ok (.iload 5, 2) := by decide +kernel
theorem dX3_restore_22 : decode cX3_restore 22 = .ok (.aload_n 2, 1) := by decide +kernel
theorem dX3_restore_23 : decode cX3_restore 23 = .ok (.aload_n 0, 1) := by decide +kernel
theorem dX3_restore_24 : decode cX3_restore 24 = .ok (.getfield 25, 3) := by decide +kernel
theorem dX3_restore_27 : decode cX3_restore 27 = .ok (.iload 4, 2) := by decide +kernel
theorem dX3_restore_29 : decode cX3_restore 29 = .ok (.iload 5, 2) := by decide +kernel
theorem dX3_restore_31 : decode cX3_restore 31 = .ok (.iadd, 1) := by decide +kernel
theorem dX3_restore_32 : decode cX3_restore 32 = .ok (.iaload, 1) := by decide +kernel
theorem dX3_restore_33 : decode cX3_restore 33 = .ok (.iaload, 1) := by decide +kernel
theorem dX3_restore_34 : decode cX3_restore 34 = .ok (.iastore, 1) := by decide +kernel
theorem dX3_restore_35 : decode cX3_restore 35 = .ok (.iinc 5 1, 3) := by decide +kernel
theorem dX3_restore_38 : decode cX3_restore 38 = .ok (.goto (-29), 3) := by decide +kernel
theorem dX3_restore_41 : decode cX3_restore 41 = .ok (.iconst 0, 1) := by decide +kernel
theorem dX3_restore_42 : decode cX3_restore 42 = .ok (.istore 5, 2) := by decide +kernel
theorem dX3_restore_44 : decode cX3_restore 44 = .ok (.iload 5, 2) := by decide +kernel
theorem dX3_restore_46 : decode cX3_restore 46 = .ok (.aload_n 0, 1) := by decide +kernel
theorem dX3_restore_47 : decode cX3_restore 47 = .ok (.getfield 22, 3) := by decide +kernel
theorem dX3_restore_50 : decode cX3_restore 50 = .ok (.iload_n 1, 1) := by decide +kernel
theorem dX3_restore_51 : decode cX3_restore 51 = .ok (.iaload, 1) := by decide +kernel
theorem dX3_restore_52 : decode cX3_restore 52 = .ok (.if_icmp .ge 31, 3) := by decide +kernel
theorem dX3_restore_55 : decode cX3_restore 55 = .ok (.aload_n 3, 1) := by decide +kernel
theorem dX3_restore_56 : decode cX3_restore 56 = .ok (.getfield 46, 3) := by decide +kernel
theorem dX3_restore_59 : decode cX3_restore 59 = .ok (.iload 5, 2) := by decide +kernel
theorem dX3_restore_61 : decode cX3_restore 61 = .ok (.aload_n 2, 1) := by decide +kernel
theorem dX3_restore_62 : decode cX3_restore 62 = .ok (.aload_n 0, 1) := by decide +kernel
theorem dX3_restore_63 : decode cX3_restore 63 = .ok (.getfield 25, 3) := by decide +kernel
theorem dX3_restore_66 : decode cX3_restore 66 = .ok (.iload 4, 2) := by decide +kernel
theorem dX3_restore_68 : decode cX3_restore 68 = .ok (.bipush 6, 2) := by decide +kernel
theorem dX3_restore_70 : decode cX3_restore 70 = .ok (.iadd, 1) := by decide +kernel
theorem dX3_restore_71 : decode cX3_restore 71 = .ok (.iload 5, 2) := by decide +kernel
theorem dX3_restore_73 : decode cX3_restore 73 = .ok (.iadd, 1) := by decide +kernel
theorem dX3_restore_74 : decode cX3_restore 74 = .ok (.iaload, 1) := by decide +kernel
theorem dX3_restore_75 : decode cX3_restore 75 = .ok (.iaload, 1) := by decide +kernel
theorem dX3_restore_76 : decode cX3_restore 76 = .ok (.iastore, 1) := by decide +kernel
theorem dX3_restore_77 : decode cX3_restore 77 = .ok (.iinc 5 1, 3) := by decide +kernel
theorem dX3_restore_80 : decode cX3_restore 80 = .ok (.goto (-36), 3) := by decide +kernel
theorem dX3_restore_83 : decode cX3_restore 83 = .ok (.aload_n 3, 1) := by decide +kernel
theorem dX3_restore_84 : decode cX3_restore 84 = .ok (.aload_n 0, 1) := by decide +kernel
theorem dX3_restore_85 : decode cX3_restore 85 = .ok (.getfield 22, 3) := by decide +kernel
theorem dX3_restore_88 : decode cX3_restore 88 = .ok (.iload_n 1, 1) := by decide +kernel
theorem dX3_restore_89 : decode cX3_restore 89 = .ok (.iaload, 1) := by decide +kernel
theorem dX3_restore_90 : decode cX3_restore 90 = .ok (.putfield 32, 3) := by decide +kernel
theorem dX3_restore_93 : decode cX3_restore 93 = .ok (.aload_n 3, 1) := by decide +kernel
theorem dX3_restore_94 : decode cX3_restore 94 = .ok (.aload_n 0, 1) := by decide +kernel
theorem dX3_restore_95 : decode cX3_restore 95 = .ok (.getfield 19, 3) := by decide +kernel
theorem dX3_restore_98 : decode cX3_restore 98 = .ok (.iload_n 1, 1) := by decide +kernel
theorem dX3_restore_99 : decode cX3_restore 99 = .ok (.iaload, 1) := by decide +kernel
theorem dX3_restore_100 : decode cX3_restore 100 = .ok (.putfield 49, 3) := by decide +kernel
theorem dX3_restore_103 : decode cX3_restore 103 = .ok (.return_, 1) := by decide +kernel
theorem dX4_init_0 : decode cX4_init 0 = .ok (.aload_n 0, 1) := by decide +kernel
theorem dX4_init_1 : decode cX4_init 1 = .ok (.invokespecial 3, 3) := by decide +kernel
theorem dX4_init_4 : decode cX4_init 4 = .ok (.aload_n 0, 1) := by decide +kernel
theorem dX4_init_5 : decode cX4_init 5 = .ok (.bipush 40, 2) := by decide +kernel
theorem dX4_init_7 : decode cX4_init 7 = .ok (.newarray .int, 2) := by decide +kernel
theorem dX4_init_9 : decode cX4_init 9 = .ok (.putfield 9, 3) := by decide +kernel
theorem dX4_init_12 : decode cX4_init 12 = .ok (.aload_n 0, 1) := by decide +kernel
theorem dX4_init_13 : decode cX4_init 13 = .ok (.bipush 40, 2) := by decide +kernel
theorem dX4_init_15 : decode cX4_init 15 = .ok (.newarray .int, 2) := by decide +kernel
theorem dX4_init_17 : decode cX4_init 17 = .ok (.putfield 15, 3) := by decide +kernel
theorem dX4_init_20 : decode cX4_init 20 = .ok (.aload_n 0, 1) := by decide +kernel
theorem dX4_init_21 : decode cX4_init 21 = .ok (.bipush 40, 2) := by decide +kernel
theorem dX4_init_23 : decode cX4_init 23 = .ok (.newarray .int, 2) := by decide +kernel
theorem dX4_init_25 : decode cX4_init 25 = .ok (.putfield 18, 3) := by decide +kernel
theorem dX4_init_28 : decode cX4_init 28 = .ok (.return_, 1) := by decide +kernel
theorem dX4_reset_0 : decode cX4_reset 0 = .ok (.aload_n 0, 1) := by decide +kernel
theorem dX4_reset_1 : decode cX4_reset 1 = .ok (.getfield 9, 3) := by decide +kernel
theorem dX4_reset_4 : decode cX4_reset 4 = .ok (.iconst 0, 1) := by decide +kernel
theorem dX4_reset_5 : decode cX4_reset 5 = .ok (.invokestatic 21, 3) := by decide +kernel
theorem dX4_reset_8 : decode cX4_reset 8 = .ok (.aload_n 0, 1) := by decide +kernel
theorem dX4_reset_9 : decode cX4_reset 9 = .ok (.getfield 15, 3) := by decide +kernel
theorem dX4_reset_12 : decode cX4_reset 12 = .ok (.iconst 0, 1) := by decide +kernel
theorem dX4_reset_13 : decode cX4_reset 13 = .ok (.invokestatic 21, 3) := by decide +kernel
theorem dX4_reset_16 : decode cX4_reset 16 = .ok (.aload_n 0, 1) := by decide +kernel
theorem dX4_reset_17 : decode cX4_reset 17 = .ok (.getfield 18, 3) := by decide +kernel
theorem dX4_reset_20 : decode cX4_reset 20 = .ok (.iconst (-1), 1) := by decide +kernel
theorem dX4_reset_21 : decode cX4_reset 21 = .ok (.invokestatic 21, 3) := by decide +kernel
theorem dX4_reset_24 : decode cX4_reset 24 = .ok (.return_, 1) := by decide +kernel
theorem dX5_init_0 : decode cX5_init 0 = .ok (.aload_n 0, 1) := by decide +kernel
theorem dX5_init_1 : decode cX5_init 1 = .ok (.invokespecial 3, 3) := by decide +kernel
theorem dX5_init_4 : decode cX5_init 4 = .ok (.aload_n 0, 1) := by decide +kernel
theorem dX5_init_5 : decode cX5_init 5 = .ok (.bipush 30, 2) := by decide +kernel
theorem dX5_init_7 : decode cX5_init 7 = .ok (.newarray .int, 2) := by decide +kernel
theorem dX5_init_9 : decode cX5_init 9 = .ok (.putfield 9, 3) := by decide +kernel
theorem dX5_init_12 : decode cX5_init 12 = .ok (.aload_n 0, 1) := by decide +kernel
theorem dX5_init_13 : decode cX5_init 13 = .ok (.bipush 30, 2) := by decide +kernel
theorem dX5_init_15 : decode cX5_init 15 = .ok (.newarray .boolean, 2) := by decide +kernel
theorem dX5_init_17 : decode cX5_init 17 = .ok (.putfield 15, 3) := by decide +kernel
theorem dX5_init_20 : decode cX5_init 20 = .ok (.aload_n 0, 1) := by decide +kernel
theorem dX5_init_21 : decode cX5_init 21 = .ok (.iconst (-1), 1) := by decide +kernel
theorem dX5_init_22 : decode cX5_init 22 = .ok (.putfield 19, 3) := by decide +kernel
theorem dX5_init_25 : decode cX5_init 25 = .ok (.return_, 1) := by decide +kernel
theorem dX5_isOn_0 : decode cX5_isOn 0 = .ok (.aload_n 0, 1) := by decide +kernel
theorem dX5_isOn_1 : decode cX5_isOn 1 = .ok (.getfield 19, 3) := by decide +kernel
theorem dX5_isOn_4 : decode cX5_isOn 4 = .ok (.iconst (-1), 1) := by decide +kernel
theorem dX5_isOn_5 : decode cX5_isOn 5 = .ok (.if_icmp .eq 7, 3) := by decide +kernel
theorem dX5_isOn_8 : decode cX5_isOn 8 = .ok (.iconst 1, 1) := by decide +kernel
theorem dX5_isOn_9 : decode cX5_isOn 9 = .ok (.goto 4, 3) := by decide +kernel
theorem dX5_isOn_12 : decode cX5_isOn 12 = .ok (.iconst 0, 1) := by decide +kernel
theorem dX5_isOn_13 : decode cX5_isOn 13 = .ok (.ireturn, 1) := by decide +kernel
theorem dX5_isFull_0 : decode cX5_isFull 0 = .ok (.aload_n 0, 1) := by decide +kernel
theorem dX5_isFull_1 : decode cX5_isFull 1 = .ok (.invokevirtual 23, 3) := by decide +kernel
theorem dX5_isFull_4 : decode cX5_isFull 4 = .ok (.ifCond .eq 16, 3) := by decide +kernel
theorem dX5_isFull_7 : decode cX5_isFull 7 = .ok (.aload_n 0, 1) := by decide +kernel
theorem dX5_isFull_8 : decode cX5_isFull 8 = .ok (.getfield 27, 3) := by decide +kernel
theorem dX5_isFull_11 : decode cX5_isFull 11 = .ok (.bipush 30, 2) := by decide +kernel
theorem dX5_isFull_13 : decode cX5_isFull 13 = .ok (.if_icmp .ne 7, 3) := by decide +kernel
theorem dX5_isFull_16 : decode cX5_isFull 16 = .ok (.iconst 1, 1) := by decide +kernel
theorem dX5_isFull_17 : decode cX5_isFull 17 = .ok (.goto 4, 3) := by decide +kernel
theorem dX5_isFull_20 : decode cX5_isFull 20 = .ok (.iconst 0, 1) := by decide +kernel
theorem dX5_isFull_21 : decode cX5_isFull 21 = .ok (.ireturn, 1) := by decide +kernel
theorem dX5_closesAt_0 : decode cX5_closesAt 0 = .ok (.aload_n 0, 1) := by decide +kernel
theorem dX5_closesAt_1 : decode cX5_closesAt 1 = .ok (.invokevirtual 23, 3) := by decide +kernel
theorem dX5_closesAt_4 : decode cX5_closesAt 4 = .ok (.ifCond .eq 22, 3) := by decide +kernel
theorem dX5_closesAt_7 : decode cX5_closesAt 7 = .ok (.aload_n 0, 1) := by decide +kernel
theorem dX5_closesAt_8 : decode cX5_closesAt 8 = .ok (.getfield 27, 3) := by decide +kernel
theorem dX5_closesAt_11 : decode cX5_closesAt 11 = .ok (.ifCond .le 15, 3) := by decide +kernel
theorem dX5_closesAt_14 : decode cX5_closesAt 14 = .ok (.iload_n 1, 1) := by decide +kernel
theorem dX5_closesAt_15 : decode cX5_closesAt 15 = .ok (.aload_n 0, 1) := by decide +kernel
theorem dX5_closesAt_16 : decode cX5_closesAt 16 = .ok (.getfield 19, 3) := by decide +kernel
theorem dX5_closesAt_19 : decode cX5_closesAt 19 = .ok (.if_icmp .ne 7, 3) := by decide +kernel
theorem dX5_closesAt_22 : decode cX5_closesAt 22 = .ok (.iconst 1, 1) := by decide +kernel
theorem dX5_closesAt_23 : decode cX5_closesAt 23 = .ok (.goto 4, 3) := by decide +kernel
theorem dX5_closesAt_26 : decode cX5_closesAt 26 = .ok (.iconst 0, 1) := by decide +kernel
theorem dX5_closesAt_27 : decode cX5_closesAt 27 = .ok (.ireturn, 1) := by decide +kernel
theorem dX5_startAt_0 : decode cX5_startAt 0 = .ok (.aload_n 0, 1) := by decide +kernel
theorem dX5_startAt_1 : decode cX5_startAt 1 = .ok (.iload_n 1, 1) := by decide +kernel
theorem dX5_startAt_2 : decode cX5_startAt 2 = .ok (.putfield 19, 3) := by decide +kernel
theorem dX5_startAt_5 : decode cX5_startAt 5 = .ok (.aload_n 0, 1) := by decide +kernel
theorem dX5_startAt_6 : decode cX5_startAt 6 = .ok (.iconst 0, 1) := by decide +kernel
theorem dX5_startAt_7 : decode cX5_startAt 7 = .ok (.putfield 27, 3) := by decide +kernel
theorem dX5_startAt_10 : decode cX5_startAt 10 = .ok (.return_, 1) := by decide +kernel
theorem dX5_stop_0 : decode cX5_stop 0 = .ok (.aload_n 0, 1) := by decide +kernel
theorem dX5_stop_1 : decode cX5_stop 1 = .ok (.iconst (-1), 1) := by decide +kernel
theorem dX5_stop_2 : decode cX5_stop 2 = .ok (.putfield 19, 3) := by decide +kernel
theorem dX5_stop_5 : decode cX5_stop 5 = .ok (.return_, 1) := by decide +kernel
theorem dX5_note_0 : decode cX5_note 0 = .ok (.aload_n 0, 1) := by decide +kernel
theorem dX5_note_1 : decode cX5_note 1 = .ok (.getfield 9, 3) := by decide +kernel
theorem dX5_note_4 : decode cX5_note 4 = .ok (.aload_n 0, 1) := by decide +kernel
theorem dX5_note_5 : decode cX5_note 5 = .ok (.getfield 27, 3) := by decide +kernel
theorem dX5_note_8 : decode cX5_note 8 = .ok (.iload_n 1, 1) := by decide +kernel
theorem dX5_note_9 : decode cX5_note 9 = .ok (.iastore, 1) := by decide +kernel
theorem dX5_note_10 : decode cX5_note 10 = .ok (.aload_n 0, 1) := by decide +kernel
theorem dX5_note_11 : decode cX5_note 11 = .ok (.getfield 15, 3) := by decide +kernel
theorem dX5_note_14 : decode cX5_note 14 = .ok (.aload_n 0, 1) := by decide +kernel
theorem dX5_note_15 : decode cX5_note 15 = .ok (.getfield 27, 3) := by decide +kernel
theorem dX5_note_18 : decode cX5_note 18 = .ok (.iload_n 2, 1) := by decide +kernel
theorem dX5_note_19 : decode cX5_note 19 = .ok (.bastore, 1) := by decide +kernel
theorem dX5_note_20 : decode cX5_note 20 = .ok (.aload_n 0, 1) := by decide +kernel
theorem dX5_note_21 : decode cX5_note 21 = .ok (.dup, 1) := by decide +kernel
theorem dX5_note_22 : decode cX5_note 22 = .ok (.getfield 27, 3) := by decide +kernel
theorem dX5_note_25 : decode cX5_note 25 = .ok (.iconst 1, 1) := by decide +kernel
theorem dX5_note_26 : decode cX5_note 26 = .ok (.iadd, 1) := by decide +kernel
theorem dX5_note_27 : decode cX5_note 27 = .ok (.putfield 27, 3) := by decide +kernel
theorem dX5_note_30 : decode cX5_note 30 = .ok (.return_, 1) := by decide +kernel
theorem dX6_init_0 : decode cX6_init 0 = .ok (.aload_n 0, 1) := by decide +kernel
theorem dX6_init_1 : decode cX6_init 1 = .ok (.invokespecial 1, 3) := by decide +kernel
theorem dX6_init_4 : decode cX6_init 4 = .ok (.return_, 1) := by decide +kernel
theorem dX6_reset_0 : decode cX6_reset 0 = .ok (.aload_n 0, 1) := by decide +kernel
theorem dX6_reset_1 : decode cX6_reset 1 = .ok (.iconst 0, 1) := by decide +kernel
theorem dX6_reset_2 : decode cX6_reset 2 = .ok (.putfield 7, 3) := by decide +kernel
theorem dX6_reset_5 : decode cX6_reset 5 = .ok (.aload_n 0, 1) := by decide +kernel
theorem dX6_reset_6 : decode cX6_reset 6 = .ok (.iconst 0, 1) := by decide +kernel
theorem dX6_reset_7 : decode cX6_reset 7 = .ok (.putfield 13, 3) := by decide +kernel
theorem dX6_reset_10 : decode cX6_reset 10 = .ok (.aload_n 0, 1) := by decide +kernel
theorem dX6_reset_11 : decode cX6_reset 11 = .ok (.iconst 0, 1) := by decide +kernel
theorem dX6_reset_12 : decode cX6_reset 12 = .ok (.putfield 16, 3) := by decide +kernel
theorem dX6_reset_15 : decode cX6_reset 15 = .ok (.aload_n 0, 1) := by decide +kernel
theorem dX6_reset_16 : decode cX6_reset 16 = .ok (.iconst 0, 1) := by decide +kernel
theorem dX6_reset_17 : decode cX6_reset 17 = .ok (.putfield 19, 3) := by decide +kernel
theorem dX6_reset_20 : decode cX6_reset 20 = .ok (.return_, 1) := by decide +kernel
theorem dX7_init_0 : decode cX7_init 0 = .ok (.aload_n 0, 1) := by decide +kernel
theorem dX7_init_1 : decode cX7_init 1 = .ok (.invokespecial 3, 3) := by decide +kernel
theorem dX7_init_4 : decode cX7_init 4 = .ok (.aload_n 0, 1) := by decide +kernel
theorem dX7_init_5 : decode cX7_init 5 = .ok (.new 9, 3) := by decide +kernel
theorem dX7_init_8 : decode cX7_init 8 = .ok (.dup, 1) := by decide +kernel
theorem dX7_init_9 : decode cX7_init 9 = .ok (.invokespecial 11, 3) := by decide +kernel
theorem dX7_init_12 : decode cX7_init 12 = .ok (.putfield 12, 3) := by decide +kernel
theorem dX7_init_15 : decode cX7_init 15 = .ok (.aload_n 0, 1) := by decide +kernel
theorem dX7_init_16 : decode cX7_init 16 = .ok (.new 18, 3) := by decide +kernel
theorem dX7_init_19 : decode cX7_init 19 = .ok (.dup, 1) := by decide +kernel
theorem dX7_init_20 : decode cX7_init 20 = .ok (.invokespecial 20, 3) := by decide +kernel
theorem dX7_init_23 : decode cX7_init 23 = .ok (.putfield 21, 3) := by decide +kernel
theorem dX7_init_26 : decode cX7_init 26 = .ok (.aload_n 0, 1) := by decide +kernel
