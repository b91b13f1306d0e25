theorem dX10_init_0 : decode cX10_init 0 = .ok (.aload_n 0, 1) := by decide +kernel
theorem dX10_init_1 : decode cX10_init 1 = .ok (.invokespecial 3, 3) := by decide +kernel
theorem dX10_init_4 : decode cX10_init 4 = .ok (.aload_n 0, 1) := by decide +kernel
theorem dX10_init_5 : decode cX10_init 5 = .ok (.new 9, 3) := by decide +kernel
theorem dX10_init_8 : decode cX10_init 8 = .ok (.dup, 1) := by decide +kernel
theorem dX10_init_9 : decode cX10_init 9 = .ok (.invokespecial 11, 3) := by decide +kernel
theorem dX10_init_12 : decode cX10_init 12 = .ok (.putfield 12, 3) := by decide +kernel
theorem dX10_init_15 : decode cX10_init 15 = .ok (.aload_n 0, 1) := by decide +kernel
theorem dX10_init_16 : decode cX10_init 16 = .ok (.new 16, 3) := by decide +kernel
theorem dX10_init_19 : decode cX10_init 19 = .ok (.dup, 1) := by decide +kernel
theorem dX10_init_20 : decode cX10_init 20 = .ok (.invokespecial 18, 3) := by decide +kernel
theorem dX10_init_23 : decode cX10_init 23 = .ok (.putfield 19, 3) := by decide +kernel
theorem dX10_init_26 : decode cX10_init 26 = .ok (.aload_n 0, 1) := by decide +kernel
theorem dX10_init_27 : decode cX10_init 27 = .ok (.new 23, 3) := by decide +kernel
theorem dX10_init_30 : decode cX10_init 30 = .ok (.dup, 1) := by decide +kernel
theorem dX10_init_31 : decode cX10_init 31 = .ok (.invokespecial 25, 3) := by decide +kernel
theorem dX10_init_34 : decode cX10_init 34 = .ok (.putfield 26, 3) := by decide +kernel
theorem dX10_init_37 : decode cX10_init 37 = .ok (.aload_n 0, 1) := by decide +kernel
theorem dX10_init_38 : decode cX10_init 38 = .ok (.new 30, 3) := by decide +kernel
theorem dX10_init_41 : decode cX10_init 41 = .ok (.dup, 1) := by decide +kernel
theorem dX10_init_42 : decode cX10_init 42 = .ok (.invokespecial 32, 3) := by decide +kernel
theorem dX10_init_45 : decode cX10_init 45 = .ok (.putfield 33, 3) := by decide +kernel
theorem dX10_init_48 : decode cX10_init 48 = .ok (.aload_n 0, 1) := by decide +kernel
theorem dX10_init_49 : decode cX10_init 49 = .ok (.new 37, 3) := by decide +kernel
theorem dX10_init_52 : decode cX10_init 52 = .ok (.dup, 1) := by decide +kernel
theorem dX10_init_53 : decode cX10_init 53 = .ok (.invokespecial 39, 3) := by decide +kernel
theorem dX10_init_56 : decode cX10_init 56 = .ok (.putfield 40, 3) := by decide +kernel
theorem dX10_init_59 : decode cX10_init 59 = .ok (.aload_n 0, 1) := by decide +kernel
theorem dX10_init_60 : decode cX10_init 60 = .ok (.new 44, 3) := by decide +kernel
theorem dX10_init_63 : decode cX10_init 63 = .ok (.dup, 1) := by decide +kernel
theorem dX10_init_64 : decode cX10_init 64 = .ok (.invokespecial 46, 3) := by decide +kernel
theorem dX10_init_67 : decode cX10_init 67 = .ok (.putfield 47, 3) := by decide +kernel
theorem dX10_init_70 : decode cX10_init 70 = .ok (.aload_n 0, 1) := by decide +kernel
theorem dX10_init_71 : decode cX10_init 71 = .ok (.new 51, 3) := by decide +kernel
theorem dX10_init_74 : decode cX10_init 74 = .ok (.dup, 1) := by decide +kernel
theorem dX10_init_75 : decode cX10_init 75 = .ok (.invokespecial 53, 3) := by decide +kernel
theorem dX10_init_78 : decode cX10_init 78 = .ok (.putfield 54, 3) := by decide +kernel
theorem dX10_init_81 : decode cX10_init 81 = .ok (.aload_n 0, 1) := by decide +kernel
theorem dX10_init_82 : decode cX10_init 82 = .ok (.iconst 4, 1) := by decide +kernel
theorem dX10_init_83 : decode cX10_init 83 = .ok (.anewarray 58, 3) := by decide +kernel
theorem dX10_init_86 : decode cX10_init 86 = .ok (.putfield 60, 3) := by decide +kernel
theorem dX10_init_89 : decode cX10_init 89 = .ok (.iconst 0, 1) := by decide +kernel
theorem dX10_init_90 : decode cX10_init 90 = .ok (.istore_n 1, 1) := by decide +kernel
theorem dX10_init_91 : decode cX10_init 91 = .ok (.iload_n 1, 1) := by decide +kernel
theorem dX10_init_92 : decode cX10_init 92 = .ok (.iconst 4, 1) := by decide +kernel
theorem dX10_init_93 : decode cX10_init 93 = .ok (.if_icmp .ge 22, 3) := by decide +kernel
theorem dX10_init_96 : decode cX10_init 96 = .ok (.aload_n 0, 1) := by decide +kernel
theorem dX10_init_97 : decode cX10_init 97 = .ok (.getfield 60, 3) := by decide +kernel
theorem dX10_init_100 : decode cX10_init 100 = .ok (.iload_n 1, 1) := by decide +kernel
theorem dX10_init_101 : decode cX10_init 101 = .ok (.new 58, 3) := by decide +kernel
theorem dX10_init_104 : decode cX10_init 104 = .ok (.dup, 1) := by decide +kernel
theorem dX10_init_105 : decode cX10_init 105 = .ok (.invokespecial 64, 3) := by decide +kernel
theorem dX10_init_108 : decode cX10_init 108 = .ok (.aastore, 1) := by decide +kernel
theorem dX10_init_109 : decode cX10_init 109 = .ok (.iinc 1 1, 3) := by decide +kernel
theorem dX10_init_112 : decode cX10_init 112 = .ok (.goto (-21), 3) := by decide +kernel
theorem dX10_init_115 : decode cX10_init 115 = .ok (.aload_n 0, 1) := by decide +kernel
theorem dX10_init_116 : decode cX10_init 116 = .ok (.iconst (-1), 1) := by decide +kernel
theorem dX10_init_117 : decode cX10_init 117 = .ok (.putfield 65, 3) := by decide +kernel
theorem dX10_init_120 : decode cX10_init 120 = .ok (.return_, 1) := by decide +kernel
theorem dX10_add_0 : decode cX10_add 0 = .ok (.iload_n 1, 1) := by decide +kernel
theorem dX10_add_1 : decode cX10_add 1 = .ok (.iload_n 2, 1) := by decide +kernel
theorem dX10_add_2 : decode cX10_add 2 = .ok (.invokestatic 69, 3) := by decide +kernel
theorem dX10_add_5 : decode cX10_add 5 = .ok (.ifCond .ne 13, 3) := by decide +kernel
theorem dX10_add_8 : decode cX10_add 8 = .ok (.new 73, 3) := by decide +kernel
theorem dX10_add_11 : decode cX10_add 11 = .ok (.dup, 1) := by decide +kernel
theorem dX10_add_12 : decode cX10_add 12 = .ok (.ldc 75, 2) := by decide +kernel
theorem dX10_add_14 : decode cX10_add 14 = .ok (.invokespecial 77, 3) := by decide +kernel
theorem dX10_add_17 : decode cX10_add 17 = .ok (.athrow, 1) := by decide +kernel
theorem dX10_add_18 : decode cX10_add 18 = .ok (.aload_n 0, 1) := by decide +kernel
theorem dX10_add_19 : decode cX10_add 19 = .ok (.getfield 80, 3) := by decide +kernel
theorem dX10_add_22 : decode cX10_add 22 = .ok (.ifCond .ne 15, 3) := by decide +kernel
theorem dX10_add_25 : decode cX10_add 25 = .ok (.aload_n 0, 1) := by decide +kernel
theorem dX10_add_26 : decode cX10_add 26 = .ok (.getfield 12, 3) := by decide +kernel
theorem dX10_add_29 : decode cX10_add 29 = .ok (.getfield 84, 3) := by decide +kernel
theorem dX10_add_32 : decode cX10_add 32 = .ok (.bipush 40, 2) := by decide +kernel
theorem dX10_add_34 : decode cX10_add 34 = .ok (.if_icmp .lt 13, 3) := by decide +kernel
theorem dX10_add_37 : decode cX10_add 37 = .ok (.new 87, 3) := by decide +kernel
theorem dX10_add_40 : decode cX10_add 40 = .ok (.dup, 1) := by decide +kernel
theorem dX10_add_41 : decode cX10_add 41 = .ok (.ldc 89, 2) := by decide +kernel
theorem dX10_add_43 : decode cX10_add 43 = .ok (.invokespecial 91, 3) := by decide +kernel
theorem dX10_add_46 : decode cX10_add 46 = .ok (.athrow, 1) := by decide +kernel
theorem dX10_add_47 : decode cX10_add 47 = .ok (.aload_n 0, 1) := by decide +kernel
theorem dX10_add_48 : decode cX10_add 48 = .ok (.getfield 12, 3) := by decide +kernel
theorem dX10_add_51 : decode cX10_add 51 = .ok (.iload_n 1, 1) := by decide +kernel
theorem dX10_add_52 : decode cX10_add 52 = .ok (.iload_n 2, 1) := by decide +kernel
theorem dX10_add_53 : decode cX10_add 53 = .ok (.invokevirtual 92, 3) := by decide +kernel
theorem dX10_add_56 : decode cX10_add 56 = .ok (.aload_n 0, 1) := by decide +kernel
theorem dX10_add_57 : decode cX10_add 57 = .ok (.getfield 12, 3) := by decide +kernel
theorem dX10_add_60 : decode cX10_add 60 = .ok (.getfield 84, 3) := by decide +kernel
theorem dX10_add_63 : decode cX10_add 63 = .ok (.ireturn, 1) := by decide +kernel
theorem dX10_begin_0 : decode cX10_begin 0 = .ok (.aload_n 0, 1) := by decide +kernel
theorem dX10_begin_1 : decode cX10_begin 1 = .ok (.getfield 12, 3) := by decide +kernel
theorem dX10_begin_4 : decode cX10_begin 4 = .ok (.invokevirtual 96, 3) := by decide +kernel
theorem dX10_begin_7 : decode cX10_begin 7 = .ok (.ifCond .ne 13, 3) := by decide +kernel
theorem dX10_begin_10 : decode cX10_begin 10 = .ok (.new 73, 3) := by decide +kernel
theorem dX10_begin_13 : decode cX10_begin 13 = .ok (.dup, 1) := by decide +kernel
theorem dX10_begin_14 : decode cX10_begin 14 = .ok (.ldc 100, 2) := by decide +kernel
theorem dX10_begin_16 : decode cX10_begin 16 = .ok (.invokespecial 77, 3) := by decide +kernel
theorem dX10_begin_19 : decode cX10_begin 19 = .ok (.athrow, 1) := by decide +kernel
theorem dX10_begin_20 : decode cX10_begin 20 = .ok (.aload_n 0, 1) := by decide +kernel
theorem dX10_begin_21 : decode cX10_begin 21 = .ok (.getfield 80, 3) := by decide +kernel
theorem dX10_begin_24 : decode cX10_begin 24 = .ok (.istore 4, 2) := by decide +kernel
theorem dX10_begin_26 : decode cX10_begin 26 = .ok (.aload_n 0, 1) := by decide +kernel
theorem dX10_begin_27 : decode cX10_begin 27 = .ok (.invokevirtual 102, 3) := by decide +kernel
theorem dX10_begin_30 : decode cX10_begin 30 = .ok (.aload_n 0, 1) := by decide +kernel
theorem dX10_begin_31 : decode cX10_begin 31 = .ok (.getfield 19, 3) := by decide +kernel
theorem dX10_begin_34 : decode cX10_begin 34 = .ok (.getfield 105, 3) := by decide +kernel
theorem dX10_begin_37 : decode cX10_begin 37 = .ok (.iconst 0, 1) := by decide +kernel
theorem dX10_begin_38 : decode cX10_begin 38 = .ok (.iload_n 1, 1) := by decide +kernel
theorem dX10_begin_39 : decode cX10_begin 39 = .ok (.iastore, 1) := by decide +kernel
theorem dX10_begin_40 : decode cX10_begin 40 = .ok (.aload_n 0, 1) := by decide +kernel
theorem dX10_begin_41 : decode cX10_begin 41 = .ok (.getfield 19, 3) := by decide +kernel
theorem dX10_begin_44 : decode cX10_begin 44 = .ok (.getfield 105, 3) := by decide +kernel
theorem dX10_begin_47 : decode cX10_begin 47 = .ok (.iconst 1, 1) := by decide +kernel
theorem dX10_begin_48 : decode cX10_begin 48 = .ok (.iload_n 2, 1) := by decide +kernel
theorem dX10_begin_49 : decode cX10_begin 49 = .ok (.iastore, 1) := by decide +kernel
theorem dX10_begin_50 : decode cX10_begin 50 = .ok (.aload_n 0, 1) := by decide +kernel
theorem dX10_begin_51 : decode cX10_begin 51 = .ok (.iload_n 3, 1) := by decide +kernel
theorem dX10_begin_52 : decode cX10_begin 52 = .ok (.putfield 109, 3) := by decide +kernel
theorem dX10_begin_55 : decode cX10_begin 55 = .ok (.aload_n 0, 1) := by decide +kernel
theorem dX10_begin_56 : decode cX10_begin 56 = .ok (.iconst 1, 1) := by decide +kernel
theorem dX10_begin_57 : decode cX10_begin 57 = .ok (.putfield 80, 3) := by decide +kernel
theorem dX10_begin_60 : decode cX10_begin 60 = .ok (.iload 4, 2) := by decide +kernel
theorem dX10_begin_62 : decode cX10_begin 62 = .ok (.ireturn, 1) := by decide +kernel
theorem dX10_run_0 : decode cX10_run 0 = .ok (.iload_n 1, 1) := by decide +kernel
theorem dX10_run_1 : decode cX10_run 1 = .ok (.iconst 1, 1) := by decide +kernel
theorem dX10_run_2 : decode cX10_run 2 = .ok (.if_icmp .lt 10, 3) := by decide +kernel
theorem dX10_run_5 : decode cX10_run 5 = .ok (.iload_n 1, 1) := by decide +kernel
theorem dX10_run_6 : decode cX10_run 6 = .ok (.sipush 500, 3) := by decide +kernel
theorem dX10_run_9 : decode cX10_run 9 = .ok (.if_icmp .le 13, 3) := by decide +kernel
theorem dX10_run_12 : decode cX10_run 12 = .ok (.new 73, 3) := by decide +kernel
theorem dX10_run_15 : decode cX10_run 15 = .ok (.dup, 1) := by decide +kernel
theorem dX10_run_16 : decode cX10_run 16 = .ok (.ldc 112, 2) := by decide +kernel
theorem dX10_run_18 : decode cX10_run 18 = .ok (.invokespecial 77, 3) := by decide +kernel
theorem dX10_run_21 : decode cX10_run 21 = .ok (.athrow, 1) := by decide +kernel
theorem dX10_run_22 : decode cX10_run 22 = .ok (.aload_n 0, 1) := by decide +kernel
theorem dX10_run_23 : decode cX10_run 23 = .ok (.getfield 80, 3) := by decide +kernel
theorem dX10_run_26 : decode cX10_run 26 = .ok (.ifCond .ne 13, 3) := by decide +kernel
theorem dX10_run_29 : decode cX10_run 29 = .ok (.new 87, 3) := by decide +kernel
theorem dX10_run_32 : decode cX10_run 32 = .ok (.dup, 1) := by decide +kernel
theorem dX10_run_33 : decode cX10_run 33 = .ok (.ldc 114, 2) := by decide +kernel
theorem dX10_run_35 : decode cX10_run 35 = .ok (.invokespecial 91, 3) := by decide +kernel
theorem dX10_run_38 : decode cX10_run 38 = .ok (.athrow, 1) := by decide +kernel
theorem dX10_run_39 : decode cX10_run 39 = .ok (.iconst 0, 1) := by decide +kernel
theorem dX10_run_40 : decode cX10_run 40 = .ok (.istore_n 2, 1) := by decide +kernel
theorem dX10_run_41 : decode cX10_run 41 = .ok (.iload_n 2, 1) := by decide +kernel
theorem dX10_run_42 : decode cX10_run 42 = .ok (.iload_n 1, 1) := by decide +kernel
theorem dX10_run_43 : decode cX10_run 43 = .ok (.if_icmp .ge 20, 3) := by decide +kernel
theorem dX10_run_46 : decode cX10_run 46 = .ok (.aload_n 0, 1) := by decide +kernel
theorem dX10_run_47 : decode cX10_run 47 = .ok (.getfield 116, 3) := by decide +kernel
theorem dX10_run_50 : decode cX10_run 50 = .ok (.ifCond .ne 13, 3) := by decide +kernel
theorem dX10_run_53 : decode cX10_run 53 = .ok (.aload_n 0, 1) := by decide +kernel
theorem dX10_run_54 : decode cX10_run 54 = .ok (.invokevirtual 119, 3) := by decide +kernel
theorem dX10_run_57 : decode cX10_run 57 = .ok (.iinc 2 1, 3) := by decide +kernel
theorem dX10_run_60 : decode cX10_run 60 = .ok (.goto (-19), 3) := by decide +kernel
theorem dX10_run_63 : decode cX10_run 63 = .ok (.iload_n 2, 1) := by decide +kernel
theorem dX10_run_64 : decode cX10_run 64 = .ok (.ireturn, 1) := by decide +kernel
theorem dX10_clear_0 : decode cX10_clear 0 = .ok (.aload_n 0, 1) := by decide +kernel
theorem dX10_clear_1 : decode cX10_clear 1 = .ok (.getfield 12, 3) := by decide +kernel
theorem dX10_clear_4 : decode cX10_clear 4 = .ok (.getfield 84, 3) := by decide +kernel
theorem dX10_clear_7 : decode cX10_clear 7 = .ok (.istore_n 1, 1) := by decide +kernel
theorem dX10_clear_8 : decode cX10_clear 8 = .ok (.aload_n 0, 1) := by decide +kernel
theorem dX10_clear_9 : decode cX10_clear 9 = .ok (.getfield 12, 3) := by decide +kernel
theorem dX10_clear_12 : decode cX10_clear 12 = .ok (.iconst 0, 1) := by decide +kernel
theorem dX10_clear_13 : decode cX10_clear 13 = .ok (.putfield 84, 3) := by decide +kernel
theorem dX10_clear_16 : decode cX10_clear 16 = .ok (.aload_n 0, 1) := by decide +kernel
theorem dX10_clear_17 : decode cX10_clear 17 = .ok (.invokevirtual 102, 3) := by decide +kernel
theorem dX10_clear_20 : decode cX10_clear 20 = .ok (.aload_n 0, 1) := by decide +kernel
theorem dX10_clear_21 : decode cX10_clear 21 = .ok (.iconst 0, 1) := by decide +kernel
theorem dX10_clear_22 : decode cX10_clear 22 = .ok (.putfield 80, 3) := by decide +kernel
theorem dX10_clear_25 : decode cX10_clear 25 = .ok (.iload_n 1, 1) := by decide +kernel
theorem dX10_clear_26 : decode cX10_clear 26 = .ok (.ireturn, 1) := by decide +kernel
theorem dX10_local_0 : decode cX10_local 0 = .ok (.iload_n 1, 1) := by decide +kernel
theorem dX10_local_1 : decode cX10_local 1 = .ok (.ifCond .lt 9, 3) := by decide +kernel
theorem dX10_local_4 : decode cX10_local 4 = .ok (.iload_n 1, 1) := by decide +kernel
theorem dX10_local_5 : decode cX10_local 5 = .ok (.bipush 6, 2) := by decide +kernel
theorem dX10_local_7 : decode cX10_local 7 = .ok (.if_icmp .lt 13, 3) := by decide +kernel
theorem dX10_local_10 : decode cX10_local 10 = .ok (.new 122, 3) := by decide +kernel
theorem dX10_local_13 : decode cX10_local 13 = .ok (.dup, 1) := by decide +kernel
theorem dX10_local_14 : decode cX10_local 14 = .ok (.ldc 124, 2) := by decide +kernel
theorem dX10_local_16 : decode cX10_local 16 = .ok (.invokespecial 126, 3) := by decide +kernel
theorem dX10_local_19 : decode cX10_local 19 = .ok (.athrow, 1) := by decide +kernel
theorem dX10_local_20 : decode cX10_local 20 = .ok (.aload_n 0, 1) := by decide +kernel
theorem dX10_local_21 : decode cX10_local 21 = .ok (.getfield 19, 3) := by decide +kernel
theorem dX10_local_24 : decode cX10_local 24 = .ok (.getfield 105, 3) := by decide +kernel
theorem dX10_local_27 : decode cX10_local 27 = .ok (.iload_n 1, 1) := by decide +kernel
theorem dX10_local_28 : decode cX10_local 28 = .ok (.iaload, 1) := by decide +kernel
theorem dX10_local_29 : decode cX10_local 29 = .ok (.ireturn, 1) := by decide +kernel
theorem dX10_top_0 : decode cX10_top 0 = .ok (.iload_n 1, 1) := by decide +kernel
theorem dX10_top_1 : decode cX10_top 1 = .ok (.ifCond .lt 14, 3) := by decide +kernel
theorem dX10_top_4 : decode cX10_top 4 = .ok (.iload_n 1, 1) := by decide +kernel
theorem dX10_top_5 : decode cX10_top 5 = .ok (.aload_n 0, 1) := by decide +kernel
theorem dX10_top_6 : decode cX10_top 6 = .ok (.getfield 19, 3) := by decide +kernel
theorem dX10_top_9 : decode cX10_top 9 = .ok (.getfield 127, 3) := by decide +kernel
theorem dX10_top_12 : decode cX10_top 12 = .ok (.if_icmp .lt 13, 3) := by decide +kernel
theorem dX10_top_15 : decode cX10_top 15 = .ok (.new 122, 3) := by decide +kernel
theorem dX10_top_18 : decode cX10_top 18 = .ok (.dup, 1) := by decide +kernel
theorem dX10_top_19 : decode cX10_top 19 = .ok (.ldc 130, 2) := by decide +kernel
theorem dX10_top_21 : decode cX10_top 21 = .ok (.invokespecial 126, 3) := by decide +kernel
theorem dX10_top_24 : decode cX10_top 24 = .ok (.athrow, 1) := by decide +kernel
theorem dX10_top_25 : decode cX10_top 25 = .ok (.aload_n 0, 1) := by decide +kernel
theorem dX10_top_26 : decode cX10_top 26 = .ok (.getfield 19, 3) := by decide +kernel
theorem dX10_top_29 : decode cX10_top 29 = .ok (.getfield 132, 3) := by decide +kernel
theorem dX10_top_32 : decode cX10_top 32 = .ok (.aload_n 0, 1) := by decide +kernel
theorem dX10_top_33 : decode cX10_top 33 = .ok (.getfield 19, 3) := by decide +kernel
theorem dX10_top_36 : decode cX10_top 36 = .ok (.getfield 127, 3) := by decide +kernel
theorem dX10_top_39 : decode cX10_top 39 = .ok (.iconst 1, 1) := by decide +kernel
theorem dX10_top_40 : decode cX10_top 40 = .ok (.isub, 1) := by decide +kernel
theorem dX10_top_41 : decode cX10_top 41 = .ok (.iload_n 1, 1) := by decide +kernel
theorem dX10_top_42 : decode cX10_top 42 = .ok (.isub, 1) := by decide +kernel
theorem dX10_top_43 : decode cX10_top 43 = .ok (.iaload, 1) := by decide +kernel
theorem dX10_top_44 : decode cX10_top 44 = .ok (.ireturn, 1) := by decide +kernel
theorem dX10_outs_0 : decode cX10_outs 0 = .ok (.aload_n 0, 1) := by decide +kernel
theorem dX10_outs_1 : decode cX10_outs 1 = .ok (.getfield 26, 3) := by decide +kernel
theorem dX10_outs_4 : decode cX10_outs 4 = .ok (.getfield 135, 3) := by decide +kernel
theorem dX10_outs_7 : decode cX10_outs 7 = .ok (.ireturn, 1) := by decide +kernel
theorem dX10_out_0 : decode cX10_out 0 = .ok (.aload_n 0, 1) := by decide +kernel
theorem dX10_out_1 : decode cX10_out 1 = .ok (.getfield 26, 3) := by decide +kernel
theorem dX10_out_4 : decode cX10_out 4 = .ok (.iload_n 1, 1) := by decide +kernel
theorem dX10_out_5 : decode cX10_out 5 = .ok (.invokevirtual 138, 3) := by decide +kernel
theorem dX10_out_8 : decode cX10_out 8 = .ok (.ifCond .ne 13, 3) := by decide +kernel
theorem dX10_out_11 : decode cX10_out 11 = .ok (.new 122, 3) := by decide +kernel
theorem dX10_out_14 : decode cX10_out 14 = .ok (.dup, 1) := by decide +kernel
theorem dX10_out_15 : decode cX10_out 15 = .ok (.ldc 142, 2) := by decide +kernel
theorem dX10_out_17 : decode cX10_out 17 = .ok (.invokespecial 126, 3) := by decide +kernel
theorem dX10_out_20 : decode cX10_out 20 = .ok (.athrow, 1) := by decide +kernel
theorem dX10_out_21 : decode cX10_out 21 = .ok (.aload_n 0, 1) := by decide +kernel
theorem dX10_out_22 : decode cX10_out 22 = .ok (.getfield 26, 3) := by decide +kernel
theorem dX10_out_25 : decode cX10_out 25 = .ok (.iload_n 1, 1) := by decide +kernel
theorem dX10_out_26 : decode cX10_out 26 = .ok (.invokevirtual 144, 3) := by decide +kernel
theorem dX10_out_29 : decode cX10_out 29 = .ok (.ireturn, 1) := by decide +kernel
theorem dX10_count_0 : decode cX10_count 0 = .ok (.iload_n 1, 1) := by decide +kernel
theorem dX10_count_1 : decode cX10_count 1 = .ok (.tableswitch 122 0 6 #[43, 69, 77, 85, 93, 101, 106], 43) := by decide +kernel
theorem dX10_count_44 : decode cX10_count 44 = .ok (.aload_n 0, 1) := by decide +kernel
theorem dX10_count_45 : decode cX10_count 45 = .ok (.getfield 80, 3) := by decide +kernel
theorem dX10_count_48 : decode cX10_count 48 = .ok (.ifCond .eq 20, 3) := by decide +kernel
theorem dX10_count_51 : decode cX10_count 51 = .ok (.aload_n 0, 1) := by decide +kernel
theorem dX10_count_52 : decode cX10_count 52 = .ok (.getfield 116, 3) := by decide +kernel
theorem dX10_count_55 : decode cX10_count 55 = .ok (.ifCond .ne 13, 3) := by decide +kernel
theorem dX10_count_58 : decode cX10_count 58 = .ok (.aload_n 0, 1) := by decide +kernel
theorem dX10_count_59 : decode cX10_count 59 = .ok (.getfield 19, 3) := by decide +kernel
theorem dX10_count_62 : decode cX10_count 62 = .ok (.getfield 148, 3) := by decide +kernel
theorem dX10_count_65 : decode cX10_count 65 = .ok (.goto 4, 3) := by decide +kernel
theorem dX10_count_68 : decode cX10_count 68 = .ok (.iconst (-1), 1) := by decide +kernel
theorem dX10_count_69 : decode cX10_count 69 = .ok (.ireturn, 1) := by decide +kernel
theorem dX10_count_70 : decode cX10_count 70 = .ok (.aload_n 0, 1) := by decide +kernel
theorem dX10_count_71 : decode cX10_count 71 = .ok (.getfield 33, 3) := by decide +kernel
theorem dX10_count_74 : decode cX10_count 74 = .ok (.getfield 151, 3) := by decide +kernel
theorem dX10_count_77 : decode cX10_count 77 = .ok (.ireturn, 1) := by decide +kernel
theorem dX10_count_78 : decode cX10_count 78 = .ok (.aload_n 0, 1) := by decide +kernel
theorem dX10_count_79 : decode cX10_count 79 = .ok (.getfield 33, 3) := by decide +kernel
theorem dX10_count_82 : decode cX10_count 82 = .ok (.getfield 154, 3) := by decide +kernel
theorem dX10_count_85 : decode cX10_count 85 = .ok (.ireturn, 1) := by decide +kernel
theorem dX10_count_86 : decode cX10_count 86 = .ok (.aload_n 0, 1) := by decide +kernel
theorem dX10_count_87 : decode cX10_count 87 = .ok (.getfield 33, 3) := by decide +kernel
theorem dX10_count_90 : decode cX10_count 90 = .ok (.getfield 157, 3) := by decide +kernel
theorem dX10_count_93 : decode cX10_count 93 = .ok (.ireturn, 1) := by decide +kernel
theorem dX10_count_94 : decode cX10_count 94 = .ok (.aload_n 0, 1) := by decide +kernel
theorem dX10_count_95 : decode cX10_count 95 = .ok (.getfield 33, 3) := by decide +kernel
theorem dX10_count_98 : decode cX10_count 98 = .ok (.getfield 160, 3) := by decide +kernel
theorem dX10_count_101 : decode cX10_count 101 = .ok (.ireturn, 1) := by decide +kernel
theorem dX10_count_102 : decode cX10_count 102 = .ok (.aload_n 0, 1) := by decide +kernel
theorem dX10_count_103 : decode cX10_count 103 = .ok (.getfield 163, 3) := by decide +kernel
theorem dX10_count_106 : decode cX10_count 106 = .ok (.ireturn, 1) := by decide +kernel
theorem dX10_count_107 : decode cX10_count 107 = .ok (.aload_n 0, 1) := by decide +kernel
theorem dX10_count_108 : decode cX10_count 108 = .ok (.getfield 47, 3) := by decide +kernel
theorem dX10_count_111 : decode cX10_count 111 = .ok (.invokevirtual 166, 3) := by decide +kernel
theorem dX10_count_114 : decode cX10_count 114 = .ok (.ifCond .eq 7, 3) := by decide +kernel
theorem dX10_count_117 : decode cX10_count 117 = .ok (.iconst 1, 1) := by decide +kernel
theorem dX10_count_118 : decode cX10_count 118 = .ok (.goto 4, 3) := by decide +kernel
theorem dX10_count_121 : decode cX10_count 121 = .ok (.iconst 0, 1) := by decide +kernel
theorem dX10_count_122 : decode cX10_count 122 = .ok (.ireturn, 1) := by decide +kernel
theorem dX10_count_123 : decode cX10_count 123 = .ok (.new 122, 3) := by decide +kernel
theorem dX10_count_126 : decode cX10_count 126 = .ok (.dup, 1) := by decide +kernel
theorem dX10_count_127 : decode cX10_count 127 = .ok (.ldc 169, 2) := by decide +kernel
theorem dX10_count_129 : decode cX10_count 129 = .ok (.invokespecial 126, 3) := by decide +kernel
theorem dX10_count_132 : decode cX10_count 132 = .ok (.athrow, 1) := by decide +kernel
theorem dX10_place_0 : decode cX10_place 0 = .ok (.iload_n 1, 1) := by decide +kernel
theorem dX10_place_1 : decode cX10_place 1 = .ok (.ifCond .lt 23, 3) := by decide +kernel
theorem dX10_place_4 : decode cX10_place 4 = .ok (.iload_n 1, 1) := by decide +kernel
theorem dX10_place_5 : decode cX10_place 5 = .ok (.aload_n 0, 1) := by decide +kernel
theorem dX10_place_6 : decode cX10_place 6 = .ok (.getfield 12, 3) := by decide +kernel
theorem dX10_place_9 : decode cX10_place 9 = .ok (.getfield 84, 3) := by decide +kernel
theorem dX10_place_12 : decode cX10_place 12 = .ok (.if_icmp .ge 12, 3) := by decide +kernel
theorem dX10_place_15 : decode cX10_place 15 = .ok (.iload_n 2, 1) := by decide +kernel
theorem dX10_place_16 : decode cX10_place 16 = .ok (.ifCond .lt 8, 3) := by decide +kernel
theorem dX10_place_19 : decode cX10_place 19 = .ok (.iload_n 2, 1) := by decide +kernel
theorem dX10_place_20 : decode cX10_place 20 = .ok (.iconst 1, 1) := by decide +kernel
theorem dX10_place_21 : decode cX10_place 21 = .ok (.if_icmp .le 13, 3) := by decide +kernel
theorem dX10_place_24 : decode cX10_place 24 = .ok (.new 122, 3) := by decide +kernel
theorem dX10_place_27 : decode cX10_place 27 = .ok (.dup, 1) := by decide +kernel
theorem dX10_place_28 : decode cX10_place 28 = .ok (.ldc 171, 2) := by decide +kernel
theorem dX10_place_30 : decode cX10_place 30 = .ok (.invokespecial 126, 3) := by decide +kernel
theorem dX10_place_33 : decode cX10_place 33 = .ok (.athrow, 1) := by decide +kernel
theorem dX10_place_34 : decode cX10_place 34 = .ok (.iload_n 2, 1) := by decide +kernel
theorem dX10_place_35 : decode cX10_place 35 = .ok (.ifCond .ne 15, 3) := by decide +kernel
theorem dX10_place_38 : decode cX10_place 38 = .ok (.aload_n 0, 1) := by decide +kernel
theorem dX10_place_39 : decode cX10_place 39 = .ok (.getfield 40, 3) := by decide +kernel
theorem dX10_place_42 : decode cX10_place 42 = .ok (.getfield 173, 3) := by decide +kernel
theorem dX10_place_45 : decode cX10_place 45 = .ok (.iload_n 1, 1) := by decide +kernel
theorem dX10_place_46 : decode cX10_place 46 = .ok (.iaload, 1) := by decide +kernel
theorem dX10_place_47 : decode cX10_place 47 = .ok (.goto 12, 3) := by decide +kernel
theorem dX10_place_50 : decode cX10_place 50 = .ok (.aload_n 0, 1) := by decide +kernel
theorem dX10_place_51 : decode cX10_place 51 = .ok (.getfield 40, 3) := by decide +kernel
theorem dX10_place_54 : decode cX10_place 54 = .ok (.getfield 176, 3) := by decide +kernel
theorem dX10_place_57 : decode cX10_place 57 = .ok (.iload_n 1, 1) := by decide +kernel
theorem dX10_place_58 : decode cX10_place 58 = .ok (.iaload, 1) := by decide +kernel
theorem dX10_place_59 : decode cX10_place 59 = .ok (.ireturn, 1) := by decide +kernel
theorem dX10_trace_0 : decode cX10_trace 0 = .ok (.iload_n 1, 1) := by decide +kernel
theorem dX10_trace_1 : decode cX10_trace 1 = .ok (.ifCond .lt 11, 3) := by decide +kernel
theorem dX10_trace_4 : decode cX10_trace 4 = .ok (.iload_n 1, 1) := by decide +kernel
theorem dX10_trace_5 : decode cX10_trace 5 = .ok (.aload_n 0, 1) := by decide +kernel
theorem dX10_trace_6 : decode cX10_trace 6 = .ok (.getfield 163, 3) := by decide +kernel
theorem dX10_trace_9 : decode cX10_trace 9 = .ok (.if_icmp .lt 13, 3) := by decide +kernel
theorem dX10_trace_12 : decode cX10_trace 12 = .ok (.new 122, 3) := by decide +kernel
theorem dX10_trace_15 : decode cX10_trace 15 = .ok (.dup, 1) := by decide +kernel
theorem dX10_trace_16 : decode cX10_trace 16 = .ok (.ldc 179, 2) := by decide +kernel
theorem dX10_trace_18 : decode cX10_trace 18 = .ok (.invokespecial 126, 3) := by decide +kernel
theorem dX10_trace_21 : decode cX10_trace 21 = .ok (.athrow, 1) := by decide +kernel
theorem dX10_trace_22 : decode cX10_trace 22 = .ok (.aload_n 0, 1) := by decide +kernel
theorem dX10_trace_23 : decode cX10_trace 23 = .ok (.getfield 60, 3) := by decide +kernel
theorem dX10_trace_26 : decode cX10_trace 26 = .ok (.iload_n 1, 1) := by decide +kernel
theorem dX10_trace_27 : decode cX10_trace 27 = .ok (.aaload, 1) := by decide +kernel
theorem dX10_trace_28 : decode cX10_trace 28 = .ok (.astore_n 3, 1) := by decide +kernel
theorem dX10_trace_29 : decode cX10_trace 29 = .ok (.iload_n 2, 1) := by decide +kernel
theorem dX10_trace_30 : decode cX10_trace 30 = .ok (.tableswitch 71 0 5 #[38, 43, 48, 53, 61, 66], 38) := by decide +kernel
theorem dX10_trace_68 : decode cX10_trace 68 = .ok (.aload_n 3, 1) := by decide +kernel
theorem dX10_trace_69 : decode cX10_trace 69 = .ok (.getfield 181, 3) := by decide +kernel
theorem dX10_trace_72 : decode cX10_trace 72 = .ok (.ireturn, 1) := by decide +kernel
theorem dX10_trace_73 : decode cX10_trace 73 = .ok (.aload_n 3, 1) := by decide +kernel
theorem dX10_trace_74 : decode cX10_trace 74 = .ok (.getfield 184, 3) := by decide +kernel
theorem dX10_trace_77 : decode cX10_trace 77 = .ok (.ireturn, 1) := by decide +kernel
theorem dX10_trace_78 : decode cX10_trace 78 = .ok (.aload_n 3, 1) := by decide +kernel
theorem dX10_trace_79 : decode cX10_trace 79 = .ok (.invokevirtual 187, 3) := by decide +kernel
theorem dX10_trace_82 : decode cX10_trace 82 = .ok (.ireturn, 1) := by decide +kernel
theorem dX10_trace_83 : decode cX10_trace 83 = .ok (.aload_n 3, 1) := by decide +kernel
theorem dX10_trace_84 : decode cX10_trace 84 = .ok (.getfield 191, 3) := by decide +kernel
theorem dX10_trace_87 : decode cX10_trace 87 = .ok (.getfield 195, 3) := by decide +kernel
theorem dX10_trace_90 : decode cX10_trace 90 = .ok (.ireturn, 1) := by decide +kernel
theorem dX10_trace_91 : decode cX10_trace 91 = .ok (.aload_n 3, 1) := by decide +kernel
theorem dX10_trace_92 : decode cX10_trace 92 = .ok (.getfield 198, 3) := by decide +kernel
theorem dX10_trace_95 : decode cX10_trace 95 = .ok (.ireturn, 1) := by decide +kernel
theorem dX10_trace_96 : decode cX10_trace 96 = .ok (.aload_n 3, 1) := by decide +kernel
theorem dX10_trace_97 : decode cX10_trace 97 = .ok (.invokevirtual 201, 3) := by decide +kernel
theorem dX10_trace_100 : decode cX10_trace 100 = .ok (.ireturn, 1) := by decide +kernel
theorem dX10_trace_101 : decode cX10_trace 101 = .ok (.new 122, 3) := by decide +kernel
theorem dX10_trace_104 : decode cX10_trace 104 = .ok (.dup, 1) := by decide +kernel
theorem dX10_trace_105 : decode cX10_trace 105 = .ok (.ldc 204, 2) := by decide +kernel
theorem dX10_trace_107 : decode cX10_trace 107 = .ok (.invokespecial 126, 3) := by decide +kernel
theorem dX10_trace_110 : decode cX10_trace 110 = .ok (.athrow, 1) := by decide +kernel
theorem dX10_forgetProgram_0 : decode cX10_forgetProgram 0 = .ok (.aload_n 0, 1) := by decide +kernel
theorem dX10_forgetProgram_1 : decode cX10_forgetProgram 1 = .ok (.getfield 19, 3) := by decide +kernel
theorem dX10_forgetProgram_4 : decode cX10_forgetProgram 4 = .ok (.invokevirtual 206, 3) := by decide +kernel
theorem dX10_forgetProgram_7 : decode cX10_forgetProgram 7 = .ok (.aload_n 0, 1) := by decide +kernel
theorem dX10_forgetProgram_8 : decode cX10_forgetProgram 8 = .ok (.getfield 26, 3) := by decide +kernel
theorem dX10_forgetProgram_11 : decode cX10_forgetProgram 11 = .ok (.invokevirtual 209, 3) := by decide +kernel
theorem dX10_forgetProgram_14 : decode cX10_forgetProgram 14 = .ok (.aload_n 0, 1) := by decide +kernel
theorem dX10_forgetProgram_15 : decode cX10_forgetProgram 15 = .ok (.getfield 33, 3) := by decide +kernel
theorem dX10_forgetProgram_18 : decode cX10_forgetProgram 18 = .ok (.invokevirtual 210, 3) := by decide +kernel
theorem dX10_forgetProgram_21 : decode cX10_forgetProgram 21 = .ok (.aload_n 0, 1) := by decide +kernel
theorem dX10_forgetProgram_22 : decode cX10_forgetProgram 22 = .ok (.getfield 40, 3) := by decide +kernel
theorem dX10_forgetProgram_25 : decode cX10_forgetProgram 25 = .ok (.invokevirtual 211, 3) := by decide +kernel
theorem dX10_forgetProgram_28 : decode cX10_forgetProgram 28 = .ok (.aload_n 0, 1) := by decide +kernel
theorem dX10_forgetProgram_29 : decode cX10_forgetProgram 29 = .ok (.getfield 47, 3) := by decide +kernel
theorem dX10_forgetProgram_32 : decode cX10_forgetProgram 32 = .ok (.invokevirtual 212, 3) := by decide +kernel
theorem dX10_forgetProgram_35 : decode cX10_forgetProgram 35 = .ok (.aload_n 0, 1) := by decide +kernel
theorem dX10_forgetProgram_36 : decode cX10_forgetProgram 36 = .ok (.iconst 0, 1) := by decide +kernel
theorem dX10_forgetProgram_37 : decode cX10_forgetProgram 37 = .ok (.putfield 163, 3) := by decide +kernel
theorem dX10_forgetProgram_40 : decode cX10_forgetProgram 40 = .ok (.aload_n 0, 1) := by decide +kernel
theorem dX10_forgetProgram_41 : decode cX10_forgetProgram 41 = .ok (.iconst 0, 1) := by decide +kernel
theorem dX10_forgetProgram_42 : decode cX10_forgetProgram 42 = .ok (.putfield 116, 3) := by decide +kernel
theorem dX10_forgetProgram_45 : decode cX10_forgetProgram 45 = .ok (.aload_n 0, 1) := by decide +kernel
theorem dX10_forgetProgram_46 : decode cX10_forgetProgram 46 = .ok (.iconst (-1), 1) := by decide +kernel
theorem dX10_forgetProgram_47 : decode cX10_forgetProgram 47 = .ok (.putfield 65, 3) := by decide +kernel
theorem dX10_forgetProgram_50 : decode cX10_forgetProgram 50 = .ok (.return_, 1) := by decide +kernel
theorem dX10_step_0 : decode cX10_step 0 = .ok (.aload_n 0, 1) := by decide +kernel
theorem dX10_step_1 : decode cX10_step 1 = .ok (.getfield 47, 3) := by decide +kernel
theorem dX10_step_4 : decode cX10_step 4 = .ok (.invokevirtual 215, 3) := by decide +kernel
theorem dX10_step_7 : decode cX10_step 7 = .ok (.ifCond .eq 7, 3) := by decide +kernel
theorem dX10_step_10 : decode cX10_step 10 = .ok (.aload_n 0, 1) := by decide +kernel
theorem dX10_step_11 : decode cX10_step 11 = .ok (.invokevirtual 218, 3) := by decide +kernel
theorem dX10_step_14 : decode cX10_step 14 = .ok (.aload_n 0, 1) := by decide +kernel
theorem dX10_step_15 : decode cX10_step 15 = .ok (.getfield 47, 3) := by decide +kernel
theorem dX10_step_18 : decode cX10_step 18 = .ok (.invokevirtual 166, 3) := by decide +kernel
theorem dX10_step_21 : decode cX10_step 21 = .ok (.ifCond .eq 7, 3) := by decide +kernel
theorem dX10_step_24 : decode cX10_step 24 = .ok (.iconst (-1), 1) := by decide +kernel
theorem dX10_step_25 : decode cX10_step 25 = .ok (.goto 18, 3) := by decide +kernel
theorem dX10_step_28 : decode cX10_step 28 = .ok (.aload_n 0, 1) := by decide +kernel
theorem dX10_step_29 : decode cX10_step 29 = .ok (.getfield 40, 3) := by decide +kernel
theorem dX10_step_32 : decode cX10_step 32 = .ok (.getfield 221, 3) := by decide +kernel
theorem dX10_step_35 : decode cX10_step 35 = .ok (.aload_n 0, 1) := by decide +kernel
theorem dX10_step_36 : decode cX10_step 36 = .ok (.getfield 19, 3) := by decide +kernel
theorem dX10_step_39 : decode cX10_step 39 = .ok (.getfield 148, 3) := by decide +kernel
theorem dX10_step_42 : decode cX10_step 42 = .ok (.iaload, 1) := by decide +kernel
theorem dX10_step_43 : decode cX10_step 43 = .ok (.istore_n 1, 1) := by decide +kernel
theorem dX10_step_44 : decode cX10_step 44 = .ok (.iload_n 1, 1) := by decide +kernel
theorem dX10_step_45 : decode cX10_step 45 = .ok (.iconst (-1), 1) := by decide +kernel
theorem dX10_step_46 : decode cX10_step 46 = .ok (.if_icmp .ne 10, 3) := by decide +kernel
theorem dX10_step_49 : decode cX10_step 49 = .ok (.aload_n 0, 1) := by decide +kernel
theorem dX10_step_50 : decode cX10_step 50 = .ok (.invokevirtual 224, 3) := by decide +kernel
theorem dX10_step_53 : decode cX10_step 53 = .ok (.goto 8, 3) := by decide +kernel
theorem dX10_step_56 : decode cX10_step 56 = .ok (.aload_n 0, 1) := by decide +kernel
theorem dX10_step_57 : decode cX10_step 57 = .ok (.iload_n 1, 1) := by decide +kernel
theorem dX10_step_58 : decode cX10_step 58 = .ok (.invokevirtual 227, 3) := by decide +kernel
theorem dX10_step_61 : decode cX10_step 61 = .ok (.aload_n 0, 1) := by decide +kernel
theorem dX10_step_62 : decode cX10_step 62 = .ok (.getfield 47, 3) := by decide +kernel
theorem dX10_step_65 : decode cX10_step 65 = .ok (.aload_n 0, 1) := by decide +kernel
theorem dX10_step_66 : decode cX10_step 66 = .ok (.getfield 19, 3) := by decide +kernel
theorem dX10_step_69 : decode cX10_step 69 = .ok (.getfield 148, 3) := by decide +kernel
theorem dX10_step_72 : decode cX10_step 72 = .ok (.invokevirtual 231, 3) := by decide +kernel
theorem dX10_step_75 : decode cX10_step 75 = .ok (.ifCond .eq 7, 3) := by decide +kernel
theorem dX10_step_78 : decode cX10_step 78 = .ok (.aload_n 0, 1) := by decide +kernel
theorem dX10_step_79 : decode cX10_step 79 = .ok (.invokevirtual 234, 3) := by decide +kernel
theorem dX10_step_82 : decode cX10_step 82 = .ok (.return_, 1) := by decide +kernel
theorem dX10_takeTurn_0 : decode cX10_takeTurn 0 = .ok (.aload_n 0, 1) := by decide +kernel
theorem dX10_takeTurn_1 : decode cX10_takeTurn 1 = .ok (.getfield 60, 3) := by decide +kernel
theorem dX10_takeTurn_4 : decode cX10_takeTurn 4 = .ok (.iload_n 1, 1) := by decide +kernel
theorem dX10_takeTurn_5 : decode cX10_takeTurn 5 = .ok (.aaload, 1) := by decide +kernel
theorem dX10_takeTurn_6 : decode cX10_takeTurn 6 = .ok (.astore_n 2, 1) := by decide +kernel
theorem dX10_takeTurn_7 : decode cX10_takeTurn 7 = .ok (.aload_n 2, 1) := by decide +kernel
theorem dX10_takeTurn_8 : decode cX10_takeTurn 8 = .ok (.getfield 237, 3) := by decide +kernel
theorem dX10_takeTurn_11 : decode cX10_takeTurn 11 = .ok (.aload_n 0, 1) := by decide +kernel
theorem dX10_takeTurn_12 : decode cX10_takeTurn 12 = .ok (.getfield 19, 3) := by decide +kernel
theorem dX10_takeTurn_15 : decode cX10_takeTurn 15 = .ok (.getfield 105, 3) := by decide +kernel
theorem dX10_takeTurn_18 : decode cX10_takeTurn 18 = .ok (.invokevirtual 241, 3) := by decide +kernel
theorem dX10_takeTurn_21 : decode cX10_takeTurn 21 = .ok (.iload_n 1, 1) := by decide +kernel
theorem dX10_takeTurn_22 : decode cX10_takeTurn 22 = .ok (.aload_n 0, 1) := by decide +kernel
theorem dX10_takeTurn_23 : decode cX10_takeTurn 23 = .ok (.getfield 65, 3) := by decide +kernel
theorem dX10_takeTurn_26 : decode cX10_takeTurn 26 = .ok (.if_icmp .eq 11, 3) := by decide +kernel
theorem dX10_takeTurn_29 : decode cX10_takeTurn 29 = .ok (.aload_n 2, 1) := by decide +kernel
theorem dX10_takeTurn_30 : decode cX10_takeTurn 30 = .ok (.aload_n 0, 1) := by decide +kernel
theorem dX10_takeTurn_31 : decode cX10_takeTurn 31 = .ok (.getfield 33, 3) := by decide +kernel
theorem dX10_takeTurn_34 : decode cX10_takeTurn 34 = .ok (.invokevirtual 247, 3) := by decide +kernel
theorem dX10_takeTurn_37 : decode cX10_takeTurn 37 = .ok (.aload_n 2, 1) := by decide +kernel
theorem dX10_takeTurn_38 : decode cX10_takeTurn 38 = .ok (.aload_n 0, 1) := by decide +kernel
theorem dX10_takeTurn_39 : decode cX10_takeTurn 39 = .ok (.getfield 19, 3) := by decide +kernel
theorem dX10_takeTurn_42 : decode cX10_takeTurn 42 = .ok (.aload_n 0, 1) := by decide +kernel
theorem dX10_takeTurn_43 : decode cX10_takeTurn 43 = .ok (.getfield 26, 3) := by decide +kernel
theorem dX10_takeTurn_46 : decode cX10_takeTurn 46 = .ok (.aload_n 0, 1) := by decide +kernel
theorem dX10_takeTurn_47 : decode cX10_takeTurn 47 = .ok (.getfield 33, 3) := by decide +kernel
theorem dX10_takeTurn_50 : decode cX10_takeTurn 50 = .ok (.invokevirtual 251, 3) := by decide +kernel
theorem dX10_takeTurn_53 : decode cX10_takeTurn 53 = .ok (.istore_n 3, 1) := by decide +kernel
theorem dX10_takeTurn_54 : decode cX10_takeTurn 54 = .ok (.iload_n 3, 1) := by decide +kernel
theorem dX10_takeTurn_55 : decode cX10_takeTurn 55 = .ok (.ifCond .eq 19, 3) := by decide +kernel
theorem dX10_takeTurn_58 : decode cX10_takeTurn 58 = .ok (.aload_n 0, 1) := by decide +kernel
theorem dX10_takeTurn_59 : decode cX10_takeTurn 59 = .ok (.getfield 33, 3) := by decide +kernel
theorem dX10_takeTurn_62 : decode cX10_takeTurn 62 = .ok (.dup, 1) := by decide +kernel
theorem dX10_takeTurn_63 : decode cX10_takeTurn 63 = .ok (.getfield 154, 3) := by decide +kernel
theorem dX10_takeTurn_66 : decode cX10_takeTurn 66 = .ok (.iconst 1, 1) := by decide +kernel
theorem dX10_takeTurn_67 : decode cX10_takeTurn 67 = .ok (.iadd, 1) := by decide +kernel
theorem dX10_takeTurn_68 : decode cX10_takeTurn 68 = .ok (.putfield 154, 3) := by decide +kernel
theorem dX10_takeTurn_71 : decode cX10_takeTurn 71 = .ok (.goto 16, 3) := by decide +kernel
theorem dX10_takeTurn_74 : decode cX10_takeTurn 74 = .ok (.aload_n 0, 1) := by decide +kernel
theorem dX10_takeTurn_75 : decode cX10_takeTurn 75 = .ok (.getfield 33, 3) := by decide +kernel
theorem dX10_takeTurn_78 : decode cX10_takeTurn 78 = .ok (.dup, 1) := by decide +kernel
theorem dX10_takeTurn_79 : decode cX10_takeTurn 79 = .ok (.getfield 157, 3) := by decide +kernel
theorem dX10_takeTurn_82 : decode cX10_takeTurn 82 = .ok (.iconst 1, 1) := by decide +kernel
theorem dX10_takeTurn_83 : decode cX10_takeTurn 83 = .ok (.iadd, 1) := by decide +kernel
theorem dX10_takeTurn_84 : decode cX10_takeTurn 84 = .ok (.putfield 157, 3) := by decide +kernel
theorem dX10_takeTurn_87 : decode cX10_takeTurn 87 = .ok (.aload_n 0, 1) := by decide +kernel
theorem dX10_takeTurn_88 : decode cX10_takeTurn 88 = .ok (.iload_n 3, 1) := by decide +kernel
theorem dX10_takeTurn_89 : decode cX10_takeTurn 89 = .ok (.ifCond .eq 7, 3) := by decide +kernel
theorem dX10_takeTurn_92 : decode cX10_takeTurn 92 = .ok (.iload_n 1, 1) := by decide +kernel
theorem dX10_takeTurn_93 : decode cX10_takeTurn 93 = .ok (.goto 4, 3) := by decide +kernel
theorem dX10_takeTurn_96 : decode cX10_takeTurn 96 = .ok (.iconst (-1), 1) := by decide +kernel
theorem dX10_takeTurn_97 : decode cX10_takeTurn 97 = .ok (.putfield 65, 3) := by decide +kernel
theorem dX10_takeTurn_100 : decode cX10_takeTurn 100 = .ok (.return_, 1) := by decide +kernel
theorem dX10_interpret_0 : decode cX10_interpret 0 = .ok (.aload_n 0, 1) := by decide +kernel
theorem dX10_interpret_1 : decode cX10_interpret 1 = .ok (.getfield 19, 3) := by decide +kernel
theorem dX10_interpret_4 : decode cX10_interpret 4 = .ok (.getfield 148, 3) := by decide +kernel
theorem dX10_interpret_7 : decode cX10_interpret 7 = .ok (.istore_n 1, 1) := by decide +kernel
theorem dX10_interpret_8 : decode cX10_interpret 8 = .ok (.aload_n 0, 1) := by decide +kernel
theorem dX10_interpret_9 : decode cX10_interpret 9 = .ok (.aload_n 0, 1) := by decide +kernel
theorem dX10_interpret_10 : decode cX10_interpret 10 = .ok (.getfield 12, 3) := by decide +kernel
theorem dX10_interpret_13 : decode cX10_interpret 13 = .ok (.getfield 255, 3) := by decide +kernel
theorem dX10_interpret_16 : decode cX10_interpret 16 = .ok (.iload_n 1, 1) := by decide +kernel
theorem dX10_interpret_17 : decode cX10_interpret 17 = .ok (.iaload, 1) := by decide +kernel
theorem dX10_interpret_18 : decode cX10_interpret 18 = .ok (.aload_n 0, 1) := by decide +kernel
theorem dX10_interpret_19 : decode cX10_interpret 19 = .ok (.getfield 12, 3) := by decide +kernel
theorem dX10_interpret_22 : decode cX10_interpret 22 = .ok (.getfield 258, 3) := by decide +kernel
theorem dX10_interpret_25 : decode cX10_interpret 25 = .ok (.iload_n 1, 1) := by decide +kernel
theorem dX10_interpret_26 : decode cX10_interpret 26 = .ok (.iaload, 1) := by decide +kernel
theorem dX10_interpret_27 : decode cX10_interpret 27 = .ok (.invokevirtual 261, 3) := by decide +kernel
theorem dX10_interpret_30 : decode cX10_interpret 30 = .ok (.istore_n 2, 1) := by decide +kernel
theorem dX10_interpret_31 : decode cX10_interpret 31 = .ok (.aload_n 0, 1) := by decide +kernel
theorem dX10_interpret_32 : decode cX10_interpret 32 = .ok (.getfield 33, 3) := by decide +kernel
theorem dX10_interpret_35 : decode cX10_interpret 35 = .ok (.dup, 1) := by decide +kernel
theorem dX10_interpret_36 : decode cX10_interpret 36 = .ok (.getfield 151, 3) := by decide +kernel
theorem dX10_interpret_39 : decode cX10_interpret 39 = .ok (.iconst 1, 1) := by decide +kernel
theorem dX10_interpret_40 : decode cX10_interpret 40 = .ok (.iadd, 1) := by decide +kernel
theorem dX10_interpret_41 : decode cX10_interpret 41 = .ok (.putfield 151, 3) := by decide +kernel
theorem dX10_interpret_44 : decode cX10_interpret 44 = .ok (.aload_n 0, 1) := by decide +kernel
theorem dX10_interpret_45 : decode cX10_interpret 45 = .ok (.iconst (-1), 1) := by decide +kernel
theorem dX10_interpret_46 : decode cX10_interpret 46 = .ok (.putfield 65, 3) := by decide +kernel
theorem dX10_interpret_49 : decode cX10_interpret 49 = .ok (.aload_n 0, 1) := by decide +kernel
theorem dX10_interpret_50 : decode cX10_interpret 50 = .ok (.getfield 47, 3) := by decide +kernel
theorem dX10_interpret_53 : decode cX10_interpret 53 = .ok (.invokevirtual 166, 3) := by decide +kernel
theorem dX10_interpret_56 : decode cX10_interpret 56 = .ok (.ifCond .eq 15, 3) := by decide +kernel
theorem dX10_interpret_59 : decode cX10_interpret 59 = .ok (.aload_n 0, 1) := by decide +kernel
theorem dX10_interpret_60 : decode cX10_interpret 60 = .ok (.getfield 47, 3) := by decide +kernel
theorem dX10_interpret_63 : decode cX10_interpret 63 = .ok (.iload_n 1, 1) := by decide +kernel
theorem dX10_interpret_64 : decode cX10_interpret 64 = .ok (.iload_n 2, 1) := by decide +kernel
theorem dX10_interpret_65 : decode cX10_interpret 65 = .ok (.invokevirtual 264, 3) := by decide +kernel
theorem dX10_interpret_68 : decode cX10_interpret 68 = .ok (.goto 36, 3) := by decide +kernel
theorem dX10_interpret_71 : decode cX10_interpret 71 = .ok (.aload_n 0, 1) := by decide +kernel
theorem dX10_interpret_72 : decode cX10_interpret 72 = .ok (.getfield 109, 3) := by decide +kernel
theorem dX10_interpret_75 : decode cX10_interpret 75 = .ok (.ifCond .eq 29, 3) := by decide +kernel
theorem dX10_interpret_78 : decode cX10_interpret 78 = .ok (.iload_n 2, 1) := by decide +kernel
theorem dX10_interpret_79 : decode cX10_interpret 79 = .ok (.ifCond .eq 25, 3) := by decide +kernel
theorem dX10_interpret_82 : decode cX10_interpret 82 = .ok (.aload_n 0, 1) := by decide +kernel
theorem dX10_interpret_83 : decode cX10_interpret 83 = .ok (.getfield 19, 3) := by decide +kernel
theorem dX10_interpret_86 : decode cX10_interpret 86 = .ok (.getfield 148, 3) := by decide +kernel
theorem dX10_interpret_89 : decode cX10_interpret 89 = .ok (.iload_n 1, 1) := by decide +kernel
theorem dX10_interpret_90 : decode cX10_interpret 90 = .ok (.if_icmp .gt 14, 3) := by decide +kernel
theorem dX10_interpret_93 : decode cX10_interpret 93 = .ok (.aload_n 0, 1) := by decide +kernel
theorem dX10_interpret_94 : decode cX10_interpret 94 = .ok (.aload_n 0, 1) := by decide +kernel
theorem dX10_interpret_95 : decode cX10_interpret 95 = .ok (.getfield 19, 3) := by decide +kernel
theorem dX10_interpret_98 : decode cX10_interpret 98 = .ok (.getfield 148, 3) := by decide +kernel
theorem dX10_interpret_101 : decode cX10_interpret 101 = .ok (.invokevirtual 268, 3) := by decide +kernel
theorem dX10_interpret_104 : decode cX10_interpret 104 = .ok (.return_, 1) := by decide +kernel
theorem dX10_execute_0 : decode cX10_execute 0 = .ok (.aload_n 0, 1) := by decide +kernel
theorem dX10_execute_1 : decode cX10_execute 1 = .ok (.getfield 19, 3) := by decide +kernel
theorem dX10_execute_4 : decode cX10_execute 4 = .ok (.dup, 1) := by decide +kernel
theorem dX10_execute_5 : decode cX10_execute 5 = .ok (.getfield 148, 3) := by decide +kernel
theorem dX10_execute_8 : decode cX10_execute 8 = .ok (.iconst 1, 1) := by decide +kernel
theorem dX10_execute_9 : decode cX10_execute 9 = .ok (.iadd, 1) := by decide +kernel
theorem dX10_execute_10 : decode cX10_execute 10 = .ok (.putfield 148, 3) := by decide +kernel
theorem dX10_execute_13 : decode cX10_execute 13 = .ok (.iload_n 1, 1) := by decide +kernel
theorem dX10_execute_14 : decode cX10_execute 14 = .ok (.tableswitch 196 0 15 #[78, 196, 196, 88, 88, 88, 88, 88, 88, 196, 196, 196, 121, 137, 147, 190], 78) := by decide +kernel
theorem dX10_execute_92 : decode cX10_execute 92 = .ok (.aload_n 0, 1) := by decide +kernel
theorem dX10_execute_93 : decode cX10_execute 93 = .ok (.getfield 19, 3) := by decide +kernel
theorem dX10_execute_96 : decode cX10_execute 96 = .ok (.iload_n 2, 1) := by decide +kernel
theorem dX10_execute_97 : decode cX10_execute 97 = .ok (.invokevirtual 271, 3) := by decide +kernel
theorem dX10_execute_100 : decode cX10_execute 100 = .ok (.iconst 0, 1) := by decide +kernel
theorem dX10_execute_101 : decode cX10_execute 101 = .ok (.ireturn, 1) := by decide +kernel
theorem dX10_execute_102 : decode cX10_execute 102 = .ok (.aload_n 0, 1) := by decide +kernel
theorem dX10_execute_103 : decode cX10_execute 103 = .ok (.getfield 19, 3) := by decide +kernel
theorem dX10_execute_106 : decode cX10_execute 106 = .ok (.invokevirtual 274, 3) := by decide +kernel
theorem dX10_execute_109 : decode cX10_execute 109 = .ok (.istore_n 3, 1) := by decide +kernel
theorem dX10_execute_110 : decode cX10_execute 110 = .ok (.aload_n 0, 1) := by decide +kernel
theorem dX10_execute_111 : decode cX10_execute 111 = .ok (.getfield 19, 3) := by decide +kernel
theorem dX10_execute_114 : decode cX10_execute 114 = .ok (.invokevirtual 274, 3) := by decide +kernel
theorem dX10_execute_117 : decode cX10_execute 117 = .ok (.istore 4, 2) := by decide +kernel
theorem dX10_execute_119 : decode cX10_execute 119 = .ok (.aload_n 0, 1) := by decide +kernel
theorem dX10_execute_120 : decode cX10_execute 120 = .ok (.getfield 19, 3) := by decide +kernel
theorem dX10_execute_123 : decode cX10_execute 123 = .ok (.iload_n 1, 1) := by decide +kernel
theorem dX10_execute_124 : decode cX10_execute 124 = .ok (.iload 4, 2) := by decide +kernel
theorem dX10_execute_126 : decode cX10_execute 126 = .ok (.iload_n 3, 1) := by decide +kernel
theorem dX10_execute_127 : decode cX10_execute 127 = .ok (.invokestatic 277, 3) := by decide +kernel
theorem dX10_execute_130 : decode cX10_execute 130 = .ok (.invokevirtual 271, 3) := by decide +kernel
theorem dX10_execute_133 : decode cX10_execute 133 = .ok (.iconst 0, 1) := by decide +kernel
theorem dX10_execute_134 : decode cX10_execute 134 = .ok (.ireturn, 1) := by decide +kernel
theorem dX10_execute_135 : decode cX10_execute 135 = .ok (.aload_n 0, 1) := by decide +kernel
theorem dX10_execute_136 : decode cX10_execute 136 = .ok (.getfield 26, 3) := by decide +kernel
theorem dX10_execute_139 : decode cX10_execute 139 = .ok (.aload_n 0, 1) := by decide +kernel
theorem dX10_execute_140 : decode cX10_execute 140 = .ok (.getfield 19, 3) := by decide +kernel
theorem dX10_execute_143 : decode cX10_execute 143 = .ok (.invokevirtual 274, 3) := by decide +kernel
theorem dX10_execute_146 : decode cX10_execute 146 = .ok (.invokevirtual 281, 3) := by decide +kernel
theorem dX10_execute_149 : decode cX10_execute 149 = .ok (.iconst 0, 1) := by decide +kernel
theorem dX10_execute_150 : decode cX10_execute 150 = .ok (.ireturn, 1) := by decide +kernel
theorem dX10_execute_151 : decode cX10_execute 151 = .ok (.aload_n 0, 1) := by decide +kernel
theorem dX10_execute_152 : decode cX10_execute 152 = .ok (.getfield 19, 3) := by decide +kernel
theorem dX10_execute_155 : decode cX10_execute 155 = .ok (.iload_n 2, 1) := by decide +kernel
theorem dX10_execute_156 : decode cX10_execute 156 = .ok (.putfield 148, 3) := by decide +kernel
theorem dX10_execute_159 : decode cX10_execute 159 = .ok (.iconst 1, 1) := by decide +kernel
theorem dX10_execute_160 : decode cX10_execute 160 = .ok (.ireturn, 1) := by decide +kernel
theorem dX10_execute_161 : decode cX10_execute 161 = .ok (.aload_n 0, 1) := by decide +kernel
theorem dX10_execute_162 : decode cX10_execute 162 = .ok (.getfield 19, 3) := by decide +kernel
theorem dX10_execute_165 : decode cX10_execute 165 = .ok (.invokevirtual 274, 3) := by decide +kernel
theorem dX10_execute_168 : decode cX10_execute 168 = .ok (.ifCond .eq 7, 3) := by decide +kernel
theorem dX10_execute_171 : decode cX10_execute 171 = .ok (.iconst 1, 1) := by decide +kernel
theorem dX10_execute_172 : decode cX10_execute 172 = .ok (.goto 4, 3) := by decide +kernel
theorem dX10_execute_175 : decode cX10_execute 175 = .ok (.iconst 0, 1) := by decide +kernel
theorem dX10_execute_176 : decode cX10_execute 176 = .ok (.istore 5, 2) := by decide +kernel
theorem dX10_execute_178 : decode cX10_execute 178 = .ok (.aload_n 0, 1) := by decide +kernel
theorem dX10_execute_179 : decode cX10_execute 179 = .ok (.getfield 19, 3) := by decide +kernel
theorem dX10_execute_182 : decode cX10_execute 182 = .ok (.iload 5, 2) := by decide +kernel
theorem dX10_execute_184 : decode cX10_execute 184 = .ok (.ifCond .eq 7, 3) := by decide +kernel
theorem dX10_execute_187 : decode cX10_execute 187 = .ok (.iload_n 2, 1) := by decide +kernel
theorem dX10_execute_188 : decode cX10_execute 188 = .ok (.goto 10, 3) := by decide +kernel
theorem dX10_execute_191 : decode cX10_execute 191 = .ok (.aload_n 0, 1) := by decide +kernel
theorem dX10_execute_192 : decode cX10_execute 192 = .ok (.getfield 19, 3) := by decide +kernel
theorem dX10_execute_195 : decode cX10_execute 195 = .ok (.getfield 148, 3) := by decide +kernel
theorem dX10_execute_198 : decode cX10_execute 198 = .ok (.putfield 148, 3) := by decide +kernel
theorem dX10_execute_201 : decode cX10_execute 201 = .ok (.iload 5, 2) := by decide +kernel
theorem dX10_execute_203 : decode cX10_execute 203 = .ok (.ireturn, 1) := by decide +kernel
theorem dX10_execute_204 : decode cX10_execute 204 = .ok (.aload_n 0, 1) := by decide +kernel
theorem dX10_execute_205 : decode cX10_execute 205 = .ok (.invokevirtual 284, 3) := by decide +kernel
theorem dX10_execute_208 : decode cX10_execute 208 = .ok (.iconst 0, 1) := by decide +kernel
theorem dX10_execute_209 : decode cX10_execute 209 = .ok (.ireturn, 1) := by decide +kernel
theorem dX10_execute_210 : decode cX10_execute 210 = .ok (.aload_n 0, 1) := by decide +kernel
theorem dX10_execute_211 : decode cX10_execute 211 = .ok (.getfield 19, 3) := by decide +kernel
theorem dX10_execute_214 : decode cX10_execute 214 = .ok (.iload_n 1, 1) := by decide +kernel
theorem dX10_execute_215 : decode cX10_execute 215 = .ok (.iload_n 2, 1) := by decide +kernel
theorem dX10_execute_216 : decode cX10_execute 216 = .ok (.invokevirtual 287, 3) := by decide +kernel
theorem dX10_execute_219 : decode cX10_execute 219 = .ok (.iconst 0, 1) := by decide +kernel
theorem dX10_execute_220 : decode cX10_execute 220 = .ok (.ireturn, 1) := by decide +kernel
theorem dX10_halt_0 : decode cX10_halt 0 = .ok (.aload_n 0, 1) := by decide +kernel
theorem dX10_halt_1 : decode cX10_halt 1 = .ok (.iconst 1, 1) := by decide +kernel
theorem dX10_halt_2 : decode cX10_halt 2 = .ok (.putfield 116, 3) := by decide +kernel
theorem dX10_halt_5 : decode cX10_halt 5 = .ok (.aload_n 0, 1) := by decide +kernel
theorem dX10_halt_6 : decode cX10_halt 6 = .ok (.getfield 47, 3) := by decide +kernel
theorem dX10_halt_9 : decode cX10_halt 9 = .ok (.invokevirtual 166, 3) := by decide +kernel
theorem dX10_halt_12 : decode cX10_halt 12 = .ok (.ifCond .eq 7, 3) := by decide +kernel
theorem dX10_halt_15 : decode cX10_halt 15 = .ok (.aload_n 0, 1) := by decide +kernel
theorem dX10_halt_16 : decode cX10_halt 16 = .ok (.invokevirtual 218, 3) := by decide +kernel
theorem dX10_halt_19 : decode cX10_halt 19 = .ok (.return_, 1) := by decide +kernel
theorem dX10_countJumpTo_0 : decode cX10_countJumpTo 0 = .ok (.aload_n 0, 1) := by decide +kernel
theorem dX10_countJumpTo_1 : decode cX10_countJumpTo 1 = .ok (.getfield 40, 3) := by decide +kernel
theorem dX10_countJumpTo_4 : decode cX10_countJumpTo 4 = .ok (.getfield 176, 3) := by decide +kernel
theorem dX10_countJumpTo_7 : decode cX10_countJumpTo 7 = .ok (.iload_n 1, 1) := by decide +kernel
theorem dX10_countJumpTo_8 : decode cX10_countJumpTo 8 = .ok (.iaload, 1) := by decide +kernel
theorem dX10_countJumpTo_9 : decode cX10_countJumpTo 9 = .ok (.ifCond .eq 4, 3) := by decide +kernel
theorem dX10_countJumpTo_12 : decode cX10_countJumpTo 12 = .ok (.return_, 1) := by decide +kernel
theorem dX10_countJumpTo_13 : decode cX10_countJumpTo 13 = .ok (.aload_n 0, 1) := by decide +kernel
theorem dX10_countJumpTo_14 : decode cX10_countJumpTo 14 = .ok (.getfield 40, 3) := by decide +kernel
theorem dX10_countJumpTo_17 : decode cX10_countJumpTo 17 = .ok (.getfield 173, 3) := by decide +kernel
theorem dX10_countJumpTo_20 : decode cX10_countJumpTo 20 = .ok (.iload_n 1, 1) := by decide +kernel
theorem dX10_countJumpTo_21 : decode cX10_countJumpTo 21 = .ok (.dup2, 1) := by decide +kernel
theorem dX10_countJumpTo_22 : decode cX10_countJumpTo 22 = .ok (.iaload, 1) := by decide +kernel
theorem dX10_countJumpTo_23 : decode cX10_countJumpTo 23 = .ok (.iconst 1, 1) := by decide +kernel
theorem dX10_countJumpTo_24 : decode cX10_countJumpTo 24 = .ok (.iadd, 1) := by decide +kernel
theorem dX10_countJumpTo_25 : decode cX10_countJumpTo 25 = .ok (.iastore, 1) := by decide +kernel
theorem dX10_countJumpTo_26 : decode cX10_countJumpTo 26 = .ok (.aload_n 0, 1) := by decide +kernel
theorem dX10_countJumpTo_27 : decode cX10_countJumpTo 27 = .ok (.getfield 40, 3) := by decide +kernel
theorem dX10_countJumpTo_30 : decode cX10_countJumpTo 30 = .ok (.getfield 173, 3) := by decide +kernel
theorem dX10_countJumpTo_33 : decode cX10_countJumpTo 33 = .ok (.iload_n 1, 1) := by decide +kernel
theorem dX10_countJumpTo_34 : decode cX10_countJumpTo 34 = .ok (.iaload, 1) := by decide +kernel
theorem dX10_countJumpTo_35 : decode cX10_countJumpTo 35 = .ok (.iconst 3, 1) := by decide +kernel
theorem dX10_countJumpTo_36 : decode cX10_countJumpTo 36 = .ok (.if_icmp .ge 4, 3) := by decide +kernel
theorem dX10_countJumpTo_39 : decode cX10_countJumpTo 39 = .ok (.return_, 1) := by decide +kernel
theorem dX10_countJumpTo_40 : decode cX10_countJumpTo 40 = .ok (.aload_n 0, 1) := by decide +kernel
theorem dX10_countJumpTo_41 : decode cX10_countJumpTo 41 = .ok (.getfield 19, 3) := by decide +kernel
theorem dX10_countJumpTo_44 : decode cX10_countJumpTo 44 = .ok (.getfield 127, 3) := by decide +kernel
theorem dX10_countJumpTo_47 : decode cX10_countJumpTo 47 = .ok (.ifCond .ne 22, 3) := by decide +kernel
theorem dX10_countJumpTo_50 : decode cX10_countJumpTo 50 = .ok (.aload_n 0, 1) := by decide +kernel
theorem dX10_countJumpTo_51 : decode cX10_countJumpTo 51 = .ok (.getfield 163, 3) := by decide +kernel
theorem dX10_countJumpTo_54 : decode cX10_countJumpTo 54 = .ok (.iconst 4, 1) := by decide +kernel
theorem dX10_countJumpTo_55 : decode cX10_countJumpTo 55 = .ok (.if_icmp .ge 14, 3) := by decide +kernel
theorem dX10_countJumpTo_58 : decode cX10_countJumpTo 58 = .ok (.aload_n 0, 1) := by decide +kernel
theorem dX10_countJumpTo_59 : decode cX10_countJumpTo 59 = .ok (.getfield 47, 3) := by decide +kernel
theorem dX10_countJumpTo_62 : decode cX10_countJumpTo 62 = .ok (.iload_n 1, 1) := by decide +kernel
theorem dX10_countJumpTo_63 : decode cX10_countJumpTo 63 = .ok (.invokevirtual 290, 3) := by decide +kernel
theorem dX10_countJumpTo_66 : decode cX10_countJumpTo 66 = .ok (.goto 13, 3) := by decide +kernel
theorem dX10_countJumpTo_69 : decode cX10_countJumpTo 69 = .ok (.aload_n 0, 1) := by decide +kernel
theorem dX10_countJumpTo_70 : decode cX10_countJumpTo 70 = .ok (.getfield 40, 3) := by decide +kernel
theorem dX10_countJumpTo_73 : decode cX10_countJumpTo 73 = .ok (.getfield 176, 3) := by decide +kernel
theorem dX10_countJumpTo_76 : decode cX10_countJumpTo 76 = .ok (.iload_n 1, 1) := by decide +kernel
theorem dX10_countJumpTo_77 : decode cX10_countJumpTo 77 = .ok (.iconst 2, 1) := by decide +kernel
theorem dX10_countJumpTo_78 : decode cX10_countJumpTo 78 = .ok (.iastore, 1) := by decide +kernel
theorem dX10_countJumpTo_79 : decode cX10_countJumpTo 79 = .ok (.return_, 1) := by decide +kernel
theorem dX10_giveUpRecording_0 : decode cX10_giveUpRecording 0 = .ok (.aload_n 0, 1) := by decide +kernel
theorem dX10_giveUpRecording_1 : decode cX10_giveUpRecording 1 = .ok (.getfield 40, 3) := by decide +kernel
theorem dX10_giveUpRecording_4 : decode cX10_giveUpRecording 4 = .ok (.getfield 176, 3) := by decide +kernel
theorem dX10_giveUpRecording_7 : decode cX10_giveUpRecording 7 = .ok (.aload_n 0, 1) := by decide +kernel
theorem dX10_giveUpRecording_8 : decode cX10_giveUpRecording 8 = .ok (.getfield 47, 3) := by decide +kernel
theorem dX10_giveUpRecording_11 : decode cX10_giveUpRecording 11 = .ok (.getfield 293, 3) := by decide +kernel
theorem dX10_giveUpRecording_14 : decode cX10_giveUpRecording 14 = .ok (.iconst 2, 1) := by decide +kernel
theorem dX10_giveUpRecording_15 : decode cX10_giveUpRecording 15 = .ok (.iastore, 1) := by decide +kernel
theorem dX10_giveUpRecording_16 : decode cX10_giveUpRecording 16 = .ok (.aload_n 0, 1) := by decide +kernel
theorem dX10_giveUpRecording_17 : decode cX10_giveUpRecording 17 = .ok (.getfield 47, 3) := by decide +kernel
theorem dX10_giveUpRecording_20 : decode cX10_giveUpRecording 20 = .ok (.invokevirtual 212, 3) := by decide +kernel
theorem dX10_giveUpRecording_23 : decode cX10_giveUpRecording 23 = .ok (.return_, 1) := by decide +kernel
theorem dX10_keepTrace_0 : decode cX10_keepTrace 0 = .ok (.aload_n 0, 1) := by decide +kernel
theorem dX10_keepTrace_1 : decode cX10_keepTrace 1 = .ok (.getfield 54, 3) := by decide +kernel
theorem dX10_keepTrace_4 : decode cX10_keepTrace 4 = .ok (.aload_n 0, 1) := by decide +kernel
theorem dX10_keepTrace_5 : decode cX10_keepTrace 5 = .ok (.getfield 60, 3) := by decide +kernel
theorem dX10_keepTrace_8 : decode cX10_keepTrace 8 = .ok (.aload_n 0, 1) := by decide +kernel
theorem dX10_keepTrace_9 : decode cX10_keepTrace 9 = .ok (.getfield 163, 3) := by decide +kernel
theorem dX10_keepTrace_12 : decode cX10_keepTrace 12 = .ok (.aaload, 1) := by decide +kernel
theorem dX10_keepTrace_13 : decode cX10_keepTrace 13 = .ok (.aload_n 0, 1) := by decide +kernel
theorem dX10_keepTrace_14 : decode cX10_keepTrace 14 = .ok (.getfield 12, 3) := by decide +kernel
theorem dX10_keepTrace_17 : decode cX10_keepTrace 17 = .ok (.aload_n 0, 1) := by decide +kernel
theorem dX10_keepTrace_18 : decode cX10_keepTrace 18 = .ok (.getfield 47, 3) := by decide +kernel
theorem dX10_keepTrace_21 : decode cX10_keepTrace 21 = .ok (.invokevirtual 294, 3) := by decide +kernel
theorem dX10_keepTrace_24 : decode cX10_keepTrace 24 = .ok (.aload_n 0, 1) := by decide +kernel
theorem dX10_keepTrace_25 : decode cX10_keepTrace 25 = .ok (.getfield 40, 3) := by decide +kernel
theorem dX10_keepTrace_28 : decode cX10_keepTrace 28 = .ok (.getfield 176, 3) := by decide +kernel
theorem dX10_keepTrace_31 : decode cX10_keepTrace 31 = .ok (.aload_n 0, 1) := by decide +kernel
theorem dX10_keepTrace_32 : decode cX10_keepTrace 32 = .ok (.getfield 47, 3) := by decide +kernel
theorem dX10_keepTrace_35 : decode cX10_keepTrace 35 = .ok (.getfield 293, 3) := by decide +kernel
theorem dX10_keepTrace_38 : decode cX10_keepTrace 38 = .ok (.iconst 1, 1) := by decide +kernel
theorem dX10_keepTrace_39 : decode cX10_keepTrace 39 = .ok (.iastore, 1) := by decide +kernel
theorem dX10_keepTrace_40 : decode cX10_keepTrace 40 = .ok (.aload_n 0, 1) := by decide +kernel
theorem dX10_keepTrace_41 : decode cX10_keepTrace 41 = .ok (.getfield 40, 3) := by decide +kernel
theorem dX10_keepTrace_44 : decode cX10_keepTrace 44 = .ok (.getfield 221, 3) := by decide +kernel
theorem dX10_keepTrace_47 : decode cX10_keepTrace 47 = .ok (.aload_n 0, 1) := by decide +kernel
theorem dX10_keepTrace_48 : decode cX10_keepTrace 48 = .ok (.getfield 47, 3) := by decide +kernel
theorem dX10_keepTrace_51 : decode cX10_keepTrace 51 = .ok (.getfield 293, 3) := by decide +kernel
theorem dX10_keepTrace_54 : decode cX10_keepTrace 54 = .ok (.aload_n 0, 1) := by decide +kernel
theorem dX10_keepTrace_55 : decode cX10_keepTrace 55 = .ok (.getfield 163, 3) := by decide +kernel
theorem dX10_keepTrace_58 : decode cX10_keepTrace 58 = .ok (.iastore, 1) := by decide +kernel
theorem dX10_keepTrace_59 : decode cX10_keepTrace 59 = .ok (.aload_n 0, 1) := by decide +kernel
theorem dX10_keepTrace_60 : decode cX10_keepTrace 60 = .ok (.dup, 1) := by decide +kernel
theorem dX10_keepTrace_61 : decode cX10_keepTrace 61 = .ok (.getfield 163, 3) := by decide +kernel
theorem dX10_keepTrace_64 : decode cX10_keepTrace 64 = .ok (.iconst 1, 1) := by decide +kernel
theorem dX10_keepTrace_65 : decode cX10_keepTrace 65 = .ok (.iadd, 1) := by decide +kernel
theorem dX10_keepTrace_66 : decode cX10_keepTrace 66 = .ok (.putfield 163, 3) := by decide +kernel
theorem dX10_keepTrace_69 : decode cX10_keepTrace 69 = .ok (.aload_n 0, 1) := by decide +kernel
theorem dX10_keepTrace_70 : decode cX10_keepTrace 70 = .ok (.getfield 47, 3) := by decide +kernel
theorem dX10_keepTrace_73 : decode cX10_keepTrace 73 = .ok (.invokevirtual 212, 3) := by decide +kernel
theorem dX10_keepTrace_76 : decode cX10_keepTrace 76 = .ok (.return_, 1) := by decide +kernel
