theorem dX11_does_144 : decode cX11_does 144 = .ok (.invokevirtual 170, 3) := by decide +kernel
theorem dX11_does_147 : decode cX11_does 147 = .ok (.aload_n 0, 1) := by decide +kernel
theorem dX11_does_148 : decode cX11_does 148 = .ok (.iload 4, 2) := by decide +kernel
theorem dX11_does_150 : decode cX11_does 150 = .ok (.invokevirtual 170, 3) := by decide +kernel
theorem dX11_does_153 : decode cX11_does 153 = .ok (.iload_n 2, 1) := by decide +kernel
theorem dX11_does_154 : decode cX11_does 154 = .ok (.bipush 12, 2) := by decide +kernel
theorem dX11_does_156 : decode cX11_does 156 = .ok (.if_icmp .ne 11, 3) := by decide +kernel
theorem dX11_does_159 : decode cX11_does 159 = .ok (.aload_n 0, 1) := by decide +kernel
theorem dX11_does_160 : decode cX11_does 160 = .ok (.aload_n 0, 1) := by decide +kernel
theorem dX11_does_161 : decode cX11_does 161 = .ok (.invokevirtual 174, 3) := by decide +kernel
theorem dX11_does_164 : decode cX11_does 164 = .ok (.invokevirtual 182, 3) := by decide +kernel
theorem dX11_does_167 : decode cX11_does 167 = .ok (.iload_n 2, 1) := by decide +kernel
theorem dX11_does_168 : decode cX11_does 168 = .ok (.bipush 13, 2) := by decide +kernel
theorem dX11_does_170 : decode cX11_does 170 = .ok (.if_icmp .ne 10, 3) := by decide +kernel
theorem dX11_does_173 : decode cX11_does 173 = .ok (.aload_n 0, 1) := by decide +kernel
theorem dX11_does_174 : decode cX11_does 174 = .ok (.getfield 13, 3) := by decide +kernel
theorem dX11_does_177 : decode cX11_does 177 = .ok (.iload_n 1, 1) := by decide +kernel
theorem dX11_does_178 : decode cX11_does 178 = .ok (.iaload, 1) := by decide +kernel
theorem dX11_does_179 : decode cX11_does 179 = .ok (.ireturn, 1) := by decide +kernel
theorem dX11_does_180 : decode cX11_does 180 = .ok (.iload_n 2, 1) := by decide +kernel
theorem dX11_does_181 : decode cX11_does 181 = .ok (.bipush 14, 2) := by decide +kernel
theorem dX11_does_183 : decode cX11_does 183 = .ok (.if_icmp .ne 23, 3) := by decide +kernel
theorem dX11_does_186 : decode cX11_does 186 = .ok (.aload_n 0, 1) := by decide +kernel
theorem dX11_does_187 : decode cX11_does 187 = .ok (.invokevirtual 174, 3) := by decide +kernel
theorem dX11_does_190 : decode cX11_does 190 = .ok (.ifCond .eq 12, 3) := by decide +kernel
theorem dX11_does_193 : decode cX11_does 193 = .ok (.aload_n 0, 1) := by decide +kernel
theorem dX11_does_194 : decode cX11_does 194 = .ok (.getfield 13, 3) := by decide +kernel
theorem dX11_does_197 : decode cX11_does 197 = .ok (.iload_n 1, 1) := by decide +kernel
theorem dX11_does_198 : decode cX11_does 198 = .ok (.iaload, 1) := by decide +kernel
theorem dX11_does_199 : decode cX11_does 199 = .ok (.goto 6, 3) := by decide +kernel
theorem dX11_does_202 : decode cX11_does 202 = .ok (.iload_n 1, 1) := by decide +kernel
theorem dX11_does_203 : decode cX11_does 203 = .ok (.iconst 1, 1) := by decide +kernel
theorem dX11_does_204 : decode cX11_does 204 = .ok (.iadd, 1) := by decide +kernel
theorem dX11_does_205 : decode cX11_does 205 = .ok (.ireturn, 1) := by decide +kernel
theorem dX11_does_206 : decode cX11_does 206 = .ok (.iload_n 2, 1) := by decide +kernel
theorem dX11_does_207 : decode cX11_does 207 = .ok (.bipush 15, 2) := by decide +kernel
theorem dX11_does_209 : decode cX11_does 209 = .ok (.if_icmp .ne 7, 3) := by decide +kernel
theorem dX11_does_212 : decode cX11_does 212 = .ok (.iconst (-1), 1) := by decide +kernel
theorem dX11_does_213 : decode cX11_does 213 = .ok (.goto 6, 3) := by decide +kernel
theorem dX11_does_216 : decode cX11_does 216 = .ok (.iload_n 1, 1) := by decide +kernel
theorem dX11_does_217 : decode cX11_does 217 = .ok (.iconst 1, 1) := by decide +kernel
theorem dX11_does_218 : decode cX11_does 218 = .ok (.iadd, 1) := by decide +kernel
theorem dX11_does_219 : decode cX11_does 219 = .ok (.ireturn, 1) := by decide +kernel
theorem dX11_giveUp_0 : decode cX11_giveUp 0 = .ok (.aload_n 0, 1) := by decide +kernel
theorem dX11_giveUp_1 : decode cX11_giveUp 1 = .ok (.getfield 35, 3) := by decide +kernel
theorem dX11_giveUp_4 : decode cX11_giveUp 4 = .ok (.iload_n 1, 1) := by decide +kernel
theorem dX11_giveUp_5 : decode cX11_giveUp 5 = .ok (.iconst 2, 1) := by decide +kernel
theorem dX11_giveUp_6 : decode cX11_giveUp 6 = .ok (.iastore, 1) := by decide +kernel
theorem dX11_giveUp_7 : decode cX11_giveUp 7 = .ok (.aload_n 0, 1) := by decide +kernel
theorem dX11_giveUp_8 : decode cX11_giveUp 8 = .ok (.iconst (-1), 1) := by decide +kernel
theorem dX11_giveUp_9 : decode cX11_giveUp 9 = .ok (.putfield 38, 3) := by decide +kernel
theorem dX11_giveUp_12 : decode cX11_giveUp 12 = .ok (.return_, 1) := by decide +kernel
theorem dX11_hot_0 : decode cX11_hot 0 = .ok (.aload_n 0, 1) := by decide +kernel
theorem dX11_hot_1 : decode cX11_hot 1 = .ok (.getfield 167, 3) := by decide +kernel
theorem dX11_hot_4 : decode cX11_hot 4 = .ok (.ifCond .eq 19, 3) := by decide +kernel
theorem dX11_hot_7 : decode cX11_hot 7 = .ok (.aload_n 0, 1) := by decide +kernel
theorem dX11_hot_8 : decode cX11_hot 8 = .ok (.getfield 35, 3) := by decide +kernel
theorem dX11_hot_11 : decode cX11_hot 11 = .ok (.iload_n 1, 1) := by decide +kernel
theorem dX11_hot_12 : decode cX11_hot 12 = .ok (.iaload, 1) := by decide +kernel
theorem dX11_hot_13 : decode cX11_hot 13 = .ok (.ifCond .ne 10, 3) := by decide +kernel
theorem dX11_hot_16 : decode cX11_hot 16 = .ok (.aload_n 0, 1) := by decide +kernel
theorem dX11_hot_17 : decode cX11_hot 17 = .ok (.getfield 38, 3) := by decide +kernel
theorem dX11_hot_20 : decode cX11_hot 20 = .ok (.ifCond .lt 4, 3) := by decide +kernel
theorem dX11_hot_23 : decode cX11_hot 23 = .ok (.return_, 1) := by decide +kernel
theorem dX11_hot_24 : decode cX11_hot 24 = .ok (.aload_n 0, 1) := by decide +kernel
theorem dX11_hot_25 : decode cX11_hot 25 = .ok (.getfield 32, 3) := by decide +kernel
theorem dX11_hot_28 : decode cX11_hot 28 = .ok (.iload_n 1, 1) := by decide +kernel
theorem dX11_hot_29 : decode cX11_hot 29 = .ok (.dup2, 1) := by decide +kernel
theorem dX11_hot_30 : decode cX11_hot 30 = .ok (.iaload, 1) := by decide +kernel
theorem dX11_hot_31 : decode cX11_hot 31 = .ok (.iconst 1, 1) := by decide +kernel
theorem dX11_hot_32 : decode cX11_hot 32 = .ok (.iadd, 1) := by decide +kernel
theorem dX11_hot_33 : decode cX11_hot 33 = .ok (.iastore, 1) := by decide +kernel
theorem dX11_hot_34 : decode cX11_hot 34 = .ok (.aload_n 0, 1) := by decide +kernel
theorem dX11_hot_35 : decode cX11_hot 35 = .ok (.getfield 32, 3) := by decide +kernel
theorem dX11_hot_38 : decode cX11_hot 38 = .ok (.iload_n 1, 1) := by decide +kernel
theorem dX11_hot_39 : decode cX11_hot 39 = .ok (.iaload, 1) := by decide +kernel
theorem dX11_hot_40 : decode cX11_hot 40 = .ok (.iconst 3, 1) := by decide +kernel
theorem dX11_hot_41 : decode cX11_hot 41 = .ok (.if_icmp .ge 4, 3) := by decide +kernel
theorem dX11_hot_44 : decode cX11_hot 44 = .ok (.return_, 1) := by decide +kernel
theorem dX11_hot_45 : decode cX11_hot 45 = .ok (.aload_n 0, 1) := by decide +kernel
theorem dX11_hot_46 : decode cX11_hot 46 = .ok (.getfield 145, 3) := by decide +kernel
theorem dX11_hot_49 : decode cX11_hot 49 = .ok (.iconst 4, 1) := by decide +kernel
theorem dX11_hot_50 : decode cX11_hot 50 = .ok (.if_icmp .eq 10, 3) := by decide +kernel
theorem dX11_hot_53 : decode cX11_hot 53 = .ok (.aload_n 0, 1) := by decide +kernel
theorem dX11_hot_54 : decode cX11_hot 54 = .ok (.getfield 139, 3) := by decide +kernel
theorem dX11_hot_57 : decode cX11_hot 57 = .ok (.ifCond .le 13, 3) := by decide +kernel
theorem dX11_hot_60 : decode cX11_hot 60 = .ok (.aload_n 0, 1) := by decide +kernel
theorem dX11_hot_61 : decode cX11_hot 61 = .ok (.getfield 35, 3) := by decide +kernel
theorem dX11_hot_64 : decode cX11_hot 64 = .ok (.iload_n 1, 1) := by decide +kernel
theorem dX11_hot_65 : decode cX11_hot 65 = .ok (.iconst 2, 1) := by decide +kernel
theorem dX11_hot_66 : decode cX11_hot 66 = .ok (.iastore, 1) := by decide +kernel
theorem dX11_hot_67 : decode cX11_hot 67 = .ok (.goto 13, 3) := by decide +kernel
theorem dX11_hot_70 : decode cX11_hot 70 = .ok (.aload_n 0, 1) := by decide +kernel
theorem dX11_hot_71 : decode cX11_hot 71 = .ok (.iload_n 1, 1) := by decide +kernel
theorem dX11_hot_72 : decode cX11_hot 72 = .ok (.putfield 38, 3) := by decide +kernel
theorem dX11_hot_75 : decode cX11_hot 75 = .ok (.aload_n 0, 1) := by decide +kernel
theorem dX11_hot_76 : decode cX11_hot 76 = .ok (.iconst 0, 1) := by decide +kernel
theorem dX11_hot_77 : decode cX11_hot 77 = .ok (.putfield 185, 3) := by decide +kernel
theorem dX11_hot_80 : decode cX11_hot 80 = .ok (.return_, 1) := by decide +kernel
theorem dX11_interpret_0 : decode cX11_interpret 0 = .ok (.aload_n 0, 1) := by decide +kernel
theorem dX11_interpret_1 : decode cX11_interpret 1 = .ok (.getfield 19, 3) := by decide +kernel
theorem dX11_interpret_4 : decode cX11_interpret 4 = .ok (.istore_n 1, 1) := by decide +kernel
theorem dX11_interpret_5 : decode cX11_interpret 5 = .ok (.aload_n 0, 1) := by decide +kernel
theorem dX11_interpret_6 : decode cX11_interpret 6 = .ok (.getfield 38, 3) := by decide +kernel
theorem dX11_interpret_9 : decode cX11_interpret 9 = .ok (.ifCond .lt 7, 3) := by decide +kernel
theorem dX11_interpret_12 : decode cX11_interpret 12 = .ok (.iconst 1, 1) := by decide +kernel
theorem dX11_interpret_13 : decode cX11_interpret 13 = .ok (.goto 4, 3) := by decide +kernel
theorem dX11_interpret_16 : decode cX11_interpret 16 = .ok (.iconst 0, 1) := by decide +kernel
theorem dX11_interpret_17 : decode cX11_interpret 17 = .ok (.istore_n 2, 1) := by decide +kernel
theorem dX11_interpret_18 : decode cX11_interpret 18 = .ok (.aload_n 0, 1) := by decide +kernel
theorem dX11_interpret_19 : decode cX11_interpret 19 = .ok (.getfield 7, 3) := by decide +kernel
theorem dX11_interpret_22 : decode cX11_interpret 22 = .ok (.iload_n 1, 1) := by decide +kernel
theorem dX11_interpret_23 : decode cX11_interpret 23 = .ok (.iaload, 1) := by decide +kernel
theorem dX11_interpret_24 : decode cX11_interpret 24 = .ok (.bipush 13, 2) := by decide +kernel
theorem dX11_interpret_26 : decode cX11_interpret 26 = .ok (.if_icmp .eq 28, 3) := by decide +kernel
theorem dX11_interpret_29 : decode cX11_interpret 29 = .ok (.aload_n 0, 1) := by decide +kernel
theorem dX11_interpret_30 : decode cX11_interpret 30 = .ok (.getfield 7, 3) := by decide +kernel
theorem dX11_interpret_33 : decode cX11_interpret 33 = .ok (.iload_n 1, 1) := by decide +kernel
theorem dX11_interpret_34 : decode cX11_interpret 34 = .ok (.iaload, 1) := by decide +kernel
theorem dX11_interpret_35 : decode cX11_interpret 35 = .ok (.bipush 14, 2) := by decide +kernel
theorem dX11_interpret_37 : decode cX11_interpret 37 = .ok (.if_icmp .ne 21, 3) := by decide +kernel
theorem dX11_interpret_40 : decode cX11_interpret 40 = .ok (.aload_n 0, 1) := by decide +kernel
theorem dX11_interpret_41 : decode cX11_interpret 41 = .ok (.getfield 26, 3) := by decide +kernel
theorem dX11_interpret_44 : decode cX11_interpret 44 = .ok (.aload_n 0, 1) := by decide +kernel
theorem dX11_interpret_45 : decode cX11_interpret 45 = .ok (.getfield 139, 3) := by decide +kernel
theorem dX11_interpret_48 : decode cX11_interpret 48 = .ok (.iconst 1, 1) := by decide +kernel
theorem dX11_interpret_49 : decode cX11_interpret 49 = .ok (.isub, 1) := by decide +kernel
theorem dX11_interpret_50 : decode cX11_interpret 50 = .ok (.iaload, 1) := by decide +kernel
theorem dX11_interpret_51 : decode cX11_interpret 51 = .ok (.ifCond .eq 7, 3) := by decide +kernel
theorem dX11_interpret_54 : decode cX11_interpret 54 = .ok (.iconst 1, 1) := by decide +kernel
theorem dX11_interpret_55 : decode cX11_interpret 55 = .ok (.goto 4, 3) := by decide +kernel
theorem dX11_interpret_58 : decode cX11_interpret 58 = .ok (.iconst 0, 1) := by decide +kernel
theorem dX11_interpret_59 : decode cX11_interpret 59 = .ok (.istore_n 3, 1) := by decide +kernel
theorem dX11_interpret_60 : decode cX11_interpret 60 = .ok (.aload_n 0, 1) := by decide +kernel
theorem dX11_interpret_61 : decode cX11_interpret 61 = .ok (.iload_n 1, 1) := by decide +kernel
theorem dX11_interpret_62 : decode cX11_interpret 62 = .ok (.invokevirtual 188, 3) := by decide +kernel
theorem dX11_interpret_65 : decode cX11_interpret 65 = .ok (.istore 4, 2) := by decide +kernel
theorem dX11_interpret_67 : decode cX11_interpret 67 = .ok (.aload_n 0, 1) := by decide +kernel
theorem dX11_interpret_68 : decode cX11_interpret 68 = .ok (.dup, 1) := by decide +kernel
theorem dX11_interpret_69 : decode cX11_interpret 69 = .ok (.getfield 148, 3) := by decide +kernel
theorem dX11_interpret_72 : decode cX11_interpret 72 = .ok (.iconst 1, 1) := by decide +kernel
theorem dX11_interpret_73 : decode cX11_interpret 73 = .ok (.iadd, 1) := by decide +kernel
theorem dX11_interpret_74 : decode cX11_interpret 74 = .ok (.putfield 148, 3) := by decide +kernel
theorem dX11_interpret_77 : decode cX11_interpret 77 = .ok (.aload_n 0, 1) := by decide +kernel
theorem dX11_interpret_78 : decode cX11_interpret 78 = .ok (.iconst (-1), 1) := by decide +kernel
theorem dX11_interpret_79 : decode cX11_interpret 79 = .ok (.putfield 48, 3) := by decide +kernel
theorem dX11_interpret_82 : decode cX11_interpret 82 = .ok (.iload_n 2, 1) := by decide +kernel
theorem dX11_interpret_83 : decode cX11_interpret 83 = .ok (.ifCond .eq 47, 3) := by decide +kernel
theorem dX11_interpret_86 : decode cX11_interpret 86 = .ok (.aload_n 0, 1) := by decide +kernel
theorem dX11_interpret_87 : decode cX11_interpret 87 = .ok (.getfield 41, 3) := by decide +kernel
theorem dX11_interpret_90 : decode cX11_interpret 90 = .ok (.aload_n 0, 1) := by decide +kernel
theorem dX11_interpret_91 : decode cX11_interpret 91 = .ok (.getfield 185, 3) := by decide +kernel
theorem dX11_interpret_94 : decode cX11_interpret 94 = .ok (.iload_n 1, 1) := by decide +kernel
theorem dX11_interpret_95 : decode cX11_interpret 95 = .ok (.iastore, 1) := by decide +kernel
theorem dX11_interpret_96 : decode cX11_interpret 96 = .ok (.aload_n 0, 1) := by decide +kernel
theorem dX11_interpret_97 : decode cX11_interpret 97 = .ok (.getfield 44, 3) := by decide +kernel
theorem dX11_interpret_100 : decode cX11_interpret 100 = .ok (.aload_n 0, 1) := by decide +kernel
theorem dX11_interpret_101 : decode cX11_interpret 101 = .ok (.getfield 185, 3) := by decide +kernel
theorem dX11_interpret_104 : decode cX11_interpret 104 = .ok (.iload_n 3, 1) := by decide +kernel
theorem dX11_interpret_105 : decode cX11_interpret 105 = .ok (.bastore, 1) := by decide +kernel
theorem dX11_interpret_106 : decode cX11_interpret 106 = .ok (.aload_n 0, 1) := by decide +kernel
theorem dX11_interpret_107 : decode cX11_interpret 107 = .ok (.dup, 1) := by decide +kernel
theorem dX11_interpret_108 : decode cX11_interpret 108 = .ok (.getfield 185, 3) := by decide +kernel
theorem dX11_interpret_111 : decode cX11_interpret 111 = .ok (.iconst 1, 1) := by decide +kernel
theorem dX11_interpret_112 : decode cX11_interpret 112 = .ok (.iadd, 1) := by decide +kernel
theorem dX11_interpret_113 : decode cX11_interpret 113 = .ok (.putfield 185, 3) := by decide +kernel
theorem dX11_interpret_116 : decode cX11_interpret 116 = .ok (.iload 4, 2) := by decide +kernel
theorem dX11_interpret_118 : decode cX11_interpret 118 = .ok (.iconst (-1), 1) := by decide +kernel
theorem dX11_interpret_119 : decode cX11_interpret 119 = .ok (.if_icmp .ne 11, 3) := by decide +kernel
theorem dX11_interpret_122 : decode cX11_interpret 122 = .ok (.aload_n 0, 1) := by decide +kernel
theorem dX11_interpret_123 : decode cX11_interpret 123 = .ok (.aload_n 0, 1) := by decide +kernel
theorem dX11_interpret_124 : decode cX11_interpret 124 = .ok (.getfield 38, 3) := by decide +kernel
theorem dX11_interpret_127 : decode cX11_interpret 127 = .ok (.invokevirtual 191, 3) := by decide +kernel
theorem dX11_interpret_130 : decode cX11_interpret 130 = .ok (.aload_n 0, 1) := by decide +kernel
theorem dX11_interpret_131 : decode cX11_interpret 131 = .ok (.iload 4, 2) := by decide +kernel
theorem dX11_interpret_133 : decode cX11_interpret 133 = .ok (.putfield 19, 3) := by decide +kernel
theorem dX11_interpret_136 : decode cX11_interpret 136 = .ok (.iload_n 3, 1) := by decide +kernel
theorem dX11_interpret_137 : decode cX11_interpret 137 = .ok (.ifCond .eq 15, 3) := by decide +kernel
theorem dX11_interpret_140 : decode cX11_interpret 140 = .ok (.iload 4, 2) := by decide +kernel
theorem dX11_interpret_142 : decode cX11_interpret 142 = .ok (.iload_n 1, 1) := by decide +kernel
theorem dX11_interpret_143 : decode cX11_interpret 143 = .ok (.if_icmp .gt 9, 3) := by decide +kernel
theorem dX11_interpret_146 : decode cX11_interpret 146 = .ok (.aload_n 0, 1) := by decide +kernel
theorem dX11_interpret_147 : decode cX11_interpret 147 = .ok (.iload 4, 2) := by decide +kernel
theorem dX11_interpret_149 : decode cX11_interpret 149 = .ok (.invokevirtual 194, 3) := by decide +kernel
theorem dX11_interpret_152 : decode cX11_interpret 152 = .ok (.iload_n 2, 1) := by decide +kernel
theorem dX11_interpret_153 : decode cX11_interpret 153 = .ok (.ifCond .eq 23, 3) := by decide +kernel
theorem dX11_interpret_156 : decode cX11_interpret 156 = .ok (.aload_n 0, 1) := by decide +kernel
theorem dX11_interpret_157 : decode cX11_interpret 157 = .ok (.getfield 38, 3) := by decide +kernel
theorem dX11_interpret_160 : decode cX11_interpret 160 = .ok (.ifCond .lt 16, 3) := by decide +kernel
theorem dX11_interpret_163 : decode cX11_interpret 163 = .ok (.iload 4, 2) := by decide +kernel
theorem dX11_interpret_165 : decode cX11_interpret 165 = .ok (.aload_n 0, 1) := by decide +kernel
theorem dX11_interpret_166 : decode cX11_interpret 166 = .ok (.getfield 38, 3) := by decide +kernel
theorem dX11_interpret_169 : decode cX11_interpret 169 = .ok (.if_icmp .ne 7, 3) := by decide +kernel
theorem dX11_interpret_172 : decode cX11_interpret 172 = .ok (.aload_n 0, 1) := by decide +kernel
theorem dX11_interpret_173 : decode cX11_interpret 173 = .ok (.invokevirtual 197, 3) := by decide +kernel
theorem dX11_interpret_176 : decode cX11_interpret 176 = .ok (.return_, 1) := by decide +kernel
theorem dX11_run_0 : decode cX11_run 0 = .ok (.aload_n 0, 1) := by decide +kernel
theorem dX11_run_1 : decode cX11_run 1 = .ok (.iconst 0, 1) := by decide +kernel
theorem dX11_run_2 : decode cX11_run 2 = .ok (.putfield 111, 3) := by decide +kernel
theorem dX11_run_5 : decode cX11_run 5 = .ok (.iload_n 1, 1) := by decide +kernel
theorem dX11_run_6 : decode cX11_run 6 = .ok (.iconst 1, 1) := by decide +kernel
theorem dX11_run_7 : decode cX11_run 7 = .ok (.sipush 500, 3) := by decide +kernel
theorem dX11_run_10 : decode cX11_run 10 = .ok (.invokestatic 114, 3) := by decide +kernel
theorem dX11_run_13 : decode cX11_run 13 = .ok (.ifCond .ne 9, 3) := by decide +kernel
theorem dX11_run_16 : decode cX11_run 16 = .ok (.aload_n 0, 1) := by decide +kernel
theorem dX11_run_17 : decode cX11_run 17 = .ok (.iconst 1, 1) := by decide +kernel
theorem dX11_run_18 : decode cX11_run 18 = .ok (.invokevirtual 118, 3) := by decide +kernel
theorem dX11_run_21 : decode cX11_run 21 = .ok (.ireturn, 1) := by decide +kernel
theorem dX11_run_22 : decode cX11_run 22 = .ok (.aload_n 0, 1) := by decide +kernel
theorem dX11_run_23 : decode cX11_run 23 = .ok (.getfield 125, 3) := by decide +kernel
theorem dX11_run_26 : decode cX11_run 26 = .ok (.ifCond .ne 9, 3) := by decide +kernel
theorem dX11_run_29 : decode cX11_run 29 = .ok (.aload_n 0, 1) := by decide +kernel
theorem dX11_run_30 : decode cX11_run 30 = .ok (.iconst 2, 1) := by decide +kernel
theorem dX11_run_31 : decode cX11_run 31 = .ok (.invokevirtual 118, 3) := by decide +kernel
theorem dX11_run_34 : decode cX11_run 34 = .ok (.ireturn, 1) := by decide +kernel
theorem dX11_run_35 : decode cX11_run 35 = .ok (.iconst 0, 1) := by decide +kernel
theorem dX11_run_36 : decode cX11_run 36 = .ok (.istore_n 2, 1) := by decide +kernel
theorem dX11_run_37 : decode cX11_run 37 = .ok (.iload_n 2, 1) := by decide +kernel
theorem dX11_run_38 : decode cX11_run 38 = .ok (.iload_n 1, 1) := by decide +kernel
theorem dX11_run_39 : decode cX11_run 39 = .ok (.if_icmp .ge 76, 3) := by decide +kernel
theorem dX11_run_42 : decode cX11_run 42 = .ok (.aload_n 0, 1) := by decide +kernel
theorem dX11_run_43 : decode cX11_run 43 = .ok (.getfield 19, 3) := by decide +kernel
theorem dX11_run_46 : decode cX11_run 46 = .ok (.ifCond .lt 69, 3) := by decide +kernel
theorem dX11_run_49 : decode cX11_run 49 = .ok (.aload_n 0, 1) := by decide +kernel
theorem dX11_run_50 : decode cX11_run 50 = .ok (.getfield 38, 3) := by decide +kernel
theorem dX11_run_53 : decode cX11_run 53 = .ok (.ifCond .lt 20, 3) := by decide +kernel
theorem dX11_run_56 : decode cX11_run 56 = .ok (.aload_n 0, 1) := by decide +kernel
theorem dX11_run_57 : decode cX11_run 57 = .ok (.getfield 185, 3) := by decide +kernel
theorem dX11_run_60 : decode cX11_run 60 = .ok (.bipush 30, 2) := by decide +kernel
theorem dX11_run_62 : decode cX11_run 62 = .ok (.if_icmp .ne 11, 3) := by decide +kernel
theorem dX11_run_65 : decode cX11_run 65 = .ok (.aload_n 0, 1) := by decide +kernel
theorem dX11_run_66 : decode cX11_run 66 = .ok (.aload_n 0, 1) := by decide +kernel
theorem dX11_run_67 : decode cX11_run 67 = .ok (.getfield 38, 3) := by decide +kernel
theorem dX11_run_70 : decode cX11_run 70 = .ok (.invokevirtual 191, 3) := by decide +kernel
theorem dX11_run_73 : decode cX11_run 73 = .ok (.aload_n 0, 1) := by decide +kernel
theorem dX11_run_74 : decode cX11_run 74 = .ok (.getfield 38, 3) := by decide +kernel
theorem dX11_run_77 : decode cX11_run 77 = .ok (.ifCond .ge 14, 3) := by decide +kernel
theorem dX11_run_80 : decode cX11_run 80 = .ok (.aload_n 0, 1) := by decide +kernel
theorem dX11_run_81 : decode cX11_run 81 = .ok (.aload_n 0, 1) := by decide +kernel
theorem dX11_run_82 : decode cX11_run 82 = .ok (.getfield 19, 3) := by decide +kernel
theorem dX11_run_85 : decode cX11_run 85 = .ok (.invokevirtual 200, 3) := by decide +kernel
theorem dX11_run_88 : decode cX11_run 88 = .ok (.goto 4, 3) := by decide +kernel
theorem dX11_run_91 : decode cX11_run 91 = .ok (.iconst (-1), 1) := by decide +kernel
theorem dX11_run_92 : decode cX11_run 92 = .ok (.istore_n 3, 1) := by decide +kernel
theorem dX11_run_93 : decode cX11_run 93 = .ok (.iload_n 3, 1) := by decide +kernel
theorem dX11_run_94 : decode cX11_run 94 = .ok (.ifCond .lt 11, 3) := by decide +kernel
theorem dX11_run_97 : decode cX11_run 97 = .ok (.aload_n 0, 1) := by decide +kernel
theorem dX11_run_98 : decode cX11_run 98 = .ok (.iload_n 3, 1) := by decide +kernel
theorem dX11_run_99 : decode cX11_run 99 = .ok (.invokevirtual 203, 3) := by decide +kernel
theorem dX11_run_102 : decode cX11_run 102 = .ok (.goto 7, 3) := by decide +kernel
theorem dX11_run_105 : decode cX11_run 105 = .ok (.aload_n 0, 1) := by decide +kernel
theorem dX11_run_106 : decode cX11_run 106 = .ok (.invokevirtual 206, 3) := by decide +kernel
theorem dX11_run_109 : decode cX11_run 109 = .ok (.iinc 2 1, 3) := by decide +kernel
theorem dX11_run_112 : decode cX11_run 112 = .ok (.goto (-75), 3) := by decide +kernel
theorem dX11_run_115 : decode cX11_run 115 = .ok (.iload_n 2, 1) := by decide +kernel
theorem dX11_run_116 : decode cX11_run 116 = .ok (.ireturn, 1) := by decide +kernel
theorem dX11_traceOf_0 : decode cX11_traceOf 0 = .ok (.iconst (-1), 1) := by decide +kernel
theorem dX11_traceOf_1 : decode cX11_traceOf 1 = .ok (.istore_n 2, 1) := by decide +kernel
theorem dX11_traceOf_2 : decode cX11_traceOf 2 = .ok (.iconst 0, 1) := by decide +kernel
theorem dX11_traceOf_3 : decode cX11_traceOf 3 = .ok (.istore_n 3, 1) := by decide +kernel
theorem dX11_traceOf_4 : decode cX11_traceOf 4 = .ok (.iload_n 3, 1) := by decide +kernel
theorem dX11_traceOf_5 : decode cX11_traceOf 5 = .ok (.aload_n 0, 1) := by decide +kernel
theorem dX11_traceOf_6 : decode cX11_traceOf 6 = .ok (.getfield 145, 3) := by decide +kernel
theorem dX11_traceOf_9 : decode cX11_traceOf 9 = .ok (.if_icmp .ge 25, 3) := by decide +kernel
theorem dX11_traceOf_12 : decode cX11_traceOf 12 = .ok (.aload_n 0, 1) := by decide +kernel
theorem dX11_traceOf_13 : decode cX11_traceOf 13 = .ok (.getfield 51, 3) := by decide +kernel
theorem dX11_traceOf_16 : decode cX11_traceOf 16 = .ok (.iload_n 3, 1) := by decide +kernel
theorem dX11_traceOf_17 : decode cX11_traceOf 17 = .ok (.iaload, 1) := by decide +kernel
theorem dX11_traceOf_18 : decode cX11_traceOf 18 = .ok (.iload_n 1, 1) := by decide +kernel
theorem dX11_traceOf_19 : decode cX11_traceOf 19 = .ok (.if_icmp .ne 7, 3) := by decide +kernel
theorem dX11_traceOf_22 : decode cX11_traceOf 22 = .ok (.iload_n 3, 1) := by decide +kernel
theorem dX11_traceOf_23 : decode cX11_traceOf 23 = .ok (.goto 4, 3) := by decide +kernel
theorem dX11_traceOf_26 : decode cX11_traceOf 26 = .ok (.iload_n 2, 1) := by decide +kernel
theorem dX11_traceOf_27 : decode cX11_traceOf 27 = .ok (.istore_n 2, 1) := by decide +kernel
theorem dX11_traceOf_28 : decode cX11_traceOf 28 = .ok (.iinc 3 1, 3) := by decide +kernel
theorem dX11_traceOf_31 : decode cX11_traceOf 31 = .ok (.goto (-27), 3) := by decide +kernel
theorem dX11_traceOf_34 : decode cX11_traceOf 34 = .ok (.iload_n 2, 1) := by decide +kernel
theorem dX11_traceOf_35 : decode cX11_traceOf 35 = .ok (.ireturn, 1) := by decide +kernel
theorem dX11_turn_0 : decode cX11_turn 0 = .ok (.bipush 30, 2) := by decide +kernel
theorem dX11_turn_2 : decode cX11_turn 2 = .ok (.iload_n 1, 1) := by decide +kernel
theorem dX11_turn_3 : decode cX11_turn 3 = .ok (.imul, 1) := by decide +kernel
theorem dX11_turn_4 : decode cX11_turn 4 = .ok (.istore_n 2, 1) := by decide +kernel
theorem dX11_turn_5 : decode cX11_turn 5 = .ok (.aload_n 0, 1) := by decide +kernel
theorem dX11_turn_6 : decode cX11_turn 6 = .ok (.getfield 48, 3) := by decide +kernel
theorem dX11_turn_9 : decode cX11_turn 9 = .ok (.iload_n 1, 1) := by decide +kernel
theorem dX11_turn_10 : decode cX11_turn 10 = .ok (.if_icmp .eq 18, 3) := by decide +kernel
theorem dX11_turn_13 : decode cX11_turn 13 = .ok (.aload_n 0, 1) := by decide +kernel
theorem dX11_turn_14 : decode cX11_turn 14 = .ok (.dup, 1) := by decide +kernel
theorem dX11_turn_15 : decode cX11_turn 15 = .ok (.getfield 157, 3) := by decide +kernel
theorem dX11_turn_18 : decode cX11_turn 18 = .ok (.aload_n 0, 1) := by decide +kernel
theorem dX11_turn_19 : decode cX11_turn 19 = .ok (.getfield 66, 3) := by decide +kernel
theorem dX11_turn_22 : decode cX11_turn 22 = .ok (.iload_n 1, 1) := by decide +kernel
theorem dX11_turn_23 : decode cX11_turn 23 = .ok (.iaload, 1) := by decide +kernel
theorem dX11_turn_24 : decode cX11_turn 24 = .ok (.iadd, 1) := by decide +kernel
theorem dX11_turn_25 : decode cX11_turn 25 = .ok (.putfield 157, 3) := by decide +kernel
theorem dX11_turn_28 : decode cX11_turn 28 = .ok (.aload_n 0, 1) := by decide +kernel
theorem dX11_turn_29 : decode cX11_turn 29 = .ok (.iconst (-1), 1) := by decide +kernel
theorem dX11_turn_30 : decode cX11_turn 30 = .ok (.putfield 48, 3) := by decide +kernel
theorem dX11_turn_33 : decode cX11_turn 33 = .ok (.iconst 0, 1) := by decide +kernel
theorem dX11_turn_34 : decode cX11_turn 34 = .ok (.istore_n 3, 1) := by decide +kernel
theorem dX11_turn_35 : decode cX11_turn 35 = .ok (.iload_n 3, 1) := by decide +kernel
theorem dX11_turn_36 : decode cX11_turn 36 = .ok (.aload_n 0, 1) := by decide +kernel
theorem dX11_turn_37 : decode cX11_turn 37 = .ok (.getfield 54, 3) := by decide +kernel
theorem dX11_turn_40 : decode cX11_turn 40 = .ok (.iload_n 1, 1) := by decide +kernel
theorem dX11_turn_41 : decode cX11_turn 41 = .ok (.iaload, 1) := by decide +kernel
theorem dX11_turn_42 : decode cX11_turn 42 = .ok (.if_icmp .ge 119, 3) := by decide +kernel
theorem dX11_turn_45 : decode cX11_turn 45 = .ok (.aload_n 0, 1) := by decide +kernel
theorem dX11_turn_46 : decode cX11_turn 46 = .ok (.getfield 57, 3) := by decide +kernel
theorem dX11_turn_49 : decode cX11_turn 49 = .ok (.iload_n 2, 1) := by decide +kernel
theorem dX11_turn_50 : decode cX11_turn 50 = .ok (.iload_n 3, 1) := by decide +kernel
theorem dX11_turn_51 : decode cX11_turn 51 = .ok (.iadd, 1) := by decide +kernel
theorem dX11_turn_52 : decode cX11_turn 52 = .ok (.iaload, 1) := by decide +kernel
theorem dX11_turn_53 : decode cX11_turn 53 = .ok (.istore 4, 2) := by decide +kernel
theorem dX11_turn_55 : decode cX11_turn 55 = .ok (.aload_n 0, 1) := by decide +kernel
theorem dX11_turn_56 : decode cX11_turn 56 = .ok (.getfield 7, 3) := by decide +kernel
theorem dX11_turn_59 : decode cX11_turn 59 = .ok (.iload 4, 2) := by decide +kernel
theorem dX11_turn_61 : decode cX11_turn 61 = .ok (.iaload, 1) := by decide +kernel
theorem dX11_turn_62 : decode cX11_turn 62 = .ok (.bipush 14, 2) := by decide +kernel
theorem dX11_turn_64 : decode cX11_turn 64 = .ok (.if_icmp .ne 21, 3) := by decide +kernel
theorem dX11_turn_67 : decode cX11_turn 67 = .ok (.aload_n 0, 1) := by decide +kernel
theorem dX11_turn_68 : decode cX11_turn 68 = .ok (.getfield 26, 3) := by decide +kernel
theorem dX11_turn_71 : decode cX11_turn 71 = .ok (.aload_n 0, 1) := by decide +kernel
theorem dX11_turn_72 : decode cX11_turn 72 = .ok (.getfield 139, 3) := by decide +kernel
theorem dX11_turn_75 : decode cX11_turn 75 = .ok (.iconst 1, 1) := by decide +kernel
theorem dX11_turn_76 : decode cX11_turn 76 = .ok (.isub, 1) := by decide +kernel
theorem dX11_turn_77 : decode cX11_turn 77 = .ok (.iaload, 1) := by decide +kernel
theorem dX11_turn_78 : decode cX11_turn 78 = .ok (.ifCond .eq 7, 3) := by decide +kernel
theorem dX11_turn_81 : decode cX11_turn 81 = .ok (.iconst 1, 1) := by decide +kernel
theorem dX11_turn_82 : decode cX11_turn 82 = .ok (.goto 4, 3) := by decide +kernel
theorem dX11_turn_85 : decode cX11_turn 85 = .ok (.iconst 0, 1) := by decide +kernel
theorem dX11_turn_86 : decode cX11_turn 86 = .ok (.istore 5, 2) := by decide +kernel
theorem dX11_turn_88 : decode cX11_turn 88 = .ok (.aload_n 0, 1) := by decide +kernel
theorem dX11_turn_89 : decode cX11_turn 89 = .ok (.iload 4, 2) := by decide +kernel
theorem dX11_turn_91 : decode cX11_turn 91 = .ok (.invokevirtual 188, 3) := by decide +kernel
theorem dX11_turn_94 : decode cX11_turn 94 = .ok (.istore 6, 2) := by decide +kernel
theorem dX11_turn_96 : decode cX11_turn 96 = .ok (.aload_n 0, 1) := by decide +kernel
theorem dX11_turn_97 : decode cX11_turn 97 = .ok (.getfield 7, 3) := by decide +kernel
theorem dX11_turn_100 : decode cX11_turn 100 = .ok (.iload 4, 2) := by decide +kernel
theorem dX11_turn_102 : decode cX11_turn 102 = .ok (.iaload, 1) := by decide +kernel
theorem dX11_turn_103 : decode cX11_turn 103 = .ok (.bipush 14, 2) := by decide +kernel
theorem dX11_turn_105 : decode cX11_turn 105 = .ok (.if_icmp .ne 50, 3) := by decide +kernel
theorem dX11_turn_108 : decode cX11_turn 108 = .ok (.iload 5, 2) := by decide +kernel
theorem dX11_turn_110 : decode cX11_turn 110 = .ok (.aload_n 0, 1) := by decide +kernel
theorem dX11_turn_111 : decode cX11_turn 111 = .ok (.getfield 60, 3) := by decide +kernel
theorem dX11_turn_114 : decode cX11_turn 114 = .ok (.iload_n 2, 1) := by decide +kernel
theorem dX11_turn_115 : decode cX11_turn 115 = .ok (.iload_n 3, 1) := by decide +kernel
theorem dX11_turn_116 : decode cX11_turn 116 = .ok (.iadd, 1) := by decide +kernel
theorem dX11_turn_117 : decode cX11_turn 117 = .ok (.baload, 1) := by decide +kernel
theorem dX11_turn_118 : decode cX11_turn 118 = .ok (.if_icmp .eq 37, 3) := by decide +kernel
theorem dX11_turn_121 : decode cX11_turn 121 = .ok (.aload_n 0, 1) := by decide +kernel
theorem dX11_turn_122 : decode cX11_turn 122 = .ok (.dup, 1) := by decide +kernel
theorem dX11_turn_123 : decode cX11_turn 123 = .ok (.getfield 157, 3) := by decide +kernel
theorem dX11_turn_126 : decode cX11_turn 126 = .ok (.aload_n 0, 1) := by decide +kernel
theorem dX11_turn_127 : decode cX11_turn 127 = .ok (.getfield 63, 3) := by decide +kernel
theorem dX11_turn_130 : decode cX11_turn 130 = .ok (.iload_n 2, 1) := by decide +kernel
theorem dX11_turn_131 : decode cX11_turn 131 = .ok (.iload_n 3, 1) := by decide +kernel
theorem dX11_turn_132 : decode cX11_turn 132 = .ok (.iadd, 1) := by decide +kernel
theorem dX11_turn_133 : decode cX11_turn 133 = .ok (.iaload, 1) := by decide +kernel
theorem dX11_turn_134 : decode cX11_turn 134 = .ok (.iadd, 1) := by decide +kernel
theorem dX11_turn_135 : decode cX11_turn 135 = .ok (.putfield 157, 3) := by decide +kernel
theorem dX11_turn_138 : decode cX11_turn 138 = .ok (.aload_n 0, 1) := by decide +kernel
theorem dX11_turn_139 : decode cX11_turn 139 = .ok (.dup, 1) := by decide +kernel
theorem dX11_turn_140 : decode cX11_turn 140 = .ok (.getfield 154, 3) := by decide +kernel
theorem dX11_turn_143 : decode cX11_turn 143 = .ok (.iconst 1, 1) := by decide +kernel
theorem dX11_turn_144 : decode cX11_turn 144 = .ok (.iadd, 1) := by decide +kernel
theorem dX11_turn_145 : decode cX11_turn 145 = .ok (.putfield 154, 3) := by decide +kernel
theorem dX11_turn_148 : decode cX11_turn 148 = .ok (.aload_n 0, 1) := by decide +kernel
theorem dX11_turn_149 : decode cX11_turn 149 = .ok (.iload 6, 2) := by decide +kernel
theorem dX11_turn_151 : decode cX11_turn 151 = .ok (.putfield 19, 3) := by decide +kernel
theorem dX11_turn_154 : decode cX11_turn 154 = .ok (.return_, 1) := by decide +kernel
theorem dX11_turn_155 : decode cX11_turn 155 = .ok (.iinc 3 1, 3) := by decide +kernel
theorem dX11_turn_158 : decode cX11_turn 158 = .ok (.goto (-123), 3) := by decide +kernel
theorem dX11_turn_161 : decode cX11_turn 161 = .ok (.aload_n 0, 1) := by decide +kernel
theorem dX11_turn_162 : decode cX11_turn 162 = .ok (.dup, 1) := by decide +kernel
theorem dX11_turn_163 : decode cX11_turn 163 = .ok (.getfield 157, 3) := by decide +kernel
theorem dX11_turn_166 : decode cX11_turn 166 = .ok (.aload_n 0, 1) := by decide +kernel
theorem dX11_turn_167 : decode cX11_turn 167 = .ok (.getfield 63, 3) := by decide +kernel
theorem dX11_turn_170 : decode cX11_turn 170 = .ok (.iload_n 2, 1) := by decide +kernel
theorem dX11_turn_171 : decode cX11_turn 171 = .ok (.aload_n 0, 1) := by decide +kernel
theorem dX11_turn_172 : decode cX11_turn 172 = .ok (.getfield 54, 3) := by decide +kernel
theorem dX11_turn_175 : decode cX11_turn 175 = .ok (.iload_n 1, 1) := by decide +kernel
theorem dX11_turn_176 : decode cX11_turn 176 = .ok (.iaload, 1) := by decide +kernel
theorem dX11_turn_177 : decode cX11_turn 177 = .ok (.iadd, 1) := by decide +kernel
theorem dX11_turn_178 : decode cX11_turn 178 = .ok (.iconst 1, 1) := by decide +kernel
theorem dX11_turn_179 : decode cX11_turn 179 = .ok (.isub, 1) := by decide +kernel
theorem dX11_turn_180 : decode cX11_turn 180 = .ok (.iaload, 1) := by decide +kernel
theorem dX11_turn_181 : decode cX11_turn 181 = .ok (.iadd, 1) := by decide +kernel
theorem dX11_turn_182 : decode cX11_turn 182 = .ok (.putfield 157, 3) := by decide +kernel
theorem dX11_turn_185 : decode cX11_turn 185 = .ok (.aload_n 0, 1) := by decide +kernel
theorem dX11_turn_186 : decode cX11_turn 186 = .ok (.dup, 1) := by decide +kernel
theorem dX11_turn_187 : decode cX11_turn 187 = .ok (.getfield 151, 3) := by decide +kernel
theorem dX11_turn_190 : decode cX11_turn 190 = .ok (.iconst 1, 1) := by decide +kernel
theorem dX11_turn_191 : decode cX11_turn 191 = .ok (.iadd, 1) := by decide +kernel
theorem dX11_turn_192 : decode cX11_turn 192 = .ok (.putfield 151, 3) := by decide +kernel
theorem dX11_turn_195 : decode cX11_turn 195 = .ok (.aload_n 0, 1) := by decide +kernel
theorem dX11_turn_196 : decode cX11_turn 196 = .ok (.iload_n 1, 1) := by decide +kernel
theorem dX11_turn_197 : decode cX11_turn 197 = .ok (.putfield 48, 3) := by decide +kernel
theorem dX11_turn_200 : decode cX11_turn 200 = .ok (.aload_n 0, 1) := by decide +kernel
theorem dX11_turn_201 : decode cX11_turn 201 = .ok (.aload_n 0, 1) := by decide +kernel
theorem dX11_turn_202 : decode cX11_turn 202 = .ok (.getfield 51, 3) := by decide +kernel
theorem dX11_turn_205 : decode cX11_turn 205 = .ok (.iload_n 1, 1) := by decide +kernel
theorem dX11_turn_206 : decode cX11_turn 206 = .ok (.iaload, 1) := by decide +kernel
theorem dX11_turn_207 : decode cX11_turn 207 = .ok (.putfield 19, 3) := by decide +kernel
theorem dX11_turn_210 : decode cX11_turn 210 = .ok (.return_, 1) := by decide +kernel
theorem dX11_valueOf_0 : decode cX11_valueOf 0 = .ok (.iconst 0, 1) := by decide +kernel
theorem dX11_valueOf_1 : decode cX11_valueOf 1 = .ok (.istore 5, 2) := by decide +kernel
theorem dX11_valueOf_3 : decode cX11_valueOf 3 = .ok (.iload 5, 2) := by decide +kernel
theorem dX11_valueOf_5 : decode cX11_valueOf 5 = .ok (.aload_n 0, 1) := by decide +kernel
theorem dX11_valueOf_6 : decode cX11_valueOf 6 = .ok (.getfield 209, 3) := by decide +kernel
theorem dX11_valueOf_9 : decode cX11_valueOf 9 = .ok (.if_icmp .ge 57, 3) := by decide +kernel
theorem dX11_valueOf_12 : decode cX11_valueOf 12 = .ok (.aload_n 0, 1) := by decide +kernel
theorem dX11_valueOf_13 : decode cX11_valueOf 13 = .ok (.getfield 81, 3) := by decide +kernel
theorem dX11_valueOf_16 : decode cX11_valueOf 16 = .ok (.iload 5, 2) := by decide +kernel
theorem dX11_valueOf_18 : decode cX11_valueOf 18 = .ok (.iaload, 1) := by decide +kernel
theorem dX11_valueOf_19 : decode cX11_valueOf 19 = .ok (.iload_n 1, 1) := by decide +kernel
theorem dX11_valueOf_20 : decode cX11_valueOf 20 = .ok (.if_icmp .ne 40, 3) := by decide +kernel
theorem dX11_valueOf_23 : decode cX11_valueOf 23 = .ok (.aload_n 0, 1) := by decide +kernel
theorem dX11_valueOf_24 : decode cX11_valueOf 24 = .ok (.getfield 84, 3) := by decide +kernel
theorem dX11_valueOf_27 : decode cX11_valueOf 27 = .ok (.iload 5, 2) := by decide +kernel
theorem dX11_valueOf_29 : decode cX11_valueOf 29 = .ok (.iaload, 1) := by decide +kernel
theorem dX11_valueOf_30 : decode cX11_valueOf 30 = .ok (.iload_n 2, 1) := by decide +kernel
theorem dX11_valueOf_31 : decode cX11_valueOf 31 = .ok (.if_icmp .ne 29, 3) := by decide +kernel
theorem dX11_valueOf_34 : decode cX11_valueOf 34 = .ok (.aload_n 0, 1) := by decide +kernel
theorem dX11_valueOf_35 : decode cX11_valueOf 35 = .ok (.getfield 87, 3) := by decide +kernel
theorem dX11_valueOf_38 : decode cX11_valueOf 38 = .ok (.iload 5, 2) := by decide +kernel
theorem dX11_valueOf_40 : decode cX11_valueOf 40 = .ok (.iaload, 1) := by decide +kernel
theorem dX11_valueOf_41 : decode cX11_valueOf 41 = .ok (.iload_n 3, 1) := by decide +kernel
theorem dX11_valueOf_42 : decode cX11_valueOf 42 = .ok (.if_icmp .ne 18, 3) := by decide +kernel
theorem dX11_valueOf_45 : decode cX11_valueOf 45 = .ok (.aload_n 0, 1) := by decide +kernel
theorem dX11_valueOf_46 : decode cX11_valueOf 46 = .ok (.getfield 90, 3) := by decide +kernel
theorem dX11_valueOf_49 : decode cX11_valueOf 49 = .ok (.iload 5, 2) := by decide +kernel
theorem dX11_valueOf_51 : decode cX11_valueOf 51 = .ok (.iaload, 1) := by decide +kernel
theorem dX11_valueOf_52 : decode cX11_valueOf 52 = .ok (.iload 4, 2) := by decide +kernel
theorem dX11_valueOf_54 : decode cX11_valueOf 54 = .ok (.if_icmp .ne 6, 3) := by decide +kernel
theorem dX11_valueOf_57 : decode cX11_valueOf 57 = .ok (.iload 5, 2) := by decide +kernel
theorem dX11_valueOf_59 : decode cX11_valueOf 59 = .ok (.ireturn, 1) := by decide +kernel
theorem dX11_valueOf_60 : decode cX11_valueOf 60 = .ok (.iinc 5 1, 3) := by decide +kernel
theorem dX11_valueOf_63 : decode cX11_valueOf 63 = .ok (.goto (-60), 3) := by decide +kernel
theorem dX11_valueOf_66 : decode cX11_valueOf 66 = .ok (.aload_n 0, 1) := by decide +kernel
theorem dX11_valueOf_67 : decode cX11_valueOf 67 = .ok (.getfield 81, 3) := by decide +kernel
theorem dX11_valueOf_70 : decode cX11_valueOf 70 = .ok (.aload_n 0, 1) := by decide +kernel
theorem dX11_valueOf_71 : decode cX11_valueOf 71 = .ok (.getfield 209, 3) := by decide +kernel
theorem dX11_valueOf_74 : decode cX11_valueOf 74 = .ok (.iload_n 1, 1) := by decide +kernel
theorem dX11_valueOf_75 : decode cX11_valueOf 75 = .ok (.iastore, 1) := by decide +kernel
theorem dX11_valueOf_76 : decode cX11_valueOf 76 = .ok (.aload_n 0, 1) := by decide +kernel
theorem dX11_valueOf_77 : decode cX11_valueOf 77 = .ok (.getfield 84, 3) := by decide +kernel
theorem dX11_valueOf_80 : decode cX11_valueOf 80 = .ok (.aload_n 0, 1) := by decide +kernel
theorem dX11_valueOf_81 : decode cX11_valueOf 81 = .ok (.getfield 209, 3) := by decide +kernel
theorem dX11_valueOf_84 : decode cX11_valueOf 84 = .ok (.iload_n 2, 1) := by decide +kernel
theorem dX11_valueOf_85 : decode cX11_valueOf 85 = .ok (.iastore, 1) := by decide +kernel
theorem dX11_valueOf_86 : decode cX11_valueOf 86 = .ok (.aload_n 0, 1) := by decide +kernel
theorem dX11_valueOf_87 : decode cX11_valueOf 87 = .ok (.getfield 87, 3) := by decide +kernel
theorem dX11_valueOf_90 : decode cX11_valueOf 90 = .ok (.aload_n 0, 1) := by decide +kernel
theorem dX11_valueOf_91 : decode cX11_valueOf 91 = .ok (.getfield 209, 3) := by decide +kernel
theorem dX11_valueOf_94 : decode cX11_valueOf 94 = .ok (.iload_n 3, 1) := by decide +kernel
theorem dX11_valueOf_95 : decode cX11_valueOf 95 = .ok (.iastore, 1) := by decide +kernel
theorem dX11_valueOf_96 : decode cX11_valueOf 96 = .ok (.aload_n 0, 1) := by decide +kernel
theorem dX11_valueOf_97 : decode cX11_valueOf 97 = .ok (.getfield 90, 3) := by decide +kernel
theorem dX11_valueOf_100 : decode cX11_valueOf 100 = .ok (.aload_n 0, 1) := by decide +kernel
theorem dX11_valueOf_101 : decode cX11_valueOf 101 = .ok (.getfield 209, 3) := by decide +kernel
theorem dX11_valueOf_104 : decode cX11_valueOf 104 = .ok (.iload 4, 2) := by decide +kernel
theorem dX11_valueOf_106 : decode cX11_valueOf 106 = .ok (.iastore, 1) := by decide +kernel
theorem dX11_valueOf_107 : decode cX11_valueOf 107 = .ok (.aload_n 0, 1) := by decide +kernel
theorem dX11_valueOf_108 : decode cX11_valueOf 108 = .ok (.getfield 93, 3) := by decide +kernel
theorem dX11_valueOf_111 : decode cX11_valueOf 111 = .ok (.aload_n 0, 1) := by decide +kernel
theorem dX11_valueOf_112 : decode cX11_valueOf 112 = .ok (.getfield 209, 3) := by decide +kernel
theorem dX11_valueOf_115 : decode cX11_valueOf 115 = .ok (.iconst 0, 1) := by decide +kernel
theorem dX11_valueOf_116 : decode cX11_valueOf 116 = .ok (.bastore, 1) := by decide +kernel
theorem dX11_valueOf_117 : decode cX11_valueOf 117 = .ok (.aload_n 0, 1) := by decide +kernel
theorem dX11_valueOf_118 : decode cX11_valueOf 118 = .ok (.getfield 96, 3) := by decide +kernel
theorem dX11_valueOf_121 : decode cX11_valueOf 121 = .ok (.aload_n 0, 1) := by decide +kernel
theorem dX11_valueOf_122 : decode cX11_valueOf 122 = .ok (.getfield 209, 3) := by decide +kernel
theorem dX11_valueOf_125 : decode cX11_valueOf 125 = .ok (.iconst 0, 1) := by decide +kernel
theorem dX11_valueOf_126 : decode cX11_valueOf 126 = .ok (.bastore, 1) := by decide +kernel
theorem dX11_valueOf_127 : decode cX11_valueOf 127 = .ok (.aload_n 0, 1) := by decide +kernel
theorem dX11_valueOf_128 : decode cX11_valueOf 128 = .ok (.getfield 99, 3) := by decide +kernel
theorem dX11_valueOf_131 : decode cX11_valueOf 131 = .ok (.aload_n 0, 1) := by decide +kernel
theorem dX11_valueOf_132 : decode cX11_valueOf 132 = .ok (.getfield 209, 3) := by decide +kernel
theorem dX11_valueOf_135 : decode cX11_valueOf 135 = .ok (.iconst 0, 1) := by decide +kernel
theorem dX11_valueOf_136 : decode cX11_valueOf 136 = .ok (.iastore, 1) := by decide +kernel
theorem dX11_valueOf_137 : decode cX11_valueOf 137 = .ok (.aload_n 0, 1) := by decide +kernel
theorem dX11_valueOf_138 : decode cX11_valueOf 138 = .ok (.dup, 1) := by decide +kernel
theorem dX11_valueOf_139 : decode cX11_valueOf 139 = .ok (.getfield 209, 3) := by decide +kernel
theorem dX11_valueOf_142 : decode cX11_valueOf 142 = .ok (.iconst 1, 1) := by decide +kernel
theorem dX11_valueOf_143 : decode cX11_valueOf 143 = .ok (.iadd, 1) := by decide +kernel
theorem dX11_valueOf_144 : decode cX11_valueOf 144 = .ok (.putfield 209, 3) := by decide +kernel
theorem dX11_valueOf_147 : decode cX11_valueOf 147 = .ok (.aload_n 0, 1) := by decide +kernel
theorem dX11_valueOf_148 : decode cX11_valueOf 148 = .ok (.getfield 209, 3) := by decide +kernel
theorem dX11_valueOf_151 : decode cX11_valueOf 151 = .ok (.iconst 1, 1) := by decide +kernel
theorem dX11_valueOf_152 : decode cX11_valueOf 152 = .ok (.isub, 1) := by decide +kernel
theorem dX11_valueOf_153 : decode cX11_valueOf 153 = .ok (.ireturn, 1) := by decide +kernel
theorem dX11_calculated_0 : decode cX11_calculated 0 = .ok (.aload_n 0, 1) := by decide +kernel
theorem dX11_calculated_1 : decode cX11_calculated 1 = .ok (.getfield 81, 3) := by decide +kernel
theorem dX11_calculated_4 : decode cX11_calculated 4 = .ok (.iload_n 2, 1) := by decide +kernel
theorem dX11_calculated_5 : decode cX11_calculated 5 = .ok (.iaload, 1) := by decide +kernel
theorem dX11_calculated_6 : decode cX11_calculated 6 = .ok (.ifCond .ne 38, 3) := by decide +kernel
theorem dX11_calculated_9 : decode cX11_calculated 9 = .ok (.aload_n 0, 1) := by decide +kernel
theorem dX11_calculated_10 : decode cX11_calculated 10 = .ok (.getfield 81, 3) := by decide +kernel
theorem dX11_calculated_13 : decode cX11_calculated 13 = .ok (.iload_n 3, 1) := by decide +kernel
theorem dX11_calculated_14 : decode cX11_calculated 14 = .ok (.iaload, 1) := by decide +kernel
theorem dX11_calculated_15 : decode cX11_calculated 15 = .ok (.ifCond .ne 29, 3) := by decide +kernel
theorem dX11_calculated_18 : decode cX11_calculated 18 = .ok (.aload_n 0, 1) := by decide +kernel
theorem dX11_calculated_19 : decode cX11_calculated 19 = .ok (.iconst 0, 1) := by decide +kernel
theorem dX11_calculated_20 : decode cX11_calculated 20 = .ok (.iload_n 1, 1) := by decide +kernel
theorem dX11_calculated_21 : decode cX11_calculated 21 = .ok (.aload_n 0, 1) := by decide +kernel
theorem dX11_calculated_22 : decode cX11_calculated 22 = .ok (.getfield 84, 3) := by decide +kernel
theorem dX11_calculated_25 : decode cX11_calculated 25 = .ok (.iload_n 2, 1) := by decide +kernel
theorem dX11_calculated_26 : decode cX11_calculated 26 = .ok (.iaload, 1) := by decide +kernel
theorem dX11_calculated_27 : decode cX11_calculated 27 = .ok (.aload_n 0, 1) := by decide +kernel
theorem dX11_calculated_28 : decode cX11_calculated 28 = .ok (.getfield 84, 3) := by decide +kernel
theorem dX11_calculated_31 : decode cX11_calculated 31 = .ok (.iload_n 3, 1) := by decide +kernel
theorem dX11_calculated_32 : decode cX11_calculated 32 = .ok (.iaload, 1) := by decide +kernel
theorem dX11_calculated_33 : decode cX11_calculated 33 = .ok (.invokestatic 178, 3) := by decide +kernel
theorem dX11_calculated_36 : decode cX11_calculated 36 = .ok (.iconst 0, 1) := by decide +kernel
theorem dX11_calculated_37 : decode cX11_calculated 37 = .ok (.iconst 0, 1) := by decide +kernel
theorem dX11_calculated_38 : decode cX11_calculated 38 = .ok (.invokevirtual 212, 3) := by decide +kernel
theorem dX11_calculated_41 : decode cX11_calculated 41 = .ok (.goto 11, 3) := by decide +kernel
theorem dX11_calculated_44 : decode cX11_calculated 44 = .ok (.aload_n 0, 1) := by decide +kernel
theorem dX11_calculated_45 : decode cX11_calculated 45 = .ok (.iconst 2, 1) := by decide +kernel
theorem dX11_calculated_46 : decode cX11_calculated 46 = .ok (.iload_n 1, 1) := by decide +kernel
theorem dX11_calculated_47 : decode cX11_calculated 47 = .ok (.iload_n 2, 1) := by decide +kernel
theorem dX11_calculated_48 : decode cX11_calculated 48 = .ok (.iload_n 3, 1) := by decide +kernel
theorem dX11_calculated_49 : decode cX11_calculated 49 = .ok (.invokevirtual 212, 3) := by decide +kernel
theorem dX11_calculated_52 : decode cX11_calculated 52 = .ok (.ireturn, 1) := by decide +kernel
theorem dX11_picture_0 : decode cX11_picture 0 = .ok (.iconst 0, 1) := by decide +kernel
theorem dX11_picture_1 : decode cX11_picture 1 = .ok (.istore_n 1, 1) := by decide +kernel
theorem dX11_picture_2 : decode cX11_picture 2 = .ok (.iload_n 1, 1) := by decide +kernel
theorem dX11_picture_3 : decode cX11_picture 3 = .ok (.bipush 6, 2) := by decide +kernel
theorem dX11_picture_5 : decode cX11_picture 5 = .ok (.if_icmp .ge 21, 3) := by decide +kernel
theorem dX11_picture_8 : decode cX11_picture 8 = .ok (.aload_n 0, 1) := by decide +kernel
theorem dX11_picture_9 : decode cX11_picture 9 = .ok (.getfield 93, 3) := by decide +kernel
theorem dX11_picture_12 : decode cX11_picture 12 = .ok (.aload_n 0, 1) := by decide +kernel
theorem dX11_picture_13 : decode cX11_picture 13 = .ok (.getfield 102, 3) := by decide +kernel
theorem dX11_picture_16 : decode cX11_picture 16 = .ok (.iload_n 1, 1) := by decide +kernel
theorem dX11_picture_17 : decode cX11_picture 17 = .ok (.iaload, 1) := by decide +kernel
theorem dX11_picture_18 : decode cX11_picture 18 = .ok (.iconst 1, 1) := by decide +kernel
theorem dX11_picture_19 : decode cX11_picture 19 = .ok (.bastore, 1) := by decide +kernel
theorem dX11_picture_20 : decode cX11_picture 20 = .ok (.iinc 1 1, 3) := by decide +kernel
theorem dX11_picture_23 : decode cX11_picture 23 = .ok (.goto (-21), 3) := by decide +kernel
theorem dX11_picture_26 : decode cX11_picture 26 = .ok (.iconst 0, 1) := by decide +kernel
theorem dX11_picture_27 : decode cX11_picture 27 = .ok (.istore_n 1, 1) := by decide +kernel
theorem dX11_picture_28 : decode cX11_picture 28 = .ok (.iload_n 1, 1) := by decide +kernel
theorem dX11_picture_29 : decode cX11_picture 29 = .ok (.aload_n 0, 1) := by decide +kernel
theorem dX11_picture_30 : decode cX11_picture 30 = .ok (.getfield 216, 3) := by decide +kernel
theorem dX11_picture_33 : decode cX11_picture 33 = .ok (.if_icmp .ge 21, 3) := by decide +kernel
theorem dX11_picture_36 : decode cX11_picture 36 = .ok (.aload_n 0, 1) := by decide +kernel
theorem dX11_picture_37 : decode cX11_picture 37 = .ok (.getfield 93, 3) := by decide +kernel
theorem dX11_picture_40 : decode cX11_picture 40 = .ok (.aload_n 0, 1) := by decide +kernel
theorem dX11_picture_41 : decode cX11_picture 41 = .ok (.getfield 105, 3) := by decide +kernel
theorem dX11_picture_44 : decode cX11_picture 44 = .ok (.iload_n 1, 1) := by decide +kernel
theorem dX11_picture_45 : decode cX11_picture 45 = .ok (.iaload, 1) := by decide +kernel
theorem dX11_picture_46 : decode cX11_picture 46 = .ok (.iconst 1, 1) := by decide +kernel
theorem dX11_picture_47 : decode cX11_picture 47 = .ok (.bastore, 1) := by decide +kernel
theorem dX11_picture_48 : decode cX11_picture 48 = .ok (.iinc 1 1, 3) := by decide +kernel
theorem dX11_picture_51 : decode cX11_picture 51 = .ok (.goto (-23), 3) := by decide +kernel
theorem dX11_picture_54 : decode cX11_picture 54 = .ok (.return_, 1) := by decide +kernel
theorem dX11_through_0 : decode cX11_through 0 = .ok (.aload_n 0, 1) := by decide +kernel
theorem dX11_through_1 : decode cX11_through 1 = .ok (.getfield 41, 3) := by decide +kernel
theorem dX11_through_4 : decode cX11_through 4 = .ok (.iload_n 1, 1) := by decide +kernel
theorem dX11_through_5 : decode cX11_through 5 = .ok (.iaload, 1) := by decide +kernel
theorem dX11_through_6 : decode cX11_through 6 = .ok (.istore_n 2, 1) := by decide +kernel
theorem dX11_through_7 : decode cX11_through 7 = .ok (.aload_n 0, 1) := by decide +kernel
theorem dX11_through_8 : decode cX11_through 8 = .ok (.getfield 7, 3) := by decide +kernel
theorem dX11_through_11 : decode cX11_through 11 = .ok (.iload_n 2, 1) := by decide +kernel
theorem dX11_through_12 : decode cX11_through 12 = .ok (.iaload, 1) := by decide +kernel
theorem dX11_through_13 : decode cX11_through 13 = .ok (.istore_n 3, 1) := by decide +kernel
theorem dX11_through_14 : decode cX11_through 14 = .ok (.aload_n 0, 1) := by decide +kernel
theorem dX11_through_15 : decode cX11_through 15 = .ok (.getfield 209, 3) := by decide +kernel
theorem dX11_through_18 : decode cX11_through 18 = .ok (.istore 4, 2) := by decide +kernel
theorem dX11_through_20 : decode cX11_through 20 = .ok (.iload_n 3, 1) := by decide +kernel
theorem dX11_through_21 : decode cX11_through 21 = .ok (.invokestatic 133, 3) := by decide +kernel
theorem dX11_through_24 : decode cX11_through 24 = .ok (.ifCond .le 17, 3) := by decide +kernel
theorem dX11_through_27 : decode cX11_through 27 = .ok (.aload_n 0, 1) := by decide +kernel
theorem dX11_through_28 : decode cX11_through 28 = .ok (.getfield 105, 3) := by decide +kernel
theorem dX11_through_31 : decode cX11_through 31 = .ok (.aload_n 0, 1) := by decide +kernel
theorem dX11_through_32 : decode cX11_through 32 = .ok (.getfield 216, 3) := by decide +kernel
theorem dX11_through_35 : decode cX11_through 35 = .ok (.iconst 1, 1) := by decide +kernel
theorem dX11_through_36 : decode cX11_through 36 = .ok (.isub, 1) := by decide +kernel
theorem dX11_through_37 : decode cX11_through 37 = .ok (.iaload, 1) := by decide +kernel
theorem dX11_through_38 : decode cX11_through 38 = .ok (.goto 4, 3) := by decide +kernel
theorem dX11_through_41 : decode cX11_through 41 = .ok (.iconst 0, 1) := by decide +kernel
theorem dX11_through_42 : decode cX11_through 42 = .ok (.istore 5, 2) := by decide +kernel
theorem dX11_through_44 : decode cX11_through 44 = .ok (.iload_n 3, 1) := by decide +kernel
theorem dX11_through_45 : decode cX11_through 45 = .ok (.invokestatic 133, 3) := by decide +kernel
theorem dX11_through_48 : decode cX11_through 48 = .ok (.iconst 1, 1) := by decide +kernel
theorem dX11_through_49 : decode cX11_through 49 = .ok (.if_icmp .le 17, 3) := by decide +kernel
theorem dX11_through_52 : decode cX11_through 52 = .ok (.aload_n 0, 1) := by decide +kernel
theorem dX11_through_53 : decode cX11_through 53 = .ok (.getfield 105, 3) := by decide +kernel
theorem dX11_through_56 : decode cX11_through 56 = .ok (.aload_n 0, 1) := by decide +kernel
theorem dX11_through_57 : decode cX11_through 57 = .ok (.getfield 216, 3) := by decide +kernel
theorem dX11_through_60 : decode cX11_through 60 = .ok (.iconst 2, 1) := by decide +kernel
theorem dX11_through_61 : decode cX11_through 61 = .ok (.isub, 1) := by decide +kernel
theorem dX11_through_62 : decode cX11_through 62 = .ok (.iaload, 1) := by decide +kernel
theorem dX11_through_63 : decode cX11_through 63 = .ok (.goto 4, 3) := by decide +kernel
theorem dX11_through_66 : decode cX11_through 66 = .ok (.iconst 0, 1) := by decide +kernel
theorem dX11_through_67 : decode cX11_through 67 = .ok (.istore 6, 2) := by decide +kernel
theorem dX11_through_69 : decode cX11_through 69 = .ok (.aload_n 0, 1) := by decide +kernel
theorem dX11_through_70 : decode cX11_through 70 = .ok (.dup, 1) := by decide +kernel
theorem dX11_through_71 : decode cX11_through 71 = .ok (.getfield 216, 3) := by decide +kernel
theorem dX11_through_74 : decode cX11_through 74 = .ok (.iload_n 3, 1) := by decide +kernel
theorem dX11_through_75 : decode cX11_through 75 = .ok (.invokestatic 133, 3) := by decide +kernel
theorem dX11_through_78 : decode cX11_through 78 = .ok (.isub, 1) := by decide +kernel
theorem dX11_through_79 : decode cX11_through 79 = .ok (.putfield 216, 3) := by decide +kernel
theorem dX11_through_82 : decode cX11_through 82 = .ok (.iload_n 3, 1) := by decide +kernel
theorem dX11_through_83 : decode cX11_through 83 = .ok (.ifCond .ne 25, 3) := by decide +kernel
theorem dX11_through_86 : decode cX11_through 86 = .ok (.aload_n 0, 1) := by decide +kernel
theorem dX11_through_87 : decode cX11_through 87 = .ok (.getfield 105, 3) := by decide +kernel
theorem dX11_through_90 : decode cX11_through 90 = .ok (.aload_n 0, 1) := by decide +kernel
theorem dX11_through_91 : decode cX11_through 91 = .ok (.getfield 216, 3) := by decide +kernel
theorem dX11_through_94 : decode cX11_through 94 = .ok (.aload_n 0, 1) := by decide +kernel
theorem dX11_through_95 : decode cX11_through 95 = .ok (.iconst 0, 1) := by decide +kernel
theorem dX11_through_96 : decode cX11_through 96 = .ok (.aload_n 0, 1) := by decide +kernel
theorem dX11_through_97 : decode cX11_through 97 = .ok (.getfield 13, 3) := by decide +kernel
theorem dX11_through_100 : decode cX11_through 100 = .ok (.iload_n 2, 1) := by decide +kernel
theorem dX11_through_101 : decode cX11_through 101 = .ok (.iaload, 1) := by decide +kernel
theorem dX11_through_102 : decode cX11_through 102 = .ok (.iconst 0, 1) := by decide +kernel
theorem dX11_through_103 : decode cX11_through 103 = .ok (.iconst 0, 1) := by decide +kernel
theorem dX11_through_104 : decode cX11_through 104 = .ok (.invokevirtual 212, 3) := by decide +kernel
theorem dX11_through_107 : decode cX11_through 107 = .ok (.iastore, 1) := by decide +kernel
theorem dX11_through_108 : decode cX11_through 108 = .ok (.iload_n 3, 1) := by decide +kernel
theorem dX11_through_109 : decode cX11_through 109 = .ok (.iconst 1, 1) := by decide +kernel
theorem dX11_through_110 : decode cX11_through 110 = .ok (.if_icmp .ne 23, 3) := by decide +kernel
theorem dX11_through_113 : decode cX11_through 113 = .ok (.aload_n 0, 1) := by decide +kernel
theorem dX11_through_114 : decode cX11_through 114 = .ok (.getfield 105, 3) := by decide +kernel
theorem dX11_through_117 : decode cX11_through 117 = .ok (.aload_n 0, 1) := by decide +kernel
theorem dX11_through_118 : decode cX11_through 118 = .ok (.getfield 216, 3) := by decide +kernel
theorem dX11_through_121 : decode cX11_through 121 = .ok (.aload_n 0, 1) := by decide +kernel
theorem dX11_through_122 : decode cX11_through 122 = .ok (.getfield 102, 3) := by decide +kernel
theorem dX11_through_125 : decode cX11_through 125 = .ok (.aload_n 0, 1) := by decide +kernel
theorem dX11_through_126 : decode cX11_through 126 = .ok (.getfield 13, 3) := by decide +kernel
theorem dX11_through_129 : decode cX11_through 129 = .ok (.iload_n 2, 1) := by decide +kernel
theorem dX11_through_130 : decode cX11_through 130 = .ok (.iaload, 1) := by decide +kernel
theorem dX11_through_131 : decode cX11_through 131 = .ok (.iaload, 1) := by decide +kernel
theorem dX11_through_132 : decode cX11_through 132 = .ok (.iastore, 1) := by decide +kernel
theorem dX11_through_133 : decode cX11_through 133 = .ok (.iload_n 3, 1) := by decide +kernel
theorem dX11_through_134 : decode cX11_through 134 = .ok (.iconst 2, 1) := by decide +kernel
theorem dX11_through_135 : decode cX11_through 135 = .ok (.if_icmp .ne 16, 3) := by decide +kernel
theorem dX11_through_138 : decode cX11_through 138 = .ok (.aload_n 0, 1) := by decide +kernel
theorem dX11_through_139 : decode cX11_through 139 = .ok (.getfield 102, 3) := by decide +kernel
theorem dX11_through_142 : decode cX11_through 142 = .ok (.aload_n 0, 1) := by decide +kernel
theorem dX11_through_143 : decode cX11_through 143 = .ok (.getfield 13, 3) := by decide +kernel
theorem dX11_through_146 : decode cX11_through 146 = .ok (.iload_n 2, 1) := by decide +kernel
theorem dX11_through_147 : decode cX11_through 147 = .ok (.iaload, 1) := by decide +kernel
theorem dX11_through_148 : decode cX11_through 148 = .ok (.iload 5, 2) := by decide +kernel
theorem dX11_through_150 : decode cX11_through 150 = .ok (.iastore, 1) := by decide +kernel
theorem dX11_through_151 : decode cX11_through 151 = .ok (.iload_n 3, 1) := by decide +kernel
theorem dX11_through_152 : decode cX11_through 152 = .ok (.iconst 3, 1) := by decide +kernel
theorem dX11_through_153 : decode cX11_through 153 = .ok (.bipush 8, 2) := by decide +kernel
theorem dX11_through_155 : decode cX11_through 155 = .ok (.invokestatic 114, 3) := by decide +kernel
theorem dX11_through_158 : decode cX11_through 158 = .ok (.ifCond .eq 21, 3) := by decide +kernel
theorem dX11_through_161 : decode cX11_through 161 = .ok (.aload_n 0, 1) := by decide +kernel
theorem dX11_through_162 : decode cX11_through 162 = .ok (.getfield 105, 3) := by decide +kernel
theorem dX11_through_165 : decode cX11_through 165 = .ok (.aload_n 0, 1) := by decide +kernel
theorem dX11_through_166 : decode cX11_through 166 = .ok (.getfield 216, 3) := by decide +kernel
theorem dX11_through_169 : decode cX11_through 169 = .ok (.aload_n 0, 1) := by decide +kernel
theorem dX11_through_170 : decode cX11_through 170 = .ok (.iload_n 3, 1) := by decide +kernel
theorem dX11_through_171 : decode cX11_through 171 = .ok (.iload 6, 2) := by decide +kernel
theorem dX11_through_173 : decode cX11_through 173 = .ok (.iload 5, 2) := by decide +kernel
theorem dX11_through_175 : decode cX11_through 175 = .ok (.invokevirtual 219, 3) := by decide +kernel
theorem dX11_through_178 : decode cX11_through 178 = .ok (.iastore, 1) := by decide +kernel
theorem dX11_through_179 : decode cX11_through 179 = .ok (.iload_n 3, 1) := by decide +kernel
theorem dX11_through_180 : decode cX11_through 180 = .ok (.bipush 9, 2) := by decide +kernel
theorem dX11_through_182 : decode cX11_through 182 = .ok (.if_icmp .eq 9, 3) := by decide +kernel
theorem dX11_through_185 : decode cX11_through 185 = .ok (.iload_n 3, 1) := by decide +kernel
theorem dX11_through_186 : decode cX11_through 186 = .ok (.bipush 11, 2) := by decide +kernel
theorem dX11_through_188 : decode cX11_through 188 = .ok (.if_icmp .ne 38, 3) := by decide +kernel
theorem dX11_through_191 : decode cX11_through 191 = .ok (.aload_n 0, 1) := by decide +kernel
theorem dX11_through_192 : decode cX11_through 192 = .ok (.getfield 105, 3) := by decide +kernel
theorem dX11_through_195 : decode cX11_through 195 = .ok (.aload_n 0, 1) := by decide +kernel
theorem dX11_through_196 : decode cX11_through 196 = .ok (.getfield 216, 3) := by decide +kernel
theorem dX11_through_199 : decode cX11_through 199 = .ok (.iload 5, 2) := by decide +kernel
theorem dX11_through_201 : decode cX11_through 201 = .ok (.iastore, 1) := by decide +kernel
theorem dX11_through_202 : decode cX11_through 202 = .ok (.aload_n 0, 1) := by decide +kernel
theorem dX11_through_203 : decode cX11_through 203 = .ok (.getfield 105, 3) := by decide +kernel
theorem dX11_through_206 : decode cX11_through 206 = .ok (.aload_n 0, 1) := by decide +kernel
theorem dX11_through_207 : decode cX11_through 207 = .ok (.getfield 216, 3) := by decide +kernel
theorem dX11_through_210 : decode cX11_through 210 = .ok (.iconst 1, 1) := by decide +kernel
theorem dX11_through_211 : decode cX11_through 211 = .ok (.iadd, 1) := by decide +kernel
theorem dX11_through_212 : decode cX11_through 212 = .ok (.iload_n 3, 1) := by decide +kernel
theorem dX11_through_213 : decode cX11_through 213 = .ok (.bipush 9, 2) := by decide +kernel
theorem dX11_through_215 : decode cX11_through 215 = .ok (.if_icmp .ne 8, 3) := by decide +kernel
theorem dX11_through_218 : decode cX11_through 218 = .ok (.iload 5, 2) := by decide +kernel
theorem dX11_through_220 : decode cX11_through 220 = .ok (.goto 5, 3) := by decide +kernel
theorem dX11_through_223 : decode cX11_through 223 = .ok (.iload 6, 2) := by decide +kernel
theorem dX11_through_225 : decode cX11_through 225 = .ok (.iastore, 1) := by decide +kernel
theorem dX11_through_226 : decode cX11_through 226 = .ok (.aload_n 0, 1) := by decide +kernel
theorem dX11_through_227 : decode cX11_through 227 = .ok (.dup, 1) := by decide +kernel
theorem dX11_through_228 : decode cX11_through 228 = .ok (.getfield 216, 3) := by decide +kernel
theorem dX11_through_231 : decode cX11_through 231 = .ok (.iload_n 3, 1) := by decide +kernel
theorem dX11_through_232 : decode cX11_through 232 = .ok (.invokestatic 136, 3) := by decide +kernel
theorem dX11_through_235 : decode cX11_through 235 = .ok (.iadd, 1) := by decide +kernel
theorem dX11_through_236 : decode cX11_through 236 = .ok (.putfield 216, 3) := by decide +kernel
theorem dX11_through_239 : decode cX11_through 239 = .ok (.aload_n 0, 1) := by decide +kernel
theorem dX11_through_240 : decode cX11_through 240 = .ok (.getfield 44, 3) := by decide +kernel
theorem dX11_through_243 : decode cX11_through 243 = .ok (.iload_n 1, 1) := by decide +kernel
theorem dX11_through_244 : decode cX11_through 244 = .ok (.baload, 1) := by decide +kernel
theorem dX11_through_245 : decode cX11_through 245 = .ok (.ifCond .eq 7, 3) := by decide +kernel
theorem dX11_through_248 : decode cX11_through 248 = .ok (.iconst 2, 1) := by decide +kernel
theorem dX11_through_249 : decode cX11_through 249 = .ok (.goto 4, 3) := by decide +kernel
theorem dX11_through_252 : decode cX11_through 252 = .ok (.iconst 1, 1) := by decide +kernel
