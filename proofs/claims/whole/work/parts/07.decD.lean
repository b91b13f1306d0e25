theorem dX11_init_0 : decode cX11_init 0 = .ok (.aload_n 0, 1) := by decide +kernel
theorem dX11_init_1 : decode cX11_init 1 = .ok (.invokespecial 1, 3) := by decide +kernel
theorem dX11_init_4 : decode cX11_init 4 = .ok (.aload_n 0, 1) := by decide +kernel
theorem dX11_init_5 : decode cX11_init 5 = .ok (.bipush 40, 2) := by decide +kernel
theorem dX11_init_7 : decode cX11_init 7 = .ok (.newarray .int, 2) := by decide +kernel
theorem dX11_init_9 : decode cX11_init 9 = .ok (.putfield 7, 3) := by decide +kernel
theorem dX11_init_12 : decode cX11_init 12 = .ok (.aload_n 0, 1) := by decide +kernel
theorem dX11_init_13 : decode cX11_init 13 = .ok (.bipush 40, 2) := by decide +kernel
theorem dX11_init_15 : decode cX11_init 15 = .ok (.newarray .int, 2) := by decide +kernel
theorem dX11_init_17 : decode cX11_init 17 = .ok (.putfield 13, 3) := by decide +kernel
theorem dX11_init_20 : decode cX11_init 20 = .ok (.aload_n 0, 1) := by decide +kernel
theorem dX11_init_21 : decode cX11_init 21 = .ok (.bipush 40, 2) := by decide +kernel
theorem dX11_init_23 : decode cX11_init 23 = .ok (.newarray .int, 2) := by decide +kernel
theorem dX11_init_25 : decode cX11_init 25 = .ok (.putfield 16, 3) := by decide +kernel
theorem dX11_init_28 : decode cX11_init 28 = .ok (.aload_n 0, 1) := by decide +kernel
theorem dX11_init_29 : decode cX11_init 29 = .ok (.iconst (-1), 1) := by decide +kernel
theorem dX11_init_30 : decode cX11_init 30 = .ok (.putfield 19, 3) := by decide +kernel
theorem dX11_init_33 : decode cX11_init 33 = .ok (.aload_n 0, 1) := by decide +kernel
theorem dX11_init_34 : decode cX11_init 34 = .ok (.bipush 6, 2) := by decide +kernel
theorem dX11_init_36 : decode cX11_init 36 = .ok (.newarray .int, 2) := by decide +kernel
theorem dX11_init_38 : decode cX11_init 38 = .ok (.putfield 23, 3) := by decide +kernel
theorem dX11_init_41 : decode cX11_init 41 = .ok (.aload_n 0, 1) := by decide +kernel
theorem dX11_init_42 : decode cX11_init 42 = .ok (.bipush 8, 2) := by decide +kernel
theorem dX11_init_44 : decode cX11_init 44 = .ok (.newarray .int, 2) := by decide +kernel
theorem dX11_init_46 : decode cX11_init 46 = .ok (.putfield 26, 3) := by decide +kernel
theorem dX11_init_49 : decode cX11_init 49 = .ok (.aload_n 0, 1) := by decide +kernel
theorem dX11_init_50 : decode cX11_init 50 = .ok (.bipush 30, 2) := by decide +kernel
theorem dX11_init_52 : decode cX11_init 52 = .ok (.newarray .int, 2) := by decide +kernel
theorem dX11_init_54 : decode cX11_init 54 = .ok (.putfield 29, 3) := by decide +kernel
theorem dX11_init_57 : decode cX11_init 57 = .ok (.aload_n 0, 1) := by decide +kernel
theorem dX11_init_58 : decode cX11_init 58 = .ok (.bipush 40, 2) := by decide +kernel
theorem dX11_init_60 : decode cX11_init 60 = .ok (.newarray .int, 2) := by decide +kernel
theorem dX11_init_62 : decode cX11_init 62 = .ok (.putfield 32, 3) := by decide +kernel
theorem dX11_init_65 : decode cX11_init 65 = .ok (.aload_n 0, 1) := by decide +kernel
theorem dX11_init_66 : decode cX11_init 66 = .ok (.bipush 40, 2) := by decide +kernel
theorem dX11_init_68 : decode cX11_init 68 = .ok (.newarray .int, 2) := by decide +kernel
theorem dX11_init_70 : decode cX11_init 70 = .ok (.putfield 35, 3) := by decide +kernel
theorem dX11_init_73 : decode cX11_init 73 = .ok (.aload_n 0, 1) := by decide +kernel
theorem dX11_init_74 : decode cX11_init 74 = .ok (.iconst (-1), 1) := by decide +kernel
theorem dX11_init_75 : decode cX11_init 75 = .ok (.putfield 38, 3) := by decide +kernel
theorem dX11_init_78 : decode cX11_init 78 = .ok (.aload_n 0, 1) := by decide +kernel
theorem dX11_init_79 : decode cX11_init 79 = .ok (.bipush 30, 2) := by decide +kernel
theorem dX11_init_81 : decode cX11_init 81 = .ok (.newarray .int, 2) := by decide +kernel
theorem dX11_init_83 : decode cX11_init 83 = .ok (.putfield 41, 3) := by decide +kernel
theorem dX11_init_86 : decode cX11_init 86 = .ok (.aload_n 0, 1) := by decide +kernel
theorem dX11_init_87 : decode cX11_init 87 = .ok (.bipush 30, 2) := by decide +kernel
theorem dX11_init_89 : decode cX11_init 89 = .ok (.newarray .boolean, 2) := by decide +kernel
theorem dX11_init_91 : decode cX11_init 91 = .ok (.putfield 44, 3) := by decide +kernel
theorem dX11_init_94 : decode cX11_init 94 = .ok (.aload_n 0, 1) := by decide +kernel
theorem dX11_init_95 : decode cX11_init 95 = .ok (.iconst (-1), 1) := by decide +kernel
theorem dX11_init_96 : decode cX11_init 96 = .ok (.putfield 48, 3) := by decide +kernel
theorem dX11_init_99 : decode cX11_init 99 = .ok (.aload_n 0, 1) := by decide +kernel
theorem dX11_init_100 : decode cX11_init 100 = .ok (.iconst 4, 1) := by decide +kernel
theorem dX11_init_101 : decode cX11_init 101 = .ok (.newarray .int, 2) := by decide +kernel
theorem dX11_init_103 : decode cX11_init 103 = .ok (.putfield 51, 3) := by decide +kernel
theorem dX11_init_106 : decode cX11_init 106 = .ok (.aload_n 0, 1) := by decide +kernel
theorem dX11_init_107 : decode cX11_init 107 = .ok (.iconst 4, 1) := by decide +kernel
theorem dX11_init_108 : decode cX11_init 108 = .ok (.newarray .int, 2) := by decide +kernel
theorem dX11_init_110 : decode cX11_init 110 = .ok (.putfield 54, 3) := by decide +kernel
theorem dX11_init_113 : decode cX11_init 113 = .ok (.aload_n 0, 1) := by decide +kernel
theorem dX11_init_114 : decode cX11_init 114 = .ok (.bipush 120, 2) := by decide +kernel
theorem dX11_init_116 : decode cX11_init 116 = .ok (.newarray .int, 2) := by decide +kernel
theorem dX11_init_118 : decode cX11_init 118 = .ok (.putfield 57, 3) := by decide +kernel
theorem dX11_init_121 : decode cX11_init 121 = .ok (.aload_n 0, 1) := by decide +kernel
theorem dX11_init_122 : decode cX11_init 122 = .ok (.bipush 120, 2) := by decide +kernel
theorem dX11_init_124 : decode cX11_init 124 = .ok (.newarray .boolean, 2) := by decide +kernel
theorem dX11_init_126 : decode cX11_init 126 = .ok (.putfield 60, 3) := by decide +kernel
theorem dX11_init_129 : decode cX11_init 129 = .ok (.aload_n 0, 1) := by decide +kernel
theorem dX11_init_130 : decode cX11_init 130 = .ok (.bipush 120, 2) := by decide +kernel
theorem dX11_init_132 : decode cX11_init 132 = .ok (.newarray .int, 2) := by decide +kernel
theorem dX11_init_134 : decode cX11_init 134 = .ok (.putfield 63, 3) := by decide +kernel
theorem dX11_init_137 : decode cX11_init 137 = .ok (.aload_n 0, 1) := by decide +kernel
theorem dX11_init_138 : decode cX11_init 138 = .ok (.iconst 4, 1) := by decide +kernel
theorem dX11_init_139 : decode cX11_init 139 = .ok (.newarray .int, 2) := by decide +kernel
theorem dX11_init_141 : decode cX11_init 141 = .ok (.putfield 66, 3) := by decide +kernel
theorem dX11_init_144 : decode cX11_init 144 = .ok (.aload_n 0, 1) := by decide +kernel
theorem dX11_init_145 : decode cX11_init 145 = .ok (.iconst 4, 1) := by decide +kernel
theorem dX11_init_146 : decode cX11_init 146 = .ok (.newarray .int, 2) := by decide +kernel
theorem dX11_init_148 : decode cX11_init 148 = .ok (.putfield 69, 3) := by decide +kernel
theorem dX11_init_151 : decode cX11_init 151 = .ok (.aload_n 0, 1) := by decide +kernel
theorem dX11_init_152 : decode cX11_init 152 = .ok (.iconst 4, 1) := by decide +kernel
theorem dX11_init_153 : decode cX11_init 153 = .ok (.newarray .int, 2) := by decide +kernel
theorem dX11_init_155 : decode cX11_init 155 = .ok (.putfield 72, 3) := by decide +kernel
theorem dX11_init_158 : decode cX11_init 158 = .ok (.aload_n 0, 1) := by decide +kernel
theorem dX11_init_159 : decode cX11_init 159 = .ok (.iconst 4, 1) := by decide +kernel
theorem dX11_init_160 : decode cX11_init 160 = .ok (.newarray .int, 2) := by decide +kernel
theorem dX11_init_162 : decode cX11_init 162 = .ok (.putfield 75, 3) := by decide +kernel
theorem dX11_init_165 : decode cX11_init 165 = .ok (.aload_n 0, 1) := by decide +kernel
theorem dX11_init_166 : decode cX11_init 166 = .ok (.iconst 4, 1) := by decide +kernel
theorem dX11_init_167 : decode cX11_init 167 = .ok (.newarray .int, 2) := by decide +kernel
theorem dX11_init_169 : decode cX11_init 169 = .ok (.putfield 78, 3) := by decide +kernel
theorem dX11_init_172 : decode cX11_init 172 = .ok (.aload_n 0, 1) := by decide +kernel
theorem dX11_init_173 : decode cX11_init 173 = .ok (.bipush 40, 2) := by decide +kernel
theorem dX11_init_175 : decode cX11_init 175 = .ok (.newarray .int, 2) := by decide +kernel
theorem dX11_init_177 : decode cX11_init 177 = .ok (.putfield 81, 3) := by decide +kernel
theorem dX11_init_180 : decode cX11_init 180 = .ok (.aload_n 0, 1) := by decide +kernel
theorem dX11_init_181 : decode cX11_init 181 = .ok (.bipush 40, 2) := by decide +kernel
theorem dX11_init_183 : decode cX11_init 183 = .ok (.newarray .int, 2) := by decide +kernel
theorem dX11_init_185 : decode cX11_init 185 = .ok (.putfield 84, 3) := by decide +kernel
theorem dX11_init_188 : decode cX11_init 188 = .ok (.aload_n 0, 1) := by decide +kernel
theorem dX11_init_189 : decode cX11_init 189 = .ok (.bipush 40, 2) := by decide +kernel
theorem dX11_init_191 : decode cX11_init 191 = .ok (.newarray .int, 2) := by decide +kernel
theorem dX11_init_193 : decode cX11_init 193 = .ok (.putfield 87, 3) := by decide +kernel
theorem dX11_init_196 : decode cX11_init 196 = .ok (.aload_n 0, 1) := by decide +kernel
theorem dX11_init_197 : decode cX11_init 197 = .ok (.bipush 40, 2) := by decide +kernel
theorem dX11_init_199 : decode cX11_init 199 = .ok (.newarray .int, 2) := by decide +kernel
theorem dX11_init_201 : decode cX11_init 201 = .ok (.putfield 90, 3) := by decide +kernel
theorem dX11_init_204 : decode cX11_init 204 = .ok (.aload_n 0, 1) := by decide +kernel
theorem dX11_init_205 : decode cX11_init 205 = .ok (.bipush 40, 2) := by decide +kernel
theorem dX11_init_207 : decode cX11_init 207 = .ok (.newarray .boolean, 2) := by decide +kernel
theorem dX11_init_209 : decode cX11_init 209 = .ok (.putfield 93, 3) := by decide +kernel
theorem dX11_init_212 : decode cX11_init 212 = .ok (.aload_n 0, 1) := by decide +kernel
theorem dX11_init_213 : decode cX11_init 213 = .ok (.bipush 40, 2) := by decide +kernel
theorem dX11_init_215 : decode cX11_init 215 = .ok (.newarray .boolean, 2) := by decide +kernel
theorem dX11_init_217 : decode cX11_init 217 = .ok (.putfield 96, 3) := by decide +kernel
theorem dX11_init_220 : decode cX11_init 220 = .ok (.aload_n 0, 1) := by decide +kernel
theorem dX11_init_221 : decode cX11_init 221 = .ok (.bipush 40, 2) := by decide +kernel
theorem dX11_init_223 : decode cX11_init 223 = .ok (.newarray .int, 2) := by decide +kernel
theorem dX11_init_225 : decode cX11_init 225 = .ok (.putfield 99, 3) := by decide +kernel
theorem dX11_init_228 : decode cX11_init 228 = .ok (.aload_n 0, 1) := by decide +kernel
theorem dX11_init_229 : decode cX11_init 229 = .ok (.bipush 6, 2) := by decide +kernel
theorem dX11_init_231 : decode cX11_init 231 = .ok (.newarray .int, 2) := by decide +kernel
theorem dX11_init_233 : decode cX11_init 233 = .ok (.putfield 102, 3) := by decide +kernel
theorem dX11_init_236 : decode cX11_init 236 = .ok (.aload_n 0, 1) := by decide +kernel
theorem dX11_init_237 : decode cX11_init 237 = .ok (.bipush 8, 2) := by decide +kernel
theorem dX11_init_239 : decode cX11_init 239 = .ok (.newarray .int, 2) := by decide +kernel
theorem dX11_init_241 : decode cX11_init 241 = .ok (.putfield 105, 3) := by decide +kernel
theorem dX11_init_244 : decode cX11_init 244 = .ok (.aload_n 0, 1) := by decide +kernel
theorem dX11_init_245 : decode cX11_init 245 = .ok (.bipush 30, 2) := by decide +kernel
theorem dX11_init_247 : decode cX11_init 247 = .ok (.newarray .int, 2) := by decide +kernel
theorem dX11_init_249 : decode cX11_init 249 = .ok (.putfield 108, 3) := by decide +kernel
theorem dX11_init_252 : decode cX11_init 252 = .ok (.return_, 1) := by decide +kernel
theorem dX11_thrown_0 : decode cX11_thrown 0 = .ok (.aload_n 0, 1) := by decide +kernel
theorem dX11_thrown_1 : decode cX11_thrown 1 = .ok (.getfield 111, 3) := by decide +kernel
theorem dX11_thrown_4 : decode cX11_thrown 4 = .ok (.ireturn, 1) := by decide +kernel
theorem dX11_fail_0 : decode cX11_fail 0 = .ok (.aload_n 0, 1) := by decide +kernel
theorem dX11_fail_1 : decode cX11_fail 1 = .ok (.iload_n 1, 1) := by decide +kernel
theorem dX11_fail_2 : decode cX11_fail 2 = .ok (.putfield 111, 3) := by decide +kernel
theorem dX11_fail_5 : decode cX11_fail 5 = .ok (.iconst 0, 1) := by decide +kernel
theorem dX11_fail_6 : decode cX11_fail 6 = .ok (.ireturn, 1) := by decide +kernel
theorem dX11_within_0 : decode cX11_within 0 = .ok (.iload_n 0, 1) := by decide +kernel
theorem dX11_within_1 : decode cX11_within 1 = .ok (.iload_n 1, 1) := by decide +kernel
theorem dX11_within_2 : decode cX11_within 2 = .ok (.if_icmp .lt 12, 3) := by decide +kernel
theorem dX11_within_5 : decode cX11_within 5 = .ok (.iload_n 0, 1) := by decide +kernel
theorem dX11_within_6 : decode cX11_within 6 = .ok (.iload_n 2, 1) := by decide +kernel
theorem dX11_within_7 : decode cX11_within 7 = .ok (.if_icmp .gt 7, 3) := by decide +kernel
theorem dX11_within_10 : decode cX11_within 10 = .ok (.iconst 1, 1) := by decide +kernel
theorem dX11_within_11 : decode cX11_within 11 = .ok (.goto 4, 3) := by decide +kernel
theorem dX11_within_14 : decode cX11_within 14 = .ok (.iconst 0, 1) := by decide +kernel
theorem dX11_within_15 : decode cX11_within 15 = .ok (.ireturn, 1) := by decide +kernel
theorem dX11_add_0 : decode cX11_add 0 = .ok (.aload_n 0, 1) := by decide +kernel
theorem dX11_add_1 : decode cX11_add 1 = .ok (.iconst 0, 1) := by decide +kernel
theorem dX11_add_2 : decode cX11_add 2 = .ok (.putfield 111, 3) := by decide +kernel
theorem dX11_add_5 : decode cX11_add 5 = .ok (.iload_n 1, 1) := by decide +kernel
theorem dX11_add_6 : decode cX11_add 6 = .ok (.iconst 0, 1) := by decide +kernel
theorem dX11_add_7 : decode cX11_add 7 = .ok (.bipush 15, 2) := by decide +kernel
theorem dX11_add_9 : decode cX11_add 9 = .ok (.invokestatic 114, 3) := by decide +kernel
theorem dX11_add_12 : decode cX11_add 12 = .ok (.ifCond .eq 65, 3) := by decide +kernel
theorem dX11_add_15 : decode cX11_add 15 = .ok (.iload_n 1, 1) := by decide +kernel
theorem dX11_add_16 : decode cX11_add 16 = .ok (.ifCond .ne 16, 3) := by decide +kernel
theorem dX11_add_19 : decode cX11_add 19 = .ok (.iload_n 2, 1) := by decide +kernel
theorem dX11_add_20 : decode cX11_add 20 = .ok (.sipush (-32768), 3) := by decide +kernel
theorem dX11_add_23 : decode cX11_add 23 = .ok (.sipush 32767, 3) := by decide +kernel
theorem dX11_add_26 : decode cX11_add 26 = .ok (.invokestatic 114, 3) := by decide +kernel
theorem dX11_add_29 : decode cX11_add 29 = .ok (.ifCond .eq 48, 3) := by decide +kernel
theorem dX11_add_32 : decode cX11_add 32 = .ok (.iload_n 1, 1) := by decide +kernel
theorem dX11_add_33 : decode cX11_add 33 = .ok (.iconst 1, 1) := by decide +kernel
theorem dX11_add_34 : decode cX11_add 34 = .ok (.if_icmp .eq 8, 3) := by decide +kernel
theorem dX11_add_37 : decode cX11_add 37 = .ok (.iload_n 1, 1) := by decide +kernel
theorem dX11_add_38 : decode cX11_add 38 = .ok (.iconst 2, 1) := by decide +kernel
theorem dX11_add_39 : decode cX11_add 39 = .ok (.if_icmp .ne 12, 3) := by decide +kernel
theorem dX11_add_42 : decode cX11_add 42 = .ok (.iload_n 2, 1) := by decide +kernel
theorem dX11_add_43 : decode cX11_add 43 = .ok (.iconst 0, 1) := by decide +kernel
theorem dX11_add_44 : decode cX11_add 44 = .ok (.iconst 5, 1) := by decide +kernel
theorem dX11_add_45 : decode cX11_add 45 = .ok (.invokestatic 114, 3) := by decide +kernel
theorem dX11_add_48 : decode cX11_add 48 = .ok (.ifCond .eq 29, 3) := by decide +kernel
theorem dX11_add_51 : decode cX11_add 51 = .ok (.iload_n 1, 1) := by decide +kernel
theorem dX11_add_52 : decode cX11_add 52 = .ok (.bipush 13, 2) := by decide +kernel
theorem dX11_add_54 : decode cX11_add 54 = .ok (.if_icmp .eq 9, 3) := by decide +kernel
theorem dX11_add_57 : decode cX11_add 57 = .ok (.iload_n 1, 1) := by decide +kernel
theorem dX11_add_58 : decode cX11_add 58 = .ok (.bipush 14, 2) := by decide +kernel
theorem dX11_add_60 : decode cX11_add 60 = .ok (.if_icmp .ne 13, 3) := by decide +kernel
theorem dX11_add_63 : decode cX11_add 63 = .ok (.iload_n 2, 1) := by decide +kernel
theorem dX11_add_64 : decode cX11_add 64 = .ok (.iconst 0, 1) := by decide +kernel
theorem dX11_add_65 : decode cX11_add 65 = .ok (.bipush 39, 2) := by decide +kernel
theorem dX11_add_67 : decode cX11_add 67 = .ok (.invokestatic 114, 3) := by decide +kernel
theorem dX11_add_70 : decode cX11_add 70 = .ok (.ifCond .eq 7, 3) := by decide +kernel
theorem dX11_add_73 : decode cX11_add 73 = .ok (.iconst 1, 1) := by decide +kernel
theorem dX11_add_74 : decode cX11_add 74 = .ok (.goto 4, 3) := by decide +kernel
theorem dX11_add_77 : decode cX11_add 77 = .ok (.iconst 0, 1) := by decide +kernel
theorem dX11_add_78 : decode cX11_add 78 = .ok (.istore_n 3, 1) := by decide +kernel
theorem dX11_add_79 : decode cX11_add 79 = .ok (.iload_n 3, 1) := by decide +kernel
theorem dX11_add_80 : decode cX11_add 80 = .ok (.ifCond .ne 9, 3) := by decide +kernel
theorem dX11_add_83 : decode cX11_add 83 = .ok (.aload_n 0, 1) := by decide +kernel
theorem dX11_add_84 : decode cX11_add 84 = .ok (.iconst 1, 1) := by decide +kernel
theorem dX11_add_85 : decode cX11_add 85 = .ok (.invokevirtual 118, 3) := by decide +kernel
theorem dX11_add_88 : decode cX11_add 88 = .ok (.ireturn, 1) := by decide +kernel
theorem dX11_add_89 : decode cX11_add 89 = .ok (.aload_n 0, 1) := by decide +kernel
theorem dX11_add_90 : decode cX11_add 90 = .ok (.getfield 122, 3) := by decide +kernel
theorem dX11_add_93 : decode cX11_add 93 = .ok (.bipush 40, 2) := by decide +kernel
theorem dX11_add_95 : decode cX11_add 95 = .ok (.if_icmp .eq 10, 3) := by decide +kernel
theorem dX11_add_98 : decode cX11_add 98 = .ok (.aload_n 0, 1) := by decide +kernel
theorem dX11_add_99 : decode cX11_add 99 = .ok (.getfield 125, 3) := by decide +kernel
theorem dX11_add_102 : decode cX11_add 102 = .ok (.ifCond .eq 9, 3) := by decide +kernel
theorem dX11_add_105 : decode cX11_add 105 = .ok (.aload_n 0, 1) := by decide +kernel
theorem dX11_add_106 : decode cX11_add 106 = .ok (.iconst 2, 1) := by decide +kernel
theorem dX11_add_107 : decode cX11_add 107 = .ok (.invokevirtual 118, 3) := by decide +kernel
theorem dX11_add_110 : decode cX11_add 110 = .ok (.ireturn, 1) := by decide +kernel
theorem dX11_add_111 : decode cX11_add 111 = .ok (.aload_n 0, 1) := by decide +kernel
theorem dX11_add_112 : decode cX11_add 112 = .ok (.getfield 7, 3) := by decide +kernel
theorem dX11_add_115 : decode cX11_add 115 = .ok (.aload_n 0, 1) := by decide +kernel
theorem dX11_add_116 : decode cX11_add 116 = .ok (.getfield 122, 3) := by decide +kernel
theorem dX11_add_119 : decode cX11_add 119 = .ok (.iload_n 1, 1) := by decide +kernel
theorem dX11_add_120 : decode cX11_add 120 = .ok (.iastore, 1) := by decide +kernel
theorem dX11_add_121 : decode cX11_add 121 = .ok (.aload_n 0, 1) := by decide +kernel
theorem dX11_add_122 : decode cX11_add 122 = .ok (.getfield 13, 3) := by decide +kernel
theorem dX11_add_125 : decode cX11_add 125 = .ok (.aload_n 0, 1) := by decide +kernel
theorem dX11_add_126 : decode cX11_add 126 = .ok (.getfield 122, 3) := by decide +kernel
theorem dX11_add_129 : decode cX11_add 129 = .ok (.iload_n 2, 1) := by decide +kernel
theorem dX11_add_130 : decode cX11_add 130 = .ok (.iastore, 1) := by decide +kernel
theorem dX11_add_131 : decode cX11_add 131 = .ok (.aload_n 0, 1) := by decide +kernel
theorem dX11_add_132 : decode cX11_add 132 = .ok (.dup, 1) := by decide +kernel
theorem dX11_add_133 : decode cX11_add 133 = .ok (.getfield 122, 3) := by decide +kernel
theorem dX11_add_136 : decode cX11_add 136 = .ok (.iconst 1, 1) := by decide +kernel
theorem dX11_add_137 : decode cX11_add 137 = .ok (.iadd, 1) := by decide +kernel
theorem dX11_add_138 : decode cX11_add 138 = .ok (.putfield 122, 3) := by decide +kernel
theorem dX11_add_141 : decode cX11_add 141 = .ok (.aload_n 0, 1) := by decide +kernel
theorem dX11_add_142 : decode cX11_add 142 = .ok (.getfield 122, 3) := by decide +kernel
theorem dX11_add_145 : decode cX11_add 145 = .ok (.ireturn, 1) := by decide +kernel
theorem dX11_takes_0 : decode cX11_takes 0 = .ok (.iload_n 0, 1) := by decide +kernel
theorem dX11_takes_1 : decode cX11_takes 1 = .ok (.ifCond .eq 20, 3) := by decide +kernel
theorem dX11_takes_4 : decode cX11_takes 4 = .ok (.iload_n 0, 1) := by decide +kernel
theorem dX11_takes_5 : decode cX11_takes 5 = .ok (.iconst 1, 1) := by decide +kernel
theorem dX11_takes_6 : decode cX11_takes 6 = .ok (.if_icmp .eq 15, 3) := by decide +kernel
theorem dX11_takes_9 : decode cX11_takes 9 = .ok (.iload_n 0, 1) := by decide +kernel
theorem dX11_takes_10 : decode cX11_takes 10 = .ok (.bipush 13, 2) := by decide +kernel
theorem dX11_takes_12 : decode cX11_takes 12 = .ok (.if_icmp .eq 9, 3) := by decide +kernel
theorem dX11_takes_15 : decode cX11_takes 15 = .ok (.iload_n 0, 1) := by decide +kernel
theorem dX11_takes_16 : decode cX11_takes 16 = .ok (.bipush 15, 2) := by decide +kernel
theorem dX11_takes_18 : decode cX11_takes 18 = .ok (.if_icmp .ne 5, 3) := by decide +kernel
theorem dX11_takes_21 : decode cX11_takes 21 = .ok (.iconst 0, 1) := by decide +kernel
theorem dX11_takes_22 : decode cX11_takes 22 = .ok (.ireturn, 1) := by decide +kernel
theorem dX11_takes_23 : decode cX11_takes 23 = .ok (.iload_n 0, 1) := by decide +kernel
theorem dX11_takes_24 : decode cX11_takes 24 = .ok (.iconst 3, 1) := by decide +kernel
theorem dX11_takes_25 : decode cX11_takes 25 = .ok (.bipush 8, 2) := by decide +kernel
theorem dX11_takes_27 : decode cX11_takes 27 = .ok (.invokestatic 114, 3) := by decide +kernel
theorem dX11_takes_30 : decode cX11_takes 30 = .ok (.ifCond .ne 9, 3) := by decide +kernel
theorem dX11_takes_33 : decode cX11_takes 33 = .ok (.iload_n 0, 1) := by decide +kernel
theorem dX11_takes_34 : decode cX11_takes 34 = .ok (.bipush 11, 2) := by decide +kernel
theorem dX11_takes_36 : decode cX11_takes 36 = .ok (.if_icmp .ne 7, 3) := by decide +kernel
theorem dX11_takes_39 : decode cX11_takes 39 = .ok (.iconst 2, 1) := by decide +kernel
theorem dX11_takes_40 : decode cX11_takes 40 = .ok (.goto 4, 3) := by decide +kernel
theorem dX11_takes_43 : decode cX11_takes 43 = .ok (.iconst 1, 1) := by decide +kernel
theorem dX11_takes_44 : decode cX11_takes 44 = .ok (.ireturn, 1) := by decide +kernel
theorem dX11_leaves_0 : decode cX11_leaves 0 = .ok (.iload_n 0, 1) := by decide +kernel
theorem dX11_leaves_1 : decode cX11_leaves 1 = .ok (.ifCond .eq 18, 3) := by decide +kernel
theorem dX11_leaves_4 : decode cX11_leaves 4 = .ok (.iload_n 0, 1) := by decide +kernel
theorem dX11_leaves_5 : decode cX11_leaves 5 = .ok (.iconst 1, 1) := by decide +kernel
theorem dX11_leaves_6 : decode cX11_leaves 6 = .ok (.if_icmp .eq 13, 3) := by decide +kernel
theorem dX11_leaves_9 : decode cX11_leaves 9 = .ok (.iload_n 0, 1) := by decide +kernel
theorem dX11_leaves_10 : decode cX11_leaves 10 = .ok (.iconst 3, 1) := by decide +kernel
theorem dX11_leaves_11 : decode cX11_leaves 11 = .ok (.bipush 8, 2) := by decide +kernel
theorem dX11_leaves_13 : decode cX11_leaves 13 = .ok (.invokestatic 114, 3) := by decide +kernel
theorem dX11_leaves_16 : decode cX11_leaves 16 = .ok (.ifCond .eq 5, 3) := by decide +kernel
theorem dX11_leaves_19 : decode cX11_leaves 19 = .ok (.iconst 1, 1) := by decide +kernel
theorem dX11_leaves_20 : decode cX11_leaves 20 = .ok (.ireturn, 1) := by decide +kernel
theorem dX11_leaves_21 : decode cX11_leaves 21 = .ok (.iload_n 0, 1) := by decide +kernel
theorem dX11_leaves_22 : decode cX11_leaves 22 = .ok (.bipush 9, 2) := by decide +kernel
theorem dX11_leaves_24 : decode cX11_leaves 24 = .ok (.if_icmp .eq 9, 3) := by decide +kernel
theorem dX11_leaves_27 : decode cX11_leaves 27 = .ok (.iload_n 0, 1) := by decide +kernel
theorem dX11_leaves_28 : decode cX11_leaves 28 = .ok (.bipush 11, 2) := by decide +kernel
theorem dX11_leaves_30 : decode cX11_leaves 30 = .ok (.if_icmp .ne 7, 3) := by decide +kernel
theorem dX11_leaves_33 : decode cX11_leaves 33 = .ok (.iconst 2, 1) := by decide +kernel
theorem dX11_leaves_34 : decode cX11_leaves 34 = .ok (.goto 4, 3) := by decide +kernel
theorem dX11_leaves_37 : decode cX11_leaves 37 = .ok (.iconst 0, 1) := by decide +kernel
theorem dX11_leaves_38 : decode cX11_leaves 38 = .ok (.ireturn, 1) := by decide +kernel
theorem dX11_leads_0 : decode cX11_leads 0 = .ok (.iload_n 1, 1) := by decide +kernel
theorem dX11_leads_1 : decode cX11_leads 1 = .ok (.aload_n 0, 1) := by decide +kernel
theorem dX11_leads_2 : decode cX11_leads 2 = .ok (.getfield 122, 3) := by decide +kernel
theorem dX11_leads_5 : decode cX11_leads 5 = .ok (.if_icmp .ge 22, 3) := by decide +kernel
theorem dX11_leads_8 : decode cX11_leads 8 = .ok (.aload_n 0, 1) := by decide +kernel
theorem dX11_leads_9 : decode cX11_leads 9 = .ok (.getfield 16, 3) := by decide +kernel
theorem dX11_leads_12 : decode cX11_leads 12 = .ok (.iload_n 1, 1) := by decide +kernel
theorem dX11_leads_13 : decode cX11_leads 13 = .ok (.iaload, 1) := by decide +kernel
theorem dX11_leads_14 : decode cX11_leads 14 = .ok (.ifCond .lt 15, 3) := by decide +kernel
theorem dX11_leads_17 : decode cX11_leads 17 = .ok (.aload_n 0, 1) := by decide +kernel
theorem dX11_leads_18 : decode cX11_leads 18 = .ok (.getfield 16, 3) := by decide +kernel
theorem dX11_leads_21 : decode cX11_leads 21 = .ok (.iload_n 1, 1) := by decide +kernel
theorem dX11_leads_22 : decode cX11_leads 22 = .ok (.iaload, 1) := by decide +kernel
theorem dX11_leads_23 : decode cX11_leads 23 = .ok (.iload_n 2, 1) := by decide +kernel
theorem dX11_leads_24 : decode cX11_leads 24 = .ok (.if_icmp .eq 5, 3) := by decide +kernel
theorem dX11_leads_27 : decode cX11_leads 27 = .ok (.iconst 0, 1) := by decide +kernel
theorem dX11_leads_28 : decode cX11_leads 28 = .ok (.ireturn, 1) := by decide +kernel
theorem dX11_leads_29 : decode cX11_leads 29 = .ok (.aload_n 0, 1) := by decide +kernel
theorem dX11_leads_30 : decode cX11_leads 30 = .ok (.getfield 16, 3) := by decide +kernel
theorem dX11_leads_33 : decode cX11_leads 33 = .ok (.iload_n 1, 1) := by decide +kernel
theorem dX11_leads_34 : decode cX11_leads 34 = .ok (.iload_n 2, 1) := by decide +kernel
theorem dX11_leads_35 : decode cX11_leads 35 = .ok (.iastore, 1) := by decide +kernel
theorem dX11_leads_36 : decode cX11_leads 36 = .ok (.iconst 1, 1) := by decide +kernel
theorem dX11_leads_37 : decode cX11_leads 37 = .ok (.ireturn, 1) := by decide +kernel
theorem dX11_sound_0 : decode cX11_sound 0 = .ok (.iconst 0, 1) := by decide +kernel
theorem dX11_sound_1 : decode cX11_sound 1 = .ok (.istore_n 1, 1) := by decide +kernel
theorem dX11_sound_2 : decode cX11_sound 2 = .ok (.iload_n 1, 1) := by decide +kernel
theorem dX11_sound_3 : decode cX11_sound 3 = .ok (.bipush 40, 2) := by decide +kernel
theorem dX11_sound_5 : decode cX11_sound 5 = .ok (.if_icmp .ge 16, 3) := by decide +kernel
theorem dX11_sound_8 : decode cX11_sound 8 = .ok (.aload_n 0, 1) := by decide +kernel
theorem dX11_sound_9 : decode cX11_sound 9 = .ok (.getfield 16, 3) := by decide +kernel
theorem dX11_sound_12 : decode cX11_sound 12 = .ok (.iload_n 1, 1) := by decide +kernel
theorem dX11_sound_13 : decode cX11_sound 13 = .ok (.iconst (-1), 1) := by decide +kernel
theorem dX11_sound_14 : decode cX11_sound 14 = .ok (.iastore, 1) := by decide +kernel
theorem dX11_sound_15 : decode cX11_sound 15 = .ok (.iinc 1 1, 3) := by decide +kernel
theorem dX11_sound_18 : decode cX11_sound 18 = .ok (.goto (-16), 3) := by decide +kernel
theorem dX11_sound_21 : decode cX11_sound 21 = .ok (.aload_n 0, 1) := by decide +kernel
theorem dX11_sound_22 : decode cX11_sound 22 = .ok (.iconst 0, 1) := by decide +kernel
theorem dX11_sound_23 : decode cX11_sound 23 = .ok (.iconst 0, 1) := by decide +kernel
theorem dX11_sound_24 : decode cX11_sound 24 = .ok (.invokevirtual 129, 3) := by decide +kernel
theorem dX11_sound_27 : decode cX11_sound 27 = .ok (.istore_n 1, 1) := by decide +kernel
theorem dX11_sound_28 : decode cX11_sound 28 = .ok (.iconst 0, 1) := by decide +kernel
theorem dX11_sound_29 : decode cX11_sound 29 = .ok (.istore_n 2, 1) := by decide +kernel
theorem dX11_sound_30 : decode cX11_sound 30 = .ok (.iload_n 2, 1) := by decide +kernel
theorem dX11_sound_31 : decode cX11_sound 31 = .ok (.aload_n 0, 1) := by decide +kernel
theorem dX11_sound_32 : decode cX11_sound 32 = .ok (.getfield 122, 3) := by decide +kernel
theorem dX11_sound_35 : decode cX11_sound 35 = .ok (.if_icmp .ge 152, 3) := by decide +kernel
theorem dX11_sound_38 : decode cX11_sound 38 = .ok (.iconst 0, 1) := by decide +kernel
theorem dX11_sound_39 : decode cX11_sound 39 = .ok (.istore_n 3, 1) := by decide +kernel
theorem dX11_sound_40 : decode cX11_sound 40 = .ok (.iload_n 3, 1) := by decide +kernel
theorem dX11_sound_41 : decode cX11_sound 41 = .ok (.aload_n 0, 1) := by decide +kernel
theorem dX11_sound_42 : decode cX11_sound 42 = .ok (.getfield 122, 3) := by decide +kernel
theorem dX11_sound_45 : decode cX11_sound 45 = .ok (.if_icmp .ge 136, 3) := by decide +kernel
theorem dX11_sound_48 : decode cX11_sound 48 = .ok (.iload_n 1, 1) := by decide +kernel
theorem dX11_sound_49 : decode cX11_sound 49 = .ok (.ifCond .eq 132, 3) := by decide +kernel
theorem dX11_sound_52 : decode cX11_sound 52 = .ok (.aload_n 0, 1) := by decide +kernel
theorem dX11_sound_53 : decode cX11_sound 53 = .ok (.getfield 7, 3) := by decide +kernel
theorem dX11_sound_56 : decode cX11_sound 56 = .ok (.iload_n 3, 1) := by decide +kernel
theorem dX11_sound_57 : decode cX11_sound 57 = .ok (.iaload, 1) := by decide +kernel
theorem dX11_sound_58 : decode cX11_sound 58 = .ok (.istore 4, 2) := by decide +kernel
theorem dX11_sound_60 : decode cX11_sound 60 = .ok (.aload_n 0, 1) := by decide +kernel
theorem dX11_sound_61 : decode cX11_sound 61 = .ok (.getfield 16, 3) := by decide +kernel
theorem dX11_sound_64 : decode cX11_sound 64 = .ok (.iload_n 3, 1) := by decide +kernel
theorem dX11_sound_65 : decode cX11_sound 65 = .ok (.iaload, 1) := by decide +kernel
theorem dX11_sound_66 : decode cX11_sound 66 = .ok (.iload 4, 2) := by decide +kernel
theorem dX11_sound_68 : decode cX11_sound 68 = .ok (.invokestatic 133, 3) := by decide +kernel
theorem dX11_sound_71 : decode cX11_sound 71 = .ok (.isub, 1) := by decide +kernel
theorem dX11_sound_72 : decode cX11_sound 72 = .ok (.iload 4, 2) := by decide +kernel
theorem dX11_sound_74 : decode cX11_sound 74 = .ok (.invokestatic 136, 3) := by decide +kernel
theorem dX11_sound_77 : decode cX11_sound 77 = .ok (.iadd, 1) := by decide +kernel
theorem dX11_sound_78 : decode cX11_sound 78 = .ok (.istore 5, 2) := by decide +kernel
theorem dX11_sound_80 : decode cX11_sound 80 = .ok (.aload_n 0, 1) := by decide +kernel
theorem dX11_sound_81 : decode cX11_sound 81 = .ok (.getfield 16, 3) := by decide +kernel
theorem dX11_sound_84 : decode cX11_sound 84 = .ok (.iload_n 3, 1) := by decide +kernel
theorem dX11_sound_85 : decode cX11_sound 85 = .ok (.iaload, 1) := by decide +kernel
theorem dX11_sound_86 : decode cX11_sound 86 = .ok (.ifCond .lt 89, 3) := by decide +kernel
theorem dX11_sound_89 : decode cX11_sound 89 = .ok (.aload_n 0, 1) := by decide +kernel
theorem dX11_sound_90 : decode cX11_sound 90 = .ok (.getfield 16, 3) := by decide +kernel
theorem dX11_sound_93 : decode cX11_sound 93 = .ok (.iload_n 3, 1) := by decide +kernel
theorem dX11_sound_94 : decode cX11_sound 94 = .ok (.iaload, 1) := by decide +kernel
theorem dX11_sound_95 : decode cX11_sound 95 = .ok (.iload 4, 2) := by decide +kernel
theorem dX11_sound_97 : decode cX11_sound 97 = .ok (.invokestatic 133, 3) := by decide +kernel
theorem dX11_sound_100 : decode cX11_sound 100 = .ok (.if_icmp .lt 14, 3) := by decide +kernel
theorem dX11_sound_103 : decode cX11_sound 103 = .ok (.iload 5, 2) := by decide +kernel
theorem dX11_sound_105 : decode cX11_sound 105 = .ok (.bipush 6, 2) := by decide +kernel
theorem dX11_sound_107 : decode cX11_sound 107 = .ok (.if_icmp .gt 7, 3) := by decide +kernel
theorem dX11_sound_110 : decode cX11_sound 110 = .ok (.iconst 1, 1) := by decide +kernel
theorem dX11_sound_111 : decode cX11_sound 111 = .ok (.goto 4, 3) := by decide +kernel
theorem dX11_sound_114 : decode cX11_sound 114 = .ok (.iconst 0, 1) := by decide +kernel
theorem dX11_sound_115 : decode cX11_sound 115 = .ok (.istore_n 1, 1) := by decide +kernel
theorem dX11_sound_116 : decode cX11_sound 116 = .ok (.iload_n 1, 1) := by decide +kernel
theorem dX11_sound_117 : decode cX11_sound 117 = .ok (.ifCond .eq 30, 3) := by decide +kernel
theorem dX11_sound_120 : decode cX11_sound 120 = .ok (.iload 4, 2) := by decide +kernel
theorem dX11_sound_122 : decode cX11_sound 122 = .ok (.bipush 13, 2) := by decide +kernel
theorem dX11_sound_124 : decode cX11_sound 124 = .ok (.if_icmp .eq 10, 3) := by decide +kernel
theorem dX11_sound_127 : decode cX11_sound 127 = .ok (.iload 4, 2) := by decide +kernel
theorem dX11_sound_129 : decode cX11_sound 129 = .ok (.bipush 14, 2) := by decide +kernel
theorem dX11_sound_131 : decode cX11_sound 131 = .ok (.if_icmp .ne 16, 3) := by decide +kernel
theorem dX11_sound_134 : decode cX11_sound 134 = .ok (.aload_n 0, 1) := by decide +kernel
theorem dX11_sound_135 : decode cX11_sound 135 = .ok (.aload_n 0, 1) := by decide +kernel
theorem dX11_sound_136 : decode cX11_sound 136 = .ok (.getfield 13, 3) := by decide +kernel
theorem dX11_sound_139 : decode cX11_sound 139 = .ok (.iload_n 3, 1) := by decide +kernel
theorem dX11_sound_140 : decode cX11_sound 140 = .ok (.iaload, 1) := by decide +kernel
theorem dX11_sound_141 : decode cX11_sound 141 = .ok (.iload 5, 2) := by decide +kernel
theorem dX11_sound_143 : decode cX11_sound 143 = .ok (.invokevirtual 129, 3) := by decide +kernel
theorem dX11_sound_146 : decode cX11_sound 146 = .ok (.istore_n 1, 1) := by decide +kernel
theorem dX11_sound_147 : decode cX11_sound 147 = .ok (.iload_n 1, 1) := by decide +kernel
theorem dX11_sound_148 : decode cX11_sound 148 = .ok (.ifCond .eq 27, 3) := by decide +kernel
theorem dX11_sound_151 : decode cX11_sound 151 = .ok (.iload 4, 2) := by decide +kernel
theorem dX11_sound_153 : decode cX11_sound 153 = .ok (.bipush 13, 2) := by decide +kernel
theorem dX11_sound_155 : decode cX11_sound 155 = .ok (.if_icmp .eq 20, 3) := by decide +kernel
theorem dX11_sound_158 : decode cX11_sound 158 = .ok (.iload 4, 2) := by decide +kernel
theorem dX11_sound_160 : decode cX11_sound 160 = .ok (.bipush 15, 2) := by decide +kernel
theorem dX11_sound_162 : decode cX11_sound 162 = .ok (.if_icmp .eq 13, 3) := by decide +kernel
theorem dX11_sound_165 : decode cX11_sound 165 = .ok (.aload_n 0, 1) := by decide +kernel
theorem dX11_sound_166 : decode cX11_sound 166 = .ok (.iload_n 3, 1) := by decide +kernel
theorem dX11_sound_167 : decode cX11_sound 167 = .ok (.iconst 1, 1) := by decide +kernel
theorem dX11_sound_168 : decode cX11_sound 168 = .ok (.iadd, 1) := by decide +kernel
theorem dX11_sound_169 : decode cX11_sound 169 = .ok (.iload 5, 2) := by decide +kernel
theorem dX11_sound_171 : decode cX11_sound 171 = .ok (.invokevirtual 129, 3) := by decide +kernel
theorem dX11_sound_174 : decode cX11_sound 174 = .ok (.istore_n 1, 1) := by decide +kernel
theorem dX11_sound_175 : decode cX11_sound 175 = .ok (.iinc 3 1, 3) := by decide +kernel
theorem dX11_sound_178 : decode cX11_sound 178 = .ok (.goto (-138), 3) := by decide +kernel
theorem dX11_sound_181 : decode cX11_sound 181 = .ok (.iinc 2 1, 3) := by decide +kernel
theorem dX11_sound_184 : decode cX11_sound 184 = .ok (.goto (-154), 3) := by decide +kernel
theorem dX11_sound_187 : decode cX11_sound 187 = .ok (.iload_n 1, 1) := by decide +kernel
theorem dX11_sound_188 : decode cX11_sound 188 = .ok (.ireturn, 1) := by decide +kernel
theorem dX11_fresh_0 : decode cX11_fresh 0 = .ok (.iconst 0, 1) := by decide +kernel
theorem dX11_fresh_1 : decode cX11_fresh 1 = .ok (.istore_n 1, 1) := by decide +kernel
theorem dX11_fresh_2 : decode cX11_fresh 2 = .ok (.iload_n 1, 1) := by decide +kernel
theorem dX11_fresh_3 : decode cX11_fresh 3 = .ok (.bipush 6, 2) := by decide +kernel
theorem dX11_fresh_5 : decode cX11_fresh 5 = .ok (.if_icmp .ge 16, 3) := by decide +kernel
theorem dX11_fresh_8 : decode cX11_fresh 8 = .ok (.aload_n 0, 1) := by decide +kernel
theorem dX11_fresh_9 : decode cX11_fresh 9 = .ok (.getfield 23, 3) := by decide +kernel
theorem dX11_fresh_12 : decode cX11_fresh 12 = .ok (.iload_n 1, 1) := by decide +kernel
theorem dX11_fresh_13 : decode cX11_fresh 13 = .ok (.iconst 0, 1) := by decide +kernel
theorem dX11_fresh_14 : decode cX11_fresh 14 = .ok (.iastore, 1) := by decide +kernel
theorem dX11_fresh_15 : decode cX11_fresh 15 = .ok (.iinc 1 1, 3) := by decide +kernel
theorem dX11_fresh_18 : decode cX11_fresh 18 = .ok (.goto (-16), 3) := by decide +kernel
theorem dX11_fresh_21 : decode cX11_fresh 21 = .ok (.aload_n 0, 1) := by decide +kernel
theorem dX11_fresh_22 : decode cX11_fresh 22 = .ok (.iconst 0, 1) := by decide +kernel
theorem dX11_fresh_23 : decode cX11_fresh 23 = .ok (.putfield 139, 3) := by decide +kernel
theorem dX11_fresh_26 : decode cX11_fresh 26 = .ok (.aload_n 0, 1) := by decide +kernel
theorem dX11_fresh_27 : decode cX11_fresh 27 = .ok (.iconst 0, 1) := by decide +kernel
theorem dX11_fresh_28 : decode cX11_fresh 28 = .ok (.putfield 142, 3) := by decide +kernel
theorem dX11_fresh_31 : decode cX11_fresh 31 = .ok (.iconst 0, 1) := by decide +kernel
theorem dX11_fresh_32 : decode cX11_fresh 32 = .ok (.istore_n 1, 1) := by decide +kernel
theorem dX11_fresh_33 : decode cX11_fresh 33 = .ok (.iload_n 1, 1) := by decide +kernel
theorem dX11_fresh_34 : decode cX11_fresh 34 = .ok (.bipush 40, 2) := by decide +kernel
theorem dX11_fresh_36 : decode cX11_fresh 36 = .ok (.if_icmp .ge 23, 3) := by decide +kernel
theorem dX11_fresh_39 : decode cX11_fresh 39 = .ok (.aload_n 0, 1) := by decide +kernel
theorem dX11_fresh_40 : decode cX11_fresh 40 = .ok (.getfield 32, 3) := by decide +kernel
theorem dX11_fresh_43 : decode cX11_fresh 43 = .ok (.iload_n 1, 1) := by decide +kernel
theorem dX11_fresh_44 : decode cX11_fresh 44 = .ok (.iconst 0, 1) := by decide +kernel
theorem dX11_fresh_45 : decode cX11_fresh 45 = .ok (.iastore, 1) := by decide +kernel
theorem dX11_fresh_46 : decode cX11_fresh 46 = .ok (.aload_n 0, 1) := by decide +kernel
theorem dX11_fresh_47 : decode cX11_fresh 47 = .ok (.getfield 35, 3) := by decide +kernel
theorem dX11_fresh_50 : decode cX11_fresh 50 = .ok (.iload_n 1, 1) := by decide +kernel
theorem dX11_fresh_51 : decode cX11_fresh 51 = .ok (.iconst 0, 1) := by decide +kernel
theorem dX11_fresh_52 : decode cX11_fresh 52 = .ok (.iastore, 1) := by decide +kernel
theorem dX11_fresh_53 : decode cX11_fresh 53 = .ok (.iinc 1 1, 3) := by decide +kernel
theorem dX11_fresh_56 : decode cX11_fresh 56 = .ok (.goto (-23), 3) := by decide +kernel
theorem dX11_fresh_59 : decode cX11_fresh 59 = .ok (.aload_n 0, 1) := by decide +kernel
theorem dX11_fresh_60 : decode cX11_fresh 60 = .ok (.iconst (-1), 1) := by decide +kernel
theorem dX11_fresh_61 : decode cX11_fresh 61 = .ok (.putfield 38, 3) := by decide +kernel
theorem dX11_fresh_64 : decode cX11_fresh 64 = .ok (.aload_n 0, 1) := by decide +kernel
theorem dX11_fresh_65 : decode cX11_fresh 65 = .ok (.iconst 0, 1) := by decide +kernel
theorem dX11_fresh_66 : decode cX11_fresh 66 = .ok (.putfield 145, 3) := by decide +kernel
theorem dX11_fresh_69 : decode cX11_fresh 69 = .ok (.aload_n 0, 1) := by decide +kernel
theorem dX11_fresh_70 : decode cX11_fresh 70 = .ok (.iconst (-1), 1) := by decide +kernel
theorem dX11_fresh_71 : decode cX11_fresh 71 = .ok (.putfield 48, 3) := by decide +kernel
theorem dX11_fresh_74 : decode cX11_fresh 74 = .ok (.aload_n 0, 1) := by decide +kernel
theorem dX11_fresh_75 : decode cX11_fresh 75 = .ok (.iconst 0, 1) := by decide +kernel
theorem dX11_fresh_76 : decode cX11_fresh 76 = .ok (.putfield 148, 3) := by decide +kernel
theorem dX11_fresh_79 : decode cX11_fresh 79 = .ok (.aload_n 0, 1) := by decide +kernel
theorem dX11_fresh_80 : decode cX11_fresh 80 = .ok (.iconst 0, 1) := by decide +kernel
theorem dX11_fresh_81 : decode cX11_fresh 81 = .ok (.putfield 151, 3) := by decide +kernel
theorem dX11_fresh_84 : decode cX11_fresh 84 = .ok (.aload_n 0, 1) := by decide +kernel
theorem dX11_fresh_85 : decode cX11_fresh 85 = .ok (.iconst 0, 1) := by decide +kernel
theorem dX11_fresh_86 : decode cX11_fresh 86 = .ok (.putfield 154, 3) := by decide +kernel
theorem dX11_fresh_89 : decode cX11_fresh 89 = .ok (.aload_n 0, 1) := by decide +kernel
theorem dX11_fresh_90 : decode cX11_fresh 90 = .ok (.iconst 0, 1) := by decide +kernel
theorem dX11_fresh_91 : decode cX11_fresh 91 = .ok (.putfield 157, 3) := by decide +kernel
theorem dX11_fresh_94 : decode cX11_fresh 94 = .ok (.return_, 1) := by decide +kernel
theorem dX11_begin_0 : decode cX11_begin 0 = .ok (.aload_n 0, 1) := by decide +kernel
theorem dX11_begin_1 : decode cX11_begin 1 = .ok (.iconst 0, 1) := by decide +kernel
theorem dX11_begin_2 : decode cX11_begin 2 = .ok (.putfield 111, 3) := by decide +kernel
theorem dX11_begin_5 : decode cX11_begin 5 = .ok (.aload_n 0, 1) := by decide +kernel
theorem dX11_begin_6 : decode cX11_begin 6 = .ok (.invokevirtual 160, 3) := by decide +kernel
theorem dX11_begin_9 : decode cX11_begin 9 = .ok (.ifCond .ne 17, 3) := by decide +kernel
theorem dX11_begin_12 : decode cX11_begin 12 = .ok (.aload_n 0, 1) := by decide +kernel
theorem dX11_begin_13 : decode cX11_begin 13 = .ok (.iconst 1, 1) := by decide +kernel
theorem dX11_begin_14 : decode cX11_begin 14 = .ok (.invokevirtual 118, 3) := by decide +kernel
theorem dX11_begin_17 : decode cX11_begin 17 = .ok (.ifCond .le 7, 3) := by decide +kernel
theorem dX11_begin_20 : decode cX11_begin 20 = .ok (.iconst 1, 1) := by decide +kernel
theorem dX11_begin_21 : decode cX11_begin 21 = .ok (.goto 4, 3) := by decide +kernel
theorem dX11_begin_24 : decode cX11_begin 24 = .ok (.iconst 0, 1) := by decide +kernel
theorem dX11_begin_25 : decode cX11_begin 25 = .ok (.ireturn, 1) := by decide +kernel
theorem dX11_begin_26 : decode cX11_begin 26 = .ok (.aload_n 0, 1) := by decide +kernel
theorem dX11_begin_27 : decode cX11_begin 27 = .ok (.getfield 125, 3) := by decide +kernel
theorem dX11_begin_30 : decode cX11_begin 30 = .ok (.istore 4, 2) := by decide +kernel
theorem dX11_begin_32 : decode cX11_begin 32 = .ok (.aload_n 0, 1) := by decide +kernel
theorem dX11_begin_33 : decode cX11_begin 33 = .ok (.invokevirtual 164, 3) := by decide +kernel
theorem dX11_begin_36 : decode cX11_begin 36 = .ok (.aload_n 0, 1) := by decide +kernel
theorem dX11_begin_37 : decode cX11_begin 37 = .ok (.getfield 23, 3) := by decide +kernel
theorem dX11_begin_40 : decode cX11_begin 40 = .ok (.iconst 0, 1) := by decide +kernel
theorem dX11_begin_41 : decode cX11_begin 41 = .ok (.iload_n 1, 1) := by decide +kernel
theorem dX11_begin_42 : decode cX11_begin 42 = .ok (.iastore, 1) := by decide +kernel
theorem dX11_begin_43 : decode cX11_begin 43 = .ok (.aload_n 0, 1) := by decide +kernel
theorem dX11_begin_44 : decode cX11_begin 44 = .ok (.getfield 23, 3) := by decide +kernel
theorem dX11_begin_47 : decode cX11_begin 47 = .ok (.iconst 1, 1) := by decide +kernel
theorem dX11_begin_48 : decode cX11_begin 48 = .ok (.iload_n 2, 1) := by decide +kernel
theorem dX11_begin_49 : decode cX11_begin 49 = .ok (.iastore, 1) := by decide +kernel
theorem dX11_begin_50 : decode cX11_begin 50 = .ok (.aload_n 0, 1) := by decide +kernel
theorem dX11_begin_51 : decode cX11_begin 51 = .ok (.iconst 0, 1) := by decide +kernel
theorem dX11_begin_52 : decode cX11_begin 52 = .ok (.putfield 19, 3) := by decide +kernel
theorem dX11_begin_55 : decode cX11_begin 55 = .ok (.aload_n 0, 1) := by decide +kernel
theorem dX11_begin_56 : decode cX11_begin 56 = .ok (.iload_n 3, 1) := by decide +kernel
theorem dX11_begin_57 : decode cX11_begin 57 = .ok (.putfield 167, 3) := by decide +kernel
theorem dX11_begin_60 : decode cX11_begin 60 = .ok (.aload_n 0, 1) := by decide +kernel
theorem dX11_begin_61 : decode cX11_begin 61 = .ok (.iconst 1, 1) := by decide +kernel
theorem dX11_begin_62 : decode cX11_begin 62 = .ok (.putfield 125, 3) := by decide +kernel
theorem dX11_begin_65 : decode cX11_begin 65 = .ok (.iload 4, 2) := by decide +kernel
theorem dX11_begin_67 : decode cX11_begin 67 = .ok (.ireturn, 1) := by decide +kernel
theorem dX11_clear_0 : decode cX11_clear 0 = .ok (.aload_n 0, 1) := by decide +kernel
theorem dX11_clear_1 : decode cX11_clear 1 = .ok (.iconst 0, 1) := by decide +kernel
theorem dX11_clear_2 : decode cX11_clear 2 = .ok (.putfield 111, 3) := by decide +kernel
theorem dX11_clear_5 : decode cX11_clear 5 = .ok (.aload_n 0, 1) := by decide +kernel
theorem dX11_clear_6 : decode cX11_clear 6 = .ok (.getfield 122, 3) := by decide +kernel
theorem dX11_clear_9 : decode cX11_clear 9 = .ok (.istore_n 1, 1) := by decide +kernel
theorem dX11_clear_10 : decode cX11_clear 10 = .ok (.aload_n 0, 1) := by decide +kernel
theorem dX11_clear_11 : decode cX11_clear 11 = .ok (.iconst 0, 1) := by decide +kernel
theorem dX11_clear_12 : decode cX11_clear 12 = .ok (.putfield 122, 3) := by decide +kernel
theorem dX11_clear_15 : decode cX11_clear 15 = .ok (.aload_n 0, 1) := by decide +kernel
theorem dX11_clear_16 : decode cX11_clear 16 = .ok (.invokevirtual 164, 3) := by decide +kernel
theorem dX11_clear_19 : decode cX11_clear 19 = .ok (.aload_n 0, 1) := by decide +kernel
theorem dX11_clear_20 : decode cX11_clear 20 = .ok (.iconst (-1), 1) := by decide +kernel
theorem dX11_clear_21 : decode cX11_clear 21 = .ok (.putfield 19, 3) := by decide +kernel
theorem dX11_clear_24 : decode cX11_clear 24 = .ok (.aload_n 0, 1) := by decide +kernel
theorem dX11_clear_25 : decode cX11_clear 25 = .ok (.iconst 0, 1) := by decide +kernel
theorem dX11_clear_26 : decode cX11_clear 26 = .ok (.putfield 125, 3) := by decide +kernel
theorem dX11_clear_29 : decode cX11_clear 29 = .ok (.iload_n 1, 1) := by decide +kernel
theorem dX11_clear_30 : decode cX11_clear 30 = .ok (.ireturn, 1) := by decide +kernel
theorem dX11_push_0 : decode cX11_push 0 = .ok (.aload_n 0, 1) := by decide +kernel
theorem dX11_push_1 : decode cX11_push 1 = .ok (.getfield 26, 3) := by decide +kernel
theorem dX11_push_4 : decode cX11_push 4 = .ok (.aload_n 0, 1) := by decide +kernel
theorem dX11_push_5 : decode cX11_push 5 = .ok (.getfield 139, 3) := by decide +kernel
theorem dX11_push_8 : decode cX11_push 8 = .ok (.iload_n 1, 1) := by decide +kernel
theorem dX11_push_9 : decode cX11_push 9 = .ok (.iastore, 1) := by decide +kernel
theorem dX11_push_10 : decode cX11_push 10 = .ok (.aload_n 0, 1) := by decide +kernel
theorem dX11_push_11 : decode cX11_push 11 = .ok (.dup, 1) := by decide +kernel
theorem dX11_push_12 : decode cX11_push 12 = .ok (.getfield 139, 3) := by decide +kernel
theorem dX11_push_15 : decode cX11_push 15 = .ok (.iconst 1, 1) := by decide +kernel
theorem dX11_push_16 : decode cX11_push 16 = .ok (.iadd, 1) := by decide +kernel
theorem dX11_push_17 : decode cX11_push 17 = .ok (.putfield 139, 3) := by decide +kernel
theorem dX11_push_20 : decode cX11_push 20 = .ok (.return_, 1) := by decide +kernel
theorem dX11_pop_0 : decode cX11_pop 0 = .ok (.aload_n 0, 1) := by decide +kernel
theorem dX11_pop_1 : decode cX11_pop 1 = .ok (.dup, 1) := by decide +kernel
theorem dX11_pop_2 : decode cX11_pop 2 = .ok (.getfield 139, 3) := by decide +kernel
theorem dX11_pop_5 : decode cX11_pop 5 = .ok (.iconst 1, 1) := by decide +kernel
theorem dX11_pop_6 : decode cX11_pop 6 = .ok (.isub, 1) := by decide +kernel
theorem dX11_pop_7 : decode cX11_pop 7 = .ok (.putfield 139, 3) := by decide +kernel
theorem dX11_pop_10 : decode cX11_pop 10 = .ok (.aload_n 0, 1) := by decide +kernel
theorem dX11_pop_11 : decode cX11_pop 11 = .ok (.getfield 26, 3) := by decide +kernel
theorem dX11_pop_14 : decode cX11_pop 14 = .ok (.aload_n 0, 1) := by decide +kernel
theorem dX11_pop_15 : decode cX11_pop 15 = .ok (.getfield 139, 3) := by decide +kernel
theorem dX11_pop_18 : decode cX11_pop 18 = .ok (.iaload, 1) := by decide +kernel
theorem dX11_pop_19 : decode cX11_pop 19 = .ok (.ireturn, 1) := by decide +kernel
theorem dX11_worked_0 : decode cX11_worked 0 = .ok (.iload_n 0, 1) := by decide +kernel
theorem dX11_worked_1 : decode cX11_worked 1 = .ok (.bipush 6, 2) := by decide +kernel
theorem dX11_worked_3 : decode cX11_worked 3 = .ok (.if_icmp .ge 29, 3) := by decide +kernel
theorem dX11_worked_6 : decode cX11_worked 6 = .ok (.iload_n 0, 1) := by decide +kernel
theorem dX11_worked_7 : decode cX11_worked 7 = .ok (.iconst 3, 1) := by decide +kernel
theorem dX11_worked_8 : decode cX11_worked 8 = .ok (.if_icmp .ne 9, 3) := by decide +kernel
theorem dX11_worked_11 : decode cX11_worked 11 = .ok (.iload_n 1, 1) := by decide +kernel
theorem dX11_worked_12 : decode cX11_worked 12 = .ok (.iload_n 2, 1) := by decide +kernel
theorem dX11_worked_13 : decode cX11_worked 13 = .ok (.iadd, 1) := by decide +kernel
theorem dX11_worked_14 : decode cX11_worked 14 = .ok (.goto 17, 3) := by decide +kernel
theorem dX11_worked_17 : decode cX11_worked 17 = .ok (.iload_n 0, 1) := by decide +kernel
theorem dX11_worked_18 : decode cX11_worked 18 = .ok (.iconst 4, 1) := by decide +kernel
theorem dX11_worked_19 : decode cX11_worked 19 = .ok (.if_icmp .ne 9, 3) := by decide +kernel
theorem dX11_worked_22 : decode cX11_worked 22 = .ok (.iload_n 1, 1) := by decide +kernel
theorem dX11_worked_23 : decode cX11_worked 23 = .ok (.iload_n 2, 1) := by decide +kernel
theorem dX11_worked_24 : decode cX11_worked 24 = .ok (.isub, 1) := by decide +kernel
theorem dX11_worked_25 : decode cX11_worked 25 = .ok (.goto 6, 3) := by decide +kernel
theorem dX11_worked_28 : decode cX11_worked 28 = .ok (.iload_n 1, 1) := by decide +kernel
theorem dX11_worked_29 : decode cX11_worked 29 = .ok (.iload_n 2, 1) := by decide +kernel
theorem dX11_worked_30 : decode cX11_worked 30 = .ok (.imul, 1) := by decide +kernel
theorem dX11_worked_31 : decode cX11_worked 31 = .ok (.ireturn, 1) := by decide +kernel
theorem dX11_worked_32 : decode cX11_worked 32 = .ok (.iload_n 0, 1) := by decide +kernel
theorem dX11_worked_33 : decode cX11_worked 33 = .ok (.bipush 6, 2) := by decide +kernel
theorem dX11_worked_35 : decode cX11_worked 35 = .ok (.if_icmp .ne 9, 3) := by decide +kernel
theorem dX11_worked_38 : decode cX11_worked 38 = .ok (.iload_n 1, 1) := by decide +kernel
theorem dX11_worked_39 : decode cX11_worked 39 = .ok (.iload_n 2, 1) := by decide +kernel
theorem dX11_worked_40 : decode cX11_worked 40 = .ok (.iand, 1) := by decide +kernel
theorem dX11_worked_41 : decode cX11_worked 41 = .ok (.goto 32, 3) := by decide +kernel
theorem dX11_worked_44 : decode cX11_worked 44 = .ok (.iload_n 0, 1) := by decide +kernel
theorem dX11_worked_45 : decode cX11_worked 45 = .ok (.bipush 7, 2) := by decide +kernel
theorem dX11_worked_47 : decode cX11_worked 47 = .ok (.if_icmp .ne 16, 3) := by decide +kernel
theorem dX11_worked_50 : decode cX11_worked 50 = .ok (.iload_n 1, 1) := by decide +kernel
theorem dX11_worked_51 : decode cX11_worked 51 = .ok (.iload_n 2, 1) := by decide +kernel
theorem dX11_worked_52 : decode cX11_worked 52 = .ok (.if_icmp .ge 7, 3) := by decide +kernel
theorem dX11_worked_55 : decode cX11_worked 55 = .ok (.iconst 1, 1) := by decide +kernel
theorem dX11_worked_56 : decode cX11_worked 56 = .ok (.goto 17, 3) := by decide +kernel
theorem dX11_worked_59 : decode cX11_worked 59 = .ok (.iconst 0, 1) := by decide +kernel
theorem dX11_worked_60 : decode cX11_worked 60 = .ok (.goto 13, 3) := by decide +kernel
theorem dX11_worked_63 : decode cX11_worked 63 = .ok (.iload_n 1, 1) := by decide +kernel
theorem dX11_worked_64 : decode cX11_worked 64 = .ok (.iload_n 2, 1) := by decide +kernel
theorem dX11_worked_65 : decode cX11_worked 65 = .ok (.if_icmp .ne 7, 3) := by decide +kernel
theorem dX11_worked_68 : decode cX11_worked 68 = .ok (.iconst 1, 1) := by decide +kernel
theorem dX11_worked_69 : decode cX11_worked 69 = .ok (.goto 4, 3) := by decide +kernel
theorem dX11_worked_72 : decode cX11_worked 72 = .ok (.iconst 0, 1) := by decide +kernel
theorem dX11_worked_73 : decode cX11_worked 73 = .ok (.ireturn, 1) := by decide +kernel
theorem dX11_give_0 : decode cX11_give 0 = .ok (.bipush 29, 2) := by decide +kernel
theorem dX11_give_2 : decode cX11_give 2 = .ok (.istore_n 2, 1) := by decide +kernel
theorem dX11_give_3 : decode cX11_give 3 = .ok (.iload_n 2, 1) := by decide +kernel
theorem dX11_give_4 : decode cX11_give 4 = .ok (.ifCond .le 23, 3) := by decide +kernel
theorem dX11_give_7 : decode cX11_give 7 = .ok (.aload_n 0, 1) := by decide +kernel
theorem dX11_give_8 : decode cX11_give 8 = .ok (.getfield 29, 3) := by decide +kernel
theorem dX11_give_11 : decode cX11_give 11 = .ok (.iload_n 2, 1) := by decide +kernel
theorem dX11_give_12 : decode cX11_give 12 = .ok (.aload_n 0, 1) := by decide +kernel
theorem dX11_give_13 : decode cX11_give 13 = .ok (.getfield 29, 3) := by decide +kernel
theorem dX11_give_16 : decode cX11_give 16 = .ok (.iload_n 2, 1) := by decide +kernel
theorem dX11_give_17 : decode cX11_give 17 = .ok (.iconst 1, 1) := by decide +kernel
theorem dX11_give_18 : decode cX11_give 18 = .ok (.isub, 1) := by decide +kernel
theorem dX11_give_19 : decode cX11_give 19 = .ok (.iaload, 1) := by decide +kernel
theorem dX11_give_20 : decode cX11_give 20 = .ok (.iastore, 1) := by decide +kernel
theorem dX11_give_21 : decode cX11_give 21 = .ok (.iinc 2 (-1), 3) := by decide +kernel
theorem dX11_give_24 : decode cX11_give 24 = .ok (.goto (-21), 3) := by decide +kernel
theorem dX11_give_27 : decode cX11_give 27 = .ok (.aload_n 0, 1) := by decide +kernel
theorem dX11_give_28 : decode cX11_give 28 = .ok (.getfield 29, 3) := by decide +kernel
theorem dX11_give_31 : decode cX11_give 31 = .ok (.iconst 0, 1) := by decide +kernel
theorem dX11_give_32 : decode cX11_give 32 = .ok (.iload_n 1, 1) := by decide +kernel
theorem dX11_give_33 : decode cX11_give 33 = .ok (.iastore, 1) := by decide +kernel
theorem dX11_give_34 : decode cX11_give 34 = .ok (.aload_n 0, 1) := by decide +kernel
theorem dX11_give_35 : decode cX11_give 35 = .ok (.dup, 1) := by decide +kernel
theorem dX11_give_36 : decode cX11_give 36 = .ok (.getfield 142, 3) := by decide +kernel
theorem dX11_give_39 : decode cX11_give 39 = .ok (.iconst 1, 1) := by decide +kernel
theorem dX11_give_40 : decode cX11_give 40 = .ok (.iadd, 1) := by decide +kernel
theorem dX11_give_41 : decode cX11_give 41 = .ok (.putfield 142, 3) := by decide +kernel
theorem dX11_give_44 : decode cX11_give 44 = .ok (.return_, 1) := by decide +kernel
theorem dX11_does_0 : decode cX11_does 0 = .ok (.aload_n 0, 1) := by decide +kernel
theorem dX11_does_1 : decode cX11_does 1 = .ok (.getfield 7, 3) := by decide +kernel
theorem dX11_does_4 : decode cX11_does 4 = .ok (.iload_n 1, 1) := by decide +kernel
theorem dX11_does_5 : decode cX11_does 5 = .ok (.iaload, 1) := by decide +kernel
theorem dX11_does_6 : decode cX11_does 6 = .ok (.istore_n 2, 1) := by decide +kernel
theorem dX11_does_7 : decode cX11_does 7 = .ok (.iload_n 2, 1) := by decide +kernel
theorem dX11_does_8 : decode cX11_does 8 = .ok (.ifCond .ne 13, 3) := by decide +kernel
theorem dX11_does_11 : decode cX11_does 11 = .ok (.aload_n 0, 1) := by decide +kernel
theorem dX11_does_12 : decode cX11_does 12 = .ok (.aload_n 0, 1) := by decide +kernel
theorem dX11_does_13 : decode cX11_does 13 = .ok (.getfield 13, 3) := by decide +kernel
theorem dX11_does_16 : decode cX11_does 16 = .ok (.iload_n 1, 1) := by decide +kernel
theorem dX11_does_17 : decode cX11_does 17 = .ok (.iaload, 1) := by decide +kernel
theorem dX11_does_18 : decode cX11_does 18 = .ok (.invokevirtual 170, 3) := by decide +kernel
theorem dX11_does_21 : decode cX11_does 21 = .ok (.iload_n 2, 1) := by decide +kernel
theorem dX11_does_22 : decode cX11_does 22 = .ok (.iconst 1, 1) := by decide +kernel
theorem dX11_does_23 : decode cX11_does 23 = .ok (.if_icmp .ne 18, 3) := by decide +kernel
theorem dX11_does_26 : decode cX11_does 26 = .ok (.aload_n 0, 1) := by decide +kernel
theorem dX11_does_27 : decode cX11_does 27 = .ok (.aload_n 0, 1) := by decide +kernel
theorem dX11_does_28 : decode cX11_does 28 = .ok (.getfield 23, 3) := by decide +kernel
theorem dX11_does_31 : decode cX11_does 31 = .ok (.aload_n 0, 1) := by decide +kernel
theorem dX11_does_32 : decode cX11_does 32 = .ok (.getfield 13, 3) := by decide +kernel
theorem dX11_does_35 : decode cX11_does 35 = .ok (.iload_n 1, 1) := by decide +kernel
theorem dX11_does_36 : decode cX11_does 36 = .ok (.iaload, 1) := by decide +kernel
theorem dX11_does_37 : decode cX11_does 37 = .ok (.iaload, 1) := by decide +kernel
theorem dX11_does_38 : decode cX11_does 38 = .ok (.invokevirtual 170, 3) := by decide +kernel
theorem dX11_does_41 : decode cX11_does 41 = .ok (.iload_n 2, 1) := by decide +kernel
theorem dX11_does_42 : decode cX11_does 42 = .ok (.iconst 2, 1) := by decide +kernel
theorem dX11_does_43 : decode cX11_does 43 = .ok (.if_icmp .ne 18, 3) := by decide +kernel
theorem dX11_does_46 : decode cX11_does 46 = .ok (.aload_n 0, 1) := by decide +kernel
theorem dX11_does_47 : decode cX11_does 47 = .ok (.getfield 23, 3) := by decide +kernel
theorem dX11_does_50 : decode cX11_does 50 = .ok (.aload_n 0, 1) := by decide +kernel
theorem dX11_does_51 : decode cX11_does 51 = .ok (.getfield 13, 3) := by decide +kernel
theorem dX11_does_54 : decode cX11_does 54 = .ok (.iload_n 1, 1) := by decide +kernel
theorem dX11_does_55 : decode cX11_does 55 = .ok (.iaload, 1) := by decide +kernel
theorem dX11_does_56 : decode cX11_does 56 = .ok (.aload_n 0, 1) := by decide +kernel
theorem dX11_does_57 : decode cX11_does 57 = .ok (.invokevirtual 174, 3) := by decide +kernel
theorem dX11_does_60 : decode cX11_does 60 = .ok (.iastore, 1) := by decide +kernel
theorem dX11_does_61 : decode cX11_does 61 = .ok (.iload_n 2, 1) := by decide +kernel
theorem dX11_does_62 : decode cX11_does 62 = .ok (.iconst 3, 1) := by decide +kernel
theorem dX11_does_63 : decode cX11_does 63 = .ok (.bipush 8, 2) := by decide +kernel
theorem dX11_does_65 : decode cX11_does 65 = .ok (.invokestatic 114, 3) := by decide +kernel
theorem dX11_does_68 : decode cX11_does 68 = .ok (.ifCond .eq 25, 3) := by decide +kernel
theorem dX11_does_71 : decode cX11_does 71 = .ok (.aload_n 0, 1) := by decide +kernel
theorem dX11_does_72 : decode cX11_does 72 = .ok (.invokevirtual 174, 3) := by decide +kernel
theorem dX11_does_75 : decode cX11_does 75 = .ok (.istore_n 3, 1) := by decide +kernel
theorem dX11_does_76 : decode cX11_does 76 = .ok (.aload_n 0, 1) := by decide +kernel
theorem dX11_does_77 : decode cX11_does 77 = .ok (.invokevirtual 174, 3) := by decide +kernel
theorem dX11_does_80 : decode cX11_does 80 = .ok (.istore 4, 2) := by decide +kernel
theorem dX11_does_82 : decode cX11_does 82 = .ok (.aload_n 0, 1) := by decide +kernel
theorem dX11_does_83 : decode cX11_does 83 = .ok (.iload_n 2, 1) := by decide +kernel
theorem dX11_does_84 : decode cX11_does 84 = .ok (.iload 4, 2) := by decide +kernel
theorem dX11_does_86 : decode cX11_does 86 = .ok (.iload_n 3, 1) := by decide +kernel
theorem dX11_does_87 : decode cX11_does 87 = .ok (.invokestatic 178, 3) := by decide +kernel
theorem dX11_does_90 : decode cX11_does 90 = .ok (.invokevirtual 170, 3) := by decide +kernel
theorem dX11_does_93 : decode cX11_does 93 = .ok (.iload_n 2, 1) := by decide +kernel
theorem dX11_does_94 : decode cX11_does 94 = .ok (.bipush 9, 2) := by decide +kernel
theorem dX11_does_96 : decode cX11_does 96 = .ok (.if_icmp .ne 18, 3) := by decide +kernel
theorem dX11_does_99 : decode cX11_does 99 = .ok (.aload_n 0, 1) := by decide +kernel
theorem dX11_does_100 : decode cX11_does 100 = .ok (.aload_n 0, 1) := by decide +kernel
theorem dX11_does_101 : decode cX11_does 101 = .ok (.getfield 26, 3) := by decide +kernel
theorem dX11_does_104 : decode cX11_does 104 = .ok (.aload_n 0, 1) := by decide +kernel
theorem dX11_does_105 : decode cX11_does 105 = .ok (.getfield 139, 3) := by decide +kernel
theorem dX11_does_108 : decode cX11_does 108 = .ok (.iconst 1, 1) := by decide +kernel
theorem dX11_does_109 : decode cX11_does 109 = .ok (.isub, 1) := by decide +kernel
theorem dX11_does_110 : decode cX11_does 110 = .ok (.iaload, 1) := by decide +kernel
theorem dX11_does_111 : decode cX11_does 111 = .ok (.invokevirtual 170, 3) := by decide +kernel
theorem dX11_does_114 : decode cX11_does 114 = .ok (.iload_n 2, 1) := by decide +kernel
theorem dX11_does_115 : decode cX11_does 115 = .ok (.bipush 10, 2) := by decide +kernel
theorem dX11_does_117 : decode cX11_does 117 = .ok (.if_icmp .ne 8, 3) := by decide +kernel
theorem dX11_does_120 : decode cX11_does 120 = .ok (.aload_n 0, 1) := by decide +kernel
theorem dX11_does_121 : decode cX11_does 121 = .ok (.invokevirtual 174, 3) := by decide +kernel
theorem dX11_does_124 : decode cX11_does 124 = .ok (.pop, 1) := by decide +kernel
theorem dX11_does_125 : decode cX11_does 125 = .ok (.iload_n 2, 1) := by decide +kernel
theorem dX11_does_126 : decode cX11_does 126 = .ok (.bipush 11, 2) := by decide +kernel
theorem dX11_does_128 : decode cX11_does 128 = .ok (.if_icmp .ne 25, 3) := by decide +kernel
theorem dX11_does_131 : decode cX11_does 131 = .ok (.aload_n 0, 1) := by decide +kernel
theorem dX11_does_132 : decode cX11_does 132 = .ok (.invokevirtual 174, 3) := by decide +kernel
theorem dX11_does_135 : decode cX11_does 135 = .ok (.istore_n 3, 1) := by decide +kernel
theorem dX11_does_136 : decode cX11_does 136 = .ok (.aload_n 0, 1) := by decide +kernel
theorem dX11_does_137 : decode cX11_does 137 = .ok (.invokevirtual 174, 3) := by decide +kernel
theorem dX11_does_140 : decode cX11_does 140 = .ok (.istore 4, 2) := by decide +kernel
theorem dX11_does_142 : decode cX11_does 142 = .ok (.aload_n 0, 1) := by decide +kernel
theorem dX11_does_143 : decode cX11_does 143 = .ok (.iload_n 3, 1) := by decide +kernel
