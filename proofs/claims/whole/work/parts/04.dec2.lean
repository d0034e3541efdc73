theorem dX12_bonus_95 : decode cX12_bonus 95 = .ok (.iload 6, 2) := by decide +kernel
theorem dX12_bonus_97 : decode cX12_bonus 97 = .ok (.iload 4, 2) := by decide +kernel
theorem dX12_bonus_99 : decode cX12_bonus 99 = .ok (.iastore, 1) := by decide +kernel
theorem dX12_bonus_100 : decode cX12_bonus 100 = .ok (.iload 7, 2) := by decide +kernel
theorem dX12_bonus_102 : decode cX12_bonus 102 = .ok (.ireturn, 1) := by decide +kernel
theorem dX12_contribution_0 : decode cX12_contribution 0 = .ok (.aload_n 0, 1) := by decide +kernel
theorem dX12_contribution_1 : decode cX12_contribution 1 = .ok (.aload_n 0, 1) := by decide +kernel
theorem dX12_contribution_2 : decode cX12_contribution 2 = .ok (.iload_n 1, 1) := by decide +kernel
theorem dX12_contribution_3 : decode cX12_contribution 3 = .ok (.invokevirtual 215, 3) := by decide +kernel
theorem dX12_contribution_6 : decode cX12_contribution 6 = .ok (.ifCond .eq 11, 3) := by decide +kernel
theorem dX12_contribution_9 : decode cX12_contribution 9 = .ok (.aload_n 0, 1) := by decide +kernel
theorem dX12_contribution_10 : decode cX12_contribution 10 = .ok (.iload_n 2, 1) := by decide +kernel
theorem dX12_contribution_11 : decode cX12_contribution 11 = .ok (.invokevirtual 272, 3) := by decide +kernel
theorem dX12_contribution_14 : decode cX12_contribution 14 = .ok (.ifCond .ne 7, 3) := by decide +kernel
theorem dX12_contribution_17 : decode cX12_contribution 17 = .ok (.iconst 1, 1) := by decide +kernel
theorem dX12_contribution_18 : decode cX12_contribution 18 = .ok (.goto 35, 3) := by decide +kernel
theorem dX12_contribution_21 : decode cX12_contribution 21 = .ok (.aload_n 0, 1) := by decide +kernel
theorem dX12_contribution_22 : decode cX12_contribution 22 = .ok (.iload_n 3, 1) := by decide +kernel
theorem dX12_contribution_23 : decode cX12_contribution 23 = .ok (.i2l, 1) := by decide +kernel
theorem dX12_contribution_24 : decode cX12_contribution 24 = .ok (.lconst 0, 1) := by decide +kernel
theorem dX12_contribution_25 : decode cX12_contribution 25 = .ok (.ldc2_w 286, 3) := by decide +kernel
theorem dX12_contribution_28 : decode cX12_contribution 28 = .ok (.invokevirtual 191, 3) := by decide +kernel
theorem dX12_contribution_31 : decode cX12_contribution 31 = .ok (.ifCond .eq 21, 3) := by decide +kernel
theorem dX12_contribution_34 : decode cX12_contribution 34 = .ok (.aload_n 0, 1) := by decide +kernel
theorem dX12_contribution_35 : decode cX12_contribution 35 = .ok (.iload 4, 2) := by decide +kernel
theorem dX12_contribution_37 : decode cX12_contribution 37 = .ok (.i2l, 1) := by decide +kernel
theorem dX12_contribution_38 : decode cX12_contribution 38 = .ok (.lconst 0, 1) := by decide +kernel
theorem dX12_contribution_39 : decode cX12_contribution 39 = .ok (.ldc2_w 327, 3) := by decide +kernel
theorem dX12_contribution_42 : decode cX12_contribution 42 = .ok (.invokevirtual 191, 3) := by decide +kernel
theorem dX12_contribution_45 : decode cX12_contribution 45 = .ok (.ifCond .eq 7, 3) := by decide +kernel
theorem dX12_contribution_48 : decode cX12_contribution 48 = .ok (.iconst 0, 1) := by decide +kernel
theorem dX12_contribution_49 : decode cX12_contribution 49 = .ok (.goto 4, 3) := by decide +kernel
theorem dX12_contribution_52 : decode cX12_contribution 52 = .ok (.iconst 2, 1) := by decide +kernel
theorem dX12_contribution_53 : decode cX12_contribution 53 = .ok (.invokevirtual 227, 3) := by decide +kernel
theorem dX12_contribution_56 : decode cX12_contribution 56 = .ok (.ifCond .ne 28, 3) := by decide +kernel
theorem dX12_contribution_59 : decode cX12_contribution 59 = .ok (.aload_n 0, 1) := by decide +kernel
theorem dX12_contribution_60 : decode cX12_contribution 60 = .ok (.getfield 80, 3) := by decide +kernel
theorem dX12_contribution_63 : decode cX12_contribution 63 = .ok (.bipush 24, 2) := by decide +kernel
theorem dX12_contribution_65 : decode cX12_contribution 65 = .ok (.iload_n 1, 1) := by decide +kernel
theorem dX12_contribution_66 : decode cX12_contribution 66 = .ok (.imul, 1) := by decide +kernel
theorem dX12_contribution_67 : decode cX12_contribution 67 = .ok (.iload_n 2, 1) := by decide +kernel
theorem dX12_contribution_68 : decode cX12_contribution 68 = .ok (.iadd, 1) := by decide +kernel
theorem dX12_contribution_69 : decode cX12_contribution 69 = .ok (.iload_n 3, 1) := by decide +kernel
theorem dX12_contribution_70 : decode cX12_contribution 70 = .ok (.iastore, 1) := by decide +kernel
theorem dX12_contribution_71 : decode cX12_contribution 71 = .ok (.aload_n 0, 1) := by decide +kernel
theorem dX12_contribution_72 : decode cX12_contribution 72 = .ok (.getfield 83, 3) := by decide +kernel
theorem dX12_contribution_75 : decode cX12_contribution 75 = .ok (.bipush 24, 2) := by decide +kernel
theorem dX12_contribution_77 : decode cX12_contribution 77 = .ok (.iload_n 1, 1) := by decide +kernel
theorem dX12_contribution_78 : decode cX12_contribution 78 = .ok (.imul, 1) := by decide +kernel
theorem dX12_contribution_79 : decode cX12_contribution 79 = .ok (.iload_n 2, 1) := by decide +kernel
theorem dX12_contribution_80 : decode cX12_contribution 80 = .ok (.iadd, 1) := by decide +kernel
theorem dX12_contribution_81 : decode cX12_contribution 81 = .ok (.iload 4, 2) := by decide +kernel
theorem dX12_contribution_83 : decode cX12_contribution 83 = .ok (.iastore, 1) := by decide +kernel
theorem dX12_contribution_84 : decode cX12_contribution 84 = .ok (.return_, 1) := by decide +kernel
theorem dX12_bracket_0 : decode cX12_bracket 0 = .ok (.aload_n 0, 1) := by decide +kernel
theorem dX12_bracket_1 : decode cX12_bracket 1 = .ok (.iload_n 1, 1) := by decide +kernel
theorem dX12_bracket_2 : decode cX12_bracket 2 = .ok (.invokevirtual 215, 3) := by decide +kernel
theorem dX12_bracket_5 : decode cX12_bracket 5 = .ok (.ifCond .eq 15, 3) := by decide +kernel
theorem dX12_bracket_8 : decode cX12_bracket 8 = .ok (.aload_n 0, 1) := by decide +kernel
theorem dX12_bracket_9 : decode cX12_bracket 9 = .ok (.iload_n 3, 1) := by decide +kernel
theorem dX12_bracket_10 : decode cX12_bracket 10 = .ok (.invokevirtual 272, 3) := by decide +kernel
theorem dX12_bracket_13 : decode cX12_bracket 13 = .ok (.ifCond .eq 7, 3) := by decide +kernel
theorem dX12_bracket_16 : decode cX12_bracket 16 = .ok (.iconst 1, 1) := by decide +kernel
theorem dX12_bracket_17 : decode cX12_bracket 17 = .ok (.goto 4, 3) := by decide +kernel
theorem dX12_bracket_20 : decode cX12_bracket 20 = .ok (.iconst 0, 1) := by decide +kernel
theorem dX12_bracket_21 : decode cX12_bracket 21 = .ok (.istore 6, 2) := by decide +kernel
theorem dX12_bracket_23 : decode cX12_bracket 23 = .ok (.aload_n 0, 1) := by decide +kernel
theorem dX12_bracket_24 : decode cX12_bracket 24 = .ok (.iload_n 2, 1) := by decide +kernel
theorem dX12_bracket_25 : decode cX12_bracket 25 = .ok (.i2l, 1) := by decide +kernel
theorem dX12_bracket_26 : decode cX12_bracket 26 = .ok (.lconst 0, 1) := by decide +kernel
theorem dX12_bracket_27 : decode cX12_bracket 27 = .ok (.lconst 1, 1) := by decide +kernel
theorem dX12_bracket_28 : decode cX12_bracket 28 = .ok (.invokevirtual 191, 3) := by decide +kernel
theorem dX12_bracket_31 : decode cX12_bracket 31 = .ok (.ifCond .eq 35, 3) := by decide +kernel
theorem dX12_bracket_34 : decode cX12_bracket 34 = .ok (.aload_n 0, 1) := by decide +kernel
theorem dX12_bracket_35 : decode cX12_bracket 35 = .ok (.iload 4, 2) := by decide +kernel
theorem dX12_bracket_37 : decode cX12_bracket 37 = .ok (.i2l, 1) := by decide +kernel
theorem dX12_bracket_38 : decode cX12_bracket 38 = .ok (.lconst 1, 1) := by decide +kernel
theorem dX12_bracket_39 : decode cX12_bracket 39 = .ok (.ldc2_w 345, 3) := by decide +kernel
theorem dX12_bracket_42 : decode cX12_bracket 42 = .ok (.invokevirtual 191, 3) := by decide +kernel
theorem dX12_bracket_45 : decode cX12_bracket 45 = .ok (.ifCond .eq 21, 3) := by decide +kernel
theorem dX12_bracket_48 : decode cX12_bracket 48 = .ok (.aload_n 0, 1) := by decide +kernel
theorem dX12_bracket_49 : decode cX12_bracket 49 = .ok (.iload 5, 2) := by decide +kernel
theorem dX12_bracket_51 : decode cX12_bracket 51 = .ok (.i2l, 1) := by decide +kernel
theorem dX12_bracket_52 : decode cX12_bracket 52 = .ok (.lconst 0, 1) := by decide +kernel
theorem dX12_bracket_53 : decode cX12_bracket 53 = .ok (.ldc2_w 347, 3) := by decide +kernel
theorem dX12_bracket_56 : decode cX12_bracket 56 = .ok (.invokevirtual 191, 3) := by decide +kernel
theorem dX12_bracket_59 : decode cX12_bracket 59 = .ok (.ifCond .eq 7, 3) := by decide +kernel
theorem dX12_bracket_62 : decode cX12_bracket 62 = .ok (.iconst 1, 1) := by decide +kernel
theorem dX12_bracket_63 : decode cX12_bracket 63 = .ok (.goto 4, 3) := by decide +kernel
theorem dX12_bracket_66 : decode cX12_bracket 66 = .ok (.iconst 0, 1) := by decide +kernel
theorem dX12_bracket_67 : decode cX12_bracket 67 = .ok (.istore 7, 2) := by decide +kernel
theorem dX12_bracket_69 : decode cX12_bracket 69 = .ok (.iload 6, 2) := by decide +kernel
theorem dX12_bracket_71 : decode cX12_bracket 71 = .ok (.ifCond .eq 22, 3) := by decide +kernel
theorem dX12_bracket_74 : decode cX12_bracket 74 = .ok (.iload 7, 2) := by decide +kernel
theorem dX12_bracket_76 : decode cX12_bracket 76 = .ok (.ifCond .eq 17, 3) := by decide +kernel
theorem dX12_bracket_79 : decode cX12_bracket 79 = .ok (.bipush 48, 2) := by decide +kernel
theorem dX12_bracket_81 : decode cX12_bracket 81 = .ok (.iload_n 1, 1) := by decide +kernel
theorem dX12_bracket_82 : decode cX12_bracket 82 = .ok (.imul, 1) := by decide +kernel
theorem dX12_bracket_83 : decode cX12_bracket 83 = .ok (.bipush 24, 2) := by decide +kernel
theorem dX12_bracket_85 : decode cX12_bracket 85 = .ok (.iload_n 2, 1) := by decide +kernel
theorem dX12_bracket_86 : decode cX12_bracket 86 = .ok (.imul, 1) := by decide +kernel
theorem dX12_bracket_87 : decode cX12_bracket 87 = .ok (.iadd, 1) := by decide +kernel
theorem dX12_bracket_88 : decode cX12_bracket 88 = .ok (.iload_n 3, 1) := by decide +kernel
theorem dX12_bracket_89 : decode cX12_bracket 89 = .ok (.iadd, 1) := by decide +kernel
theorem dX12_bracket_90 : decode cX12_bracket 90 = .ok (.goto 4, 3) := by decide +kernel
theorem dX12_bracket_93 : decode cX12_bracket 93 = .ok (.iconst 0, 1) := by decide +kernel
theorem dX12_bracket_94 : decode cX12_bracket 94 = .ok (.istore 8, 2) := by decide +kernel
theorem dX12_bracket_96 : decode cX12_bracket 96 = .ok (.iload 6, 2) := by decide +kernel
theorem dX12_bracket_98 : decode cX12_bracket 98 = .ok (.ifCond .eq 57, 3) := by decide +kernel
theorem dX12_bracket_101 : decode cX12_bracket 101 = .ok (.iload 7, 2) := by decide +kernel
theorem dX12_bracket_103 : decode cX12_bracket 103 = .ok (.ifCond .eq 52, 3) := by decide +kernel
theorem dX12_bracket_106 : decode cX12_bracket 106 = .ok (.aload_n 0, 1) := by decide +kernel
theorem dX12_bracket_107 : decode cX12_bracket 107 = .ok (.getfield 86, 3) := by decide +kernel
theorem dX12_bracket_110 : decode cX12_bracket 110 = .ok (.iload 8, 2) := by decide +kernel
theorem dX12_bracket_112 : decode cX12_bracket 112 = .ok (.iaload, 1) := by decide +kernel
theorem dX12_bracket_113 : decode cX12_bracket 113 = .ok (.iconst 4, 1) := by decide +kernel
theorem dX12_bracket_114 : decode cX12_bracket 114 = .ok (.if_icmp .eq 37, 3) := by decide +kernel
theorem dX12_bracket_117 : decode cX12_bracket 117 = .ok (.aload_n 0, 1) := by decide +kernel
theorem dX12_bracket_118 : decode cX12_bracket 118 = .ok (.getfield 86, 3) := by decide +kernel
theorem dX12_bracket_121 : decode cX12_bracket 121 = .ok (.iload 8, 2) := by decide +kernel
theorem dX12_bracket_123 : decode cX12_bracket 123 = .ok (.iaload, 1) := by decide +kernel
theorem dX12_bracket_124 : decode cX12_bracket 124 = .ok (.ifCond .le 31, 3) := by decide +kernel
theorem dX12_bracket_127 : decode cX12_bracket 127 = .ok (.iload 4, 2) := by decide +kernel
theorem dX12_bracket_129 : decode cX12_bracket 129 = .ok (.aload_n 0, 1) := by decide +kernel
theorem dX12_bracket_130 : decode cX12_bracket 130 = .ok (.getfield 89, 3) := by decide +kernel
theorem dX12_bracket_133 : decode cX12_bracket 133 = .ok (.iconst 4, 1) := by decide +kernel
theorem dX12_bracket_134 : decode cX12_bracket 134 = .ok (.iload 8, 2) := by decide +kernel
theorem dX12_bracket_136 : decode cX12_bracket 136 = .ok (.imul, 1) := by decide +kernel
theorem dX12_bracket_137 : decode cX12_bracket 137 = .ok (.aload_n 0, 1) := by decide +kernel
theorem dX12_bracket_138 : decode cX12_bracket 138 = .ok (.getfield 86, 3) := by decide +kernel
theorem dX12_bracket_141 : decode cX12_bracket 141 = .ok (.iload 8, 2) := by decide +kernel
theorem dX12_bracket_143 : decode cX12_bracket 143 = .ok (.iaload, 1) := by decide +kernel
theorem dX12_bracket_144 : decode cX12_bracket 144 = .ok (.iadd, 1) := by decide +kernel
theorem dX12_bracket_145 : decode cX12_bracket 145 = .ok (.iconst 1, 1) := by decide +kernel
theorem dX12_bracket_146 : decode cX12_bracket 146 = .ok (.isub, 1) := by decide +kernel
theorem dX12_bracket_147 : decode cX12_bracket 147 = .ok (.iaload, 1) := by decide +kernel
theorem dX12_bracket_148 : decode cX12_bracket 148 = .ok (.if_icmp .gt 7, 3) := by decide +kernel
theorem dX12_bracket_151 : decode cX12_bracket 151 = .ok (.iconst 1, 1) := by decide +kernel
theorem dX12_bracket_152 : decode cX12_bracket 152 = .ok (.goto 4, 3) := by decide +kernel
theorem dX12_bracket_155 : decode cX12_bracket 155 = .ok (.iconst 0, 1) := by decide +kernel
theorem dX12_bracket_156 : decode cX12_bracket 156 = .ok (.istore 9, 2) := by decide +kernel
theorem dX12_bracket_158 : decode cX12_bracket 158 = .ok (.aload_n 0, 1) := by decide +kernel
theorem dX12_bracket_159 : decode cX12_bracket 159 = .ok (.iload 6, 2) := by decide +kernel
theorem dX12_bracket_161 : decode cX12_bracket 161 = .ok (.ifCond .ne 7, 3) := by decide +kernel
theorem dX12_bracket_164 : decode cX12_bracket 164 = .ok (.iconst 1, 1) := by decide +kernel
theorem dX12_bracket_165 : decode cX12_bracket 165 = .ok (.goto 22, 3) := by decide +kernel
theorem dX12_bracket_168 : decode cX12_bracket 168 = .ok (.iload 7, 2) := by decide +kernel
theorem dX12_bracket_170 : decode cX12_bracket 170 = .ok (.ifCond .ne 7, 3) := by decide +kernel
theorem dX12_bracket_173 : decode cX12_bracket 173 = .ok (.iconst 2, 1) := by decide +kernel
theorem dX12_bracket_174 : decode cX12_bracket 174 = .ok (.goto 13, 3) := by decide +kernel
theorem dX12_bracket_177 : decode cX12_bracket 177 = .ok (.iload 9, 2) := by decide +kernel
theorem dX12_bracket_179 : decode cX12_bracket 179 = .ok (.ifCond .eq 7, 3) := by decide +kernel
theorem dX12_bracket_182 : decode cX12_bracket 182 = .ok (.iconst 3, 1) := by decide +kernel
theorem dX12_bracket_183 : decode cX12_bracket 183 = .ok (.goto 4, 3) := by decide +kernel
theorem dX12_bracket_186 : decode cX12_bracket 186 = .ok (.iconst 0, 1) := by decide +kernel
theorem dX12_bracket_187 : decode cX12_bracket 187 = .ok (.invokevirtual 227, 3) := by decide +kernel
theorem dX12_bracket_190 : decode cX12_bracket 190 = .ok (.ifCond .eq 5, 3) := by decide +kernel
theorem dX12_bracket_193 : decode cX12_bracket 193 = .ok (.iconst (-1), 1) := by decide +kernel
theorem dX12_bracket_194 : decode cX12_bracket 194 = .ok (.ireturn, 1) := by decide +kernel
theorem dX12_bracket_195 : decode cX12_bracket 195 = .ok (.aload_n 0, 1) := by decide +kernel
theorem dX12_bracket_196 : decode cX12_bracket 196 = .ok (.getfield 89, 3) := by decide +kernel
theorem dX12_bracket_199 : decode cX12_bracket 199 = .ok (.iconst 4, 1) := by decide +kernel
theorem dX12_bracket_200 : decode cX12_bracket 200 = .ok (.iload 8, 2) := by decide +kernel
theorem dX12_bracket_202 : decode cX12_bracket 202 = .ok (.imul, 1) := by decide +kernel
theorem dX12_bracket_203 : decode cX12_bracket 203 = .ok (.aload_n 0, 1) := by decide +kernel
theorem dX12_bracket_204 : decode cX12_bracket 204 = .ok (.getfield 86, 3) := by decide +kernel
theorem dX12_bracket_207 : decode cX12_bracket 207 = .ok (.iload 8, 2) := by decide +kernel
theorem dX12_bracket_209 : decode cX12_bracket 209 = .ok (.iaload, 1) := by decide +kernel
theorem dX12_bracket_210 : decode cX12_bracket 210 = .ok (.iadd, 1) := by decide +kernel
theorem dX12_bracket_211 : decode cX12_bracket 211 = .ok (.iload 4, 2) := by decide +kernel
theorem dX12_bracket_213 : decode cX12_bracket 213 = .ok (.iastore, 1) := by decide +kernel
theorem dX12_bracket_214 : decode cX12_bracket 214 = .ok (.aload_n 0, 1) := by decide +kernel
theorem dX12_bracket_215 : decode cX12_bracket 215 = .ok (.getfield 92, 3) := by decide +kernel
theorem dX12_bracket_218 : decode cX12_bracket 218 = .ok (.iconst 4, 1) := by decide +kernel
theorem dX12_bracket_219 : decode cX12_bracket 219 = .ok (.iload 8, 2) := by decide +kernel
theorem dX12_bracket_221 : decode cX12_bracket 221 = .ok (.imul, 1) := by decide +kernel
theorem dX12_bracket_222 : decode cX12_bracket 222 = .ok (.aload_n 0, 1) := by decide +kernel
theorem dX12_bracket_223 : decode cX12_bracket 223 = .ok (.getfield 86, 3) := by decide +kernel
theorem dX12_bracket_226 : decode cX12_bracket 226 = .ok (.iload 8, 2) := by decide +kernel
theorem dX12_bracket_228 : decode cX12_bracket 228 = .ok (.iaload, 1) := by decide +kernel
theorem dX12_bracket_229 : decode cX12_bracket 229 = .ok (.iadd, 1) := by decide +kernel
theorem dX12_bracket_230 : decode cX12_bracket 230 = .ok (.iload 5, 2) := by decide +kernel
theorem dX12_bracket_232 : decode cX12_bracket 232 = .ok (.iastore, 1) := by decide +kernel
theorem dX12_bracket_233 : decode cX12_bracket 233 = .ok (.aload_n 0, 1) := by decide +kernel
theorem dX12_bracket_234 : decode cX12_bracket 234 = .ok (.getfield 86, 3) := by decide +kernel
theorem dX12_bracket_237 : decode cX12_bracket 237 = .ok (.iload 8, 2) := by decide +kernel
theorem dX12_bracket_239 : decode cX12_bracket 239 = .ok (.dup2, 1) := by decide +kernel
theorem dX12_bracket_240 : decode cX12_bracket 240 = .ok (.iaload, 1) := by decide +kernel
theorem dX12_bracket_241 : decode cX12_bracket 241 = .ok (.iconst 1, 1) := by decide +kernel
theorem dX12_bracket_242 : decode cX12_bracket 242 = .ok (.iadd, 1) := by decide +kernel
theorem dX12_bracket_243 : decode cX12_bracket 243 = .ok (.iastore, 1) := by decide +kernel
theorem dX12_bracket_244 : decode cX12_bracket 244 = .ok (.aload_n 0, 1) := by decide +kernel
theorem dX12_bracket_245 : decode cX12_bracket 245 = .ok (.getfield 86, 3) := by decide +kernel
theorem dX12_bracket_248 : decode cX12_bracket 248 = .ok (.iload 8, 2) := by decide +kernel
theorem dX12_bracket_250 : decode cX12_bracket 250 = .ok (.iaload, 1) := by decide +kernel
theorem dX12_bracket_251 : decode cX12_bracket 251 = .ok (.ireturn, 1) := by decide +kernel
theorem dX12_state_0 : decode cX12_state 0 = .ok (.aload_n 0, 1) := by decide +kernel
theorem dX12_state_1 : decode cX12_state 1 = .ok (.aload_n 0, 1) := by decide +kernel
theorem dX12_state_2 : decode cX12_state 2 = .ok (.iload_n 1, 1) := by decide +kernel
theorem dX12_state_3 : decode cX12_state 3 = .ok (.invokevirtual 212, 3) := by decide +kernel
theorem dX12_state_6 : decode cX12_state 6 = .ok (.ifCond .eq 11, 3) := by decide +kernel
theorem dX12_state_9 : decode cX12_state 9 = .ok (.aload_n 0, 1) := by decide +kernel
theorem dX12_state_10 : decode cX12_state 10 = .ok (.iload_n 2, 1) := by decide +kernel
theorem dX12_state_11 : decode cX12_state 11 = .ok (.invokevirtual 272, 3) := by decide +kernel
theorem dX12_state_14 : decode cX12_state 14 = .ok (.ifCond .ne 7, 3) := by decide +kernel
theorem dX12_state_17 : decode cX12_state 17 = .ok (.iconst 1, 1) := by decide +kernel
theorem dX12_state_18 : decode cX12_state 18 = .ok (.goto 19, 3) := by decide +kernel
theorem dX12_state_21 : decode cX12_state 21 = .ok (.aload_n 0, 1) := by decide +kernel
theorem dX12_state_22 : decode cX12_state 22 = .ok (.iload_n 3, 1) := by decide +kernel
theorem dX12_state_23 : decode cX12_state 23 = .ok (.i2l, 1) := by decide +kernel
theorem dX12_state_24 : decode cX12_state 24 = .ok (.lconst 0, 1) := by decide +kernel
theorem dX12_state_25 : decode cX12_state 25 = .ok (.lconst 1, 1) := by decide +kernel
theorem dX12_state_26 : decode cX12_state 26 = .ok (.invokevirtual 191, 3) := by decide +kernel
theorem dX12_state_29 : decode cX12_state 29 = .ok (.ifCond .eq 7, 3) := by decide +kernel
theorem dX12_state_32 : decode cX12_state 32 = .ok (.iconst 0, 1) := by decide +kernel
theorem dX12_state_33 : decode cX12_state 33 = .ok (.goto 4, 3) := by decide +kernel
theorem dX12_state_36 : decode cX12_state 36 = .ok (.iconst 2, 1) := by decide +kernel
theorem dX12_state_37 : decode cX12_state 37 = .ok (.invokevirtual 227, 3) := by decide +kernel
theorem dX12_state_40 : decode cX12_state 40 = .ok (.ifCond .ne 15, 3) := by decide +kernel
theorem dX12_state_43 : decode cX12_state 43 = .ok (.aload_n 0, 1) := by decide +kernel
theorem dX12_state_44 : decode cX12_state 44 = .ok (.getfield 95, 3) := by decide +kernel
theorem dX12_state_47 : decode cX12_state 47 = .ok (.bipush 24, 2) := by decide +kernel
theorem dX12_state_49 : decode cX12_state 49 = .ok (.iload_n 1, 1) := by decide +kernel
theorem dX12_state_50 : decode cX12_state 50 = .ok (.imul, 1) := by decide +kernel
theorem dX12_state_51 : decode cX12_state 51 = .ok (.iload_n 2, 1) := by decide +kernel
theorem dX12_state_52 : decode cX12_state 52 = .ok (.iadd, 1) := by decide +kernel
theorem dX12_state_53 : decode cX12_state 53 = .ok (.iload_n 3, 1) := by decide +kernel
theorem dX12_state_54 : decode cX12_state 54 = .ok (.iastore, 1) := by decide +kernel
theorem dX12_state_55 : decode cX12_state 55 = .ok (.return_, 1) := by decide +kernel
theorem dX12_pension_0 : decode cX12_pension 0 = .ok (.aload_n 0, 1) := by decide +kernel
theorem dX12_pension_1 : decode cX12_pension 1 = .ok (.aload_n 0, 1) := by decide +kernel
theorem dX12_pension_2 : decode cX12_pension 2 = .ok (.iload_n 1, 1) := by decide +kernel
theorem dX12_pension_3 : decode cX12_pension 3 = .ok (.invokevirtual 212, 3) := by decide +kernel
theorem dX12_pension_6 : decode cX12_pension 6 = .ok (.ifCond .eq 11, 3) := by decide +kernel
theorem dX12_pension_9 : decode cX12_pension 9 = .ok (.aload_n 0, 1) := by decide +kernel
theorem dX12_pension_10 : decode cX12_pension 10 = .ok (.iload_n 2, 1) := by decide +kernel
theorem dX12_pension_11 : decode cX12_pension 11 = .ok (.invokevirtual 272, 3) := by decide +kernel
theorem dX12_pension_14 : decode cX12_pension 14 = .ok (.ifCond .ne 7, 3) := by decide +kernel
theorem dX12_pension_17 : decode cX12_pension 17 = .ok (.iconst 1, 1) := by decide +kernel
theorem dX12_pension_18 : decode cX12_pension 18 = .ok (.goto 21, 3) := by decide +kernel
theorem dX12_pension_21 : decode cX12_pension 21 = .ok (.aload_n 0, 1) := by decide +kernel
theorem dX12_pension_22 : decode cX12_pension 22 = .ok (.iload_n 3, 1) := by decide +kernel
theorem dX12_pension_23 : decode cX12_pension 23 = .ok (.i2l, 1) := by decide +kernel
theorem dX12_pension_24 : decode cX12_pension 24 = .ok (.lconst 0, 1) := by decide +kernel
theorem dX12_pension_25 : decode cX12_pension 25 = .ok (.ldc2_w 349, 3) := by decide +kernel
theorem dX12_pension_28 : decode cX12_pension 28 = .ok (.invokevirtual 191, 3) := by decide +kernel
theorem dX12_pension_31 : decode cX12_pension 31 = .ok (.ifCond .eq 7, 3) := by decide +kernel
theorem dX12_pension_34 : decode cX12_pension 34 = .ok (.iconst 0, 1) := by decide +kernel
theorem dX12_pension_35 : decode cX12_pension 35 = .ok (.goto 4, 3) := by decide +kernel
theorem dX12_pension_38 : decode cX12_pension 38 = .ok (.iconst 2, 1) := by decide +kernel
theorem dX12_pension_39 : decode cX12_pension 39 = .ok (.invokevirtual 227, 3) := by decide +kernel
theorem dX12_pension_42 : decode cX12_pension 42 = .ok (.ifCond .ne 15, 3) := by decide +kernel
theorem dX12_pension_45 : decode cX12_pension 45 = .ok (.aload_n 0, 1) := by decide +kernel
theorem dX12_pension_46 : decode cX12_pension 46 = .ok (.getfield 98, 3) := by decide +kernel
theorem dX12_pension_49 : decode cX12_pension 49 = .ok (.bipush 24, 2) := by decide +kernel
theorem dX12_pension_51 : decode cX12_pension 51 = .ok (.iload_n 1, 1) := by decide +kernel
theorem dX12_pension_52 : decode cX12_pension 52 = .ok (.imul, 1) := by decide +kernel
theorem dX12_pension_53 : decode cX12_pension 53 = .ok (.iload_n 2, 1) := by decide +kernel
theorem dX12_pension_54 : decode cX12_pension 54 = .ok (.iadd, 1) := by decide +kernel
theorem dX12_pension_55 : decode cX12_pension 55 = .ok (.iload_n 3, 1) := by decide +kernel
theorem dX12_pension_56 : decode cX12_pension 56 = .ok (.iastore, 1) := by decide +kernel
theorem dX12_pension_57 : decode cX12_pension 57 = .ok (.return_, 1) := by decide +kernel
theorem dX12_lastOf_0 : decode cX12_lastOf 0 = .ok (.iload_n 3, 1) := by decide +kernel
theorem dX12_lastOf_1 : decode cX12_lastOf 1 = .ok (.istore 4, 2) := by decide +kernel
theorem dX12_lastOf_3 : decode cX12_lastOf 3 = .ok (.iload 4, 2) := by decide +kernel
theorem dX12_lastOf_5 : decode cX12_lastOf 5 = .ok (.ifCond .lt 80, 3) := by decide +kernel
theorem dX12_lastOf_8 : decode cX12_lastOf 8 = .ok (.iload_n 1, 1) := by decide +kernel
theorem dX12_lastOf_9 : decode cX12_lastOf 9 = .ok (.ifCond .ne 18, 3) := by decide +kernel
theorem dX12_lastOf_12 : decode cX12_lastOf 12 = .ok (.aload_n 0, 1) := by decide +kernel
theorem dX12_lastOf_13 : decode cX12_lastOf 13 = .ok (.getfield 80, 3) := by decide +kernel
theorem dX12_lastOf_16 : decode cX12_lastOf 16 = .ok (.iload_n 2, 1) := by decide +kernel
theorem dX12_lastOf_17 : decode cX12_lastOf 17 = .ok (.iload 4, 2) := by decide +kernel
theorem dX12_lastOf_19 : decode cX12_lastOf 19 = .ok (.iadd, 1) := by decide +kernel
theorem dX12_lastOf_20 : decode cX12_lastOf 20 = .ok (.iaload, 1) := by decide +kernel
theorem dX12_lastOf_21 : decode cX12_lastOf 21 = .ok (.ifCond .ge 64, 3) := by decide +kernel
theorem dX12_lastOf_24 : decode cX12_lastOf 24 = .ok (.goto 55, 3) := by decide +kernel
theorem dX12_lastOf_27 : decode cX12_lastOf 27 = .ok (.iload_n 1, 1) := by decide +kernel
theorem dX12_lastOf_28 : decode cX12_lastOf 28 = .ok (.iconst 1, 1) := by decide +kernel
theorem dX12_lastOf_29 : decode cX12_lastOf 29 = .ok (.if_icmp .ne 18, 3) := by decide +kernel
theorem dX12_lastOf_32 : decode cX12_lastOf 32 = .ok (.aload_n 0, 1) := by decide +kernel
theorem dX12_lastOf_33 : decode cX12_lastOf 33 = .ok (.getfield 95, 3) := by decide +kernel
theorem dX12_lastOf_36 : decode cX12_lastOf 36 = .ok (.iload_n 2, 1) := by decide +kernel
theorem dX12_lastOf_37 : decode cX12_lastOf 37 = .ok (.iload 4, 2) := by decide +kernel
theorem dX12_lastOf_39 : decode cX12_lastOf 39 = .ok (.iadd, 1) := by decide +kernel
theorem dX12_lastOf_40 : decode cX12_lastOf 40 = .ok (.iaload, 1) := by decide +kernel
theorem dX12_lastOf_41 : decode cX12_lastOf 41 = .ok (.ifCond .ge 44, 3) := by decide +kernel
theorem dX12_lastOf_44 : decode cX12_lastOf 44 = .ok (.goto 35, 3) := by decide +kernel
theorem dX12_lastOf_47 : decode cX12_lastOf 47 = .ok (.iload_n 1, 1) := by decide +kernel
theorem dX12_lastOf_48 : decode cX12_lastOf 48 = .ok (.iconst 2, 1) := by decide +kernel
theorem dX12_lastOf_49 : decode cX12_lastOf 49 = .ok (.if_icmp .ne 18, 3) := by decide +kernel
theorem dX12_lastOf_52 : decode cX12_lastOf 52 = .ok (.aload_n 0, 1) := by decide +kernel
theorem dX12_lastOf_53 : decode cX12_lastOf 53 = .ok (.getfield 98, 3) := by decide +kernel
theorem dX12_lastOf_56 : decode cX12_lastOf 56 = .ok (.iload_n 2, 1) := by decide +kernel
theorem dX12_lastOf_57 : decode cX12_lastOf 57 = .ok (.iload 4, 2) := by decide +kernel
theorem dX12_lastOf_59 : decode cX12_lastOf 59 = .ok (.iadd, 1) := by decide +kernel
theorem dX12_lastOf_60 : decode cX12_lastOf 60 = .ok (.iaload, 1) := by decide +kernel
theorem dX12_lastOf_61 : decode cX12_lastOf 61 = .ok (.ifCond .ge 24, 3) := by decide +kernel
theorem dX12_lastOf_64 : decode cX12_lastOf 64 = .ok (.goto 15, 3) := by decide +kernel
theorem dX12_lastOf_67 : decode cX12_lastOf 67 = .ok (.aload_n 0, 1) := by decide +kernel
theorem dX12_lastOf_68 : decode cX12_lastOf 68 = .ok (.getfield 86, 3) := by decide +kernel
theorem dX12_lastOf_71 : decode cX12_lastOf 71 = .ok (.iload_n 2, 1) := by decide +kernel
theorem dX12_lastOf_72 : decode cX12_lastOf 72 = .ok (.iload 4, 2) := by decide +kernel
theorem dX12_lastOf_74 : decode cX12_lastOf 74 = .ok (.iadd, 1) := by decide +kernel
theorem dX12_lastOf_75 : decode cX12_lastOf 75 = .ok (.iaload, 1) := by decide +kernel
theorem dX12_lastOf_76 : decode cX12_lastOf 76 = .ok (.ifCond .ne 9, 3) := by decide +kernel
theorem dX12_lastOf_79 : decode cX12_lastOf 79 = .ok (.iinc 4 (-1), 3) := by decide +kernel
theorem dX12_lastOf_82 : decode cX12_lastOf 82 = .ok (.goto (-79), 3) := by decide +kernel
theorem dX12_lastOf_85 : decode cX12_lastOf 85 = .ok (.iload 4, 2) := by decide +kernel
theorem dX12_lastOf_87 : decode cX12_lastOf 87 = .ok (.ireturn, 1) := by decide +kernel
theorem dX12_yearly_0 : decode cX12_yearly 0 = .ok (.bipush 48, 2) := by decide +kernel
theorem dX12_yearly_2 : decode cX12_yearly 2 = .ok (.iload_n 1, 1) := by decide +kernel
theorem dX12_yearly_3 : decode cX12_yearly 3 = .ok (.imul, 1) := by decide +kernel
theorem dX12_yearly_4 : decode cX12_yearly 4 = .ok (.bipush 24, 2) := by decide +kernel
theorem dX12_yearly_6 : decode cX12_yearly 6 = .ok (.iload_n 2, 1) := by decide +kernel
theorem dX12_yearly_7 : decode cX12_yearly 7 = .ok (.imul, 1) := by decide +kernel
theorem dX12_yearly_8 : decode cX12_yearly 8 = .ok (.iadd, 1) := by decide +kernel
theorem dX12_yearly_9 : decode cX12_yearly 9 = .ok (.istore 6, 2) := by decide +kernel
theorem dX12_yearly_11 : decode cX12_yearly 11 = .ok (.aload_n 0, 1) := by decide +kernel
theorem dX12_yearly_12 : decode cX12_yearly 12 = .ok (.iconst 3, 1) := by decide +kernel
theorem dX12_yearly_13 : decode cX12_yearly 13 = .ok (.iload 6, 2) := by decide +kernel
theorem dX12_yearly_15 : decode cX12_yearly 15 = .ok (.iload_n 3, 1) := by decide +kernel
theorem dX12_yearly_16 : decode cX12_yearly 16 = .ok (.invokevirtual 351, 3) := by decide +kernel
theorem dX12_yearly_19 : decode cX12_yearly 19 = .ok (.istore 7, 2) := by decide +kernel
theorem dX12_yearly_21 : decode cX12_yearly 21 = .ok (.lconst 0, 1) := by decide +kernel
theorem dX12_yearly_22 : decode cX12_yearly 22 = .ok (.lstore 8, 2) := by decide +kernel
theorem dX12_yearly_24 : decode cX12_yearly 24 = .ok (.lconst 0, 1) := by decide +kernel
theorem dX12_yearly_25 : decode cX12_yearly 25 = .ok (.lstore 10, 2) := by decide +kernel
theorem dX12_yearly_27 : decode cX12_yearly 27 = .ok (.iconst 0, 1) := by decide +kernel
theorem dX12_yearly_28 : decode cX12_yearly 28 = .ok (.istore 12, 2) := by decide +kernel
theorem dX12_yearly_30 : decode cX12_yearly 30 = .ok (.iload 7, 2) := by decide +kernel
theorem dX12_yearly_32 : decode cX12_yearly 32 = .ok (.ifCond .lt 105, 3) := by decide +kernel
theorem dX12_yearly_35 : decode cX12_yearly 35 = .ok (.iload 12, 2) := by decide +kernel
theorem dX12_yearly_37 : decode cX12_yearly 37 = .ok (.aload_n 0, 1) := by decide +kernel
theorem dX12_yearly_38 : decode cX12_yearly 38 = .ok (.getfield 86, 3) := by decide +kernel
theorem dX12_yearly_41 : decode cX12_yearly 41 = .ok (.iload 6, 2) := by decide +kernel
theorem dX12_yearly_43 : decode cX12_yearly 43 = .ok (.iload 7, 2) := by decide +kernel
theorem dX12_yearly_45 : decode cX12_yearly 45 = .ok (.iadd, 1) := by decide +kernel
theorem dX12_yearly_46 : decode cX12_yearly 46 = .ok (.iaload, 1) := by decide +kernel
theorem dX12_yearly_47 : decode cX12_yearly 47 = .ok (.if_icmp .ge 90, 3) := by decide +kernel
theorem dX12_yearly_50 : decode cX12_yearly 50 = .ok (.aload_n 0, 1) := by decide +kernel
theorem dX12_yearly_51 : decode cX12_yearly 51 = .ok (.getfield 89, 3) := by decide +kernel
theorem dX12_yearly_54 : decode cX12_yearly 54 = .ok (.iconst 4, 1) := by decide +kernel
theorem dX12_yearly_55 : decode cX12_yearly 55 = .ok (.iload 6, 2) := by decide +kernel
theorem dX12_yearly_57 : decode cX12_yearly 57 = .ok (.iload 7, 2) := by decide +kernel
theorem dX12_yearly_59 : decode cX12_yearly 59 = .ok (.iadd, 1) := by decide +kernel
theorem dX12_yearly_60 : decode cX12_yearly 60 = .ok (.imul, 1) := by decide +kernel
theorem dX12_yearly_61 : decode cX12_yearly 61 = .ok (.iload 12, 2) := by decide +kernel
theorem dX12_yearly_63 : decode cX12_yearly 63 = .ok (.iadd, 1) := by decide +kernel
theorem dX12_yearly_64 : decode cX12_yearly 64 = .ok (.iaload, 1) := by decide +kernel
theorem dX12_yearly_65 : decode cX12_yearly 65 = .ok (.i2l, 1) := by decide +kernel
theorem dX12_yearly_66 : decode cX12_yearly 66 = .ok (.lstore 13, 2) := by decide +kernel
theorem dX12_yearly_68 : decode cX12_yearly 68 = .ok (.lload 4, 2) := by decide +kernel
theorem dX12_yearly_70 : decode cX12_yearly 70 = .ok (.lload 13, 2) := by decide +kernel
theorem dX12_yearly_72 : decode cX12_yearly 72 = .ok (.lcmp, 1) := by decide +kernel
theorem dX12_yearly_73 : decode cX12_yearly 73 = .ok (.ifCond .ge 8, 3) := by decide +kernel
theorem dX12_yearly_76 : decode cX12_yearly 76 = .ok (.lload 4, 2) := by decide +kernel
theorem dX12_yearly_78 : decode cX12_yearly 78 = .ok (.goto 5, 3) := by decide +kernel
theorem dX12_yearly_81 : decode cX12_yearly 81 = .ok (.lload 13, 2) := by decide +kernel
theorem dX12_yearly_83 : decode cX12_yearly 83 = .ok (.lload 10, 2) := by decide +kernel
theorem dX12_yearly_85 : decode cX12_yearly 85 = .ok (.lsub, 1) := by decide +kernel
theorem dX12_yearly_86 : decode cX12_yearly 86 = .ok (.lstore 15, 2) := by decide +kernel
theorem dX12_yearly_88 : decode cX12_yearly 88 = .ok (.lload 8, 2) := by decide +kernel
theorem dX12_yearly_90 : decode cX12_yearly 90 = .ok (.lload 15, 2) := by decide +kernel
theorem dX12_yearly_92 : decode cX12_yearly 92 = .ok (.lconst 0, 1) := by decide +kernel
theorem dX12_yearly_93 : decode cX12_yearly 93 = .ok (.lcmp, 1) := by decide +kernel
theorem dX12_yearly_94 : decode cX12_yearly 94 = .ok (.ifCond .le 29, 3) := by decide +kernel
theorem dX12_yearly_97 : decode cX12_yearly 97 = .ok (.lload 15, 2) := by decide +kernel
theorem dX12_yearly_99 : decode cX12_yearly 99 = .ok (.aload_n 0, 1) := by decide +kernel
theorem dX12_yearly_100 : decode cX12_yearly 100 = .ok (.getfield 92, 3) := by decide +kernel
theorem dX12_yearly_103 : decode cX12_yearly 103 = .ok (.iconst 4, 1) := by decide +kernel
theorem dX12_yearly_104 : decode cX12_yearly 104 = .ok (.iload 6, 2) := by decide +kernel
theorem dX12_yearly_106 : decode cX12_yearly 106 = .ok (.iload 7, 2) := by decide +kernel
theorem dX12_yearly_108 : decode cX12_yearly 108 = .ok (.iadd, 1) := by decide +kernel
theorem dX12_yearly_109 : decode cX12_yearly 109 = .ok (.imul, 1) := by decide +kernel
theorem dX12_yearly_110 : decode cX12_yearly 110 = .ok (.iload 12, 2) := by decide +kernel
theorem dX12_yearly_112 : decode cX12_yearly 112 = .ok (.iadd, 1) := by decide +kernel
theorem dX12_yearly_113 : decode cX12_yearly 113 = .ok (.iaload, 1) := by decide +kernel
theorem dX12_yearly_114 : decode cX12_yearly 114 = .ok (.i2l, 1) := by decide +kernel
theorem dX12_yearly_115 : decode cX12_yearly 115 = .ok (.lmul, 1) := by decide +kernel
theorem dX12_yearly_116 : decode cX12_yearly 116 = .ok (.ldc2_w 331, 3) := by decide +kernel
theorem dX12_yearly_119 : decode cX12_yearly 119 = .ok (.ldiv, 1) := by decide +kernel
theorem dX12_yearly_120 : decode cX12_yearly 120 = .ok (.goto 4, 3) := by decide +kernel
theorem dX12_yearly_123 : decode cX12_yearly 123 = .ok (.lconst 0, 1) := by decide +kernel
theorem dX12_yearly_124 : decode cX12_yearly 124 = .ok (.ladd, 1) := by decide +kernel
theorem dX12_yearly_125 : decode cX12_yearly 125 = .ok (.lstore 8, 2) := by decide +kernel
theorem dX12_yearly_127 : decode cX12_yearly 127 = .ok (.lload 13, 2) := by decide +kernel
theorem dX12_yearly_129 : decode cX12_yearly 129 = .ok (.lstore 10, 2) := by decide +kernel
theorem dX12_yearly_131 : decode cX12_yearly 131 = .ok (.iinc 12 1, 3) := by decide +kernel
theorem dX12_yearly_134 : decode cX12_yearly 134 = .ok (.goto (-104), 3) := by decide +kernel
theorem dX12_yearly_137 : decode cX12_yearly 137 = .ok (.lload 8, 2) := by decide +kernel
theorem dX12_yearly_139 : decode cX12_yearly 139 = .ok (.lreturn, 1) := by decide +kernel
theorem dX12_yearTax_0 : decode cX12_yearTax 0 = .ok (.aload_n 0, 1) := by decide +kernel
theorem dX12_yearTax_1 : decode cX12_yearTax 1 = .ok (.iload_n 1, 1) := by decide +kernel
theorem dX12_yearTax_2 : decode cX12_yearTax 2 = .ok (.invokevirtual 215, 3) := by decide +kernel
theorem dX12_yearTax_5 : decode cX12_yearTax 5 = .ok (.ifCond .eq 15, 3) := by decide +kernel
theorem dX12_yearTax_8 : decode cX12_yearTax 8 = .ok (.aload_n 0, 1) := by decide +kernel
theorem dX12_yearTax_9 : decode cX12_yearTax 9 = .ok (.iload_n 3, 1) := by decide +kernel
theorem dX12_yearTax_10 : decode cX12_yearTax 10 = .ok (.invokevirtual 272, 3) := by decide +kernel
theorem dX12_yearTax_13 : decode cX12_yearTax 13 = .ok (.ifCond .eq 7, 3) := by decide +kernel
theorem dX12_yearTax_16 : decode cX12_yearTax 16 = .ok (.iconst 1, 1) := by decide +kernel
theorem dX12_yearTax_17 : decode cX12_yearTax 17 = .ok (.goto 4, 3) := by decide +kernel
theorem dX12_yearTax_20 : decode cX12_yearTax 20 = .ok (.iconst 0, 1) := by decide +kernel
theorem dX12_yearTax_21 : decode cX12_yearTax 21 = .ok (.istore 6, 2) := by decide +kernel
theorem dX12_yearTax_23 : decode cX12_yearTax 23 = .ok (.aload_n 0, 1) := by decide +kernel
theorem dX12_yearTax_24 : decode cX12_yearTax 24 = .ok (.iload 6, 2) := by decide +kernel
theorem dX12_yearTax_26 : decode cX12_yearTax 26 = .ok (.ifCond .ne 7, 3) := by decide +kernel
theorem dX12_yearTax_29 : decode cX12_yearTax 29 = .ok (.iconst 1, 1) := by decide +kernel
theorem dX12_yearTax_30 : decode cX12_yearTax 30 = .ok (.goto 32, 3) := by decide +kernel
theorem dX12_yearTax_33 : decode cX12_yearTax 33 = .ok (.aload_n 0, 1) := by decide +kernel
theorem dX12_yearTax_34 : decode cX12_yearTax 34 = .ok (.iload_n 2, 1) := by decide +kernel
theorem dX12_yearTax_35 : decode cX12_yearTax 35 = .ok (.i2l, 1) := by decide +kernel
theorem dX12_yearTax_36 : decode cX12_yearTax 36 = .ok (.lconst 0, 1) := by decide +kernel
theorem dX12_yearTax_37 : decode cX12_yearTax 37 = .ok (.lconst 1, 1) := by decide +kernel
theorem dX12_yearTax_38 : decode cX12_yearTax 38 = .ok (.invokevirtual 191, 3) := by decide +kernel
theorem dX12_yearTax_41 : decode cX12_yearTax 41 = .ok (.ifCond .eq 20, 3) := by decide +kernel
theorem dX12_yearTax_44 : decode cX12_yearTax 44 = .ok (.aload_n 0, 1) := by decide +kernel
theorem dX12_yearTax_45 : decode cX12_yearTax 45 = .ok (.lload 4, 2) := by decide +kernel
theorem dX12_yearTax_47 : decode cX12_yearTax 47 = .ok (.lconst 0, 1) := by decide +kernel
theorem dX12_yearTax_48 : decode cX12_yearTax 48 = .ok (.ldc2_w 355, 3) := by decide +kernel
theorem dX12_yearTax_51 : decode cX12_yearTax 51 = .ok (.invokevirtual 191, 3) := by decide +kernel
theorem dX12_yearTax_54 : decode cX12_yearTax 54 = .ok (.ifCond .eq 7, 3) := by decide +kernel
theorem dX12_yearTax_57 : decode cX12_yearTax 57 = .ok (.iconst 0, 1) := by decide +kernel
theorem dX12_yearTax_58 : decode cX12_yearTax 58 = .ok (.goto 4, 3) := by decide +kernel
theorem dX12_yearTax_61 : decode cX12_yearTax 61 = .ok (.iconst 2, 1) := by decide +kernel
theorem dX12_yearTax_62 : decode cX12_yearTax 62 = .ok (.invokevirtual 227, 3) := by decide +kernel
theorem dX12_yearTax_65 : decode cX12_yearTax 65 = .ok (.ifCond .eq 9, 3) := by decide +kernel
theorem dX12_yearTax_68 : decode cX12_yearTax 68 = .ok (.ldc2_w 275, 3) := by decide +kernel
theorem dX12_yearTax_71 : decode cX12_yearTax 71 = .ok (.goto 12, 3) := by decide +kernel
theorem dX12_yearTax_74 : decode cX12_yearTax 74 = .ok (.aload_n 0, 1) := by decide +kernel
theorem dX12_yearTax_75 : decode cX12_yearTax 75 = .ok (.iload_n 1, 1) := by decide +kernel
theorem dX12_yearTax_76 : decode cX12_yearTax 76 = .ok (.iload_n 2, 1) := by decide +kernel
theorem dX12_yearTax_77 : decode cX12_yearTax 77 = .ok (.iload_n 3, 1) := by decide +kernel
theorem dX12_yearTax_78 : decode cX12_yearTax 78 = .ok (.lload 4, 2) := by decide +kernel
theorem dX12_yearTax_80 : decode cX12_yearTax 80 = .ok (.invokevirtual 357, 3) := by decide +kernel
theorem dX12_yearTax_83 : decode cX12_yearTax 83 = .ok (.lreturn, 1) := by decide +kernel
theorem dX12_home_0 : decode cX12_home 0 = .ok (.iconst (-1), 1) := by decide +kernel
theorem dX12_home_1 : decode cX12_home 1 = .ok (.istore_n 3, 1) := by decide +kernel
theorem dX12_home_2 : decode cX12_home 2 = .ok (.aload_n 0, 1) := by decide +kernel
theorem dX12_home_3 : decode cX12_home 3 = .ok (.getfield 201, 3) := by decide +kernel
theorem dX12_home_6 : decode cX12_home 6 = .ok (.iconst 1, 1) := by decide +kernel
theorem dX12_home_7 : decode cX12_home 7 = .ok (.isub, 1) := by decide +kernel
theorem dX12_home_8 : decode cX12_home 8 = .ok (.istore 4, 2) := by decide +kernel
theorem dX12_home_10 : decode cX12_home 10 = .ok (.iload 4, 2) := by decide +kernel
theorem dX12_home_12 : decode cX12_home 12 = .ok (.ifCond .lt 70, 3) := by decide +kernel
theorem dX12_home_15 : decode cX12_home 15 = .ok (.aload_n 0, 1) := by decide +kernel
theorem dX12_home_16 : decode cX12_home 16 = .ok (.getfield 7, 3) := by decide +kernel
theorem dX12_home_19 : decode cX12_home 19 = .ok (.iload 4, 2) := by decide +kernel
theorem dX12_home_21 : decode cX12_home 21 = .ok (.iaload, 1) := by decide +kernel
theorem dX12_home_22 : decode cX12_home 22 = .ok (.iload_n 1, 1) := by decide +kernel
theorem dX12_home_23 : decode cX12_home 23 = .ok (.if_icmp .ne 38, 3) := by decide +kernel
theorem dX12_home_26 : decode cX12_home 26 = .ok (.aload_n 0, 1) := by decide +kernel
theorem dX12_home_27 : decode cX12_home 27 = .ok (.getfield 16, 3) := by decide +kernel
theorem dX12_home_30 : decode cX12_home 30 = .ok (.iload 4, 2) := by decide +kernel
theorem dX12_home_32 : decode cX12_home 32 = .ok (.iaload, 1) := by decide +kernel
theorem dX12_home_33 : decode cX12_home 33 = .ok (.bipush 30, 2) := by decide +kernel
theorem dX12_home_35 : decode cX12_home 35 = .ok (.iload_n 2, 1) := by decide +kernel
theorem dX12_home_36 : decode cX12_home 36 = .ok (.imul, 1) := by decide +kernel
theorem dX12_home_37 : decode cX12_home 37 = .ok (.bipush 30, 2) := by decide +kernel
theorem dX12_home_39 : decode cX12_home 39 = .ok (.iadd, 1) := by decide +kernel
theorem dX12_home_40 : decode cX12_home 40 = .ok (.if_icmp .ge 21, 3) := by decide +kernel
theorem dX12_home_43 : decode cX12_home 43 = .ok (.aload_n 0, 1) := by decide +kernel
theorem dX12_home_44 : decode cX12_home 44 = .ok (.getfield 19, 3) := by decide +kernel
theorem dX12_home_47 : decode cX12_home 47 = .ok (.iload 4, 2) := by decide +kernel
theorem dX12_home_49 : decode cX12_home 49 = .ok (.iaload, 1) := by decide +kernel
theorem dX12_home_50 : decode cX12_home 50 = .ok (.bipush 30, 2) := by decide +kernel
theorem dX12_home_52 : decode cX12_home 52 = .ok (.iload_n 2, 1) := by decide +kernel
theorem dX12_home_53 : decode cX12_home 53 = .ok (.imul, 1) := by decide +kernel
theorem dX12_home_54 : decode cX12_home 54 = .ok (.if_icmp .lt 7, 3) := by decide +kernel
theorem dX12_home_57 : decode cX12_home 57 = .ok (.iconst 1, 1) := by decide +kernel
theorem dX12_home_58 : decode cX12_home 58 = .ok (.goto 4, 3) := by decide +kernel
theorem dX12_home_61 : decode cX12_home 61 = .ok (.iconst 0, 1) := by decide +kernel
theorem dX12_home_62 : decode cX12_home 62 = .ok (.istore 5, 2) := by decide +kernel
theorem dX12_home_64 : decode cX12_home 64 = .ok (.iload 5, 2) := by decide +kernel
theorem dX12_home_66 : decode cX12_home 66 = .ok (.ifCond .eq 8, 3) := by decide +kernel
theorem dX12_home_69 : decode cX12_home 69 = .ok (.iload 4, 2) := by decide +kernel
theorem dX12_home_71 : decode cX12_home 71 = .ok (.goto 4, 3) := by decide +kernel
theorem dX12_home_74 : decode cX12_home 74 = .ok (.iload_n 3, 1) := by decide +kernel
theorem dX12_home_75 : decode cX12_home 75 = .ok (.istore_n 3, 1) := by decide +kernel
theorem dX12_home_76 : decode cX12_home 76 = .ok (.iinc 4 (-1), 3) := by decide +kernel
theorem dX12_home_79 : decode cX12_home 79 = .ok (.goto (-69), 3) := by decide +kernel
theorem dX12_home_82 : decode cX12_home 82 = .ok (.iload_n 3, 1) := by decide +kernel
theorem dX12_home_83 : decode cX12_home 83 = .ok (.ifCond .ge 7, 3) := by decide +kernel
theorem dX12_home_86 : decode cX12_home 86 = .ok (.iconst 0, 1) := by decide +kernel
theorem dX12_home_87 : decode cX12_home 87 = .ok (.goto 9, 3) := by decide +kernel
theorem dX12_home_90 : decode cX12_home 90 = .ok (.aload_n 0, 1) := by decide +kernel
theorem dX12_home_91 : decode cX12_home 91 = .ok (.getfield 13, 3) := by decide +kernel
theorem dX12_home_94 : decode cX12_home 94 = .ok (.iload_n 3, 1) := by decide +kernel
theorem dX12_home_95 : decode cX12_home 95 = .ok (.iaload, 1) := by decide +kernel
theorem dX12_home_96 : decode cX12_home 96 = .ok (.ireturn, 1) := by decide +kernel
theorem dX12_grossOf_0 : decode cX12_grossOf 0 = .ok (.lconst 0, 1) := by decide +kernel
theorem dX12_grossOf_1 : decode cX12_grossOf 1 = .ok (.lstore_n 3, 1) := by decide +kernel
theorem dX12_grossOf_2 : decode cX12_grossOf 2 = .ok (.lconst 0, 1) := by decide +kernel
theorem dX12_grossOf_3 : decode cX12_grossOf 3 = .ok (.lstore 5, 2) := by decide +kernel
theorem dX12_grossOf_5 : decode cX12_grossOf 5 = .ok (.iconst 0, 1) := by decide +kernel
theorem dX12_grossOf_6 : decode cX12_grossOf 6 = .ok (.istore 7, 2) := by decide +kernel
theorem dX12_grossOf_8 : decode cX12_grossOf 8 = .ok (.iload 7, 2) := by decide +kernel
theorem dX12_grossOf_10 : decode cX12_grossOf 10 = .ok (.iconst 3, 1) := by decide +kernel
theorem dX12_grossOf_11 : decode cX12_grossOf 11 = .ok (.if_icmp .ge 37, 3) := by decide +kernel
theorem dX12_grossOf_14 : decode cX12_grossOf 14 = .ok (.aload_n 0, 1) := by decide +kernel
theorem dX12_grossOf_15 : decode cX12_grossOf 15 = .ok (.getfield 143, 3) := by decide +kernel
theorem dX12_grossOf_18 : decode cX12_grossOf 18 = .ok (.iconst 3, 1) := by decide +kernel
theorem dX12_grossOf_19 : decode cX12_grossOf 19 = .ok (.iload_n 2, 1) := by decide +kernel
theorem dX12_grossOf_20 : decode cX12_grossOf 20 = .ok (.imul, 1) := by decide +kernel
theorem dX12_grossOf_21 : decode cX12_grossOf 21 = .ok (.iload 7, 2) := by decide +kernel
theorem dX12_grossOf_23 : decode cX12_grossOf 23 = .ok (.iadd, 1) := by decide +kernel
theorem dX12_grossOf_24 : decode cX12_grossOf 24 = .ok (.aload_n 0, 1) := by decide +kernel
theorem dX12_grossOf_25 : decode cX12_grossOf 25 = .ok (.getfield 77, 3) := by decide +kernel
theorem dX12_grossOf_28 : decode cX12_grossOf 28 = .ok (.bipush 72, 2) := by decide +kernel
theorem dX12_grossOf_30 : decode cX12_grossOf 30 = .ok (.iload_n 1, 1) := by decide +kernel
theorem dX12_grossOf_31 : decode cX12_grossOf 31 = .ok (.imul, 1) := by decide +kernel
theorem dX12_grossOf_32 : decode cX12_grossOf 32 = .ok (.iconst 3, 1) := by decide +kernel
theorem dX12_grossOf_33 : decode cX12_grossOf 33 = .ok (.iload_n 2, 1) := by decide +kernel
theorem dX12_grossOf_34 : decode cX12_grossOf 34 = .ok (.imul, 1) := by decide +kernel
theorem dX12_grossOf_35 : decode cX12_grossOf 35 = .ok (.iadd, 1) := by decide +kernel
theorem dX12_grossOf_36 : decode cX12_grossOf 36 = .ok (.iload 7, 2) := by decide +kernel
theorem dX12_grossOf_38 : decode cX12_grossOf 38 = .ok (.iadd, 1) := by decide +kernel
theorem dX12_grossOf_39 : decode cX12_grossOf 39 = .ok (.iaload, 1) := by decide +kernel
theorem dX12_grossOf_40 : decode cX12_grossOf 40 = .ok (.i2l, 1) := by decide +kernel
theorem dX12_grossOf_41 : decode cX12_grossOf 41 = .ok (.lastore, 1) := by decide +kernel
theorem dX12_grossOf_42 : decode cX12_grossOf 42 = .ok (.iinc 7 1, 3) := by decide +kernel
theorem dX12_grossOf_45 : decode cX12_grossOf 45 = .ok (.goto (-37), 3) := by decide +kernel
theorem dX12_grossOf_48 : decode cX12_grossOf 48 = .ok (.iconst 0, 1) := by decide +kernel
theorem dX12_grossOf_49 : decode cX12_grossOf 49 = .ok (.istore 7, 2) := by decide +kernel
theorem dX12_grossOf_51 : decode cX12_grossOf 51 = .ok (.iload 7, 2) := by decide +kernel
theorem dX12_grossOf_53 : decode cX12_grossOf 53 = .ok (.aload_n 0, 1) := by decide +kernel
theorem dX12_grossOf_54 : decode cX12_grossOf 54 = .ok (.getfield 201, 3) := by decide +kernel
theorem dX12_grossOf_57 : decode cX12_grossOf 57 = .ok (.if_icmp .ge 99, 3) := by decide +kernel
theorem dX12_grossOf_60 : decode cX12_grossOf 60 = .ok (.aload_n 0, 1) := by decide +kernel
theorem dX12_grossOf_61 : decode cX12_grossOf 61 = .ok (.getfield 7, 3) := by decide +kernel
theorem dX12_grossOf_64 : decode cX12_grossOf 64 = .ok (.iload 7, 2) := by decide +kernel
theorem dX12_grossOf_66 : decode cX12_grossOf 66 = .ok (.iaload, 1) := by decide +kernel
theorem dX12_grossOf_67 : decode cX12_grossOf 67 = .ok (.iload_n 1, 1) := by decide +kernel
theorem dX12_grossOf_68 : decode cX12_grossOf 68 = .ok (.if_icmp .ne 82, 3) := by decide +kernel
theorem dX12_grossOf_71 : decode cX12_grossOf 71 = .ok (.aload_n 0, 1) := by decide +kernel
theorem dX12_grossOf_72 : decode cX12_grossOf 72 = .ok (.iload 7, 2) := by decide +kernel
theorem dX12_grossOf_74 : decode cX12_grossOf 74 = .ok (.iload_n 2, 1) := by decide +kernel
theorem dX12_grossOf_75 : decode cX12_grossOf 75 = .ok (.invokevirtual 281, 3) := by decide +kernel
theorem dX12_grossOf_78 : decode cX12_grossOf 78 = .ok (.lstore 8, 2) := by decide +kernel
theorem dX12_grossOf_80 : decode cX12_grossOf 80 = .ok (.lload_n 3, 1) := by decide +kernel
theorem dX12_grossOf_81 : decode cX12_grossOf 81 = .ok (.lload 8, 2) := by decide +kernel
theorem dX12_grossOf_83 : decode cX12_grossOf 83 = .ok (.ladd, 1) := by decide +kernel
theorem dX12_grossOf_84 : decode cX12_grossOf 84 = .ok (.lstore_n 3, 1) := by decide +kernel
theorem dX12_grossOf_85 : decode cX12_grossOf 85 = .ok (.aload_n 0, 1) := by decide +kernel
theorem dX12_grossOf_86 : decode cX12_grossOf 86 = .ok (.getfield 143, 3) := by decide +kernel
theorem dX12_grossOf_89 : decode cX12_grossOf 89 = .ok (.iconst 3, 1) := by decide +kernel
theorem dX12_grossOf_90 : decode cX12_grossOf 90 = .ok (.iload_n 2, 1) := by decide +kernel
theorem dX12_grossOf_91 : decode cX12_grossOf 91 = .ok (.imul, 1) := by decide +kernel
theorem dX12_grossOf_92 : decode cX12_grossOf 92 = .ok (.aload_n 0, 1) := by decide +kernel
theorem dX12_grossOf_93 : decode cX12_grossOf 93 = .ok (.getfield 13, 3) := by decide +kernel
theorem dX12_grossOf_96 : decode cX12_grossOf 96 = .ok (.iload 7, 2) := by decide +kernel
theorem dX12_grossOf_98 : decode cX12_grossOf 98 = .ok (.iaload, 1) := by decide +kernel
theorem dX12_grossOf_99 : decode cX12_grossOf 99 = .ok (.iadd, 1) := by decide +kernel
theorem dX12_grossOf_100 : decode cX12_grossOf 100 = .ok (.dup2, 1) := by decide +kernel
theorem dX12_grossOf_101 : decode cX12_grossOf 101 = .ok (.laload, 1) := by decide +kernel
theorem dX12_grossOf_102 : decode cX12_grossOf 102 = .ok (.lload 8, 2) := by decide +kernel
theorem dX12_grossOf_104 : decode cX12_grossOf 104 = .ok (.ladd, 1) := by decide +kernel
theorem dX12_grossOf_105 : decode cX12_grossOf 105 = .ok (.lastore, 1) := by decide +kernel
theorem dX12_grossOf_106 : decode cX12_grossOf 106 = .ok (.bipush 30, 2) := by decide +kernel
theorem dX12_grossOf_108 : decode cX12_grossOf 108 = .ok (.iload_n 2, 1) := by decide +kernel
theorem dX12_grossOf_109 : decode cX12_grossOf 109 = .ok (.imul, 1) := by decide +kernel
theorem dX12_grossOf_110 : decode cX12_grossOf 110 = .ok (.istore 10, 2) := by decide +kernel
theorem dX12_grossOf_112 : decode cX12_grossOf 112 = .ok (.iload 10, 2) := by decide +kernel
theorem dX12_grossOf_114 : decode cX12_grossOf 114 = .ok (.bipush 30, 2) := by decide +kernel
theorem dX12_grossOf_116 : decode cX12_grossOf 116 = .ok (.iload_n 2, 1) := by decide +kernel
theorem dX12_grossOf_117 : decode cX12_grossOf 117 = .ok (.imul, 1) := by decide +kernel
theorem dX12_grossOf_118 : decode cX12_grossOf 118 = .ok (.bipush 30, 2) := by decide +kernel
theorem dX12_grossOf_120 : decode cX12_grossOf 120 = .ok (.iadd, 1) := by decide +kernel
theorem dX12_grossOf_121 : decode cX12_grossOf 121 = .ok (.if_icmp .ge 29, 3) := by decide +kernel
theorem dX12_grossOf_124 : decode cX12_grossOf 124 = .ok (.lload 5, 2) := by decide +kernel
theorem dX12_grossOf_126 : decode cX12_grossOf 126 = .ok (.aload_n 0, 1) := by decide +kernel
theorem dX12_grossOf_127 : decode cX12_grossOf 127 = .ok (.getfield 34, 3) := by decide +kernel
theorem dX12_grossOf_130 : decode cX12_grossOf 130 = .ok (.sipush 720, 3) := by decide +kernel
theorem dX12_grossOf_133 : decode cX12_grossOf 133 = .ok (.iload 7, 2) := by decide +kernel
theorem dX12_grossOf_135 : decode cX12_grossOf 135 = .ok (.imul, 1) := by decide +kernel
theorem dX12_grossOf_136 : decode cX12_grossOf 136 = .ok (.iload 10, 2) := by decide +kernel
theorem dX12_grossOf_138 : decode cX12_grossOf 138 = .ok (.iadd, 1) := by decide +kernel
theorem dX12_grossOf_139 : decode cX12_grossOf 139 = .ok (.iaload, 1) := by decide +kernel
theorem dX12_grossOf_140 : decode cX12_grossOf 140 = .ok (.i2l, 1) := by decide +kernel
theorem dX12_grossOf_141 : decode cX12_grossOf 141 = .ok (.ladd, 1) := by decide +kernel
theorem dX12_grossOf_142 : decode cX12_grossOf 142 = .ok (.lstore 5, 2) := by decide +kernel
theorem dX12_grossOf_144 : decode cX12_grossOf 144 = .ok (.iinc 10 1, 3) := by decide +kernel
theorem dX12_grossOf_147 : decode cX12_grossOf 147 = .ok (.goto (-35), 3) := by decide +kernel
theorem dX12_grossOf_150 : decode cX12_grossOf 150 = .ok (.iinc 7 1, 3) := by decide +kernel
theorem dX12_grossOf_153 : decode cX12_grossOf 153 = .ok (.goto (-102), 3) := by decide +kernel
theorem dX12_grossOf_156 : decode cX12_grossOf 156 = .ok (.iconst 0, 1) := by decide +kernel
theorem dX12_grossOf_157 : decode cX12_grossOf 157 = .ok (.istore 7, 2) := by decide +kernel
theorem dX12_grossOf_159 : decode cX12_grossOf 159 = .ok (.iload 7, 2) := by decide +kernel
theorem dX12_grossOf_161 : decode cX12_grossOf 161 = .ok (.bipush 6, 2) := by decide +kernel
theorem dX12_grossOf_163 : decode cX12_grossOf 163 = .ok (.if_icmp .ge 17, 3) := by decide +kernel
theorem dX12_grossOf_166 : decode cX12_grossOf 166 = .ok (.aload_n 0, 1) := by decide +kernel
theorem dX12_grossOf_167 : decode cX12_grossOf 167 = .ok (.getfield 74, 3) := by decide +kernel
theorem dX12_grossOf_170 : decode cX12_grossOf 170 = .ok (.iload 7, 2) := by decide +kernel
theorem dX12_grossOf_172 : decode cX12_grossOf 172 = .ok (.lconst 0, 1) := by decide +kernel
theorem dX12_grossOf_173 : decode cX12_grossOf 173 = .ok (.lastore, 1) := by decide +kernel
theorem dX12_grossOf_174 : decode cX12_grossOf 174 = .ok (.iinc 7 1, 3) := by decide +kernel
theorem dX12_grossOf_177 : decode cX12_grossOf 177 = .ok (.goto (-18), 3) := by decide +kernel
theorem dX12_grossOf_180 : decode cX12_grossOf 180 = .ok (.iconst 0, 1) := by decide +kernel
theorem dX12_grossOf_181 : decode cX12_grossOf 181 = .ok (.istore 7, 2) := by decide +kernel
theorem dX12_grossOf_183 : decode cX12_grossOf 183 = .ok (.iload 7, 2) := by decide +kernel
theorem dX12_grossOf_185 : decode cX12_grossOf 185 = .ok (.aload_n 0, 1) := by decide +kernel
theorem dX12_grossOf_186 : decode cX12_grossOf 186 = .ok (.getfield 316, 3) := by decide +kernel
theorem dX12_grossOf_189 : decode cX12_grossOf 189 = .ok (.if_icmp .ge 82, 3) := by decide +kernel
theorem dX12_grossOf_192 : decode cX12_grossOf 192 = .ok (.aload_n 0, 1) := by decide +kernel
theorem dX12_grossOf_193 : decode cX12_grossOf 193 = .ok (.getfield 67, 3) := by decide +kernel
theorem dX12_grossOf_196 : decode cX12_grossOf 196 = .ok (.iload 7, 2) := by decide +kernel
theorem dX12_grossOf_198 : decode cX12_grossOf 198 = .ok (.iaload, 1) := by decide +kernel
theorem dX12_grossOf_199 : decode cX12_grossOf 199 = .ok (.istore 8, 2) := by decide +kernel
theorem dX12_grossOf_201 : decode cX12_grossOf 201 = .ok (.aload_n 0, 1) := by decide +kernel
theorem dX12_grossOf_202 : decode cX12_grossOf 202 = .ok (.getfield 74, 3) := by decide +kernel
theorem dX12_grossOf_205 : decode cX12_grossOf 205 = .ok (.iload 8, 2) := by decide +kernel
theorem dX12_grossOf_207 : decode cX12_grossOf 207 = .ok (.aload_n 0, 1) := by decide +kernel
theorem dX12_grossOf_208 : decode cX12_grossOf 208 = .ok (.getfield 64, 3) := by decide +kernel
theorem dX12_grossOf_211 : decode cX12_grossOf 211 = .ok (.iload 8, 2) := by decide +kernel
theorem dX12_grossOf_213 : decode cX12_grossOf 213 = .ok (.iaload, 1) := by decide +kernel
theorem dX12_grossOf_214 : decode cX12_grossOf 214 = .ok (.iload_n 1, 1) := by decide +kernel
theorem dX12_grossOf_215 : decode cX12_grossOf 215 = .ok (.ishr, 1) := by decide +kernel
theorem dX12_grossOf_216 : decode cX12_grossOf 216 = .ok (.iconst 1, 1) := by decide +kernel
theorem dX12_grossOf_217 : decode cX12_grossOf 217 = .ok (.iand, 1) := by decide +kernel
theorem dX12_grossOf_218 : decode cX12_grossOf 218 = .ok (.iconst 1, 1) := by decide +kernel
theorem dX12_grossOf_219 : decode cX12_grossOf 219 = .ok (.if_icmp .ne 19, 3) := by decide +kernel
theorem dX12_grossOf_222 : decode cX12_grossOf 222 = .ok (.aload_n 0, 1) := by decide +kernel
theorem dX12_grossOf_223 : decode cX12_grossOf 223 = .ok (.iload 8, 2) := by decide +kernel
theorem dX12_grossOf_225 : decode cX12_grossOf 225 = .ok (.lload_n 3, 1) := by decide +kernel
theorem dX12_grossOf_226 : decode cX12_grossOf 226 = .ok (.lload 5, 2) := by decide +kernel
theorem dX12_grossOf_228 : decode cX12_grossOf 228 = .ok (.ldc2_w 221, 3) := by decide +kernel
theorem dX12_grossOf_231 : decode cX12_grossOf 231 = .ok (.ldiv, 1) := by decide +kernel
theorem dX12_grossOf_232 : decode cX12_grossOf 232 = .ok (.invokevirtual 361, 3) := by decide +kernel
theorem dX12_grossOf_235 : decode cX12_grossOf 235 = .ok (.goto 4, 3) := by decide +kernel
theorem dX12_grossOf_238 : decode cX12_grossOf 238 = .ok (.lconst 0, 1) := by decide +kernel
theorem dX12_grossOf_239 : decode cX12_grossOf 239 = .ok (.lastore, 1) := by decide +kernel
theorem dX12_grossOf_240 : decode cX12_grossOf 240 = .ok (.aload_n 0, 1) := by decide +kernel
theorem dX12_grossOf_241 : decode cX12_grossOf 241 = .ok (.getfield 143, 3) := by decide +kernel
theorem dX12_grossOf_244 : decode cX12_grossOf 244 = .ok (.iconst 3, 1) := by decide +kernel
theorem dX12_grossOf_245 : decode cX12_grossOf 245 = .ok (.iload_n 2, 1) := by decide +kernel
theorem dX12_grossOf_246 : decode cX12_grossOf 246 = .ok (.imul, 1) := by decide +kernel
theorem dX12_grossOf_247 : decode cX12_grossOf 247 = .ok (.aload_n 0, 1) := by decide +kernel
theorem dX12_grossOf_248 : decode cX12_grossOf 248 = .ok (.iload_n 1, 1) := by decide +kernel
theorem dX12_grossOf_249 : decode cX12_grossOf 249 = .ok (.iload_n 2, 1) := by decide +kernel
theorem dX12_grossOf_250 : decode cX12_grossOf 250 = .ok (.invokevirtual 364, 3) := by decide +kernel
theorem dX12_grossOf_253 : decode cX12_grossOf 253 = .ok (.iadd, 1) := by decide +kernel
theorem dX12_grossOf_254 : decode cX12_grossOf 254 = .ok (.dup2, 1) := by decide +kernel
theorem dX12_grossOf_255 : decode cX12_grossOf 255 = .ok (.laload, 1) := by decide +kernel
theorem dX12_grossOf_256 : decode cX12_grossOf 256 = .ok (.aload_n 0, 1) := by decide +kernel
theorem dX12_grossOf_257 : decode cX12_grossOf 257 = .ok (.getfield 74, 3) := by decide +kernel
theorem dX12_grossOf_260 : decode cX12_grossOf 260 = .ok (.iload 8, 2) := by decide +kernel
theorem dX12_grossOf_262 : decode cX12_grossOf 262 = .ok (.laload, 1) := by decide +kernel
theorem dX12_grossOf_263 : decode cX12_grossOf 263 = .ok (.ladd, 1) := by decide +kernel
theorem dX12_grossOf_264 : decode cX12_grossOf 264 = .ok (.lastore, 1) := by decide +kernel
theorem dX12_grossOf_265 : decode cX12_grossOf 265 = .ok (.iinc 7 1, 3) := by decide +kernel
theorem dX12_grossOf_268 : decode cX12_grossOf 268 = .ok (.goto (-85), 3) := by decide +kernel
theorem dX12_grossOf_271 : decode cX12_grossOf 271 = .ok (.iconst 0, 1) := by decide +kernel
theorem dX12_grossOf_272 : decode cX12_grossOf 272 = .ok (.istore 7, 2) := by decide +kernel
theorem dX12_grossOf_274 : decode cX12_grossOf 274 = .ok (.iload 7, 2) := by decide +kernel
theorem dX12_grossOf_276 : decode cX12_grossOf 276 = .ok (.bipush 6, 2) := by decide +kernel
theorem dX12_grossOf_278 : decode cX12_grossOf 278 = .ok (.if_icmp .ge 28, 3) := by decide +kernel
theorem dX12_grossOf_281 : decode cX12_grossOf 281 = .ok (.aload_n 0, 1) := by decide +kernel
theorem dX12_grossOf_282 : decode cX12_grossOf 282 = .ok (.getfield 173, 3) := by decide +kernel
theorem dX12_grossOf_285 : decode cX12_grossOf 285 = .ok (.bipush 24, 2) := by decide +kernel
theorem dX12_grossOf_287 : decode cX12_grossOf 287 = .ok (.iload 7, 2) := by decide +kernel
theorem dX12_grossOf_289 : decode cX12_grossOf 289 = .ok (.imul, 1) := by decide +kernel
theorem dX12_grossOf_290 : decode cX12_grossOf 290 = .ok (.iload_n 2, 1) := by decide +kernel
theorem dX12_grossOf_291 : decode cX12_grossOf 291 = .ok (.iadd, 1) := by decide +kernel
theorem dX12_grossOf_292 : decode cX12_grossOf 292 = .ok (.aload_n 0, 1) := by decide +kernel
theorem dX12_grossOf_293 : decode cX12_grossOf 293 = .ok (.getfield 74, 3) := by decide +kernel
theorem dX12_grossOf_296 : decode cX12_grossOf 296 = .ok (.iload 7, 2) := by decide +kernel
theorem dX12_grossOf_298 : decode cX12_grossOf 298 = .ok (.laload, 1) := by decide +kernel
theorem dX12_grossOf_299 : decode cX12_grossOf 299 = .ok (.lastore, 1) := by decide +kernel
theorem dX12_grossOf_300 : decode cX12_grossOf 300 = .ok (.iinc 7 1, 3) := by decide +kernel
theorem dX12_grossOf_303 : decode cX12_grossOf 303 = .ok (.goto (-29), 3) := by decide +kernel
theorem dX12_grossOf_306 : decode cX12_grossOf 306 = .ok (.return_, 1) := by decide +kernel
theorem dX12_yearSum_0 : decode cX12_yearSum 0 = .ok (.lconst 0, 1) := by decide +kernel
theorem dX12_yearSum_1 : decode cX12_yearSum 1 = .ok (.lstore 4, 2) := by decide +kernel
theorem dX12_yearSum_3 : decode cX12_yearSum 3 = .ok (.iload_n 2, 1) := by decide +kernel
theorem dX12_yearSum_4 : decode cX12_yearSum 4 = .ok (.bipush 12, 2) := by decide +kernel
theorem dX12_yearSum_6 : decode cX12_yearSum 6 = .ok (.idiv, 1) := by decide +kernel
theorem dX12_yearSum_7 : decode cX12_yearSum 7 = .ok (.bipush 12, 2) := by decide +kernel
theorem dX12_yearSum_9 : decode cX12_yearSum 9 = .ok (.imul, 1) := by decide +kernel
theorem dX12_yearSum_10 : decode cX12_yearSum 10 = .ok (.istore 6, 2) := by decide +kernel
theorem dX12_yearSum_12 : decode cX12_yearSum 12 = .ok (.iload 6, 2) := by decide +kernel
theorem dX12_yearSum_14 : decode cX12_yearSum 14 = .ok (.iload_n 2, 1) := by decide +kernel
theorem dX12_yearSum_15 : decode cX12_yearSum 15 = .ok (.if_icmp .ge 81, 3) := by decide +kernel
theorem dX12_yearSum_18 : decode cX12_yearSum 18 = .ok (.lload 4, 2) := by decide +kernel
theorem dX12_yearSum_20 : decode cX12_yearSum 20 = .ok (.iload_n 1, 1) := by decide +kernel
theorem dX12_yearSum_21 : decode cX12_yearSum 21 = .ok (.ifCond .ne 17, 3) := by decide +kernel
theorem dX12_yearSum_24 : decode cX12_yearSum 24 = .ok (.aload_n 0, 1) := by decide +kernel
theorem dX12_yearSum_25 : decode cX12_yearSum 25 = .ok (.getfield 143, 3) := by decide +kernel
theorem dX12_yearSum_28 : decode cX12_yearSum 28 = .ok (.iconst 3, 1) := by decide +kernel
theorem dX12_yearSum_29 : decode cX12_yearSum 29 = .ok (.iload 6, 2) := by decide +kernel
theorem dX12_yearSum_31 : decode cX12_yearSum 31 = .ok (.imul, 1) := by decide +kernel
theorem dX12_yearSum_32 : decode cX12_yearSum 32 = .ok (.iload_n 3, 1) := by decide +kernel
theorem dX12_yearSum_33 : decode cX12_yearSum 33 = .ok (.iadd, 1) := by decide +kernel
theorem dX12_yearSum_34 : decode cX12_yearSum 34 = .ok (.laload, 1) := by decide +kernel
theorem dX12_yearSum_35 : decode cX12_yearSum 35 = .ok (.goto 52, 3) := by decide +kernel
theorem dX12_yearSum_38 : decode cX12_yearSum 38 = .ok (.iload_n 1, 1) := by decide +kernel
theorem dX12_yearSum_39 : decode cX12_yearSum 39 = .ok (.iconst 1, 1) := by decide +kernel
theorem dX12_yearSum_40 : decode cX12_yearSum 40 = .ok (.if_icmp .ne 17, 3) := by decide +kernel
theorem dX12_yearSum_43 : decode cX12_yearSum 43 = .ok (.aload_n 0, 1) := by decide +kernel
theorem dX12_yearSum_44 : decode cX12_yearSum 44 = .ok (.getfield 146, 3) := by decide +kernel
theorem dX12_yearSum_47 : decode cX12_yearSum 47 = .ok (.iconst 3, 1) := by decide +kernel
theorem dX12_yearSum_48 : decode cX12_yearSum 48 = .ok (.iload 6, 2) := by decide +kernel
theorem dX12_yearSum_50 : decode cX12_yearSum 50 = .ok (.imul, 1) := by decide +kernel
theorem dX12_yearSum_51 : decode cX12_yearSum 51 = .ok (.iload_n 3, 1) := by decide +kernel
theorem dX12_yearSum_52 : decode cX12_yearSum 52 = .ok (.iadd, 1) := by decide +kernel
theorem dX12_yearSum_53 : decode cX12_yearSum 53 = .ok (.laload, 1) := by decide +kernel
theorem dX12_yearSum_54 : decode cX12_yearSum 54 = .ok (.goto 33, 3) := by decide +kernel
theorem dX12_yearSum_57 : decode cX12_yearSum 57 = .ok (.iload_n 1, 1) := by decide +kernel
theorem dX12_yearSum_58 : decode cX12_yearSum 58 = .ok (.iconst 2, 1) := by decide +kernel
theorem dX12_yearSum_59 : decode cX12_yearSum 59 = .ok (.if_icmp .ne 17, 3) := by decide +kernel
theorem dX12_yearSum_62 : decode cX12_yearSum 62 = .ok (.aload_n 0, 1) := by decide +kernel
theorem dX12_yearSum_63 : decode cX12_yearSum 63 = .ok (.getfield 152, 3) := by decide +kernel
theorem dX12_yearSum_66 : decode cX12_yearSum 66 = .ok (.iconst 3, 1) := by decide +kernel
theorem dX12_yearSum_67 : decode cX12_yearSum 67 = .ok (.iload 6, 2) := by decide +kernel
theorem dX12_yearSum_69 : decode cX12_yearSum 69 = .ok (.imul, 1) := by decide +kernel
theorem dX12_yearSum_70 : decode cX12_yearSum 70 = .ok (.iload_n 3, 1) := by decide +kernel
theorem dX12_yearSum_71 : decode cX12_yearSum 71 = .ok (.iadd, 1) := by decide +kernel
theorem dX12_yearSum_72 : decode cX12_yearSum 72 = .ok (.laload, 1) := by decide +kernel
theorem dX12_yearSum_73 : decode cX12_yearSum 73 = .ok (.goto 14, 3) := by decide +kernel
theorem dX12_yearSum_76 : decode cX12_yearSum 76 = .ok (.aload_n 0, 1) := by decide +kernel
theorem dX12_yearSum_77 : decode cX12_yearSum 77 = .ok (.getfield 155, 3) := by decide +kernel
theorem dX12_yearSum_80 : decode cX12_yearSum 80 = .ok (.iconst 3, 1) := by decide +kernel
theorem dX12_yearSum_81 : decode cX12_yearSum 81 = .ok (.iload 6, 2) := by decide +kernel
theorem dX12_yearSum_83 : decode cX12_yearSum 83 = .ok (.imul, 1) := by decide +kernel
theorem dX12_yearSum_84 : decode cX12_yearSum 84 = .ok (.iload_n 3, 1) := by decide +kernel
theorem dX12_yearSum_85 : decode cX12_yearSum 85 = .ok (.iadd, 1) := by decide +kernel
theorem dX12_yearSum_86 : decode cX12_yearSum 86 = .ok (.laload, 1) := by decide +kernel
theorem dX12_yearSum_87 : decode cX12_yearSum 87 = .ok (.ladd, 1) := by decide +kernel
theorem dX12_yearSum_88 : decode cX12_yearSum 88 = .ok (.lstore 4, 2) := by decide +kernel
theorem dX12_yearSum_90 : decode cX12_yearSum 90 = .ok (.iinc 6 1, 3) := by decide +kernel
theorem dX12_yearSum_93 : decode cX12_yearSum 93 = .ok (.goto (-81), 3) := by decide +kernel
theorem dX12_yearSum_96 : decode cX12_yearSum 96 = .ok (.lload 4, 2) := by decide +kernel
theorem dX12_yearSum_98 : decode cX12_yearSum 98 = .ok (.lreturn, 1) := by decide +kernel
theorem dX12_contribute_0 : decode cX12_contribute 0 = .ok (.iconst 3, 1) := by decide +kernel
theorem dX12_contribute_1 : decode cX12_contribute 1 = .ok (.iload_n 1, 1) := by decide +kernel
theorem dX12_contribute_2 : decode cX12_contribute 2 = .ok (.imul, 1) := by decide +kernel
theorem dX12_contribute_3 : decode cX12_contribute 3 = .ok (.iload_n 2, 1) := by decide +kernel
theorem dX12_contribute_4 : decode cX12_contribute 4 = .ok (.iadd, 1) := by decide +kernel
theorem dX12_contribute_5 : decode cX12_contribute 5 = .ok (.istore_n 3, 1) := by decide +kernel
theorem dX12_contribute_6 : decode cX12_contribute 6 = .ok (.aload_n 0, 1) := by decide +kernel
theorem dX12_contribute_7 : decode cX12_contribute 7 = .ok (.iconst 0, 1) := by decide +kernel
theorem dX12_contribute_8 : decode cX12_contribute 8 = .ok (.bipush 24, 2) := by decide +kernel
theorem dX12_contribute_10 : decode cX12_contribute 10 = .ok (.iload_n 2, 1) := by decide +kernel
theorem dX12_contribute_11 : decode cX12_contribute 11 = .ok (.imul, 1) := by decide +kernel
theorem dX12_contribute_12 : decode cX12_contribute 12 = .ok (.iload_n 1, 1) := by decide +kernel
theorem dX12_contribute_13 : decode cX12_contribute 13 = .ok (.invokevirtual 351, 3) := by decide +kernel
theorem dX12_contribute_16 : decode cX12_contribute 16 = .ok (.istore 4, 2) := by decide +kernel
theorem dX12_contribute_18 : decode cX12_contribute 18 = .ok (.iload 4, 2) := by decide +kernel
theorem dX12_contribute_20 : decode cX12_contribute 20 = .ok (.ifCond .ge 7, 3) := by decide +kernel
theorem dX12_contribute_23 : decode cX12_contribute 23 = .ok (.lconst 0, 1) := by decide +kernel
theorem dX12_contribute_24 : decode cX12_contribute 24 = .ok (.goto 16, 3) := by decide +kernel
theorem dX12_contribute_27 : decode cX12_contribute 27 = .ok (.aload_n 0, 1) := by decide +kernel
theorem dX12_contribute_28 : decode cX12_contribute 28 = .ok (.getfield 83, 3) := by decide +kernel
theorem dX12_contribute_31 : decode cX12_contribute 31 = .ok (.bipush 24, 2) := by decide +kernel
theorem dX12_contribute_33 : decode cX12_contribute 33 = .ok (.iload_n 2, 1) := by decide +kernel
theorem dX12_contribute_34 : decode cX12_contribute 34 = .ok (.imul, 1) := by decide +kernel
theorem dX12_contribute_35 : decode cX12_contribute 35 = .ok (.iload 4, 2) := by decide +kernel
theorem dX12_contribute_37 : decode cX12_contribute 37 = .ok (.iadd, 1) := by decide +kernel
theorem dX12_contribute_38 : decode cX12_contribute 38 = .ok (.iaload, 1) := by decide +kernel
theorem dX12_contribute_39 : decode cX12_contribute 39 = .ok (.i2l, 1) := by decide +kernel
theorem dX12_contribute_40 : decode cX12_contribute 40 = .ok (.lstore 5, 2) := by decide +kernel
theorem dX12_contribute_42 : decode cX12_contribute 42 = .ok (.aload_n 0, 1) := by decide +kernel
theorem dX12_contribute_43 : decode cX12_contribute 43 = .ok (.iconst 0, 1) := by decide +kernel
theorem dX12_contribute_44 : decode cX12_contribute 44 = .ok (.iload_n 1, 1) := by decide +kernel
theorem dX12_contribute_45 : decode cX12_contribute 45 = .ok (.iload_n 2, 1) := by decide +kernel
theorem dX12_contribute_46 : decode cX12_contribute 46 = .ok (.invokevirtual 367, 3) := by decide +kernel
theorem dX12_contribute_49 : decode cX12_contribute 49 = .ok (.aload_n 0, 1) := by decide +kernel
theorem dX12_contribute_50 : decode cX12_contribute 50 = .ok (.getfield 143, 3) := by decide +kernel
theorem dX12_contribute_53 : decode cX12_contribute 53 = .ok (.iload_n 3, 1) := by decide +kernel
theorem dX12_contribute_54 : decode cX12_contribute 54 = .ok (.laload, 1) := by decide +kernel
theorem dX12_contribute_55 : decode cX12_contribute 55 = .ok (.ladd, 1) := by decide +kernel
theorem dX12_contribute_56 : decode cX12_contribute 56 = .ok (.lstore 7, 2) := by decide +kernel
theorem dX12_contribute_58 : decode cX12_contribute 58 = .ok (.lload 7, 2) := by decide +kernel
theorem dX12_contribute_60 : decode cX12_contribute 60 = .ok (.lload 5, 2) := by decide +kernel
theorem dX12_contribute_62 : decode cX12_contribute 62 = .ok (.lcmp, 1) := by decide +kernel
theorem dX12_contribute_63 : decode cX12_contribute 63 = .ok (.ifCond .ge 8, 3) := by decide +kernel
theorem dX12_contribute_66 : decode cX12_contribute 66 = .ok (.lload 7, 2) := by decide +kernel
theorem dX12_contribute_68 : decode cX12_contribute 68 = .ok (.goto 5, 3) := by decide +kernel
theorem dX12_contribute_71 : decode cX12_contribute 71 = .ok (.lload 5, 2) := by decide +kernel
theorem dX12_contribute_73 : decode cX12_contribute 73 = .ok (.aload_n 0, 1) := by decide +kernel
theorem dX12_contribute_74 : decode cX12_contribute 74 = .ok (.iconst 1, 1) := by decide +kernel
theorem dX12_contribute_75 : decode cX12_contribute 75 = .ok (.iload_n 1, 1) := by decide +kernel
theorem dX12_contribute_76 : decode cX12_contribute 76 = .ok (.iload_n 2, 1) := by decide +kernel
theorem dX12_contribute_77 : decode cX12_contribute 77 = .ok (.invokevirtual 367, 3) := by decide +kernel
theorem dX12_contribute_80 : decode cX12_contribute 80 = .ok (.lsub, 1) := by decide +kernel
theorem dX12_contribute_81 : decode cX12_contribute 81 = .ok (.lstore 9, 2) := by decide +kernel
theorem dX12_contribute_83 : decode cX12_contribute 83 = .ok (.aload_n 0, 1) := by decide +kernel
theorem dX12_contribute_84 : decode cX12_contribute 84 = .ok (.getfield 146, 3) := by decide +kernel
theorem dX12_contribute_87 : decode cX12_contribute 87 = .ok (.iload_n 3, 1) := by decide +kernel
theorem dX12_contribute_88 : decode cX12_contribute 88 = .ok (.lload 9, 2) := by decide +kernel
theorem dX12_contribute_90 : decode cX12_contribute 90 = .ok (.lconst 0, 1) := by decide +kernel
theorem dX12_contribute_91 : decode cX12_contribute 91 = .ok (.lcmp, 1) := by decide +kernel
theorem dX12_contribute_92 : decode cX12_contribute 92 = .ok (.ifCond .le 8, 3) := by decide +kernel
theorem dX12_contribute_95 : decode cX12_contribute 95 = .ok (.lload 9, 2) := by decide +kernel
theorem dX12_contribute_97 : decode cX12_contribute 97 = .ok (.goto 4, 3) := by decide +kernel
theorem dX12_contribute_100 : decode cX12_contribute 100 = .ok (.lconst 0, 1) := by decide +kernel
theorem dX12_contribute_101 : decode cX12_contribute 101 = .ok (.lastore, 1) := by decide +kernel
theorem dX12_contribute_102 : decode cX12_contribute 102 = .ok (.aload_n 0, 1) := by decide +kernel
theorem dX12_contribute_103 : decode cX12_contribute 103 = .ok (.getfield 149, 3) := by decide +kernel
theorem dX12_contribute_106 : decode cX12_contribute 106 = .ok (.iload_n 3, 1) := by decide +kernel
theorem dX12_contribute_107 : decode cX12_contribute 107 = .ok (.aload_n 0, 1) := by decide +kernel
theorem dX12_contribute_108 : decode cX12_contribute 108 = .ok (.aload_n 0, 1) := by decide +kernel
theorem dX12_contribute_109 : decode cX12_contribute 109 = .ok (.getfield 146, 3) := by decide +kernel
theorem dX12_contribute_112 : decode cX12_contribute 112 = .ok (.iload_n 3, 1) := by decide +kernel
theorem dX12_contribute_113 : decode cX12_contribute 113 = .ok (.laload, 1) := by decide +kernel
theorem dX12_contribute_114 : decode cX12_contribute 114 = .ok (.iload 4, 2) := by decide +kernel
theorem dX12_contribute_116 : decode cX12_contribute 116 = .ok (.ifCond .ge 7, 3) := by decide +kernel
theorem dX12_contribute_119 : decode cX12_contribute 119 = .ok (.iconst 0, 1) := by decide +kernel
theorem dX12_contribute_120 : decode cX12_contribute 120 = .ok (.goto 15, 3) := by decide +kernel
theorem dX12_contribute_123 : decode cX12_contribute 123 = .ok (.aload_n 0, 1) := by decide +kernel
theorem dX12_contribute_124 : decode cX12_contribute 124 = .ok (.getfield 80, 3) := by decide +kernel
theorem dX12_contribute_127 : decode cX12_contribute 127 = .ok (.bipush 24, 2) := by decide +kernel
theorem dX12_contribute_129 : decode cX12_contribute 129 = .ok (.iload_n 2, 1) := by decide +kernel
theorem dX12_contribute_130 : decode cX12_contribute 130 = .ok (.imul, 1) := by decide +kernel
theorem dX12_contribute_131 : decode cX12_contribute 131 = .ok (.iload 4, 2) := by decide +kernel
theorem dX12_contribute_133 : decode cX12_contribute 133 = .ok (.iadd, 1) := by decide +kernel
theorem dX12_contribute_134 : decode cX12_contribute 134 = .ok (.iaload, 1) := by decide +kernel
theorem dX12_contribute_135 : decode cX12_contribute 135 = .ok (.i2l, 1) := by decide +kernel
theorem dX12_contribute_136 : decode cX12_contribute 136 = .ok (.lmul, 1) := by decide +kernel
theorem dX12_contribute_137 : decode cX12_contribute 137 = .ok (.ldc2_w 331, 3) := by decide +kernel
theorem dX12_contribute_140 : decode cX12_contribute 140 = .ok (.invokevirtual 261, 3) := by decide +kernel
theorem dX12_contribute_143 : decode cX12_contribute 143 = .ok (.lastore, 1) := by decide +kernel
theorem dX12_contribute_144 : decode cX12_contribute 144 = .ok (.return_, 1) := by decide +kernel
theorem dX12_taxes_0 : decode cX12_taxes 0 = .ok (.iconst 3, 1) := by decide +kernel
theorem dX12_taxes_1 : decode cX12_taxes 1 = .ok (.iload_n 2, 1) := by decide +kernel
theorem dX12_taxes_2 : decode cX12_taxes 2 = .ok (.imul, 1) := by decide +kernel
theorem dX12_taxes_3 : decode cX12_taxes 3 = .ok (.iload_n 3, 1) := by decide +kernel
theorem dX12_taxes_4 : decode cX12_taxes 4 = .ok (.iadd, 1) := by decide +kernel
theorem dX12_taxes_5 : decode cX12_taxes 5 = .ok (.istore 4, 2) := by decide +kernel
theorem dX12_taxes_7 : decode cX12_taxes 7 = .ok (.aload_n 0, 1) := by decide +kernel
theorem dX12_taxes_8 : decode cX12_taxes 8 = .ok (.iconst 1, 1) := by decide +kernel
theorem dX12_taxes_9 : decode cX12_taxes 9 = .ok (.bipush 24, 2) := by decide +kernel
theorem dX12_taxes_11 : decode cX12_taxes 11 = .ok (.iload_n 1, 1) := by decide +kernel
theorem dX12_taxes_12 : decode cX12_taxes 12 = .ok (.imul, 1) := by decide +kernel
theorem dX12_taxes_13 : decode cX12_taxes 13 = .ok (.iload_n 2, 1) := by decide +kernel
theorem dX12_taxes_14 : decode cX12_taxes 14 = .ok (.invokevirtual 351, 3) := by decide +kernel
theorem dX12_taxes_17 : decode cX12_taxes 17 = .ok (.istore 5, 2) := by decide +kernel
theorem dX12_taxes_19 : decode cX12_taxes 19 = .ok (.iload 5, 2) := by decide +kernel
theorem dX12_taxes_21 : decode cX12_taxes 21 = .ok (.ifCond .ge 7, 3) := by decide +kernel
theorem dX12_taxes_24 : decode cX12_taxes 24 = .ok (.iconst 0, 1) := by decide +kernel
theorem dX12_taxes_25 : decode cX12_taxes 25 = .ok (.goto 15, 3) := by decide +kernel
theorem dX12_taxes_28 : decode cX12_taxes 28 = .ok (.aload_n 0, 1) := by decide +kernel
theorem dX12_taxes_29 : decode cX12_taxes 29 = .ok (.getfield 95, 3) := by decide +kernel
theorem dX12_taxes_32 : decode cX12_taxes 32 = .ok (.bipush 24, 2) := by decide +kernel
theorem dX12_taxes_34 : decode cX12_taxes 34 = .ok (.iload_n 1, 1) := by decide +kernel
theorem dX12_taxes_35 : decode cX12_taxes 35 = .ok (.imul, 1) := by decide +kernel
theorem dX12_taxes_36 : decode cX12_taxes 36 = .ok (.iload 5, 2) := by decide +kernel
theorem dX12_taxes_38 : decode cX12_taxes 38 = .ok (.iadd, 1) := by decide +kernel
theorem dX12_taxes_39 : decode cX12_taxes 39 = .ok (.iaload, 1) := by decide +kernel
theorem dX12_taxes_40 : decode cX12_taxes 40 = .ok (.istore 6, 2) := by decide +kernel
theorem dX12_taxes_42 : decode cX12_taxes 42 = .ok (.iload_n 2, 1) := by decide +kernel
theorem dX12_taxes_43 : decode cX12_taxes 43 = .ok (.bipush 12, 2) := by decide +kernel
theorem dX12_taxes_45 : decode cX12_taxes 45 = .ok (.irem, 1) := by decide +kernel
theorem dX12_taxes_46 : decode cX12_taxes 46 = .ok (.iconst 1, 1) := by decide +kernel
theorem dX12_taxes_47 : decode cX12_taxes 47 = .ok (.iadd, 1) := by decide +kernel
theorem dX12_taxes_48 : decode cX12_taxes 48 = .ok (.istore 7, 2) := by decide +kernel
theorem dX12_taxes_50 : decode cX12_taxes 50 = .ok (.aload_n 0, 1) := by decide +kernel
theorem dX12_taxes_51 : decode cX12_taxes 51 = .ok (.getfield 152, 3) := by decide +kernel
theorem dX12_taxes_54 : decode cX12_taxes 54 = .ok (.iload 4, 2) := by decide +kernel
theorem dX12_taxes_56 : decode cX12_taxes 56 = .ok (.aload_n 0, 1) := by decide +kernel
theorem dX12_taxes_57 : decode cX12_taxes 57 = .ok (.getfield 143, 3) := by decide +kernel
theorem dX12_taxes_60 : decode cX12_taxes 60 = .ok (.iload 4, 2) := by decide +kernel
theorem dX12_taxes_62 : decode cX12_taxes 62 = .ok (.laload, 1) := by decide +kernel
theorem dX12_taxes_63 : decode cX12_taxes 63 = .ok (.aload_n 0, 1) := by decide +kernel
theorem dX12_taxes_64 : decode cX12_taxes 64 = .ok (.getfield 149, 3) := by decide +kernel
theorem dX12_taxes_67 : decode cX12_taxes 67 = .ok (.iload 4, 2) := by decide +kernel
theorem dX12_taxes_69 : decode cX12_taxes 69 = .ok (.laload, 1) := by decide +kernel
theorem dX12_taxes_70 : decode cX12_taxes 70 = .ok (.lsub, 1) := by decide +kernel
theorem dX12_taxes_71 : decode cX12_taxes 71 = .ok (.iload_n 3, 1) := by decide +kernel
theorem dX12_taxes_72 : decode cX12_taxes 72 = .ok (.aload_n 0, 1) := by decide +kernel
theorem dX12_taxes_73 : decode cX12_taxes 73 = .ok (.iload_n 1, 1) := by decide +kernel
theorem dX12_taxes_74 : decode cX12_taxes 74 = .ok (.iload_n 2, 1) := by decide +kernel
theorem dX12_taxes_75 : decode cX12_taxes 75 = .ok (.invokevirtual 364, 3) := by decide +kernel
theorem dX12_taxes_78 : decode cX12_taxes 78 = .ok (.if_icmp .ne 12, 3) := by decide +kernel
theorem dX12_taxes_81 : decode cX12_taxes 81 = .ok (.aload_n 0, 1) := by decide +kernel
theorem dX12_taxes_82 : decode cX12_taxes 82 = .ok (.getfield 158, 3) := by decide +kernel
theorem dX12_taxes_85 : decode cX12_taxes 85 = .ok (.iload_n 2, 1) := by decide +kernel
theorem dX12_taxes_86 : decode cX12_taxes 86 = .ok (.laload, 1) := by decide +kernel
theorem dX12_taxes_87 : decode cX12_taxes 87 = .ok (.goto 4, 3) := by decide +kernel
theorem dX12_taxes_90 : decode cX12_taxes 90 = .ok (.lconst 0, 1) := by decide +kernel
theorem dX12_taxes_91 : decode cX12_taxes 91 = .ok (.lsub, 1) := by decide +kernel
theorem dX12_taxes_92 : decode cX12_taxes 92 = .ok (.lastore, 1) := by decide +kernel
theorem dX12_taxes_93 : decode cX12_taxes 93 = .ok (.aload_n 0, 1) := by decide +kernel
theorem dX12_taxes_94 : decode cX12_taxes 94 = .ok (.iconst 2, 1) := by decide +kernel
theorem dX12_taxes_95 : decode cX12_taxes 95 = .ok (.iload_n 2, 1) := by decide +kernel
theorem dX12_taxes_96 : decode cX12_taxes 96 = .ok (.iload_n 3, 1) := by decide +kernel
theorem dX12_taxes_97 : decode cX12_taxes 97 = .ok (.invokevirtual 367, 3) := by decide +kernel
theorem dX12_taxes_100 : decode cX12_taxes 100 = .ok (.aload_n 0, 1) := by decide +kernel
theorem dX12_taxes_101 : decode cX12_taxes 101 = .ok (.getfield 152, 3) := by decide +kernel
theorem dX12_taxes_104 : decode cX12_taxes 104 = .ok (.iload 4, 2) := by decide +kernel
theorem dX12_taxes_106 : decode cX12_taxes 106 = .ok (.laload, 1) := by decide +kernel
theorem dX12_taxes_107 : decode cX12_taxes 107 = .ok (.ladd, 1) := by decide +kernel
theorem dX12_taxes_108 : decode cX12_taxes 108 = .ok (.lstore 8, 2) := by decide +kernel
theorem dX12_taxes_110 : decode cX12_taxes 110 = .ok (.aload_n 0, 1) := by decide +kernel
theorem dX12_taxes_111 : decode cX12_taxes 111 = .ok (.iload_n 3, 1) := by decide +kernel
theorem dX12_taxes_112 : decode cX12_taxes 112 = .ok (.iload 6, 2) := by decide +kernel
theorem dX12_taxes_114 : decode cX12_taxes 114 = .ok (.iload_n 2, 1) := by decide +kernel
theorem dX12_taxes_115 : decode cX12_taxes 115 = .ok (.lload 8, 2) := by decide +kernel
theorem dX12_taxes_117 : decode cX12_taxes 117 = .ok (.lconst 0, 1) := by decide +kernel
theorem dX12_taxes_118 : decode cX12_taxes 118 = .ok (.lcmp, 1) := by decide +kernel
theorem dX12_taxes_119 : decode cX12_taxes 119 = .ok (.ifCond .le 8, 3) := by decide +kernel
theorem dX12_taxes_122 : decode cX12_taxes 122 = .ok (.lload 8, 2) := by decide +kernel
theorem dX12_taxes_124 : decode cX12_taxes 124 = .ok (.goto 4, 3) := by decide +kernel
theorem dX12_taxes_127 : decode cX12_taxes 127 = .ok (.lconst 0, 1) := by decide +kernel
theorem dX12_taxes_128 : decode cX12_taxes 128 = .ok (.ldc2_w 288, 3) := by decide +kernel
theorem dX12_taxes_131 : decode cX12_taxes 131 = .ok (.lmul, 1) := by decide +kernel
theorem dX12_taxes_132 : decode cX12_taxes 132 = .ok (.iload 7, 2) := by decide +kernel
theorem dX12_taxes_134 : decode cX12_taxes 134 = .ok (.i2l, 1) := by decide +kernel
theorem dX12_taxes_135 : decode cX12_taxes 135 = .ok (.ldiv, 1) := by decide +kernel
theorem dX12_taxes_136 : decode cX12_taxes 136 = .ok (.invokevirtual 357, 3) := by decide +kernel
theorem dX12_taxes_139 : decode cX12_taxes 139 = .ok (.lstore 10, 2) := by decide +kernel
theorem dX12_taxes_141 : decode cX12_taxes 141 = .ok (.aload_n 0, 1) := by decide +kernel
theorem dX12_taxes_142 : decode cX12_taxes 142 = .ok (.getfield 155, 3) := by decide +kernel
theorem dX12_taxes_145 : decode cX12_taxes 145 = .ok (.iload 4, 2) := by decide +kernel
theorem dX12_taxes_147 : decode cX12_taxes 147 = .ok (.lload 10, 2) := by decide +kernel
theorem dX12_taxes_149 : decode cX12_taxes 149 = .ok (.iload 7, 2) := by decide +kernel
theorem dX12_taxes_151 : decode cX12_taxes 151 = .ok (.i2l, 1) := by decide +kernel
theorem dX12_taxes_152 : decode cX12_taxes 152 = .ok (.lmul, 1) := by decide +kernel
theorem dX12_taxes_153 : decode cX12_taxes 153 = .ok (.ldc2_w 288, 3) := by decide +kernel
theorem dX12_taxes_156 : decode cX12_taxes 156 = .ok (.ldiv, 1) := by decide +kernel
theorem dX12_taxes_157 : decode cX12_taxes 157 = .ok (.aload_n 0, 1) := by decide +kernel
theorem dX12_taxes_158 : decode cX12_taxes 158 = .ok (.iconst 3, 1) := by decide +kernel
theorem dX12_taxes_159 : decode cX12_taxes 159 = .ok (.iload_n 2, 1) := by decide +kernel
theorem dX12_taxes_160 : decode cX12_taxes 160 = .ok (.iload_n 3, 1) := by decide +kernel
theorem dX12_taxes_161 : decode cX12_taxes 161 = .ok (.invokevirtual 367, 3) := by decide +kernel
theorem dX12_taxes_164 : decode cX12_taxes 164 = .ok (.lsub, 1) := by decide +kernel
theorem dX12_taxes_165 : decode cX12_taxes 165 = .ok (.lastore, 1) := by decide +kernel
theorem dX12_taxes_166 : decode cX12_taxes 166 = .ok (.return_, 1) := by decide +kernel
theorem dX12_garnished_0 : decode cX12_garnished 0 = .ok (.aload_n 0, 1) := by decide +kernel
theorem dX12_garnished_1 : decode cX12_garnished 1 = .ok (.getfield 164, 3) := by decide +kernel
theorem dX12_garnished_4 : decode cX12_garnished 4 = .ok (.iload_n 2, 1) := by decide +kernel
theorem dX12_garnished_5 : decode cX12_garnished 5 = .ok (.laload, 1) := by decide +kernel
theorem dX12_garnished_6 : decode cX12_garnished 6 = .ok (.lstore_n 3, 1) := by decide +kernel
theorem dX12_garnished_7 : decode cX12_garnished 7 = .ok (.aload_n 0, 1) := by decide +kernel
theorem dX12_garnished_8 : decode cX12_garnished 8 = .ok (.getfield 167, 3) := by decide +kernel
theorem dX12_garnished_11 : decode cX12_garnished 11 = .ok (.iload_n 2, 1) := by decide +kernel
theorem dX12_garnished_12 : decode cX12_garnished 12 = .ok (.lconst 0, 1) := by decide +kernel
theorem dX12_garnished_13 : decode cX12_garnished 13 = .ok (.lastore, 1) := by decide +kernel
theorem dX12_garnished_14 : decode cX12_garnished 14 = .ok (.iconst 0, 1) := by decide +kernel
theorem dX12_garnished_15 : decode cX12_garnished 15 = .ok (.istore 5, 2) := by decide +kernel
theorem dX12_garnished_17 : decode cX12_garnished 17 = .ok (.iload 5, 2) := by decide +kernel
theorem dX12_garnished_19 : decode cX12_garnished 19 = .ok (.bipush 10, 2) := by decide +kernel
theorem dX12_garnished_21 : decode cX12_garnished 21 = .ok (.if_icmp .ge 259, 3) := by decide +kernel
theorem dX12_garnished_24 : decode cX12_garnished 24 = .ok (.iconst 0, 1) := by decide +kernel
theorem dX12_garnished_25 : decode cX12_garnished 25 = .ok (.istore 6, 2) := by decide +kernel
theorem dX12_garnished_27 : decode cX12_garnished 27 = .ok (.iload 6, 2) := by decide +kernel
theorem dX12_garnished_29 : decode cX12_garnished 29 = .ok (.aload_n 0, 1) := by decide +kernel
theorem dX12_garnished_30 : decode cX12_garnished 30 = .ok (.getfield 371, 3) := by decide +kernel
theorem dX12_garnished_33 : decode cX12_garnished 33 = .ok (.if_icmp .ge 241, 3) := by decide +kernel
theorem dX12_garnished_36 : decode cX12_garnished 36 = .ok (.aload_n 0, 1) := by decide +kernel
theorem dX12_garnished_37 : decode cX12_garnished 37 = .ok (.getfield 107, 3) := by decide +kernel
theorem dX12_garnished_40 : decode cX12_garnished 40 = .ok (.iload 6, 2) := by decide +kernel
theorem dX12_garnished_42 : decode cX12_garnished 42 = .ok (.iaload, 1) := by decide +kernel
theorem dX12_garnished_43 : decode cX12_garnished 43 = .ok (.iload 5, 2) := by decide +kernel
theorem dX12_garnished_45 : decode cX12_garnished 45 = .ok (.if_icmp .ne 187, 3) := by decide +kernel
theorem dX12_garnished_48 : decode cX12_garnished 48 = .ok (.aload_n 0, 1) := by decide +kernel
theorem dX12_garnished_49 : decode cX12_garnished 49 = .ok (.getfield 101, 3) := by decide +kernel
theorem dX12_garnished_52 : decode cX12_garnished 52 = .ok (.iload 6, 2) := by decide +kernel
theorem dX12_garnished_54 : decode cX12_garnished 54 = .ok (.iaload, 1) := by decide +kernel
theorem dX12_garnished_55 : decode cX12_garnished 55 = .ok (.iload_n 1, 1) := by decide +kernel
theorem dX12_garnished_56 : decode cX12_garnished 56 = .ok (.if_icmp .ne 176, 3) := by decide +kernel
theorem dX12_garnished_59 : decode cX12_garnished 59 = .ok (.aload_n 0, 1) := by decide +kernel
theorem dX12_garnished_60 : decode cX12_garnished 60 = .ok (.getfield 104, 3) := by decide +kernel
theorem dX12_garnished_63 : decode cX12_garnished 63 = .ok (.iload 6, 2) := by decide +kernel
theorem dX12_garnished_65 : decode cX12_garnished 65 = .ok (.iaload, 1) := by decide +kernel
theorem dX12_garnished_66 : decode cX12_garnished 66 = .ok (.iload_n 2, 1) := by decide +kernel
theorem dX12_garnished_67 : decode cX12_garnished 67 = .ok (.if_icmp .gt 165, 3) := by decide +kernel
theorem dX12_garnished_70 : decode cX12_garnished 70 = .ok (.iload_n 2, 1) := by decide +kernel
theorem dX12_garnished_71 : decode cX12_garnished 71 = .ok (.ifCond .ne 7, 3) := by decide +kernel
theorem dX12_garnished_74 : decode cX12_garnished 74 = .ok (.lconst 0, 1) := by decide +kernel
theorem dX12_garnished_75 : decode cX12_garnished 75 = .ok (.goto 17, 3) := by decide +kernel
theorem dX12_garnished_78 : decode cX12_garnished 78 = .ok (.aload_n 0, 1) := by decide +kernel
theorem dX12_garnished_79 : decode cX12_garnished 79 = .ok (.getfield 176, 3) := by decide +kernel
theorem dX12_garnished_82 : decode cX12_garnished 82 = .ok (.bipush 24, 2) := by decide +kernel
theorem dX12_garnished_84 : decode cX12_garnished 84 = .ok (.iload 6, 2) := by decide +kernel
theorem dX12_garnished_86 : decode cX12_garnished 86 = .ok (.imul, 1) := by decide +kernel
theorem dX12_garnished_87 : decode cX12_garnished 87 = .ok (.iload_n 2, 1) := by decide +kernel
theorem dX12_garnished_88 : decode cX12_garnished 88 = .ok (.iadd, 1) := by decide +kernel
theorem dX12_garnished_89 : decode cX12_garnished 89 = .ok (.iconst 1, 1) := by decide +kernel
theorem dX12_garnished_90 : decode cX12_garnished 90 = .ok (.isub, 1) := by decide +kernel
theorem dX12_garnished_91 : decode cX12_garnished 91 = .ok (.laload, 1) := by decide +kernel
theorem dX12_garnished_92 : decode cX12_garnished 92 = .ok (.lstore 7, 2) := by decide +kernel
theorem dX12_garnished_94 : decode cX12_garnished 94 = .ok (.aload_n 0, 1) := by decide +kernel
theorem dX12_garnished_95 : decode cX12_garnished 95 = .ok (.getfield 110, 3) := by decide +kernel
theorem dX12_garnished_98 : decode cX12_garnished 98 = .ok (.iload 6, 2) := by decide +kernel
theorem dX12_garnished_100 : decode cX12_garnished 100 = .ok (.iaload, 1) := by decide +kernel
theorem dX12_garnished_101 : decode cX12_garnished 101 = .ok (.i2l, 1) := by decide +kernel
theorem dX12_garnished_102 : decode cX12_garnished 102 = .ok (.lload 7, 2) := by decide +kernel
theorem dX12_garnished_104 : decode cX12_garnished 104 = .ok (.lsub, 1) := by decide +kernel
theorem dX12_garnished_105 : decode cX12_garnished 105 = .ok (.lstore 9, 2) := by decide +kernel
theorem dX12_garnished_107 : decode cX12_garnished 107 = .ok (.aload_n 0, 1) := by decide +kernel
theorem dX12_garnished_108 : decode cX12_garnished 108 = .ok (.aload_n 0, 1) := by decide +kernel
theorem dX12_garnished_109 : decode cX12_garnished 109 = .ok (.getfield 164, 3) := by decide +kernel
theorem dX12_garnished_112 : decode cX12_garnished 112 = .ok (.iload_n 2, 1) := by decide +kernel
theorem dX12_garnished_113 : decode cX12_garnished 113 = .ok (.laload, 1) := by decide +kernel
theorem dX12_garnished_114 : decode cX12_garnished 114 = .ok (.aload_n 0, 1) := by decide +kernel
theorem dX12_garnished_115 : decode cX12_garnished 115 = .ok (.getfield 113, 3) := by decide +kernel
theorem dX12_garnished_118 : decode cX12_garnished 118 = .ok (.iload 6, 2) := by decide +kernel
theorem dX12_garnished_120 : decode cX12_garnished 120 = .ok (.iaload, 1) := by decide +kernel
theorem dX12_garnished_121 : decode cX12_garnished 121 = .ok (.i2l, 1) := by decide +kernel
theorem dX12_garnished_122 : decode cX12_garnished 122 = .ok (.lmul, 1) := by decide +kernel
theorem dX12_garnished_123 : decode cX12_garnished 123 = .ok (.ldc2_w 331, 3) := by decide +kernel
theorem dX12_garnished_126 : decode cX12_garnished 126 = .ok (.invokevirtual 208, 3) := by decide +kernel
theorem dX12_garnished_129 : decode cX12_garnished 129 = .ok (.lstore 11, 2) := by decide +kernel
theorem dX12_garnished_131 : decode cX12_garnished 131 = .ok (.lload 11, 2) := by decide +kernel
theorem dX12_garnished_133 : decode cX12_garnished 133 = .ok (.lload 9, 2) := by decide +kernel
theorem dX12_garnished_135 : decode cX12_garnished 135 = .ok (.lcmp, 1) := by decide +kernel
theorem dX12_garnished_136 : decode cX12_garnished 136 = .ok (.ifCond .ge 8, 3) := by decide +kernel
theorem dX12_garnished_139 : decode cX12_garnished 139 = .ok (.lload 11, 2) := by decide +kernel
theorem dX12_garnished_141 : decode cX12_garnished 141 = .ok (.goto 5, 3) := by decide +kernel
theorem dX12_garnished_144 : decode cX12_garnished 144 = .ok (.lload 9, 2) := by decide +kernel
theorem dX12_garnished_146 : decode cX12_garnished 146 = .ok (.lstore 9, 2) := by decide +kernel
theorem dX12_garnished_148 : decode cX12_garnished 148 = .ok (.lload_n 3, 1) := by decide +kernel
theorem dX12_garnished_149 : decode cX12_garnished 149 = .ok (.aload_n 0, 1) := by decide +kernel
theorem dX12_garnished_150 : decode cX12_garnished 150 = .ok (.getfield 116, 3) := by decide +kernel
theorem dX12_garnished_153 : decode cX12_garnished 153 = .ok (.iload 6, 2) := by decide +kernel
theorem dX12_garnished_155 : decode cX12_garnished 155 = .ok (.iaload, 1) := by decide +kernel
theorem dX12_garnished_156 : decode cX12_garnished 156 = .ok (.i2l, 1) := by decide +kernel
theorem dX12_garnished_157 : decode cX12_garnished 157 = .ok (.lsub, 1) := by decide +kernel
theorem dX12_garnished_158 : decode cX12_garnished 158 = .ok (.lload 9, 2) := by decide +kernel
theorem dX12_garnished_160 : decode cX12_garnished 160 = .ok (.lcmp, 1) := by decide +kernel
theorem dX12_garnished_161 : decode cX12_garnished 161 = .ok (.ifCond .ge 16, 3) := by decide +kernel
theorem dX12_garnished_164 : decode cX12_garnished 164 = .ok (.lload_n 3, 1) := by decide +kernel
theorem dX12_garnished_165 : decode cX12_garnished 165 = .ok (.aload_n 0, 1) := by decide +kernel
theorem dX12_garnished_166 : decode cX12_garnished 166 = .ok (.getfield 116, 3) := by decide +kernel
theorem dX12_garnished_169 : decode cX12_garnished 169 = .ok (.iload 6, 2) := by decide +kernel
theorem dX12_garnished_171 : decode cX12_garnished 171 = .ok (.iaload, 1) := by decide +kernel
theorem dX12_garnished_172 : decode cX12_garnished 172 = .ok (.i2l, 1) := by decide +kernel
theorem dX12_garnished_173 : decode cX12_garnished 173 = .ok (.lsub, 1) := by decide +kernel
theorem dX12_garnished_174 : decode cX12_garnished 174 = .ok (.goto 5, 3) := by decide +kernel
theorem dX12_garnished_177 : decode cX12_garnished 177 = .ok (.lload 9, 2) := by decide +kernel
theorem dX12_garnished_179 : decode cX12_garnished 179 = .ok (.lstore 9, 2) := by decide +kernel
theorem dX12_garnished_181 : decode cX12_garnished 181 = .ok (.lload 9, 2) := by decide +kernel
theorem dX12_garnished_183 : decode cX12_garnished 183 = .ok (.lconst 0, 1) := by decide +kernel
theorem dX12_garnished_184 : decode cX12_garnished 184 = .ok (.lcmp, 1) := by decide +kernel
theorem dX12_garnished_185 : decode cX12_garnished 185 = .ok (.ifCond .le 8, 3) := by decide +kernel
theorem dX12_garnished_188 : decode cX12_garnished 188 = .ok (.lload 9, 2) := by decide +kernel
theorem dX12_garnished_190 : decode cX12_garnished 190 = .ok (.goto 4, 3) := by decide +kernel
theorem dX12_garnished_193 : decode cX12_garnished 193 = .ok (.lconst 0, 1) := by decide +kernel
theorem dX12_garnished_194 : decode cX12_garnished 194 = .ok (.lstore 9, 2) := by decide +kernel
theorem dX12_garnished_196 : decode cX12_garnished 196 = .ok (.lload_n 3, 1) := by decide +kernel
theorem dX12_garnished_197 : decode cX12_garnished 197 = .ok (.lload 9, 2) := by decide +kernel
theorem dX12_garnished_199 : decode cX12_garnished 199 = .ok (.lsub, 1) := by decide +kernel
theorem dX12_garnished_200 : decode cX12_garnished 200 = .ok (.lstore_n 3, 1) := by decide +kernel
theorem dX12_garnished_201 : decode cX12_garnished 201 = .ok (.aload_n 0, 1) := by decide +kernel
theorem dX12_garnished_202 : decode cX12_garnished 202 = .ok (.getfield 167, 3) := by decide +kernel
theorem dX12_garnished_205 : decode cX12_garnished 205 = .ok (.iload_n 2, 1) := by decide +kernel
theorem dX12_garnished_206 : decode cX12_garnished 206 = .ok (.dup2, 1) := by decide +kernel
theorem dX12_garnished_207 : decode cX12_garnished 207 = .ok (.laload, 1) := by decide +kernel
theorem dX12_garnished_208 : decode cX12_garnished 208 = .ok (.lload 9, 2) := by decide +kernel
theorem dX12_garnished_210 : decode cX12_garnished 210 = .ok (.ladd, 1) := by decide +kernel
theorem dX12_garnished_211 : decode cX12_garnished 211 = .ok (.lastore, 1) := by decide +kernel
theorem dX12_garnished_212 : decode cX12_garnished 212 = .ok (.aload_n 0, 1) := by decide +kernel
theorem dX12_garnished_213 : decode cX12_garnished 213 = .ok (.getfield 176, 3) := by decide +kernel
theorem dX12_garnished_216 : decode cX12_garnished 216 = .ok (.bipush 24, 2) := by decide +kernel
theorem dX12_garnished_218 : decode cX12_garnished 218 = .ok (.iload 6, 2) := by decide +kernel
theorem dX12_garnished_220 : decode cX12_garnished 220 = .ok (.imul, 1) := by decide +kernel
theorem dX12_garnished_221 : decode cX12_garnished 221 = .ok (.iload_n 2, 1) := by decide +kernel
theorem dX12_garnished_222 : decode cX12_garnished 222 = .ok (.iadd, 1) := by decide +kernel
theorem dX12_garnished_223 : decode cX12_garnished 223 = .ok (.lload 7, 2) := by decide +kernel
theorem dX12_garnished_225 : decode cX12_garnished 225 = .ok (.lload 9, 2) := by decide +kernel
theorem dX12_garnished_227 : decode cX12_garnished 227 = .ok (.ladd, 1) := by decide +kernel
theorem dX12_garnished_228 : decode cX12_garnished 228 = .ok (.lastore, 1) := by decide +kernel
theorem dX12_garnished_229 : decode cX12_garnished 229 = .ok (.goto 39, 3) := by decide +kernel
theorem dX12_garnished_232 : decode cX12_garnished 232 = .ok (.aload_n 0, 1) := by decide +kernel
theorem dX12_garnished_233 : decode cX12_garnished 233 = .ok (.getfield 107, 3) := by decide +kernel
theorem dX12_garnished_236 : decode cX12_garnished 236 = .ok (.iload 6, 2) := by decide +kernel
theorem dX12_garnished_238 : decode cX12_garnished 238 = .ok (.iaload, 1) := by decide +kernel
theorem dX12_garnished_239 : decode cX12_garnished 239 = .ok (.iload 5, 2) := by decide +kernel
theorem dX12_garnished_241 : decode cX12_garnished 241 = .ok (.if_icmp .ne 27, 3) := by decide +kernel
theorem dX12_garnished_244 : decode cX12_garnished 244 = .ok (.aload_n 0, 1) := by decide +kernel
theorem dX12_garnished_245 : decode cX12_garnished 245 = .ok (.getfield 101, 3) := by decide +kernel
theorem dX12_garnished_248 : decode cX12_garnished 248 = .ok (.iload 6, 2) := by decide +kernel
theorem dX12_garnished_250 : decode cX12_garnished 250 = .ok (.iaload, 1) := by decide +kernel
theorem dX12_garnished_251 : decode cX12_garnished 251 = .ok (.iload_n 1, 1) := by decide +kernel
theorem dX12_garnished_252 : decode cX12_garnished 252 = .ok (.if_icmp .ne 16, 3) := by decide +kernel
theorem dX12_garnished_255 : decode cX12_garnished 255 = .ok (.aload_n 0, 1) := by decide +kernel
theorem dX12_garnished_256 : decode cX12_garnished 256 = .ok (.getfield 176, 3) := by decide +kernel
theorem dX12_garnished_259 : decode cX12_garnished 259 = .ok (.bipush 24, 2) := by decide +kernel
theorem dX12_garnished_261 : decode cX12_garnished 261 = .ok (.iload 6, 2) := by decide +kernel
theorem dX12_garnished_263 : decode cX12_garnished 263 = .ok (.imul, 1) := by decide +kernel
theorem dX12_garnished_264 : decode cX12_garnished 264 = .ok (.iload_n 2, 1) := by decide +kernel
theorem dX12_garnished_265 : decode cX12_garnished 265 = .ok (.iadd, 1) := by decide +kernel
theorem dX12_garnished_266 : decode cX12_garnished 266 = .ok (.lconst 0, 1) := by decide +kernel
theorem dX12_garnished_267 : decode cX12_garnished 267 = .ok (.lastore, 1) := by decide +kernel
theorem dX12_garnished_268 : decode cX12_garnished 268 = .ok (.iinc 6 1, 3) := by decide +kernel
theorem dX12_garnished_271 : decode cX12_garnished 271 = .ok (.goto (-244), 3) := by decide +kernel
theorem dX12_garnished_274 : decode cX12_garnished 274 = .ok (.iinc 5 1, 3) := by decide +kernel
theorem dX12_garnished_277 : decode cX12_garnished 277 = .ok (.goto (-260), 3) := by decide +kernel
theorem dX12_garnished_280 : decode cX12_garnished 280 = .ok (.aload_n 0, 1) := by decide +kernel
theorem dX12_garnished_281 : decode cX12_garnished 281 = .ok (.getfield 170, 3) := by decide +kernel
theorem dX12_garnished_284 : decode cX12_garnished 284 = .ok (.iload_n 2, 1) := by decide +kernel
theorem dX12_garnished_285 : decode cX12_garnished 285 = .ok (.lload_n 3, 1) := by decide +kernel
theorem dX12_garnished_286 : decode cX12_garnished 286 = .ok (.lastore, 1) := by decide +kernel
theorem dX12_garnished_287 : decode cX12_garnished 287 = .ok (.return_, 1) := by decide +kernel
theorem dX12_slips_0 : decode cX12_slips 0 = .ok (.aload_n 0, 1) := by decide +kernel
theorem dX12_slips_1 : decode cX12_slips 1 = .ok (.iload_n 1, 1) := by decide +kernel
theorem dX12_slips_2 : decode cX12_slips 2 = .ok (.sipush 720, 3) := by decide +kernel
theorem dX12_slips_5 : decode cX12_slips 5 = .ok (.invokevirtual 277, 3) := by decide +kernel
theorem dX12_slips_8 : decode cX12_slips 8 = .ok (.lconst 0, 1) := by decide +kernel
theorem dX12_slips_9 : decode cX12_slips 9 = .ok (.lstore_n 2, 1) := by decide +kernel
theorem dX12_slips_10 : decode cX12_slips 10 = .ok (.iconst 0, 1) := by decide +kernel
theorem dX12_slips_11 : decode cX12_slips 11 = .ok (.istore 4, 2) := by decide +kernel
theorem dX12_slips_13 : decode cX12_slips 13 = .ok (.iload 4, 2) := by decide +kernel
theorem dX12_slips_15 : decode cX12_slips 15 = .ok (.bipush 24, 2) := by decide +kernel
theorem dX12_slips_17 : decode cX12_slips 17 = .ok (.if_icmp .ge 325, 3) := by decide +kernel
theorem dX12_slips_20 : decode cX12_slips 20 = .ok (.aload_n 0, 1) := by decide +kernel
theorem dX12_slips_21 : decode cX12_slips 21 = .ok (.iload_n 1, 1) := by decide +kernel
theorem dX12_slips_22 : decode cX12_slips 22 = .ok (.iload 4, 2) := by decide +kernel
theorem dX12_slips_24 : decode cX12_slips 24 = .ok (.invokevirtual 374, 3) := by decide +kernel
theorem dX12_slips_27 : decode cX12_slips 27 = .ok (.aload_n 0, 1) := by decide +kernel
theorem dX12_slips_28 : decode cX12_slips 28 = .ok (.iconst 2, 1) := by decide +kernel
theorem dX12_slips_29 : decode cX12_slips 29 = .ok (.bipush 24, 2) := by decide +kernel
theorem dX12_slips_31 : decode cX12_slips 31 = .ok (.iload_n 1, 1) := by decide +kernel
theorem dX12_slips_32 : decode cX12_slips 32 = .ok (.imul, 1) := by decide +kernel
theorem dX12_slips_33 : decode cX12_slips 33 = .ok (.iload 4, 2) := by decide +kernel
theorem dX12_slips_35 : decode cX12_slips 35 = .ok (.invokevirtual 351, 3) := by decide +kernel
theorem dX12_slips_38 : decode cX12_slips 38 = .ok (.istore 5, 2) := by decide +kernel
theorem dX12_slips_40 : decode cX12_slips 40 = .ok (.iload 5, 2) := by decide +kernel
theorem dX12_slips_42 : decode cX12_slips 42 = .ok (.ifCond .ge 7, 3) := by decide +kernel
theorem dX12_slips_45 : decode cX12_slips 45 = .ok (.iconst 0, 1) := by decide +kernel
theorem dX12_slips_46 : decode cX12_slips 46 = .ok (.goto 15, 3) := by decide +kernel
theorem dX12_slips_49 : decode cX12_slips 49 = .ok (.aload_n 0, 1) := by decide +kernel
theorem dX12_slips_50 : decode cX12_slips 50 = .ok (.getfield 98, 3) := by decide +kernel
theorem dX12_slips_53 : decode cX12_slips 53 = .ok (.bipush 24, 2) := by decide +kernel
theorem dX12_slips_55 : decode cX12_slips 55 = .ok (.iload_n 1, 1) := by decide +kernel
theorem dX12_slips_56 : decode cX12_slips 56 = .ok (.imul, 1) := by decide +kernel
theorem dX12_slips_57 : decode cX12_slips 57 = .ok (.iload 5, 2) := by decide +kernel
theorem dX12_slips_59 : decode cX12_slips 59 = .ok (.iadd, 1) := by decide +kernel
theorem dX12_slips_60 : decode cX12_slips 60 = .ok (.iaload, 1) := by decide +kernel
theorem dX12_slips_61 : decode cX12_slips 61 = .ok (.istore 6, 2) := by decide +kernel
theorem dX12_slips_63 : decode cX12_slips 63 = .ok (.aload_n 0, 1) := by decide +kernel
theorem dX12_slips_64 : decode cX12_slips 64 = .ok (.getfield 143, 3) := by decide +kernel
theorem dX12_slips_67 : decode cX12_slips 67 = .ok (.iconst 3, 1) := by decide +kernel
theorem dX12_slips_68 : decode cX12_slips 68 = .ok (.iload 4, 2) := by decide +kernel
theorem dX12_slips_70 : decode cX12_slips 70 = .ok (.imul, 1) := by decide +kernel
theorem dX12_slips_71 : decode cX12_slips 71 = .ok (.laload, 1) := by decide +kernel
theorem dX12_slips_72 : decode cX12_slips 72 = .ok (.aload_n 0, 1) := by decide +kernel
theorem dX12_slips_73 : decode cX12_slips 73 = .ok (.getfield 143, 3) := by decide +kernel
theorem dX12_slips_76 : decode cX12_slips 76 = .ok (.iconst 3, 1) := by decide +kernel
theorem dX12_slips_77 : decode cX12_slips 77 = .ok (.iload 4, 2) := by decide +kernel
theorem dX12_slips_79 : decode cX12_slips 79 = .ok (.imul, 1) := by decide +kernel
theorem dX12_slips_80 : decode cX12_slips 80 = .ok (.iconst 1, 1) := by decide +kernel
theorem dX12_slips_81 : decode cX12_slips 81 = .ok (.iadd, 1) := by decide +kernel
theorem dX12_slips_82 : decode cX12_slips 82 = .ok (.laload, 1) := by decide +kernel
theorem dX12_slips_83 : decode cX12_slips 83 = .ok (.ladd, 1) := by decide +kernel
theorem dX12_slips_84 : decode cX12_slips 84 = .ok (.aload_n 0, 1) := by decide +kernel
theorem dX12_slips_85 : decode cX12_slips 85 = .ok (.getfield 143, 3) := by decide +kernel
theorem dX12_slips_88 : decode cX12_slips 88 = .ok (.iconst 3, 1) := by decide +kernel
theorem dX12_slips_89 : decode cX12_slips 89 = .ok (.iload 4, 2) := by decide +kernel
theorem dX12_slips_91 : decode cX12_slips 91 = .ok (.imul, 1) := by decide +kernel
theorem dX12_slips_92 : decode cX12_slips 92 = .ok (.iconst 2, 1) := by decide +kernel
theorem dX12_slips_93 : decode cX12_slips 93 = .ok (.iadd, 1) := by decide +kernel
theorem dX12_slips_94 : decode cX12_slips 94 = .ok (.laload, 1) := by decide +kernel
theorem dX12_slips_95 : decode cX12_slips 95 = .ok (.ladd, 1) := by decide +kernel
theorem dX12_slips_96 : decode cX12_slips 96 = .ok (.lstore 7, 2) := by decide +kernel
theorem dX12_slips_98 : decode cX12_slips 98 = .ok (.aload_n 0, 1) := by decide +kernel
theorem dX12_slips_99 : decode cX12_slips 99 = .ok (.getfield 158, 3) := by decide +kernel
theorem dX12_slips_102 : decode cX12_slips 102 = .ok (.iload 4, 2) := by decide +kernel
theorem dX12_slips_104 : decode cX12_slips 104 = .ok (.lload 7, 2) := by decide +kernel
theorem dX12_slips_106 : decode cX12_slips 106 = .ok (.lconst 0, 1) := by decide +kernel
theorem dX12_slips_107 : decode cX12_slips 107 = .ok (.lcmp, 1) := by decide +kernel
theorem dX12_slips_108 : decode cX12_slips 108 = .ok (.ifCond .ge 7, 3) := by decide +kernel
theorem dX12_slips_111 : decode cX12_slips 111 = .ok (.lconst 0, 1) := by decide +kernel
theorem dX12_slips_112 : decode cX12_slips 112 = .ok (.goto 16, 3) := by decide +kernel
theorem dX12_slips_115 : decode cX12_slips 115 = .ok (.aload_n 0, 1) := by decide +kernel
theorem dX12_slips_116 : decode cX12_slips 116 = .ok (.lload 7, 2) := by decide +kernel
theorem dX12_slips_118 : decode cX12_slips 118 = .ok (.iload 6, 2) := by decide +kernel
theorem dX12_slips_120 : decode cX12_slips 120 = .ok (.i2l, 1) := by decide +kernel
theorem dX12_slips_121 : decode cX12_slips 121 = .ok (.lmul, 1) := by decide +kernel
theorem dX12_slips_122 : decode cX12_slips 122 = .ok (.ldc2_w 331, 3) := by decide +kernel
theorem dX12_slips_125 : decode cX12_slips 125 = .ok (.invokevirtual 261, 3) := by decide +kernel
theorem dX12_slips_128 : decode cX12_slips 128 = .ok (.lastore, 1) := by decide +kernel
theorem dX12_slips_129 : decode cX12_slips 129 = .ok (.aload_n 0, 1) := by decide +kernel
theorem dX12_slips_130 : decode cX12_slips 130 = .ok (.getfield 161, 3) := by decide +kernel
theorem dX12_slips_133 : decode cX12_slips 133 = .ok (.iload 4, 2) := by decide +kernel
theorem dX12_slips_135 : decode cX12_slips 135 = .ok (.lload 7, 2) := by decide +kernel
theorem dX12_slips_137 : decode cX12_slips 137 = .ok (.lconst 0, 1) := by decide +kernel
theorem dX12_slips_138 : decode cX12_slips 138 = .ok (.lcmp, 1) := by decide +kernel
theorem dX12_slips_139 : decode cX12_slips 139 = .ok (.ifCond .ge 7, 3) := by decide +kernel
theorem dX12_slips_142 : decode cX12_slips 142 = .ok (.lconst 0, 1) := by decide +kernel
theorem dX12_slips_143 : decode cX12_slips 143 = .ok (.goto 28, 3) := by decide +kernel
theorem dX12_slips_146 : decode cX12_slips 146 = .ok (.aload_n 0, 1) := by decide +kernel
theorem dX12_slips_147 : decode cX12_slips 147 = .ok (.lload 7, 2) := by decide +kernel
theorem dX12_slips_149 : decode cX12_slips 149 = .ok (.iload 6, 2) := by decide +kernel
theorem dX12_slips_151 : decode cX12_slips 151 = .ok (.bipush 50, 2) := by decide +kernel
theorem dX12_slips_153 : decode cX12_slips 153 = .ok (.if_icmp .ge 8, 3) := by decide +kernel
theorem dX12_slips_156 : decode cX12_slips 156 = .ok (.iload 6, 2) := by decide +kernel
theorem dX12_slips_158 : decode cX12_slips 158 = .ok (.goto 5, 3) := by decide +kernel
theorem dX12_slips_161 : decode cX12_slips 161 = .ok (.bipush 50, 2) := by decide +kernel
theorem dX12_slips_163 : decode cX12_slips 163 = .ok (.i2l, 1) := by decide +kernel
theorem dX12_slips_164 : decode cX12_slips 164 = .ok (.lmul, 1) := by decide +kernel
theorem dX12_slips_165 : decode cX12_slips 165 = .ok (.ldc2_w 331, 3) := by decide +kernel
theorem dX12_slips_168 : decode cX12_slips 168 = .ok (.invokevirtual 261, 3) := by decide +kernel
theorem dX12_slips_171 : decode cX12_slips 171 = .ok (.lastore, 1) := by decide +kernel
theorem dX12_slips_172 : decode cX12_slips 172 = .ok (.aload_n 0, 1) := by decide +kernel
theorem dX12_slips_173 : decode cX12_slips 173 = .ok (.getfield 164, 3) := by decide +kernel
theorem dX12_slips_176 : decode cX12_slips 176 = .ok (.iload 4, 2) := by decide +kernel
theorem dX12_slips_178 : decode cX12_slips 178 = .ok (.lload 7, 2) := by decide +kernel
theorem dX12_slips_180 : decode cX12_slips 180 = .ok (.aload_n 0, 1) := by decide +kernel
theorem dX12_slips_181 : decode cX12_slips 181 = .ok (.getfield 158, 3) := by decide +kernel
theorem dX12_slips_184 : decode cX12_slips 184 = .ok (.iload 4, 2) := by decide +kernel
theorem dX12_slips_186 : decode cX12_slips 186 = .ok (.laload, 1) := by decide +kernel
theorem dX12_slips_187 : decode cX12_slips 187 = .ok (.lsub, 1) := by decide +kernel
theorem dX12_slips_188 : decode cX12_slips 188 = .ok (.lastore, 1) := by decide +kernel
theorem dX12_slips_189 : decode cX12_slips 189 = .ok (.iconst 0, 1) := by decide +kernel
theorem dX12_slips_190 : decode cX12_slips 190 = .ok (.istore 9, 2) := by decide +kernel
theorem dX12_slips_192 : decode cX12_slips 192 = .ok (.iload 9, 2) := by decide +kernel
theorem dX12_slips_194 : decode cX12_slips 194 = .ok (.iconst 3, 1) := by decide +kernel
theorem dX12_slips_195 : decode cX12_slips 195 = .ok (.if_icmp .ge 61, 3) := by decide +kernel
theorem dX12_slips_198 : decode cX12_slips 198 = .ok (.aload_n 0, 1) := by decide +kernel
theorem dX12_slips_199 : decode cX12_slips 199 = .ok (.iload 4, 2) := by decide +kernel
theorem dX12_slips_201 : decode cX12_slips 201 = .ok (.iload 9, 2) := by decide +kernel
theorem dX12_slips_203 : decode cX12_slips 203 = .ok (.invokevirtual 377, 3) := by decide +kernel
theorem dX12_slips_206 : decode cX12_slips 206 = .ok (.aload_n 0, 1) := by decide +kernel
theorem dX12_slips_207 : decode cX12_slips 207 = .ok (.iload_n 1, 1) := by decide +kernel
theorem dX12_slips_208 : decode cX12_slips 208 = .ok (.iload 4, 2) := by decide +kernel
theorem dX12_slips_210 : decode cX12_slips 210 = .ok (.iload 9, 2) := by decide +kernel
theorem dX12_slips_212 : decode cX12_slips 212 = .ok (.invokevirtual 380, 3) := by decide +kernel
theorem dX12_slips_215 : decode cX12_slips 215 = .ok (.aload_n 0, 1) := by decide +kernel
theorem dX12_slips_216 : decode cX12_slips 216 = .ok (.getfield 164, 3) := by decide +kernel
theorem dX12_slips_219 : decode cX12_slips 219 = .ok (.iload 4, 2) := by decide +kernel
theorem dX12_slips_221 : decode cX12_slips 221 = .ok (.dup2, 1) := by decide +kernel
theorem dX12_slips_222 : decode cX12_slips 222 = .ok (.laload, 1) := by decide +kernel
theorem dX12_slips_223 : decode cX12_slips 223 = .ok (.aload_n 0, 1) := by decide +kernel
theorem dX12_slips_224 : decode cX12_slips 224 = .ok (.getfield 149, 3) := by decide +kernel
theorem dX12_slips_227 : decode cX12_slips 227 = .ok (.iconst 3, 1) := by decide +kernel
theorem dX12_slips_228 : decode cX12_slips 228 = .ok (.iload 4, 2) := by decide +kernel
theorem dX12_slips_230 : decode cX12_slips 230 = .ok (.imul, 1) := by decide +kernel
theorem dX12_slips_231 : decode cX12_slips 231 = .ok (.iload 9, 2) := by decide +kernel
theorem dX12_slips_233 : decode cX12_slips 233 = .ok (.iadd, 1) := by decide +kernel
theorem dX12_slips_234 : decode cX12_slips 234 = .ok (.laload, 1) := by decide +kernel
theorem dX12_slips_235 : decode cX12_slips 235 = .ok (.aload_n 0, 1) := by decide +kernel
theorem dX12_slips_236 : decode cX12_slips 236 = .ok (.getfield 155, 3) := by decide +kernel
theorem dX12_slips_239 : decode cX12_slips 239 = .ok (.iconst 3, 1) := by decide +kernel
theorem dX12_slips_240 : decode cX12_slips 240 = .ok (.iload 4, 2) := by decide +kernel
theorem dX12_slips_242 : decode cX12_slips 242 = .ok (.imul, 1) := by decide +kernel
theorem dX12_slips_243 : decode cX12_slips 243 = .ok (.iload 9, 2) := by decide +kernel
theorem dX12_slips_245 : decode cX12_slips 245 = .ok (.iadd, 1) := by decide +kernel
theorem dX12_slips_246 : decode cX12_slips 246 = .ok (.laload, 1) := by decide +kernel
theorem dX12_slips_247 : decode cX12_slips 247 = .ok (.ladd, 1) := by decide +kernel
theorem dX12_slips_248 : decode cX12_slips 248 = .ok (.lsub, 1) := by decide +kernel
theorem dX12_slips_249 : decode cX12_slips 249 = .ok (.lastore, 1) := by decide +kernel
theorem dX12_slips_250 : decode cX12_slips 250 = .ok (.iinc 9 1, 3) := by decide +kernel
theorem dX12_slips_253 : decode cX12_slips 253 = .ok (.goto (-61), 3) := by decide +kernel
theorem dX12_slips_256 : decode cX12_slips 256 = .ok (.aload_n 0, 1) := by decide +kernel
theorem dX12_slips_257 : decode cX12_slips 257 = .ok (.iload_n 1, 1) := by decide +kernel
theorem dX12_slips_258 : decode cX12_slips 258 = .ok (.iload 4, 2) := by decide +kernel
theorem dX12_slips_260 : decode cX12_slips 260 = .ok (.invokevirtual 384, 3) := by decide +kernel
theorem dX12_slips_263 : decode cX12_slips 263 = .ok (.lload_n 2, 1) := by decide +kernel
theorem dX12_slips_264 : decode cX12_slips 264 = .ok (.aload_n 0, 1) := by decide +kernel
theorem dX12_slips_265 : decode cX12_slips 265 = .ok (.getfield 119, 3) := by decide +kernel
theorem dX12_slips_268 : decode cX12_slips 268 = .ok (.bipush 24, 2) := by decide +kernel
theorem dX12_slips_270 : decode cX12_slips 270 = .ok (.iload_n 1, 1) := by decide +kernel
theorem dX12_slips_271 : decode cX12_slips 271 = .ok (.imul, 1) := by decide +kernel
theorem dX12_slips_272 : decode cX12_slips 272 = .ok (.iload 4, 2) := by decide +kernel
theorem dX12_slips_274 : decode cX12_slips 274 = .ok (.iadd, 1) := by decide +kernel
theorem dX12_slips_275 : decode cX12_slips 275 = .ok (.laload, 1) := by decide +kernel
theorem dX12_slips_276 : decode cX12_slips 276 = .ok (.ladd, 1) := by decide +kernel
theorem dX12_slips_277 : decode cX12_slips 277 = .ok (.lstore_n 2, 1) := by decide +kernel
theorem dX12_slips_278 : decode cX12_slips 278 = .ok (.aload_n 0, 1) := by decide +kernel
theorem dX12_slips_279 : decode cX12_slips 279 = .ok (.getfield 170, 3) := by decide +kernel
theorem dX12_slips_282 : decode cX12_slips 282 = .ok (.iload 4, 2) := by decide +kernel
theorem dX12_slips_284 : decode cX12_slips 284 = .ok (.laload, 1) := by decide +kernel
theorem dX12_slips_285 : decode cX12_slips 285 = .ok (.lconst 0, 1) := by decide +kernel
theorem dX12_slips_286 : decode cX12_slips 286 = .ok (.lcmp, 1) := by decide +kernel
theorem dX12_slips_287 : decode cX12_slips 287 = .ok (.ifCond .gt 7, 3) := by decide +kernel
theorem dX12_slips_290 : decode cX12_slips 290 = .ok (.lconst 0, 1) := by decide +kernel
theorem dX12_slips_291 : decode cX12_slips 291 = .ok (.goto 26, 3) := by decide +kernel
theorem dX12_slips_294 : decode cX12_slips 294 = .ok (.aload_n 0, 1) := by decide +kernel
theorem dX12_slips_295 : decode cX12_slips 295 = .ok (.getfield 170, 3) := by decide +kernel
theorem dX12_slips_298 : decode cX12_slips 298 = .ok (.iload 4, 2) := by decide +kernel
theorem dX12_slips_300 : decode cX12_slips 300 = .ok (.laload, 1) := by decide +kernel
theorem dX12_slips_301 : decode cX12_slips 301 = .ok (.lload_n 2, 1) := by decide +kernel
theorem dX12_slips_302 : decode cX12_slips 302 = .ok (.lcmp, 1) := by decide +kernel
theorem dX12_slips_303 : decode cX12_slips 303 = .ok (.ifCond .ge 13, 3) := by decide +kernel
theorem dX12_slips_306 : decode cX12_slips 306 = .ok (.aload_n 0, 1) := by decide +kernel
theorem dX12_slips_307 : decode cX12_slips 307 = .ok (.getfield 170, 3) := by decide +kernel
theorem dX12_slips_310 : decode cX12_slips 310 = .ok (.iload 4, 2) := by decide +kernel
theorem dX12_slips_312 : decode cX12_slips 312 = .ok (.laload, 1) := by decide +kernel
theorem dX12_slips_313 : decode cX12_slips 313 = .ok (.goto 4, 3) := by decide +kernel
theorem dX12_slips_316 : decode cX12_slips 316 = .ok (.lload_n 2, 1) := by decide +kernel
theorem dX12_slips_317 : decode cX12_slips 317 = .ok (.lstore 9, 2) := by decide +kernel
theorem dX12_slips_319 : decode cX12_slips 319 = .ok (.aload_n 0, 1) := by decide +kernel
theorem dX12_slips_320 : decode cX12_slips 320 = .ok (.getfield 170, 3) := by decide +kernel
theorem dX12_slips_323 : decode cX12_slips 323 = .ok (.iload 4, 2) := by decide +kernel
theorem dX12_slips_325 : decode cX12_slips 325 = .ok (.dup2, 1) := by decide +kernel
theorem dX12_slips_326 : decode cX12_slips 326 = .ok (.laload, 1) := by decide +kernel
theorem dX12_slips_327 : decode cX12_slips 327 = .ok (.lload 9, 2) := by decide +kernel
theorem dX12_slips_329 : decode cX12_slips 329 = .ok (.lsub, 1) := by decide +kernel
theorem dX12_slips_330 : decode cX12_slips 330 = .ok (.lastore, 1) := by decide +kernel
theorem dX12_slips_331 : decode cX12_slips 331 = .ok (.lload_n 2, 1) := by decide +kernel
theorem dX12_slips_332 : decode cX12_slips 332 = .ok (.lload 9, 2) := by decide +kernel
theorem dX12_slips_334 : decode cX12_slips 334 = .ok (.lsub, 1) := by decide +kernel
theorem dX12_slips_335 : decode cX12_slips 335 = .ok (.lstore_n 2, 1) := by decide +kernel
theorem dX12_slips_336 : decode cX12_slips 336 = .ok (.iinc 4 1, 3) := by decide +kernel
theorem dX12_slips_339 : decode cX12_slips 339 = .ok (.goto (-326), 3) := by decide +kernel
theorem dX12_slips_342 : decode cX12_slips 342 = .ok (.return_, 1) := by decide +kernel
theorem dX12_sumOf_0 : decode cX12_sumOf 0 = .ok (.lconst 0, 1) := by decide +kernel
theorem dX12_sumOf_1 : decode cX12_sumOf 1 = .ok (.lstore_n 3, 1) := by decide +kernel
theorem dX12_sumOf_2 : decode cX12_sumOf 2 = .ok (.iconst 0, 1) := by decide +kernel
theorem dX12_sumOf_3 : decode cX12_sumOf 3 = .ok (.istore 5, 2) := by decide +kernel
theorem dX12_sumOf_5 : decode cX12_sumOf 5 = .ok (.iload 5, 2) := by decide +kernel
theorem dX12_sumOf_7 : decode cX12_sumOf 7 = .ok (.iconst 3, 1) := by decide +kernel
theorem dX12_sumOf_8 : decode cX12_sumOf 8 = .ok (.if_icmp .ge 60, 3) := by decide +kernel
theorem dX12_sumOf_11 : decode cX12_sumOf 11 = .ok (.lload_n 3, 1) := by decide +kernel
theorem dX12_sumOf_12 : decode cX12_sumOf 12 = .ok (.iload_n 1, 1) := by decide +kernel
theorem dX12_sumOf_13 : decode cX12_sumOf 13 = .ok (.ifCond .ne 17, 3) := by decide +kernel
theorem dX12_sumOf_16 : decode cX12_sumOf 16 = .ok (.aload_n 0, 1) := by decide +kernel
theorem dX12_sumOf_17 : decode cX12_sumOf 17 = .ok (.getfield 143, 3) := by decide +kernel
theorem dX12_sumOf_20 : decode cX12_sumOf 20 = .ok (.iconst 3, 1) := by decide +kernel
theorem dX12_sumOf_21 : decode cX12_sumOf 21 = .ok (.iload_n 2, 1) := by decide +kernel
theorem dX12_sumOf_22 : decode cX12_sumOf 22 = .ok (.imul, 1) := by decide +kernel
theorem dX12_sumOf_23 : decode cX12_sumOf 23 = .ok (.iload 5, 2) := by decide +kernel
theorem dX12_sumOf_25 : decode cX12_sumOf 25 = .ok (.iadd, 1) := by decide +kernel
theorem dX12_sumOf_26 : decode cX12_sumOf 26 = .ok (.laload, 1) := by decide +kernel
theorem dX12_sumOf_27 : decode cX12_sumOf 27 = .ok (.goto 33, 3) := by decide +kernel
theorem dX12_sumOf_30 : decode cX12_sumOf 30 = .ok (.iload_n 1, 1) := by decide +kernel
theorem dX12_sumOf_31 : decode cX12_sumOf 31 = .ok (.iconst 1, 1) := by decide +kernel
theorem dX12_sumOf_32 : decode cX12_sumOf 32 = .ok (.if_icmp .ne 17, 3) := by decide +kernel
theorem dX12_sumOf_35 : decode cX12_sumOf 35 = .ok (.aload_n 0, 1) := by decide +kernel
theorem dX12_sumOf_36 : decode cX12_sumOf 36 = .ok (.getfield 149, 3) := by decide +kernel
theorem dX12_sumOf_39 : decode cX12_sumOf 39 = .ok (.iconst 3, 1) := by decide +kernel
theorem dX12_sumOf_40 : decode cX12_sumOf 40 = .ok (.iload_n 2, 1) := by decide +kernel
theorem dX12_sumOf_41 : decode cX12_sumOf 41 = .ok (.imul, 1) := by decide +kernel
theorem dX12_sumOf_42 : decode cX12_sumOf 42 = .ok (.iload 5, 2) := by decide +kernel
theorem dX12_sumOf_44 : decode cX12_sumOf 44 = .ok (.iadd, 1) := by decide +kernel
theorem dX12_sumOf_45 : decode cX12_sumOf 45 = .ok (.laload, 1) := by decide +kernel
theorem dX12_sumOf_46 : decode cX12_sumOf 46 = .ok (.goto 14, 3) := by decide +kernel
theorem dX12_sumOf_49 : decode cX12_sumOf 49 = .ok (.aload_n 0, 1) := by decide +kernel
theorem dX12_sumOf_50 : decode cX12_sumOf 50 = .ok (.getfield 155, 3) := by decide +kernel
theorem dX12_sumOf_53 : decode cX12_sumOf 53 = .ok (.iconst 3, 1) := by decide +kernel
theorem dX12_sumOf_54 : decode cX12_sumOf 54 = .ok (.iload_n 2, 1) := by decide +kernel
theorem dX12_sumOf_55 : decode cX12_sumOf 55 = .ok (.imul, 1) := by decide +kernel
theorem dX12_sumOf_56 : decode cX12_sumOf 56 = .ok (.iload 5, 2) := by decide +kernel
theorem dX12_sumOf_58 : decode cX12_sumOf 58 = .ok (.iadd, 1) := by decide +kernel
theorem dX12_sumOf_59 : decode cX12_sumOf 59 = .ok (.laload, 1) := by decide +kernel
theorem dX12_sumOf_60 : decode cX12_sumOf 60 = .ok (.ladd, 1) := by decide +kernel
theorem dX12_sumOf_61 : decode cX12_sumOf 61 = .ok (.lstore_n 3, 1) := by decide +kernel
theorem dX12_sumOf_62 : decode cX12_sumOf 62 = .ok (.iinc 5 1, 3) := by decide +kernel
theorem dX12_sumOf_65 : decode cX12_sumOf 65 = .ok (.goto (-60), 3) := by decide +kernel
theorem dX12_sumOf_68 : decode cX12_sumOf 68 = .ok (.lload_n 3, 1) := by decide +kernel
theorem dX12_sumOf_69 : decode cX12_sumOf 69 = .ok (.lreturn, 1) := by decide +kernel
theorem dX12_slip_0 : decode cX12_slip 0 = .ok (.aload_n 0, 1) := by decide +kernel
theorem dX12_slip_1 : decode cX12_slip 1 = .ok (.aload_n 0, 1) := by decide +kernel
theorem dX12_slip_2 : decode cX12_slip 2 = .ok (.iload_n 1, 1) := by decide +kernel
theorem dX12_slip_3 : decode cX12_slip 3 = .ok (.invokevirtual 212, 3) := by decide +kernel
theorem dX12_slip_6 : decode cX12_slip 6 = .ok (.ifCond .eq 11, 3) := by decide +kernel
theorem dX12_slip_9 : decode cX12_slip 9 = .ok (.aload_n 0, 1) := by decide +kernel
theorem dX12_slip_10 : decode cX12_slip 10 = .ok (.iload_n 2, 1) := by decide +kernel
theorem dX12_slip_11 : decode cX12_slip 11 = .ok (.invokevirtual 272, 3) := by decide +kernel
theorem dX12_slip_14 : decode cX12_slip 14 = .ok (.ifCond .ne 7, 3) := by decide +kernel
theorem dX12_slip_17 : decode cX12_slip 17 = .ok (.iconst 1, 1) := by decide +kernel
theorem dX12_slip_18 : decode cX12_slip 18 = .ok (.goto 21, 3) := by decide +kernel
theorem dX12_slip_21 : decode cX12_slip 21 = .ok (.aload_n 0, 1) := by decide +kernel
theorem dX12_slip_22 : decode cX12_slip 22 = .ok (.iload_n 3, 1) := by decide +kernel
theorem dX12_slip_23 : decode cX12_slip 23 = .ok (.i2l, 1) := by decide +kernel
theorem dX12_slip_24 : decode cX12_slip 24 = .ok (.lconst 0, 1) := by decide +kernel
theorem dX12_slip_25 : decode cX12_slip 25 = .ok (.ldc2_w 387, 3) := by decide +kernel
theorem dX12_slip_28 : decode cX12_slip 28 = .ok (.invokevirtual 191, 3) := by decide +kernel
theorem dX12_slip_31 : decode cX12_slip 31 = .ok (.ifCond .eq 7, 3) := by decide +kernel
theorem dX12_slip_34 : decode cX12_slip 34 = .ok (.iconst 0, 1) := by decide +kernel
theorem dX12_slip_35 : decode cX12_slip 35 = .ok (.goto 4, 3) := by decide +kernel
theorem dX12_slip_38 : decode cX12_slip 38 = .ok (.iconst 2, 1) := by decide +kernel
theorem dX12_slip_39 : decode cX12_slip 39 = .ok (.invokevirtual 227, 3) := by decide +kernel
theorem dX12_slip_42 : decode cX12_slip 42 = .ok (.ifCond .eq 7, 3) := by decide +kernel
theorem dX12_slip_45 : decode cX12_slip 45 = .ok (.ldc2_w 275, 3) := by decide +kernel
theorem dX12_slip_48 : decode cX12_slip 48 = .ok (.lreturn, 1) := by decide +kernel
theorem dX12_slip_49 : decode cX12_slip 49 = .ok (.aload_n 0, 1) := by decide +kernel
theorem dX12_slip_50 : decode cX12_slip 50 = .ok (.iload_n 1, 1) := by decide +kernel
theorem dX12_slip_51 : decode cX12_slip 51 = .ok (.invokevirtual 389, 3) := by decide +kernel
theorem dX12_slip_54 : decode cX12_slip 54 = .ok (.iload_n 3, 1) := by decide +kernel
theorem dX12_slip_55 : decode cX12_slip 55 = .ok (.iconst 2, 1) := by decide +kernel
theorem dX12_slip_56 : decode cX12_slip 56 = .ok (.if_icmp .lt 8, 3) := by decide +kernel
theorem dX12_slip_59 : decode cX12_slip 59 = .ok (.iload_n 3, 1) := by decide +kernel
theorem dX12_slip_60 : decode cX12_slip 60 = .ok (.iconst 3, 1) := by decide +kernel
theorem dX12_slip_61 : decode cX12_slip 61 = .ok (.if_icmp .ne 12, 3) := by decide +kernel
theorem dX12_slip_64 : decode cX12_slip 64 = .ok (.aload_n 0, 1) := by decide +kernel
theorem dX12_slip_65 : decode cX12_slip 65 = .ok (.iload_n 3, 1) := by decide +kernel
theorem dX12_slip_66 : decode cX12_slip 66 = .ok (.iload_n 2, 1) := by decide +kernel
theorem dX12_slip_67 : decode cX12_slip 67 = .ok (.invokevirtual 392, 3) := by decide +kernel
theorem dX12_slip_70 : decode cX12_slip 70 = .ok (.goto 66, 3) := by decide +kernel
theorem dX12_slip_73 : decode cX12_slip 73 = .ok (.iload_n 3, 1) := by decide +kernel
theorem dX12_slip_74 : decode cX12_slip 74 = .ok (.iconst 2, 1) := by decide +kernel
theorem dX12_slip_75 : decode cX12_slip 75 = .ok (.if_icmp .ne 12, 3) := by decide +kernel
theorem dX12_slip_78 : decode cX12_slip 78 = .ok (.aload_n 0, 1) := by decide +kernel
theorem dX12_slip_79 : decode cX12_slip 79 = .ok (.getfield 158, 3) := by decide +kernel
theorem dX12_slip_82 : decode cX12_slip 82 = .ok (.iload_n 2, 1) := by decide +kernel
theorem dX12_slip_83 : decode cX12_slip 83 = .ok (.laload, 1) := by decide +kernel
theorem dX12_slip_84 : decode cX12_slip 84 = .ok (.goto 52, 3) := by decide +kernel
theorem dX12_slip_87 : decode cX12_slip 87 = .ok (.iload_n 3, 1) := by decide +kernel
theorem dX12_slip_88 : decode cX12_slip 88 = .ok (.iconst 4, 1) := by decide +kernel
theorem dX12_slip_89 : decode cX12_slip 89 = .ok (.if_icmp .ne 12, 3) := by decide +kernel
theorem dX12_slip_92 : decode cX12_slip 92 = .ok (.aload_n 0, 1) := by decide +kernel
theorem dX12_slip_93 : decode cX12_slip 93 = .ok (.getfield 164, 3) := by decide +kernel
theorem dX12_slip_96 : decode cX12_slip 96 = .ok (.iload_n 2, 1) := by decide +kernel
theorem dX12_slip_97 : decode cX12_slip 97 = .ok (.laload, 1) := by decide +kernel
theorem dX12_slip_98 : decode cX12_slip 98 = .ok (.goto 38, 3) := by decide +kernel
theorem dX12_slip_101 : decode cX12_slip 101 = .ok (.iload_n 3, 1) := by decide +kernel
theorem dX12_slip_102 : decode cX12_slip 102 = .ok (.iconst 5, 1) := by decide +kernel
theorem dX12_slip_103 : decode cX12_slip 103 = .ok (.if_icmp .ne 12, 3) := by decide +kernel
theorem dX12_slip_106 : decode cX12_slip 106 = .ok (.aload_n 0, 1) := by decide +kernel
theorem dX12_slip_107 : decode cX12_slip 107 = .ok (.getfield 167, 3) := by decide +kernel
theorem dX12_slip_110 : decode cX12_slip 110 = .ok (.iload_n 2, 1) := by decide +kernel
theorem dX12_slip_111 : decode cX12_slip 111 = .ok (.laload, 1) := by decide +kernel
theorem dX12_slip_112 : decode cX12_slip 112 = .ok (.goto 24, 3) := by decide +kernel
theorem dX12_slip_115 : decode cX12_slip 115 = .ok (.iload_n 3, 1) := by decide +kernel
theorem dX12_slip_116 : decode cX12_slip 116 = .ok (.bipush 6, 2) := by decide +kernel
theorem dX12_slip_118 : decode cX12_slip 118 = .ok (.if_icmp .ne 12, 3) := by decide +kernel
theorem dX12_slip_121 : decode cX12_slip 121 = .ok (.aload_n 0, 1) := by decide +kernel
theorem dX12_slip_122 : decode cX12_slip 122 = .ok (.getfield 170, 3) := by decide +kernel
theorem dX12_slip_125 : decode cX12_slip 125 = .ok (.iload_n 2, 1) := by decide +kernel
theorem dX12_slip_126 : decode cX12_slip 126 = .ok (.laload, 1) := by decide +kernel
theorem dX12_slip_127 : decode cX12_slip 127 = .ok (.goto 9, 3) := by decide +kernel
theorem dX12_slip_130 : decode cX12_slip 130 = .ok (.aload_n 0, 1) := by decide +kernel
theorem dX12_slip_131 : decode cX12_slip 131 = .ok (.getfield 161, 3) := by decide +kernel
theorem dX12_slip_134 : decode cX12_slip 134 = .ok (.iload_n 2, 1) := by decide +kernel
theorem dX12_slip_135 : decode cX12_slip 135 = .ok (.laload, 1) := by decide +kernel
theorem dX12_slip_136 : decode cX12_slip 136 = .ok (.lreturn, 1) := by decide +kernel
theorem dX12_slipIn_0 : decode cX12_slipIn 0 = .ok (.aload_n 0, 1) := by decide +kernel
theorem dX12_slipIn_1 : decode cX12_slipIn 1 = .ok (.iload_n 1, 1) := by decide +kernel
theorem dX12_slipIn_2 : decode cX12_slipIn 2 = .ok (.invokevirtual 212, 3) := by decide +kernel
theorem dX12_slipIn_5 : decode cX12_slipIn 5 = .ok (.ifCond .eq 23, 3) := by decide +kernel
theorem dX12_slipIn_8 : decode cX12_slipIn 8 = .ok (.aload_n 0, 1) := by decide +kernel
theorem dX12_slipIn_9 : decode cX12_slipIn 9 = .ok (.iload_n 2, 1) := by decide +kernel
theorem dX12_slipIn_10 : decode cX12_slipIn 10 = .ok (.invokevirtual 272, 3) := by decide +kernel
theorem dX12_slipIn_13 : decode cX12_slipIn 13 = .ok (.ifCond .eq 15, 3) := by decide +kernel
theorem dX12_slipIn_16 : decode cX12_slipIn 16 = .ok (.aload_n 0, 1) := by decide +kernel
theorem dX12_slipIn_17 : decode cX12_slipIn 17 = .ok (.iload_n 3, 1) := by decide +kernel
theorem dX12_slipIn_18 : decode cX12_slipIn 18 = .ok (.invokevirtual 215, 3) := by decide +kernel
theorem dX12_slipIn_21 : decode cX12_slipIn 21 = .ok (.ifCond .eq 7, 3) := by decide +kernel
theorem dX12_slipIn_24 : decode cX12_slipIn 24 = .ok (.iconst 1, 1) := by decide +kernel
theorem dX12_slipIn_25 : decode cX12_slipIn 25 = .ok (.goto 4, 3) := by decide +kernel
theorem dX12_slipIn_28 : decode cX12_slipIn 28 = .ok (.iconst 0, 1) := by decide +kernel
theorem dX12_slipIn_29 : decode cX12_slipIn 29 = .ok (.istore 5, 2) := by decide +kernel
theorem dX12_slipIn_31 : decode cX12_slipIn 31 = .ok (.aload_n 0, 1) := by decide +kernel
theorem dX12_slipIn_32 : decode cX12_slipIn 32 = .ok (.iload 5, 2) := by decide +kernel
theorem dX12_slipIn_34 : decode cX12_slipIn 34 = .ok (.ifCond .ne 7, 3) := by decide +kernel
theorem dX12_slipIn_37 : decode cX12_slipIn 37 = .ok (.iconst 1, 1) := by decide +kernel
theorem dX12_slipIn_38 : decode cX12_slipIn 38 = .ok (.goto 25, 3) := by decide +kernel
theorem dX12_slipIn_41 : decode cX12_slipIn 41 = .ok (.iload 4, 2) := by decide +kernel
theorem dX12_slipIn_43 : decode cX12_slipIn 43 = .ok (.ifCond .eq 15, 3) := by decide +kernel
theorem dX12_slipIn_46 : decode cX12_slipIn 46 = .ok (.iload 4, 2) := by decide +kernel
theorem dX12_slipIn_48 : decode cX12_slipIn 48 = .ok (.iconst 1, 1) := by decide +kernel
theorem dX12_slipIn_49 : decode cX12_slipIn 49 = .ok (.if_icmp .eq 9, 3) := by decide +kernel
theorem dX12_slipIn_52 : decode cX12_slipIn 52 = .ok (.iload 4, 2) := by decide +kernel
theorem dX12_slipIn_54 : decode cX12_slipIn 54 = .ok (.iconst 3, 1) := by decide +kernel
theorem dX12_slipIn_55 : decode cX12_slipIn 55 = .ok (.if_icmp .ne 7, 3) := by decide +kernel
theorem dX12_slipIn_58 : decode cX12_slipIn 58 = .ok (.iconst 0, 1) := by decide +kernel
theorem dX12_slipIn_59 : decode cX12_slipIn 59 = .ok (.goto 4, 3) := by decide +kernel
theorem dX12_slipIn_62 : decode cX12_slipIn 62 = .ok (.iconst 2, 1) := by decide +kernel
theorem dX12_slipIn_63 : decode cX12_slipIn 63 = .ok (.invokevirtual 227, 3) := by decide +kernel
theorem dX12_slipIn_66 : decode cX12_slipIn 66 = .ok (.ifCond .eq 7, 3) := by decide +kernel
theorem dX12_slipIn_69 : decode cX12_slipIn 69 = .ok (.ldc2_w 275, 3) := by decide +kernel
theorem dX12_slipIn_72 : decode cX12_slipIn 72 = .ok (.lreturn, 1) := by decide +kernel
theorem dX12_slipIn_73 : decode cX12_slipIn 73 = .ok (.aload_n 0, 1) := by decide +kernel
theorem dX12_slipIn_74 : decode cX12_slipIn 74 = .ok (.iload_n 1, 1) := by decide +kernel
theorem dX12_slipIn_75 : decode cX12_slipIn 75 = .ok (.invokevirtual 389, 3) := by decide +kernel
theorem dX12_slipIn_78 : decode cX12_slipIn 78 = .ok (.iconst 3, 1) := by decide +kernel
theorem dX12_slipIn_79 : decode cX12_slipIn 79 = .ok (.iload_n 2, 1) := by decide +kernel
theorem dX12_slipIn_80 : decode cX12_slipIn 80 = .ok (.imul, 1) := by decide +kernel
theorem dX12_slipIn_81 : decode cX12_slipIn 81 = .ok (.iload_n 3, 1) := by decide +kernel
theorem dX12_slipIn_82 : decode cX12_slipIn 82 = .ok (.iadd, 1) := by decide +kernel
theorem dX12_slipIn_83 : decode cX12_slipIn 83 = .ok (.istore 6, 2) := by decide +kernel
theorem dX12_slipIn_85 : decode cX12_slipIn 85 = .ok (.iload 4, 2) := by decide +kernel
theorem dX12_slipIn_87 : decode cX12_slipIn 87 = .ok (.ifCond .ne 13, 3) := by decide +kernel
theorem dX12_slipIn_90 : decode cX12_slipIn 90 = .ok (.aload_n 0, 1) := by decide +kernel
theorem dX12_slipIn_91 : decode cX12_slipIn 91 = .ok (.getfield 143, 3) := by decide +kernel
theorem dX12_slipIn_94 : decode cX12_slipIn 94 = .ok (.iload 6, 2) := by decide +kernel
theorem dX12_slipIn_96 : decode cX12_slipIn 96 = .ok (.laload, 1) := by decide +kernel
theorem dX12_slipIn_97 : decode cX12_slipIn 97 = .ok (.goto 26, 3) := by decide +kernel
theorem dX12_slipIn_100 : decode cX12_slipIn 100 = .ok (.iload 4, 2) := by decide +kernel
theorem dX12_slipIn_102 : decode cX12_slipIn 102 = .ok (.iconst 1, 1) := by decide +kernel
theorem dX12_slipIn_103 : decode cX12_slipIn 103 = .ok (.if_icmp .ne 13, 3) := by decide +kernel
theorem dX12_slipIn_106 : decode cX12_slipIn 106 = .ok (.aload_n 0, 1) := by decide +kernel
theorem dX12_slipIn_107 : decode cX12_slipIn 107 = .ok (.getfield 149, 3) := by decide +kernel
theorem dX12_slipIn_110 : decode cX12_slipIn 110 = .ok (.iload 6, 2) := by decide +kernel
theorem dX12_slipIn_112 : decode cX12_slipIn 112 = .ok (.laload, 1) := by decide +kernel
theorem dX12_slipIn_113 : decode cX12_slipIn 113 = .ok (.goto 10, 3) := by decide +kernel
theorem dX12_slipIn_116 : decode cX12_slipIn 116 = .ok (.aload_n 0, 1) := by decide +kernel
theorem dX12_slipIn_117 : decode cX12_slipIn 117 = .ok (.getfield 155, 3) := by decide +kernel
theorem dX12_slipIn_120 : decode cX12_slipIn 120 = .ok (.iload 6, 2) := by decide +kernel
theorem dX12_slipIn_122 : decode cX12_slipIn 122 = .ok (.laload, 1) := by decide +kernel
theorem dX12_slipIn_123 : decode cX12_slipIn 123 = .ok (.lreturn, 1) := by decide +kernel
theorem dX12_elementOf_0 : decode cX12_elementOf 0 = .ok (.aload_n 0, 1) := by decide +kernel
theorem dX12_elementOf_1 : decode cX12_elementOf 1 = .ok (.iload_n 1, 1) := by decide +kernel
theorem dX12_elementOf_2 : decode cX12_elementOf 2 = .ok (.i2l, 1) := by decide +kernel
theorem dX12_elementOf_3 : decode cX12_elementOf 3 = .ok (.lconst 0, 1) := by decide +kernel
theorem dX12_elementOf_4 : decode cX12_elementOf 4 = .ok (.aload_n 0, 1) := by decide +kernel
theorem dX12_elementOf_5 : decode cX12_elementOf 5 = .ok (.getfield 316, 3) := by decide +kernel
theorem dX12_elementOf_8 : decode cX12_elementOf 8 = .ok (.iconst 1, 1) := by decide +kernel
theorem dX12_elementOf_9 : decode cX12_elementOf 9 = .ok (.isub, 1) := by decide +kernel
theorem dX12_elementOf_10 : decode cX12_elementOf 10 = .ok (.i2l, 1) := by decide +kernel
theorem dX12_elementOf_11 : decode cX12_elementOf 11 = .ok (.invokevirtual 191, 3) := by decide +kernel
theorem dX12_elementOf_14 : decode cX12_elementOf 14 = .ok (.ifCond .eq 23, 3) := by decide +kernel
theorem dX12_elementOf_17 : decode cX12_elementOf 17 = .ok (.aload_n 0, 1) := by decide +kernel
theorem dX12_elementOf_18 : decode cX12_elementOf 18 = .ok (.iload_n 2, 1) := by decide +kernel
theorem dX12_elementOf_19 : decode cX12_elementOf 19 = .ok (.invokevirtual 212, 3) := by decide +kernel
theorem dX12_elementOf_22 : decode cX12_elementOf 22 = .ok (.ifCond .eq 15, 3) := by decide +kernel
theorem dX12_elementOf_25 : decode cX12_elementOf 25 = .ok (.aload_n 0, 1) := by decide +kernel
theorem dX12_elementOf_26 : decode cX12_elementOf 26 = .ok (.iload_n 3, 1) := by decide +kernel
theorem dX12_elementOf_27 : decode cX12_elementOf 27 = .ok (.invokevirtual 272, 3) := by decide +kernel
theorem dX12_elementOf_30 : decode cX12_elementOf 30 = .ok (.ifCond .eq 7, 3) := by decide +kernel
theorem dX12_elementOf_33 : decode cX12_elementOf 33 = .ok (.iconst 1, 1) := by decide +kernel
theorem dX12_elementOf_34 : decode cX12_elementOf 34 = .ok (.goto 4, 3) := by decide +kernel
theorem dX12_elementOf_37 : decode cX12_elementOf 37 = .ok (.iconst 0, 1) := by decide +kernel
theorem dX12_elementOf_38 : decode cX12_elementOf 38 = .ok (.istore 4, 2) := by decide +kernel
theorem dX12_elementOf_40 : decode cX12_elementOf 40 = .ok (.aload_n 0, 1) := by decide +kernel
theorem dX12_elementOf_41 : decode cX12_elementOf 41 = .ok (.iload 4, 2) := by decide +kernel
theorem dX12_elementOf_43 : decode cX12_elementOf 43 = .ok (.ifCond .eq 7, 3) := by decide +kernel
theorem dX12_elementOf_46 : decode cX12_elementOf 46 = .ok (.iconst 0, 1) := by decide +kernel
theorem dX12_elementOf_47 : decode cX12_elementOf 47 = .ok (.goto 4, 3) := by decide +kernel
theorem dX12_elementOf_50 : decode cX12_elementOf 50 = .ok (.iconst 1, 1) := by decide +kernel
theorem dX12_elementOf_51 : decode cX12_elementOf 51 = .ok (.invokevirtual 227, 3) := by decide +kernel
theorem dX12_elementOf_54 : decode cX12_elementOf 54 = .ok (.ifCond .eq 7, 3) := by decide +kernel
theorem dX12_elementOf_57 : decode cX12_elementOf 57 = .ok (.ldc2_w 275, 3) := by decide +kernel
theorem dX12_elementOf_60 : decode cX12_elementOf 60 = .ok (.lreturn, 1) := by decide +kernel
theorem dX12_elementOf_61 : decode cX12_elementOf 61 = .ok (.aload_n 0, 1) := by decide +kernel
theorem dX12_elementOf_62 : decode cX12_elementOf 62 = .ok (.iload_n 2, 1) := by decide +kernel
theorem dX12_elementOf_63 : decode cX12_elementOf 63 = .ok (.invokevirtual 389, 3) := by decide +kernel
theorem dX12_elementOf_66 : decode cX12_elementOf 66 = .ok (.aload_n 0, 1) := by decide +kernel
theorem dX12_elementOf_67 : decode cX12_elementOf 67 = .ok (.getfield 173, 3) := by decide +kernel
theorem dX12_elementOf_70 : decode cX12_elementOf 70 = .ok (.bipush 24, 2) := by decide +kernel
theorem dX12_elementOf_72 : decode cX12_elementOf 72 = .ok (.iload_n 1, 1) := by decide +kernel
theorem dX12_elementOf_73 : decode cX12_elementOf 73 = .ok (.imul, 1) := by decide +kernel
theorem dX12_elementOf_74 : decode cX12_elementOf 74 = .ok (.iload_n 3, 1) := by decide +kernel
theorem dX12_elementOf_75 : decode cX12_elementOf 75 = .ok (.iadd, 1) := by decide +kernel
theorem dX12_elementOf_76 : decode cX12_elementOf 76 = .ok (.laload, 1) := by decide +kernel
theorem dX12_elementOf_77 : decode cX12_elementOf 77 = .ok (.lreturn, 1) := by decide +kernel
theorem dX12_pensionOf_0 : decode cX12_pensionOf 0 = .ok (.aload_n 0, 1) := by decide +kernel
theorem dX12_pensionOf_1 : decode cX12_pensionOf 1 = .ok (.aload_n 0, 1) := by decide +kernel
theorem dX12_pensionOf_2 : decode cX12_pensionOf 2 = .ok (.iload_n 1, 1) := by decide +kernel
theorem dX12_pensionOf_3 : decode cX12_pensionOf 3 = .ok (.invokevirtual 212, 3) := by decide +kernel
theorem dX12_pensionOf_6 : decode cX12_pensionOf 6 = .ok (.ifCond .eq 15, 3) := by decide +kernel
theorem dX12_pensionOf_9 : decode cX12_pensionOf 9 = .ok (.aload_n 0, 1) := by decide +kernel
theorem dX12_pensionOf_10 : decode cX12_pensionOf 10 = .ok (.iload_n 2, 1) := by decide +kernel
theorem dX12_pensionOf_11 : decode cX12_pensionOf 11 = .ok (.invokevirtual 272, 3) := by decide +kernel
theorem dX12_pensionOf_14 : decode cX12_pensionOf 14 = .ok (.ifCond .eq 7, 3) := by decide +kernel
theorem dX12_pensionOf_17 : decode cX12_pensionOf 17 = .ok (.iconst 0, 1) := by decide +kernel
theorem dX12_pensionOf_18 : decode cX12_pensionOf 18 = .ok (.goto 4, 3) := by decide +kernel
theorem dX12_pensionOf_21 : decode cX12_pensionOf 21 = .ok (.iconst 1, 1) := by decide +kernel
theorem dX12_pensionOf_22 : decode cX12_pensionOf 22 = .ok (.invokevirtual 227, 3) := by decide +kernel
theorem dX12_pensionOf_25 : decode cX12_pensionOf 25 = .ok (.ifCond .eq 7, 3) := by decide +kernel
theorem dX12_pensionOf_28 : decode cX12_pensionOf 28 = .ok (.ldc2_w 275, 3) := by decide +kernel
theorem dX12_pensionOf_31 : decode cX12_pensionOf 31 = .ok (.lreturn, 1) := by decide +kernel
theorem dX12_pensionOf_32 : decode cX12_pensionOf 32 = .ok (.aload_n 0, 1) := by decide +kernel
theorem dX12_pensionOf_33 : decode cX12_pensionOf 33 = .ok (.iload_n 1, 1) := by decide +kernel
theorem dX12_pensionOf_34 : decode cX12_pensionOf 34 = .ok (.invokevirtual 389, 3) := by decide +kernel
theorem dX12_pensionOf_37 : decode cX12_pensionOf 37 = .ok (.lconst 0, 1) := by decide +kernel
theorem dX12_pensionOf_38 : decode cX12_pensionOf 38 = .ok (.lstore_n 3, 1) := by decide +kernel
theorem dX12_pensionOf_39 : decode cX12_pensionOf 39 = .ok (.lconst 0, 1) := by decide +kernel
theorem dX12_pensionOf_40 : decode cX12_pensionOf 40 = .ok (.lstore 5, 2) := by decide +kernel
theorem dX12_pensionOf_42 : decode cX12_pensionOf 42 = .ok (.iconst 0, 1) := by decide +kernel
theorem dX12_pensionOf_43 : decode cX12_pensionOf 43 = .ok (.istore 7, 2) := by decide +kernel
theorem dX12_pensionOf_45 : decode cX12_pensionOf 45 = .ok (.iconst 0, 1) := by decide +kernel
theorem dX12_pensionOf_46 : decode cX12_pensionOf 46 = .ok (.istore 8, 2) := by decide +kernel
theorem dX12_pensionOf_48 : decode cX12_pensionOf 48 = .ok (.iload 8, 2) := by decide +kernel
theorem dX12_pensionOf_50 : decode cX12_pensionOf 50 = .ok (.iload_n 2, 1) := by decide +kernel
theorem dX12_pensionOf_51 : decode cX12_pensionOf 51 = .ok (.if_icmp .gt 53, 3) := by decide +kernel
theorem dX12_pensionOf_54 : decode cX12_pensionOf 54 = .ok (.lload_n 3, 1) := by decide +kernel
theorem dX12_pensionOf_55 : decode cX12_pensionOf 55 = .ok (.aload_n 0, 1) := by decide +kernel
theorem dX12_pensionOf_56 : decode cX12_pensionOf 56 = .ok (.getfield 158, 3) := by decide +kernel
theorem dX12_pensionOf_59 : decode cX12_pensionOf 59 = .ok (.iload 8, 2) := by decide +kernel
theorem dX12_pensionOf_61 : decode cX12_pensionOf 61 = .ok (.laload, 1) := by decide +kernel
theorem dX12_pensionOf_62 : decode cX12_pensionOf 62 = .ok (.ladd, 1) := by decide +kernel
theorem dX12_pensionOf_63 : decode cX12_pensionOf 63 = .ok (.lstore_n 3, 1) := by decide +kernel
theorem dX12_pensionOf_64 : decode cX12_pensionOf 64 = .ok (.lload 5, 2) := by decide +kernel
theorem dX12_pensionOf_66 : decode cX12_pensionOf 66 = .ok (.aload_n 0, 1) := by decide +kernel
theorem dX12_pensionOf_67 : decode cX12_pensionOf 67 = .ok (.getfield 161, 3) := by decide +kernel
theorem dX12_pensionOf_70 : decode cX12_pensionOf 70 = .ok (.iload 8, 2) := by decide +kernel
theorem dX12_pensionOf_72 : decode cX12_pensionOf 72 = .ok (.laload, 1) := by decide +kernel
theorem dX12_pensionOf_73 : decode cX12_pensionOf 73 = .ok (.ladd, 1) := by decide +kernel
theorem dX12_pensionOf_74 : decode cX12_pensionOf 74 = .ok (.lstore 5, 2) := by decide +kernel
theorem dX12_pensionOf_76 : decode cX12_pensionOf 76 = .ok (.iload 7, 2) := by decide +kernel
theorem dX12_pensionOf_78 : decode cX12_pensionOf 78 = .ok (.aload_n 0, 1) := by decide +kernel
theorem dX12_pensionOf_79 : decode cX12_pensionOf 79 = .ok (.getfield 158, 3) := by decide +kernel
theorem dX12_pensionOf_82 : decode cX12_pensionOf 82 = .ok (.iload 8, 2) := by decide +kernel
theorem dX12_pensionOf_84 : decode cX12_pensionOf 84 = .ok (.laload, 1) := by decide +kernel
theorem dX12_pensionOf_85 : decode cX12_pensionOf 85 = .ok (.lconst 0, 1) := by decide +kernel
theorem dX12_pensionOf_86 : decode cX12_pensionOf 86 = .ok (.lcmp, 1) := by decide +kernel
theorem dX12_pensionOf_87 : decode cX12_pensionOf 87 = .ok (.ifCond .le 7, 3) := by decide +kernel
theorem dX12_pensionOf_90 : decode cX12_pensionOf 90 = .ok (.iconst 1, 1) := by decide +kernel
theorem dX12_pensionOf_91 : decode cX12_pensionOf 91 = .ok (.goto 4, 3) := by decide +kernel
theorem dX12_pensionOf_94 : decode cX12_pensionOf 94 = .ok (.iconst 0, 1) := by decide +kernel
theorem dX12_pensionOf_95 : decode cX12_pensionOf 95 = .ok (.iadd, 1) := by decide +kernel
theorem dX12_pensionOf_96 : decode cX12_pensionOf 96 = .ok (.istore 7, 2) := by decide +kernel
theorem dX12_pensionOf_98 : decode cX12_pensionOf 98 = .ok (.iinc 8 1, 3) := by decide +kernel
theorem dX12_pensionOf_101 : decode cX12_pensionOf 101 = .ok (.goto (-53), 3) := by decide +kernel
theorem dX12_pensionOf_104 : decode cX12_pensionOf 104 = .ok (.lload_n 3, 1) := by decide +kernel
theorem dX12_pensionOf_105 : decode cX12_pensionOf 105 = .ok (.iload 7, 2) := by decide +kernel
theorem dX12_pensionOf_107 : decode cX12_pensionOf 107 = .ok (.bipush 6, 2) := by decide +kernel
theorem dX12_pensionOf_109 : decode cX12_pensionOf 109 = .ok (.if_icmp .lt 8, 3) := by decide +kernel
theorem dX12_pensionOf_112 : decode cX12_pensionOf 112 = .ok (.lload 5, 2) := by decide +kernel
theorem dX12_pensionOf_114 : decode cX12_pensionOf 114 = .ok (.goto 4, 3) := by decide +kernel
theorem dX12_pensionOf_117 : decode cX12_pensionOf 117 = .ok (.lconst 0, 1) := by decide +kernel
theorem dX12_pensionOf_118 : decode cX12_pensionOf 118 = .ok (.ladd, 1) := by decide +kernel
theorem dX12_pensionOf_119 : decode cX12_pensionOf 119 = .ok (.lreturn, 1) := by decide +kernel
theorem dX12_grossFor_0 : decode cX12_grossFor 0 = .ok (.aload_n 0, 1) := by decide +kernel
theorem dX12_grossFor_1 : decode cX12_grossFor 1 = .ok (.iload_n 1, 1) := by decide +kernel
theorem dX12_grossFor_2 : decode cX12_grossFor 2 = .ok (.invokevirtual 212, 3) := by decide +kernel
theorem dX12_grossFor_5 : decode cX12_grossFor 5 = .ok (.ifCond .eq 23, 3) := by decide +kernel
theorem dX12_grossFor_8 : decode cX12_grossFor 8 = .ok (.aload_n 0, 1) := by decide +kernel
theorem dX12_grossFor_9 : decode cX12_grossFor 9 = .ok (.iload_n 2, 1) := by decide +kernel
theorem dX12_grossFor_10 : decode cX12_grossFor 10 = .ok (.invokevirtual 272, 3) := by decide +kernel
theorem dX12_grossFor_13 : decode cX12_grossFor 13 = .ok (.ifCond .eq 15, 3) := by decide +kernel
theorem dX12_grossFor_16 : decode cX12_grossFor 16 = .ok (.aload_n 0, 1) := by decide +kernel
theorem dX12_grossFor_17 : decode cX12_grossFor 17 = .ok (.iload_n 3, 1) := by decide +kernel
theorem dX12_grossFor_18 : decode cX12_grossFor 18 = .ok (.invokevirtual 215, 3) := by decide +kernel
theorem dX12_grossFor_21 : decode cX12_grossFor 21 = .ok (.ifCond .eq 7, 3) := by decide +kernel
theorem dX12_grossFor_24 : decode cX12_grossFor 24 = .ok (.iconst 1, 1) := by decide +kernel
theorem dX12_grossFor_25 : decode cX12_grossFor 25 = .ok (.goto 4, 3) := by decide +kernel
theorem dX12_grossFor_28 : decode cX12_grossFor 28 = .ok (.iconst 0, 1) := by decide +kernel
theorem dX12_grossFor_29 : decode cX12_grossFor 29 = .ok (.istore 5, 2) := by decide +kernel
theorem dX12_grossFor_31 : decode cX12_grossFor 31 = .ok (.aload_n 0, 1) := by decide +kernel
theorem dX12_grossFor_32 : decode cX12_grossFor 32 = .ok (.iload 5, 2) := by decide +kernel
theorem dX12_grossFor_34 : decode cX12_grossFor 34 = .ok (.ifCond .ne 7, 3) := by decide +kernel
theorem dX12_grossFor_37 : decode cX12_grossFor 37 = .ok (.iconst 1, 1) := by decide +kernel
theorem dX12_grossFor_38 : decode cX12_grossFor 38 = .ok (.goto 22, 3) := by decide +kernel
theorem dX12_grossFor_41 : decode cX12_grossFor 41 = .ok (.aload_n 0, 1) := by decide +kernel
theorem dX12_grossFor_42 : decode cX12_grossFor 42 = .ok (.iload 4, 2) := by decide +kernel
theorem dX12_grossFor_44 : decode cX12_grossFor 44 = .ok (.i2l, 1) := by decide +kernel
theorem dX12_grossFor_45 : decode cX12_grossFor 45 = .ok (.lconst 1, 1) := by decide +kernel
theorem dX12_grossFor_46 : decode cX12_grossFor 46 = .ok (.ldc2_w 225, 3) := by decide +kernel
theorem dX12_grossFor_49 : decode cX12_grossFor 49 = .ok (.invokevirtual 191, 3) := by decide +kernel
theorem dX12_grossFor_52 : decode cX12_grossFor 52 = .ok (.ifCond .eq 7, 3) := by decide +kernel
theorem dX12_grossFor_55 : decode cX12_grossFor 55 = .ok (.iconst 0, 1) := by decide +kernel
theorem dX12_grossFor_56 : decode cX12_grossFor 56 = .ok (.goto 4, 3) := by decide +kernel
theorem dX12_grossFor_59 : decode cX12_grossFor 59 = .ok (.iconst 2, 1) := by decide +kernel
theorem dX12_grossFor_60 : decode cX12_grossFor 60 = .ok (.invokevirtual 227, 3) := by decide +kernel
theorem dX12_grossFor_63 : decode cX12_grossFor 63 = .ok (.ifCond .eq 5, 3) := by decide +kernel
theorem dX12_grossFor_66 : decode cX12_grossFor 66 = .ok (.iconst (-1), 1) := by decide +kernel
theorem dX12_grossFor_67 : decode cX12_grossFor 67 = .ok (.ireturn, 1) := by decide +kernel
theorem dX12_grossFor_68 : decode cX12_grossFor 68 = .ok (.aload_n 0, 1) := by decide +kernel
theorem dX12_grossFor_69 : decode cX12_grossFor 69 = .ok (.iload_n 1, 1) := by decide +kernel
theorem dX12_grossFor_70 : decode cX12_grossFor 70 = .ok (.invokevirtual 389, 3) := by decide +kernel
theorem dX12_grossFor_73 : decode cX12_grossFor 73 = .ok (.aload_n 0, 1) := by decide +kernel
theorem dX12_grossFor_74 : decode cX12_grossFor 74 = .ok (.getfield 164, 3) := by decide +kernel
theorem dX12_grossFor_77 : decode cX12_grossFor 77 = .ok (.iload_n 2, 1) := by decide +kernel
theorem dX12_grossFor_78 : decode cX12_grossFor 78 = .ok (.laload, 1) := by decide +kernel
theorem dX12_grossFor_79 : decode cX12_grossFor 79 = .ok (.iload 4, 2) := by decide +kernel
theorem dX12_grossFor_81 : decode cX12_grossFor 81 = .ok (.i2l, 1) := by decide +kernel
theorem dX12_grossFor_82 : decode cX12_grossFor 82 = .ok (.ladd, 1) := by decide +kernel
theorem dX12_grossFor_83 : decode cX12_grossFor 83 = .ok (.lstore 6, 2) := by decide +kernel
theorem dX12_grossFor_85 : decode cX12_grossFor 85 = .ok (.bipush 72, 2) := by decide +kernel
theorem dX12_grossFor_87 : decode cX12_grossFor 87 = .ok (.iload_n 1, 1) := by decide +kernel
theorem dX12_grossFor_88 : decode cX12_grossFor 88 = .ok (.imul, 1) := by decide +kernel
theorem dX12_grossFor_89 : decode cX12_grossFor 89 = .ok (.iconst 3, 1) := by decide +kernel
theorem dX12_grossFor_90 : decode cX12_grossFor 90 = .ok (.iload_n 2, 1) := by decide +kernel
theorem dX12_grossFor_91 : decode cX12_grossFor 91 = .ok (.imul, 1) := by decide +kernel
theorem dX12_grossFor_92 : decode cX12_grossFor 92 = .ok (.iadd, 1) := by decide +kernel
theorem dX12_grossFor_93 : decode cX12_grossFor 93 = .ok (.iload_n 3, 1) := by decide +kernel
theorem dX12_grossFor_94 : decode cX12_grossFor 94 = .ok (.iadd, 1) := by decide +kernel
theorem dX12_grossFor_95 : decode cX12_grossFor 95 = .ok (.istore 8, 2) := by decide +kernel
theorem dX12_grossFor_97 : decode cX12_grossFor 97 = .ok (.aload_n 0, 1) := by decide +kernel
theorem dX12_grossFor_98 : decode cX12_grossFor 98 = .ok (.getfield 77, 3) := by decide +kernel
theorem dX12_grossFor_101 : decode cX12_grossFor 101 = .ok (.iload 8, 2) := by decide +kernel
theorem dX12_grossFor_103 : decode cX12_grossFor 103 = .ok (.iaload, 1) := by decide +kernel
theorem dX12_grossFor_104 : decode cX12_grossFor 104 = .ok (.istore 9, 2) := by decide +kernel
theorem dX12_grossFor_106 : decode cX12_grossFor 106 = .ok (.iconst (-1), 1) := by decide +kernel
theorem dX12_grossFor_107 : decode cX12_grossFor 107 = .ok (.istore 10, 2) := by decide +kernel
theorem dX12_grossFor_109 : decode cX12_grossFor 109 = .ok (.iconst 1, 1) := by decide +kernel
theorem dX12_grossFor_110 : decode cX12_grossFor 110 = .ok (.istore 11, 2) := by decide +kernel
theorem dX12_grossFor_112 : decode cX12_grossFor 112 = .ok (.iload 11, 2) := by decide +kernel
theorem dX12_grossFor_114 : decode cX12_grossFor 114 = .ok (.sipush 200, 3) := by decide +kernel
theorem dX12_grossFor_117 : decode cX12_grossFor 117 = .ok (.if_icmp .gt 59, 3) := by decide +kernel
theorem dX12_grossFor_120 : decode cX12_grossFor 120 = .ok (.iload 10, 2) := by decide +kernel
theorem dX12_grossFor_122 : decode cX12_grossFor 122 = .ok (.ifCond .ge 54, 3) := by decide +kernel
theorem dX12_grossFor_125 : decode cX12_grossFor 125 = .ok (.aload_n 0, 1) := by decide +kernel
theorem dX12_grossFor_126 : decode cX12_grossFor 126 = .ok (.getfield 77, 3) := by decide +kernel
theorem dX12_grossFor_129 : decode cX12_grossFor 129 = .ok (.iload 8, 2) := by decide +kernel
theorem dX12_grossFor_131 : decode cX12_grossFor 131 = .ok (.iload 9, 2) := by decide +kernel
theorem dX12_grossFor_133 : decode cX12_grossFor 133 = .ok (.sipush 10000, 3) := by decide +kernel
theorem dX12_grossFor_136 : decode cX12_grossFor 136 = .ok (.iload 11, 2) := by decide +kernel
theorem dX12_grossFor_138 : decode cX12_grossFor 138 = .ok (.imul, 1) := by decide +kernel
theorem dX12_grossFor_139 : decode cX12_grossFor 139 = .ok (.iadd, 1) := by decide +kernel
theorem dX12_grossFor_140 : decode cX12_grossFor 140 = .ok (.iastore, 1) := by decide +kernel
theorem dX12_grossFor_141 : decode cX12_grossFor 141 = .ok (.aload_n 0, 1) := by decide +kernel
theorem dX12_grossFor_142 : decode cX12_grossFor 142 = .ok (.iload_n 1, 1) := by decide +kernel
theorem dX12_grossFor_143 : decode cX12_grossFor 143 = .ok (.invokevirtual 389, 3) := by decide +kernel
theorem dX12_grossFor_146 : decode cX12_grossFor 146 = .ok (.aload_n 0, 1) := by decide +kernel
theorem dX12_grossFor_147 : decode cX12_grossFor 147 = .ok (.getfield 164, 3) := by decide +kernel
theorem dX12_grossFor_150 : decode cX12_grossFor 150 = .ok (.iload_n 2, 1) := by decide +kernel
theorem dX12_grossFor_151 : decode cX12_grossFor 151 = .ok (.laload, 1) := by decide +kernel
theorem dX12_grossFor_152 : decode cX12_grossFor 152 = .ok (.lload 6, 2) := by decide +kernel
theorem dX12_grossFor_154 : decode cX12_grossFor 154 = .ok (.lcmp, 1) := by decide +kernel
theorem dX12_grossFor_155 : decode cX12_grossFor 155 = .ok (.ifCond .lt 12, 3) := by decide +kernel
theorem dX12_grossFor_158 : decode cX12_grossFor 158 = .ok (.sipush 10000, 3) := by decide +kernel
theorem dX12_grossFor_161 : decode cX12_grossFor 161 = .ok (.iload 11, 2) := by decide +kernel
theorem dX12_grossFor_163 : decode cX12_grossFor 163 = .ok (.imul, 1) := by decide +kernel
theorem dX12_grossFor_164 : decode cX12_grossFor 164 = .ok (.goto 4, 3) := by decide +kernel
theorem dX12_grossFor_167 : decode cX12_grossFor 167 = .ok (.iconst (-1), 1) := by decide +kernel
theorem dX12_grossFor_168 : decode cX12_grossFor 168 = .ok (.istore 10, 2) := by decide +kernel
theorem dX12_grossFor_170 : decode cX12_grossFor 170 = .ok (.iinc 11 1, 3) := by decide +kernel
theorem dX12_grossFor_173 : decode cX12_grossFor 173 = .ok (.goto (-61), 3) := by decide +kernel
theorem dX12_grossFor_176 : decode cX12_grossFor 176 = .ok (.aload_n 0, 1) := by decide +kernel
theorem dX12_grossFor_177 : decode cX12_grossFor 177 = .ok (.getfield 77, 3) := by decide +kernel
theorem dX12_grossFor_180 : decode cX12_grossFor 180 = .ok (.iload 8, 2) := by decide +kernel
theorem dX12_grossFor_182 : decode cX12_grossFor 182 = .ok (.iload 9, 2) := by decide +kernel
theorem dX12_grossFor_184 : decode cX12_grossFor 184 = .ok (.iastore, 1) := by decide +kernel
theorem dX12_grossFor_185 : decode cX12_grossFor 185 = .ok (.iload 10, 2) := by decide +kernel
theorem dX12_grossFor_187 : decode cX12_grossFor 187 = .ok (.ireturn, 1) := by decide +kernel
theorem dX12_garnish_0 : decode cX12_garnish 0 = .ok (.aload_n 0, 1) := by decide +kernel
theorem dX12_garnish_1 : decode cX12_garnish 1 = .ok (.iload_n 3, 1) := by decide +kernel
theorem dX12_garnish_2 : decode cX12_garnish 2 = .ok (.i2l, 1) := by decide +kernel
theorem dX12_garnish_3 : decode cX12_garnish 3 = .ok (.lconst 0, 1) := by decide +kernel
theorem dX12_garnish_4 : decode cX12_garnish 4 = .ok (.ldc2_w 305, 3) := by decide +kernel
theorem dX12_garnish_7 : decode cX12_garnish 7 = .ok (.invokevirtual 191, 3) := by decide +kernel
theorem dX12_garnish_10 : decode cX12_garnish 10 = .ok (.ifCond .eq 49, 3) := by decide +kernel
theorem dX12_garnish_13 : decode cX12_garnish 13 = .ok (.aload_n 0, 1) := by decide +kernel
theorem dX12_garnish_14 : decode cX12_garnish 14 = .ok (.iload 4, 2) := by decide +kernel
theorem dX12_garnish_16 : decode cX12_garnish 16 = .ok (.i2l, 1) := by decide +kernel
theorem dX12_garnish_17 : decode cX12_garnish 17 = .ok (.lconst 1, 1) := by decide +kernel
theorem dX12_garnish_18 : decode cX12_garnish 18 = .ok (.ldc2_w 327, 3) := by decide +kernel
theorem dX12_garnish_21 : decode cX12_garnish 21 = .ok (.invokevirtual 191, 3) := by decide +kernel
theorem dX12_garnish_24 : decode cX12_garnish 24 = .ok (.ifCond .eq 35, 3) := by decide +kernel
theorem dX12_garnish_27 : decode cX12_garnish 27 = .ok (.aload_n 0, 1) := by decide +kernel
theorem dX12_garnish_28 : decode cX12_garnish 28 = .ok (.iload 5, 2) := by decide +kernel
theorem dX12_garnish_30 : decode cX12_garnish 30 = .ok (.i2l, 1) := by decide +kernel
theorem dX12_garnish_31 : decode cX12_garnish 31 = .ok (.lconst 1, 1) := by decide +kernel
theorem dX12_garnish_32 : decode cX12_garnish 32 = .ok (.ldc2_w 331, 3) := by decide +kernel
theorem dX12_garnish_35 : decode cX12_garnish 35 = .ok (.invokevirtual 191, 3) := by decide +kernel
theorem dX12_garnish_38 : decode cX12_garnish 38 = .ok (.ifCond .eq 21, 3) := by decide +kernel
theorem dX12_garnish_41 : decode cX12_garnish 41 = .ok (.aload_n 0, 1) := by decide +kernel
theorem dX12_garnish_42 : decode cX12_garnish 42 = .ok (.iload 6, 2) := by decide +kernel
theorem dX12_garnish_44 : decode cX12_garnish 44 = .ok (.i2l, 1) := by decide +kernel
theorem dX12_garnish_45 : decode cX12_garnish 45 = .ok (.lconst 0, 1) := by decide +kernel
theorem dX12_garnish_46 : decode cX12_garnish 46 = .ok (.ldc2_w 327, 3) := by decide +kernel
theorem dX12_garnish_49 : decode cX12_garnish 49 = .ok (.invokevirtual 191, 3) := by decide +kernel
theorem dX12_garnish_52 : decode cX12_garnish 52 = .ok (.ifCond .eq 7, 3) := by decide +kernel
theorem dX12_garnish_55 : decode cX12_garnish 55 = .ok (.iconst 1, 1) := by decide +kernel
theorem dX12_garnish_56 : decode cX12_garnish 56 = .ok (.goto 4, 3) := by decide +kernel
theorem dX12_garnish_59 : decode cX12_garnish 59 = .ok (.iconst 0, 1) := by decide +kernel
theorem dX12_garnish_60 : decode cX12_garnish 60 = .ok (.istore 7, 2) := by decide +kernel
theorem dX12_garnish_62 : decode cX12_garnish 62 = .ok (.aload_n 0, 1) := by decide +kernel
theorem dX12_garnish_63 : decode cX12_garnish 63 = .ok (.aload_n 0, 1) := by decide +kernel
theorem dX12_garnish_64 : decode cX12_garnish 64 = .ok (.iload_n 1, 1) := by decide +kernel
theorem dX12_garnish_65 : decode cX12_garnish 65 = .ok (.invokevirtual 212, 3) := by decide +kernel
theorem dX12_garnish_68 : decode cX12_garnish 68 = .ok (.ifCond .eq 11, 3) := by decide +kernel
theorem dX12_garnish_71 : decode cX12_garnish 71 = .ok (.aload_n 0, 1) := by decide +kernel
theorem dX12_garnish_72 : decode cX12_garnish 72 = .ok (.iload_n 2, 1) := by decide +kernel
theorem dX12_garnish_73 : decode cX12_garnish 73 = .ok (.invokevirtual 272, 3) := by decide +kernel
theorem dX12_garnish_76 : decode cX12_garnish 76 = .ok (.ifCond .ne 7, 3) := by decide +kernel
theorem dX12_garnish_79 : decode cX12_garnish 79 = .ok (.iconst 1, 1) := by decide +kernel
theorem dX12_garnish_80 : decode cX12_garnish 80 = .ok (.goto 26, 3) := by decide +kernel
theorem dX12_garnish_83 : decode cX12_garnish 83 = .ok (.iload 7, 2) := by decide +kernel
theorem dX12_garnish_85 : decode cX12_garnish 85 = .ok (.ifCond .ne 7, 3) := by decide +kernel
theorem dX12_garnish_88 : decode cX12_garnish 88 = .ok (.iconst 2, 1) := by decide +kernel
theorem dX12_garnish_89 : decode cX12_garnish 89 = .ok (.goto 17, 3) := by decide +kernel
theorem dX12_garnish_92 : decode cX12_garnish 92 = .ok (.aload_n 0, 1) := by decide +kernel
theorem dX12_garnish_93 : decode cX12_garnish 93 = .ok (.getfield 371, 3) := by decide +kernel
theorem dX12_garnish_96 : decode cX12_garnish 96 = .ok (.bipush 6, 2) := by decide +kernel
theorem dX12_garnish_98 : decode cX12_garnish 98 = .ok (.if_icmp .ne 7, 3) := by decide +kernel
theorem dX12_garnish_101 : decode cX12_garnish 101 = .ok (.iconst 3, 1) := by decide +kernel
theorem dX12_garnish_102 : decode cX12_garnish 102 = .ok (.goto 4, 3) := by decide +kernel
theorem dX12_garnish_105 : decode cX12_garnish 105 = .ok (.iconst 0, 1) := by decide +kernel
theorem dX12_garnish_106 : decode cX12_garnish 106 = .ok (.invokevirtual 227, 3) := by decide +kernel
theorem dX12_garnish_109 : decode cX12_garnish 109 = .ok (.ifCond .eq 5, 3) := by decide +kernel
theorem dX12_garnish_112 : decode cX12_garnish 112 = .ok (.iconst (-1), 1) := by decide +kernel
theorem dX12_garnish_113 : decode cX12_garnish 113 = .ok (.ireturn, 1) := by decide +kernel
theorem dX12_garnish_114 : decode cX12_garnish 114 = .ok (.aload_n 0, 1) := by decide +kernel
theorem dX12_garnish_115 : decode cX12_garnish 115 = .ok (.getfield 371, 3) := by decide +kernel
theorem dX12_garnish_118 : decode cX12_garnish 118 = .ok (.istore 8, 2) := by decide +kernel
theorem dX12_garnish_120 : decode cX12_garnish 120 = .ok (.aload_n 0, 1) := by decide +kernel
theorem dX12_garnish_121 : decode cX12_garnish 121 = .ok (.getfield 101, 3) := by decide +kernel
theorem dX12_garnish_124 : decode cX12_garnish 124 = .ok (.iload 8, 2) := by decide +kernel
theorem dX12_garnish_126 : decode cX12_garnish 126 = .ok (.iload_n 1, 1) := by decide +kernel
theorem dX12_garnish_127 : decode cX12_garnish 127 = .ok (.iastore, 1) := by decide +kernel
theorem dX12_garnish_128 : decode cX12_garnish 128 = .ok (.aload_n 0, 1) := by decide +kernel
theorem dX12_garnish_129 : decode cX12_garnish 129 = .ok (.getfield 104, 3) := by decide +kernel
theorem dX12_garnish_132 : decode cX12_garnish 132 = .ok (.iload 8, 2) := by decide +kernel
theorem dX12_garnish_134 : decode cX12_garnish 134 = .ok (.iload_n 2, 1) := by decide +kernel
theorem dX12_garnish_135 : decode cX12_garnish 135 = .ok (.iastore, 1) := by decide +kernel
theorem dX12_garnish_136 : decode cX12_garnish 136 = .ok (.aload_n 0, 1) := by decide +kernel
theorem dX12_garnish_137 : decode cX12_garnish 137 = .ok (.getfield 107, 3) := by decide +kernel
theorem dX12_garnish_140 : decode cX12_garnish 140 = .ok (.iload 8, 2) := by decide +kernel
theorem dX12_garnish_142 : decode cX12_garnish 142 = .ok (.iload_n 3, 1) := by decide +kernel
theorem dX12_garnish_143 : decode cX12_garnish 143 = .ok (.iastore, 1) := by decide +kernel
theorem dX12_garnish_144 : decode cX12_garnish 144 = .ok (.aload_n 0, 1) := by decide +kernel
theorem dX12_garnish_145 : decode cX12_garnish 145 = .ok (.getfield 110, 3) := by decide +kernel
theorem dX12_garnish_148 : decode cX12_garnish 148 = .ok (.iload 8, 2) := by decide +kernel
theorem dX12_garnish_150 : decode cX12_garnish 150 = .ok (.iload 4, 2) := by decide +kernel
theorem dX12_garnish_152 : decode cX12_garnish 152 = .ok (.iastore, 1) := by decide +kernel
theorem dX12_garnish_153 : decode cX12_garnish 153 = .ok (.aload_n 0, 1) := by decide +kernel
theorem dX12_garnish_154 : decode cX12_garnish 154 = .ok (.getfield 113, 3) := by decide +kernel
theorem dX12_garnish_157 : decode cX12_garnish 157 = .ok (.iload 8, 2) := by decide +kernel
theorem dX12_garnish_159 : decode cX12_garnish 159 = .ok (.iload 5, 2) := by decide +kernel
theorem dX12_garnish_161 : decode cX12_garnish 161 = .ok (.iastore, 1) := by decide +kernel
theorem dX12_garnish_162 : decode cX12_garnish 162 = .ok (.aload_n 0, 1) := by decide +kernel
theorem dX12_garnish_163 : decode cX12_garnish 163 = .ok (.getfield 116, 3) := by decide +kernel
theorem dX12_garnish_166 : decode cX12_garnish 166 = .ok (.iload 8, 2) := by decide +kernel
theorem dX12_garnish_168 : decode cX12_garnish 168 = .ok (.iload 6, 2) := by decide +kernel
theorem dX12_garnish_170 : decode cX12_garnish 170 = .ok (.iastore, 1) := by decide +kernel
theorem dX12_garnish_171 : decode cX12_garnish 171 = .ok (.aload_n 0, 1) := by decide +kernel
theorem dX12_garnish_172 : decode cX12_garnish 172 = .ok (.dup, 1) := by decide +kernel
theorem dX12_garnish_173 : decode cX12_garnish 173 = .ok (.getfield 371, 3) := by decide +kernel
theorem dX12_garnish_176 : decode cX12_garnish 176 = .ok (.iconst 1, 1) := by decide +kernel
theorem dX12_garnish_177 : decode cX12_garnish 177 = .ok (.iadd, 1) := by decide +kernel
theorem dX12_garnish_178 : decode cX12_garnish 178 = .ok (.putfield 371, 3) := by decide +kernel
theorem dX12_garnish_181 : decode cX12_garnish 181 = .ok (.iload 8, 2) := by decide +kernel
theorem dX12_garnish_183 : decode cX12_garnish 183 = .ok (.ireturn, 1) := by decide +kernel
theorem dX12_takenBy_0 : decode cX12_takenBy 0 = .ok (.aload_n 0, 1) := by decide +kernel
theorem dX12_takenBy_1 : decode cX12_takenBy 1 = .ok (.aload_n 0, 1) := by decide +kernel
theorem dX12_takenBy_2 : decode cX12_takenBy 2 = .ok (.iload_n 1, 1) := by decide +kernel
theorem dX12_takenBy_3 : decode cX12_takenBy 3 = .ok (.i2l, 1) := by decide +kernel
theorem dX12_takenBy_4 : decode cX12_takenBy 4 = .ok (.lconst 0, 1) := by decide +kernel
theorem dX12_takenBy_5 : decode cX12_takenBy 5 = .ok (.aload_n 0, 1) := by decide +kernel
theorem dX12_takenBy_6 : decode cX12_takenBy 6 = .ok (.getfield 371, 3) := by decide +kernel
theorem dX12_takenBy_9 : decode cX12_takenBy 9 = .ok (.iconst 1, 1) := by decide +kernel
theorem dX12_takenBy_10 : decode cX12_takenBy 10 = .ok (.isub, 1) := by decide +kernel
theorem dX12_takenBy_11 : decode cX12_takenBy 11 = .ok (.i2l, 1) := by decide +kernel
theorem dX12_takenBy_12 : decode cX12_takenBy 12 = .ok (.invokevirtual 191, 3) := by decide +kernel
theorem dX12_takenBy_15 : decode cX12_takenBy 15 = .ok (.ifCond .eq 15, 3) := by decide +kernel
theorem dX12_takenBy_18 : decode cX12_takenBy 18 = .ok (.aload_n 0, 1) := by decide +kernel
theorem dX12_takenBy_19 : decode cX12_takenBy 19 = .ok (.iload_n 2, 1) := by decide +kernel
theorem dX12_takenBy_20 : decode cX12_takenBy 20 = .ok (.invokevirtual 272, 3) := by decide +kernel
theorem dX12_takenBy_23 : decode cX12_takenBy 23 = .ok (.ifCond .eq 7, 3) := by decide +kernel
theorem dX12_takenBy_26 : decode cX12_takenBy 26 = .ok (.iconst 0, 1) := by decide +kernel
theorem dX12_takenBy_27 : decode cX12_takenBy 27 = .ok (.goto 4, 3) := by decide +kernel
theorem dX12_takenBy_30 : decode cX12_takenBy 30 = .ok (.iconst 1, 1) := by decide +kernel
theorem dX12_takenBy_31 : decode cX12_takenBy 31 = .ok (.invokevirtual 227, 3) := by decide +kernel
theorem dX12_takenBy_34 : decode cX12_takenBy 34 = .ok (.ifCond .eq 7, 3) := by decide +kernel
theorem dX12_takenBy_37 : decode cX12_takenBy 37 = .ok (.ldc2_w 275, 3) := by decide +kernel
theorem dX12_takenBy_40 : decode cX12_takenBy 40 = .ok (.lreturn, 1) := by decide +kernel
theorem dX12_takenBy_41 : decode cX12_takenBy 41 = .ok (.aload_n 0, 1) := by decide +kernel
theorem dX12_takenBy_42 : decode cX12_takenBy 42 = .ok (.aload_n 0, 1) := by decide +kernel
theorem dX12_takenBy_43 : decode cX12_takenBy 43 = .ok (.getfield 101, 3) := by decide +kernel
theorem dX12_takenBy_46 : decode cX12_takenBy 46 = .ok (.iload_n 1, 1) := by decide +kernel
theorem dX12_takenBy_47 : decode cX12_takenBy 47 = .ok (.iaload, 1) := by decide +kernel
theorem dX12_takenBy_48 : decode cX12_takenBy 48 = .ok (.invokevirtual 389, 3) := by decide +kernel
theorem dX12_takenBy_51 : decode cX12_takenBy 51 = .ok (.aload_n 0, 1) := by decide +kernel
theorem dX12_takenBy_52 : decode cX12_takenBy 52 = .ok (.getfield 176, 3) := by decide +kernel
theorem dX12_takenBy_55 : decode cX12_takenBy 55 = .ok (.bipush 24, 2) := by decide +kernel
theorem dX12_takenBy_57 : decode cX12_takenBy 57 = .ok (.iload_n 1, 1) := by decide +kernel
theorem dX12_takenBy_58 : decode cX12_takenBy 58 = .ok (.imul, 1) := by decide +kernel
theorem dX12_takenBy_59 : decode cX12_takenBy 59 = .ok (.iload_n 2, 1) := by decide +kernel
theorem dX12_takenBy_60 : decode cX12_takenBy 60 = .ok (.iadd, 1) := by decide +kernel
theorem dX12_takenBy_61 : decode cX12_takenBy 61 = .ok (.laload, 1) := by decide +kernel
theorem dX12_takenBy_62 : decode cX12_takenBy 62 = .ok (.lreturn, 1) := by decide +kernel
theorem dX12_advance_0 : decode cX12_advance 0 = .ok (.aload_n 0, 1) := by decide +kernel
theorem dX12_advance_1 : decode cX12_advance 1 = .ok (.aload_n 0, 1) := by decide +kernel
theorem dX12_advance_2 : decode cX12_advance 2 = .ok (.iload_n 1, 1) := by decide +kernel
theorem dX12_advance_3 : decode cX12_advance 3 = .ok (.invokevirtual 212, 3) := by decide +kernel
theorem dX12_advance_6 : decode cX12_advance 6 = .ok (.ifCond .ne 7, 3) := by decide +kernel
theorem dX12_advance_9 : decode cX12_advance 9 = .ok (.iconst 1, 1) := by decide +kernel
theorem dX12_advance_10 : decode cX12_advance 10 = .ok (.goto 34, 3) := by decide +kernel
theorem dX12_advance_13 : decode cX12_advance 13 = .ok (.aload_n 0, 1) := by decide +kernel
theorem dX12_advance_14 : decode cX12_advance 14 = .ok (.iload_n 2, 1) := by decide +kernel
theorem dX12_advance_15 : decode cX12_advance 15 = .ok (.i2l, 1) := by decide +kernel
theorem dX12_advance_16 : decode cX12_advance 16 = .ok (.lconst 1, 1) := by decide +kernel
theorem dX12_advance_17 : decode cX12_advance 17 = .ok (.ldc2_w 225, 3) := by decide +kernel
theorem dX12_advance_20 : decode cX12_advance 20 = .ok (.invokevirtual 191, 3) := by decide +kernel
theorem dX12_advance_23 : decode cX12_advance 23 = .ok (.ifCond .ne 7, 3) := by decide +kernel
theorem dX12_advance_26 : decode cX12_advance 26 = .ok (.iconst 2, 1) := by decide +kernel
theorem dX12_advance_27 : decode cX12_advance 27 = .ok (.goto 17, 3) := by decide +kernel
theorem dX12_advance_30 : decode cX12_advance 30 = .ok (.aload_n 0, 1) := by decide +kernel
theorem dX12_advance_31 : decode cX12_advance 31 = .ok (.getfield 395, 3) := by decide +kernel
theorem dX12_advance_34 : decode cX12_advance 34 = .ok (.bipush 24, 2) := by decide +kernel
theorem dX12_advance_36 : decode cX12_advance 36 = .ok (.if_icmp .ne 7, 3) := by decide +kernel
theorem dX12_advance_39 : decode cX12_advance 39 = .ok (.iconst 3, 1) := by decide +kernel
theorem dX12_advance_40 : decode cX12_advance 40 = .ok (.goto 4, 3) := by decide +kernel
theorem dX12_advance_43 : decode cX12_advance 43 = .ok (.iconst 0, 1) := by decide +kernel
theorem dX12_advance_44 : decode cX12_advance 44 = .ok (.invokevirtual 227, 3) := by decide +kernel
theorem dX12_advance_47 : decode cX12_advance 47 = .ok (.ifCond .eq 7, 3) := by decide +kernel
theorem dX12_advance_50 : decode cX12_advance 50 = .ok (.ldc2_w 275, 3) := by decide +kernel
theorem dX12_advance_53 : decode cX12_advance 53 = .ok (.lreturn, 1) := by decide +kernel
theorem dX12_advance_54 : decode cX12_advance 54 = .ok (.aload_n 0, 1) := by decide +kernel
theorem dX12_advance_55 : decode cX12_advance 55 = .ok (.getfield 119, 3) := by decide +kernel
theorem dX12_advance_58 : decode cX12_advance 58 = .ok (.bipush 24, 2) := by decide +kernel
theorem dX12_advance_60 : decode cX12_advance 60 = .ok (.iload_n 1, 1) := by decide +kernel
theorem dX12_advance_61 : decode cX12_advance 61 = .ok (.imul, 1) := by decide +kernel
theorem dX12_advance_62 : decode cX12_advance 62 = .ok (.aload_n 0, 1) := by decide +kernel
theorem dX12_advance_63 : decode cX12_advance 63 = .ok (.getfield 395, 3) := by decide +kernel
theorem dX12_advance_66 : decode cX12_advance 66 = .ok (.iadd, 1) := by decide +kernel
theorem dX12_advance_67 : decode cX12_advance 67 = .ok (.dup2, 1) := by decide +kernel
theorem dX12_advance_68 : decode cX12_advance 68 = .ok (.laload, 1) := by decide +kernel
theorem dX12_advance_69 : decode cX12_advance 69 = .ok (.iload_n 2, 1) := by decide +kernel
theorem dX12_advance_70 : decode cX12_advance 70 = .ok (.i2l, 1) := by decide +kernel
theorem dX12_advance_71 : decode cX12_advance 71 = .ok (.ladd, 1) := by decide +kernel
theorem dX12_advance_72 : decode cX12_advance 72 = .ok (.lastore, 1) := by decide +kernel
theorem dX12_advance_73 : decode cX12_advance 73 = .ok (.lconst 0, 1) := by decide +kernel
theorem dX12_advance_74 : decode cX12_advance 74 = .ok (.lstore_n 3, 1) := by decide +kernel
theorem dX12_advance_75 : decode cX12_advance 75 = .ok (.iconst 0, 1) := by decide +kernel
theorem dX12_advance_76 : decode cX12_advance 76 = .ok (.istore 5, 2) := by decide +kernel
theorem dX12_advance_78 : decode cX12_advance 78 = .ok (.iload 5, 2) := by decide +kernel
theorem dX12_advance_80 : decode cX12_advance 80 = .ok (.bipush 24, 2) := by decide +kernel
theorem dX12_advance_82 : decode cX12_advance 82 = .ok (.if_icmp .ge 24, 3) := by decide +kernel
theorem dX12_advance_85 : decode cX12_advance 85 = .ok (.lload_n 3, 1) := by decide +kernel
theorem dX12_advance_86 : decode cX12_advance 86 = .ok (.aload_n 0, 1) := by decide +kernel
theorem dX12_advance_87 : decode cX12_advance 87 = .ok (.getfield 119, 3) := by decide +kernel
theorem dX12_advance_90 : decode cX12_advance 90 = .ok (.bipush 24, 2) := by decide +kernel
theorem dX12_advance_92 : decode cX12_advance 92 = .ok (.iload_n 1, 1) := by decide +kernel
theorem dX12_advance_93 : decode cX12_advance 93 = .ok (.imul, 1) := by decide +kernel
theorem dX12_advance_94 : decode cX12_advance 94 = .ok (.iload 5, 2) := by decide +kernel
theorem dX12_advance_96 : decode cX12_advance 96 = .ok (.iadd, 1) := by decide +kernel
theorem dX12_advance_97 : decode cX12_advance 97 = .ok (.laload, 1) := by decide +kernel
theorem dX12_advance_98 : decode cX12_advance 98 = .ok (.ladd, 1) := by decide +kernel
theorem dX12_advance_99 : decode cX12_advance 99 = .ok (.lstore_n 3, 1) := by decide +kernel
theorem dX12_advance_100 : decode cX12_advance 100 = .ok (.iinc 5 1, 3) := by decide +kernel
theorem dX12_advance_103 : decode cX12_advance 103 = .ok (.goto (-25), 3) := by decide +kernel
theorem dX12_advance_106 : decode cX12_advance 106 = .ok (.lload_n 3, 1) := by decide +kernel
theorem dX12_advance_107 : decode cX12_advance 107 = .ok (.lreturn, 1) := by decide +kernel
theorem dX12_open_0 : decode cX12_open 0 = .ok (.aload_n 0, 1) := by decide +kernel
theorem dX12_open_1 : decode cX12_open 1 = .ok (.iconst 0, 1) := by decide +kernel
theorem dX12_open_2 : decode cX12_open 2 = .ok (.invokevirtual 227, 3) := by decide +kernel
theorem dX12_open_5 : decode cX12_open 5 = .ok (.pop, 1) := by decide +kernel
theorem dX12_open_6 : decode cX12_open 6 = .ok (.aload_n 0, 1) := by decide +kernel
theorem dX12_open_7 : decode cX12_open 7 = .ok (.getfield 395, 3) := by decide +kernel
theorem dX12_open_10 : decode cX12_open 10 = .ok (.ireturn, 1) := by decide +kernel
theorem dX12_owes_0 : decode cX12_owes 0 = .ok (.aload_n 0, 1) := by decide +kernel
theorem dX12_owes_1 : decode cX12_owes 1 = .ok (.iload_n 1, 1) := by decide +kernel
theorem dX12_owes_2 : decode cX12_owes 2 = .ok (.invokevirtual 389, 3) := by decide +kernel
theorem dX12_owes_5 : decode cX12_owes 5 = .ok (.lconst 0, 1) := by decide +kernel
theorem dX12_owes_6 : decode cX12_owes 6 = .ok (.lstore_n 3, 1) := by decide +kernel
theorem dX12_owes_7 : decode cX12_owes 7 = .ok (.iconst 0, 1) := by decide +kernel
theorem dX12_owes_8 : decode cX12_owes 8 = .ok (.istore 5, 2) := by decide +kernel
theorem dX12_owes_10 : decode cX12_owes 10 = .ok (.iload 5, 2) := by decide +kernel
theorem dX12_owes_12 : decode cX12_owes 12 = .ok (.iload_n 2, 1) := by decide +kernel
theorem dX12_owes_13 : decode cX12_owes 13 = .ok (.if_icmp .gt 19, 3) := by decide +kernel
theorem dX12_owes_16 : decode cX12_owes 16 = .ok (.lload_n 3, 1) := by decide +kernel
theorem dX12_owes_17 : decode cX12_owes 17 = .ok (.aload_n 0, 1) := by decide +kernel
theorem dX12_owes_18 : decode cX12_owes 18 = .ok (.getfield 170, 3) := by decide +kernel
theorem dX12_owes_21 : decode cX12_owes 21 = .ok (.iload 5, 2) := by decide +kernel
theorem dX12_owes_23 : decode cX12_owes 23 = .ok (.laload, 1) := by decide +kernel
theorem dX12_owes_24 : decode cX12_owes 24 = .ok (.ladd, 1) := by decide +kernel
theorem dX12_owes_25 : decode cX12_owes 25 = .ok (.lstore_n 3, 1) := by decide +kernel
theorem dX12_owes_26 : decode cX12_owes 26 = .ok (.iinc 5 1, 3) := by decide +kernel
theorem dX12_owes_29 : decode cX12_owes 29 = .ok (.goto (-19), 3) := by decide +kernel
theorem dX12_owes_32 : decode cX12_owes 32 = .ok (.iconst 0, 1) := by decide +kernel
theorem dX12_owes_33 : decode cX12_owes 33 = .ok (.istore 5, 2) := by decide +kernel
theorem dX12_owes_35 : decode cX12_owes 35 = .ok (.iload 5, 2) := by decide +kernel
theorem dX12_owes_37 : decode cX12_owes 37 = .ok (.aload_n 0, 1) := by decide +kernel
theorem dX12_owes_38 : decode cX12_owes 38 = .ok (.getfield 398, 3) := by decide +kernel
theorem dX12_owes_41 : decode cX12_owes 41 = .ok (.if_icmp .ge 44, 3) := by decide +kernel
theorem dX12_owes_44 : decode cX12_owes 44 = .ok (.lload_n 3, 1) := by decide +kernel
theorem dX12_owes_45 : decode cX12_owes 45 = .ok (.aload_n 0, 1) := by decide +kernel
theorem dX12_owes_46 : decode cX12_owes 46 = .ok (.getfield 122, 3) := by decide +kernel
theorem dX12_owes_49 : decode cX12_owes 49 = .ok (.iload 5, 2) := by decide +kernel
theorem dX12_owes_51 : decode cX12_owes 51 = .ok (.iaload, 1) := by decide +kernel
theorem dX12_owes_52 : decode cX12_owes 52 = .ok (.iload_n 1, 1) := by decide +kernel
theorem dX12_owes_53 : decode cX12_owes 53 = .ok (.if_icmp .ne 23, 3) := by decide +kernel
theorem dX12_owes_56 : decode cX12_owes 56 = .ok (.aload_n 0, 1) := by decide +kernel
theorem dX12_owes_57 : decode cX12_owes 57 = .ok (.getfield 131, 3) := by decide +kernel
theorem dX12_owes_60 : decode cX12_owes 60 = .ok (.iload 5, 2) := by decide +kernel
theorem dX12_owes_62 : decode cX12_owes 62 = .ok (.iaload, 1) := by decide +kernel
theorem dX12_owes_63 : decode cX12_owes 63 = .ok (.ifCond .ne 13, 3) := by decide +kernel
theorem dX12_owes_66 : decode cX12_owes 66 = .ok (.aload_n 0, 1) := by decide +kernel
theorem dX12_owes_67 : decode cX12_owes 67 = .ok (.getfield 128, 3) := by decide +kernel
theorem dX12_owes_70 : decode cX12_owes 70 = .ok (.iload 5, 2) := by decide +kernel
theorem dX12_owes_72 : decode cX12_owes 72 = .ok (.laload, 1) := by decide +kernel
theorem dX12_owes_73 : decode cX12_owes 73 = .ok (.goto 4, 3) := by decide +kernel
theorem dX12_owes_76 : decode cX12_owes 76 = .ok (.lconst 0, 1) := by decide +kernel
theorem dX12_owes_77 : decode cX12_owes 77 = .ok (.lsub, 1) := by decide +kernel
theorem dX12_owes_78 : decode cX12_owes 78 = .ok (.lstore_n 3, 1) := by decide +kernel
theorem dX12_owes_79 : decode cX12_owes 79 = .ok (.iinc 5 1, 3) := by decide +kernel
theorem dX12_owes_82 : decode cX12_owes 82 = .ok (.goto (-47), 3) := by decide +kernel
theorem dX12_owes_85 : decode cX12_owes 85 = .ok (.lload_n 3, 1) := by decide +kernel
theorem dX12_owes_86 : decode cX12_owes 86 = .ok (.lreturn, 1) := by decide +kernel
theorem dX12_file_0 : decode cX12_file 0 = .ok (.iconst 0, 1) := by decide +kernel
theorem dX12_file_1 : decode cX12_file 1 = .ok (.istore_n 1, 1) := by decide +kernel
theorem dX12_file_2 : decode cX12_file 2 = .ok (.iload_n 1, 1) := by decide +kernel
theorem dX12_file_3 : decode cX12_file 3 = .ok (.bipush 72, 2) := by decide +kernel
theorem dX12_file_5 : decode cX12_file 5 = .ok (.if_icmp .ge 165, 3) := by decide +kernel
theorem dX12_file_8 : decode cX12_file 8 = .ok (.iload_n 1, 1) := by decide +kernel
theorem dX12_file_9 : decode cX12_file 9 = .ok (.bipush 24, 2) := by decide +kernel
theorem dX12_file_11 : decode cX12_file 11 = .ok (.irem, 1) := by decide +kernel
theorem dX12_file_12 : decode cX12_file 12 = .ok (.istore_n 2, 1) := by decide +kernel
theorem dX12_file_13 : decode cX12_file 13 = .ok (.iload_n 1, 1) := by decide +kernel
theorem dX12_file_14 : decode cX12_file 14 = .ok (.bipush 24, 2) := by decide +kernel
theorem dX12_file_16 : decode cX12_file 16 = .ok (.idiv, 1) := by decide +kernel
theorem dX12_file_17 : decode cX12_file 17 = .ok (.istore_n 3, 1) := by decide +kernel
theorem dX12_file_18 : decode cX12_file 18 = .ok (.iload_n 2, 1) := by decide +kernel
theorem dX12_file_19 : decode cX12_file 19 = .ok (.aload_n 0, 1) := by decide +kernel
theorem dX12_file_20 : decode cX12_file 20 = .ok (.getfield 395, 3) := by decide +kernel
theorem dX12_file_23 : decode cX12_file 23 = .ok (.if_icmp .gt 141, 3) := by decide +kernel
theorem dX12_file_26 : decode cX12_file 26 = .ok (.lconst 0, 1) := by decide +kernel
theorem dX12_file_27 : decode cX12_file 27 = .ok (.lstore 4, 2) := by decide +kernel
theorem dX12_file_29 : decode cX12_file 29 = .ok (.lconst 0, 1) := by decide +kernel
theorem dX12_file_30 : decode cX12_file 30 = .ok (.lstore 6, 2) := by decide +kernel
theorem dX12_file_32 : decode cX12_file 32 = .ok (.iconst 0, 1) := by decide +kernel
theorem dX12_file_33 : decode cX12_file 33 = .ok (.istore 8, 2) := by decide +kernel
theorem dX12_file_35 : decode cX12_file 35 = .ok (.iload 8, 2) := by decide +kernel
theorem dX12_file_37 : decode cX12_file 37 = .ok (.bipush 6, 2) := by decide +kernel
theorem dX12_file_39 : decode cX12_file 39 = .ok (.if_icmp .ge 51, 3) := by decide +kernel
theorem dX12_file_42 : decode cX12_file 42 = .ok (.lload 4, 2) := by decide +kernel
theorem dX12_file_44 : decode cX12_file 44 = .ok (.aload_n 0, 1) := by decide +kernel
theorem dX12_file_45 : decode cX12_file 45 = .ok (.getfield 179, 3) := by decide +kernel
theorem dX12_file_48 : decode cX12_file 48 = .ok (.bipush 72, 2) := by decide +kernel
theorem dX12_file_50 : decode cX12_file 50 = .ok (.iload 8, 2) := by decide +kernel
theorem dX12_file_52 : decode cX12_file 52 = .ok (.imul, 1) := by decide +kernel
theorem dX12_file_53 : decode cX12_file 53 = .ok (.iconst 3, 1) := by decide +kernel
theorem dX12_file_54 : decode cX12_file 54 = .ok (.iload_n 2, 1) := by decide +kernel
theorem dX12_file_55 : decode cX12_file 55 = .ok (.imul, 1) := by decide +kernel
theorem dX12_file_56 : decode cX12_file 56 = .ok (.iadd, 1) := by decide +kernel
theorem dX12_file_57 : decode cX12_file 57 = .ok (.iload_n 3, 1) := by decide +kernel
theorem dX12_file_58 : decode cX12_file 58 = .ok (.iadd, 1) := by decide +kernel
theorem dX12_file_59 : decode cX12_file 59 = .ok (.laload, 1) := by decide +kernel
theorem dX12_file_60 : decode cX12_file 60 = .ok (.ladd, 1) := by decide +kernel
theorem dX12_file_61 : decode cX12_file 61 = .ok (.lstore 4, 2) := by decide +kernel
theorem dX12_file_63 : decode cX12_file 63 = .ok (.lload 6, 2) := by decide +kernel
theorem dX12_file_65 : decode cX12_file 65 = .ok (.aload_n 0, 1) := by decide +kernel
theorem dX12_file_66 : decode cX12_file 66 = .ok (.getfield 182, 3) := by decide +kernel
theorem dX12_file_69 : decode cX12_file 69 = .ok (.bipush 72, 2) := by decide +kernel
theorem dX12_file_71 : decode cX12_file 71 = .ok (.iload 8, 2) := by decide +kernel
theorem dX12_file_73 : decode cX12_file 73 = .ok (.imul, 1) := by decide +kernel
theorem dX12_file_74 : decode cX12_file 74 = .ok (.iconst 3, 1) := by decide +kernel
theorem dX12_file_75 : decode cX12_file 75 = .ok (.iload_n 2, 1) := by decide +kernel
theorem dX12_file_76 : decode cX12_file 76 = .ok (.imul, 1) := by decide +kernel
theorem dX12_file_77 : decode cX12_file 77 = .ok (.iadd, 1) := by decide +kernel
theorem dX12_file_78 : decode cX12_file 78 = .ok (.iload_n 3, 1) := by decide +kernel
theorem dX12_file_79 : decode cX12_file 79 = .ok (.iadd, 1) := by decide +kernel
theorem dX12_file_80 : decode cX12_file 80 = .ok (.laload, 1) := by decide +kernel
theorem dX12_file_81 : decode cX12_file 81 = .ok (.ladd, 1) := by decide +kernel
theorem dX12_file_82 : decode cX12_file 82 = .ok (.lstore 6, 2) := by decide +kernel
theorem dX12_file_84 : decode cX12_file 84 = .ok (.iinc 8 1, 3) := by decide +kernel
theorem dX12_file_87 : decode cX12_file 87 = .ok (.goto (-52), 3) := by decide +kernel
theorem dX12_file_90 : decode cX12_file 90 = .ok (.lload 4, 2) := by decide +kernel
theorem dX12_file_92 : decode cX12_file 92 = .ok (.aload_n 0, 1) := by decide +kernel
theorem dX12_file_93 : decode cX12_file 93 = .ok (.getfield 134, 3) := by decide +kernel
theorem dX12_file_96 : decode cX12_file 96 = .ok (.iload_n 1, 1) := by decide +kernel
theorem dX12_file_97 : decode cX12_file 97 = .ok (.laload, 1) := by decide +kernel
theorem dX12_file_98 : decode cX12_file 98 = .ok (.lcmp, 1) := by decide +kernel
theorem dX12_file_99 : decode cX12_file 99 = .ok (.ifCond .ne 15, 3) := by decide +kernel
theorem dX12_file_102 : decode cX12_file 102 = .ok (.lload 6, 2) := by decide +kernel
theorem dX12_file_104 : decode cX12_file 104 = .ok (.aload_n 0, 1) := by decide +kernel
theorem dX12_file_105 : decode cX12_file 105 = .ok (.getfield 137, 3) := by decide +kernel
theorem dX12_file_108 : decode cX12_file 108 = .ok (.iload_n 1, 1) := by decide +kernel
theorem dX12_file_109 : decode cX12_file 109 = .ok (.laload, 1) := by decide +kernel
theorem dX12_file_110 : decode cX12_file 110 = .ok (.lcmp, 1) := by decide +kernel
theorem dX12_file_111 : decode cX12_file 111 = .ok (.ifCond .eq 7, 3) := by decide +kernel
theorem dX12_file_114 : decode cX12_file 114 = .ok (.iconst 1, 1) := by decide +kernel
theorem dX12_file_115 : decode cX12_file 115 = .ok (.goto 4, 3) := by decide +kernel
theorem dX12_file_118 : decode cX12_file 118 = .ok (.iconst 0, 1) := by decide +kernel
theorem dX12_file_119 : decode cX12_file 119 = .ok (.istore 8, 2) := by decide +kernel
theorem dX12_file_121 : decode cX12_file 121 = .ok (.aload_n 0, 1) := by decide +kernel
theorem dX12_file_122 : decode cX12_file 122 = .ok (.getfield 140, 3) := by decide +kernel
theorem dX12_file_125 : decode cX12_file 125 = .ok (.iload_n 1, 1) := by decide +kernel
theorem dX12_file_126 : decode cX12_file 126 = .ok (.dup2, 1) := by decide +kernel
theorem dX12_file_127 : decode cX12_file 127 = .ok (.iaload, 1) := by decide +kernel
theorem dX12_file_128 : decode cX12_file 128 = .ok (.iload_n 2, 1) := by decide +kernel
theorem dX12_file_129 : decode cX12_file 129 = .ok (.aload_n 0, 1) := by decide +kernel
theorem dX12_file_130 : decode cX12_file 130 = .ok (.getfield 395, 3) := by decide +kernel
theorem dX12_file_133 : decode cX12_file 133 = .ok (.if_icmp .ge 12, 3) := by decide +kernel
theorem dX12_file_136 : decode cX12_file 136 = .ok (.iload 8, 2) := by decide +kernel
theorem dX12_file_138 : decode cX12_file 138 = .ok (.ifCond .eq 7, 3) := by decide +kernel
theorem dX12_file_141 : decode cX12_file 141 = .ok (.iconst 1, 1) := by decide +kernel
theorem dX12_file_142 : decode cX12_file 142 = .ok (.goto 4, 3) := by decide +kernel
theorem dX12_file_145 : decode cX12_file 145 = .ok (.iconst 0, 1) := by decide +kernel
theorem dX12_file_146 : decode cX12_file 146 = .ok (.iadd, 1) := by decide +kernel
theorem dX12_file_147 : decode cX12_file 147 = .ok (.iastore, 1) := by decide +kernel
theorem dX12_file_148 : decode cX12_file 148 = .ok (.aload_n 0, 1) := by decide +kernel
theorem dX12_file_149 : decode cX12_file 149 = .ok (.getfield 134, 3) := by decide +kernel
theorem dX12_file_152 : decode cX12_file 152 = .ok (.iload_n 1, 1) := by decide +kernel
theorem dX12_file_153 : decode cX12_file 153 = .ok (.lload 4, 2) := by decide +kernel
theorem dX12_file_155 : decode cX12_file 155 = .ok (.lastore, 1) := by decide +kernel
theorem dX12_file_156 : decode cX12_file 156 = .ok (.aload_n 0, 1) := by decide +kernel
theorem dX12_file_157 : decode cX12_file 157 = .ok (.getfield 137, 3) := by decide +kernel
theorem dX12_file_160 : decode cX12_file 160 = .ok (.iload_n 1, 1) := by decide +kernel
theorem dX12_file_161 : decode cX12_file 161 = .ok (.lload 6, 2) := by decide +kernel
theorem dX12_file_163 : decode cX12_file 163 = .ok (.lastore, 1) := by decide +kernel
theorem dX12_file_164 : decode cX12_file 164 = .ok (.iinc 1 1, 3) := by decide +kernel
theorem dX12_file_167 : decode cX12_file 167 = .ok (.goto (-165), 3) := by decide +kernel
theorem dX12_file_170 : decode cX12_file 170 = .ok (.return_, 1) := by decide +kernel
theorem dX12_close_0 : decode cX12_close 0 = .ok (.aload_n 0, 1) := by decide +kernel
theorem dX12_close_1 : decode cX12_close 1 = .ok (.aload_n 0, 1) := by decide +kernel
theorem dX12_close_2 : decode cX12_close 2 = .ok (.getfield 395, 3) := by decide +kernel
theorem dX12_close_5 : decode cX12_close 5 = .ok (.bipush 24, 2) := by decide +kernel
theorem dX12_close_7 : decode cX12_close 7 = .ok (.if_icmp .ne 7, 3) := by decide +kernel
theorem dX12_close_10 : decode cX12_close 10 = .ok (.iconst 1, 1) := by decide +kernel
theorem dX12_close_11 : decode cX12_close 11 = .ok (.goto 4, 3) := by decide +kernel
theorem dX12_close_14 : decode cX12_close 14 = .ok (.iconst 0, 1) := by decide +kernel
theorem dX12_close_15 : decode cX12_close 15 = .ok (.invokevirtual 227, 3) := by decide +kernel
theorem dX12_close_18 : decode cX12_close 18 = .ok (.ifCond .eq 5, 3) := by decide +kernel
theorem dX12_close_21 : decode cX12_close 21 = .ok (.iconst (-1), 1) := by decide +kernel
theorem dX12_close_22 : decode cX12_close 22 = .ok (.ireturn, 1) := by decide +kernel
theorem dX12_close_23 : decode cX12_close 23 = .ok (.iconst 0, 1) := by decide +kernel
theorem dX12_close_24 : decode cX12_close 24 = .ok (.istore_n 1, 1) := by decide +kernel
theorem dX12_close_25 : decode cX12_close 25 = .ok (.iconst 0, 1) := by decide +kernel
theorem dX12_close_26 : decode cX12_close 26 = .ok (.istore_n 2, 1) := by decide +kernel
theorem dX12_close_27 : decode cX12_close 27 = .ok (.iload_n 2, 1) := by decide +kernel
theorem dX12_close_28 : decode cX12_close 28 = .ok (.bipush 6, 2) := by decide +kernel
theorem dX12_close_30 : decode cX12_close 30 = .ok (.if_icmp .ge 135, 3) := by decide +kernel
theorem dX12_close_33 : decode cX12_close 33 = .ok (.aload_n 0, 1) := by decide +kernel
theorem dX12_close_34 : decode cX12_close 34 = .ok (.iload_n 2, 1) := by decide +kernel
theorem dX12_close_35 : decode cX12_close 35 = .ok (.aload_n 0, 1) := by decide +kernel
theorem dX12_close_36 : decode cX12_close 36 = .ok (.getfield 395, 3) := by decide +kernel
theorem dX12_close_39 : decode cX12_close 39 = .ok (.invokevirtual 401, 3) := by decide +kernel
theorem dX12_close_42 : decode cX12_close 42 = .ok (.lstore_n 3, 1) := by decide +kernel
theorem dX12_close_43 : decode cX12_close 43 = .ok (.iconst 0, 1) := by decide +kernel
theorem dX12_close_44 : decode cX12_close 44 = .ok (.istore 5, 2) := by decide +kernel
theorem dX12_close_46 : decode cX12_close 46 = .ok (.iload 5, 2) := by decide +kernel
theorem dX12_close_48 : decode cX12_close 48 = .ok (.bipush 72, 2) := by decide +kernel
theorem dX12_close_50 : decode cX12_close 50 = .ok (.if_icmp .ge 47, 3) := by decide +kernel
theorem dX12_close_53 : decode cX12_close 53 = .ok (.aload_n 0, 1) := by decide +kernel
theorem dX12_close_54 : decode cX12_close 54 = .ok (.getfield 179, 3) := by decide +kernel
theorem dX12_close_57 : decode cX12_close 57 = .ok (.bipush 72, 2) := by decide +kernel
theorem dX12_close_59 : decode cX12_close 59 = .ok (.iload_n 2, 1) := by decide +kernel
theorem dX12_close_60 : decode cX12_close 60 = .ok (.imul, 1) := by decide +kernel
theorem dX12_close_61 : decode cX12_close 61 = .ok (.iload 5, 2) := by decide +kernel
theorem dX12_close_63 : decode cX12_close 63 = .ok (.iadd, 1) := by decide +kernel
theorem dX12_close_64 : decode cX12_close 64 = .ok (.aload_n 0, 1) := by decide +kernel
theorem dX12_close_65 : decode cX12_close 65 = .ok (.getfield 155, 3) := by decide +kernel
theorem dX12_close_68 : decode cX12_close 68 = .ok (.iload 5, 2) := by decide +kernel
theorem dX12_close_70 : decode cX12_close 70 = .ok (.laload, 1) := by decide +kernel
theorem dX12_close_71 : decode cX12_close 71 = .ok (.lastore, 1) := by decide +kernel
theorem dX12_close_72 : decode cX12_close 72 = .ok (.aload_n 0, 1) := by decide +kernel
theorem dX12_close_73 : decode cX12_close 73 = .ok (.getfield 182, 3) := by decide +kernel
theorem dX12_close_76 : decode cX12_close 76 = .ok (.bipush 72, 2) := by decide +kernel
theorem dX12_close_78 : decode cX12_close 78 = .ok (.iload_n 2, 1) := by decide +kernel
theorem dX12_close_79 : decode cX12_close 79 = .ok (.imul, 1) := by decide +kernel
theorem dX12_close_80 : decode cX12_close 80 = .ok (.iload 5, 2) := by decide +kernel
theorem dX12_close_82 : decode cX12_close 82 = .ok (.iadd, 1) := by decide +kernel
theorem dX12_close_83 : decode cX12_close 83 = .ok (.aload_n 0, 1) := by decide +kernel
theorem dX12_close_84 : decode cX12_close 84 = .ok (.getfield 149, 3) := by decide +kernel
theorem dX12_close_87 : decode cX12_close 87 = .ok (.iload 5, 2) := by decide +kernel
theorem dX12_close_89 : decode cX12_close 89 = .ok (.laload, 1) := by decide +kernel
theorem dX12_close_90 : decode cX12_close 90 = .ok (.lastore, 1) := by decide +kernel
theorem dX12_close_91 : decode cX12_close 91 = .ok (.iinc 5 1, 3) := by decide +kernel
theorem dX12_close_94 : decode cX12_close 94 = .ok (.goto (-48), 3) := by decide +kernel
theorem dX12_close_97 : decode cX12_close 97 = .ok (.lload_n 3, 1) := by decide +kernel
theorem dX12_close_98 : decode cX12_close 98 = .ok (.lconst 0, 1) := by decide +kernel
theorem dX12_close_99 : decode cX12_close 99 = .ok (.lcmp, 1) := by decide +kernel
theorem dX12_close_100 : decode cX12_close 100 = .ok (.ifCond .le 59, 3) := by decide +kernel
theorem dX12_close_103 : decode cX12_close 103 = .ok (.aload_n 0, 1) := by decide +kernel
theorem dX12_close_104 : decode cX12_close 104 = .ok (.getfield 122, 3) := by decide +kernel
theorem dX12_close_107 : decode cX12_close 107 = .ok (.aload_n 0, 1) := by decide +kernel
theorem dX12_close_108 : decode cX12_close 108 = .ok (.getfield 398, 3) := by decide +kernel
theorem dX12_close_111 : decode cX12_close 111 = .ok (.iload_n 2, 1) := by decide +kernel
theorem dX12_close_112 : decode cX12_close 112 = .ok (.iastore, 1) := by decide +kernel
theorem dX12_close_113 : decode cX12_close 113 = .ok (.aload_n 0, 1) := by decide +kernel
theorem dX12_close_114 : decode cX12_close 114 = .ok (.getfield 125, 3) := by decide +kernel
theorem dX12_close_117 : decode cX12_close 117 = .ok (.aload_n 0, 1) := by decide +kernel
theorem dX12_close_118 : decode cX12_close 118 = .ok (.getfield 398, 3) := by decide +kernel
theorem dX12_close_121 : decode cX12_close 121 = .ok (.aload_n 0, 1) := by decide +kernel
theorem dX12_close_122 : decode cX12_close 122 = .ok (.getfield 395, 3) := by decide +kernel
theorem dX12_close_125 : decode cX12_close 125 = .ok (.iastore, 1) := by decide +kernel
theorem dX12_close_126 : decode cX12_close 126 = .ok (.aload_n 0, 1) := by decide +kernel
theorem dX12_close_127 : decode cX12_close 127 = .ok (.getfield 128, 3) := by decide +kernel
theorem dX12_close_130 : decode cX12_close 130 = .ok (.aload_n 0, 1) := by decide +kernel
theorem dX12_close_131 : decode cX12_close 131 = .ok (.getfield 398, 3) := by decide +kernel
theorem dX12_close_134 : decode cX12_close 134 = .ok (.lload_n 3, 1) := by decide +kernel
theorem dX12_close_135 : decode cX12_close 135 = .ok (.lastore, 1) := by decide +kernel
theorem dX12_close_136 : decode cX12_close 136 = .ok (.aload_n 0, 1) := by decide +kernel
theorem dX12_close_137 : decode cX12_close 137 = .ok (.getfield 131, 3) := by decide +kernel
theorem dX12_close_140 : decode cX12_close 140 = .ok (.aload_n 0, 1) := by decide +kernel
theorem dX12_close_141 : decode cX12_close 141 = .ok (.getfield 398, 3) := by decide +kernel
theorem dX12_close_144 : decode cX12_close 144 = .ok (.iconst 0, 1) := by decide +kernel
theorem dX12_close_145 : decode cX12_close 145 = .ok (.iastore, 1) := by decide +kernel
theorem dX12_close_146 : decode cX12_close 146 = .ok (.aload_n 0, 1) := by decide +kernel
theorem dX12_close_147 : decode cX12_close 147 = .ok (.dup, 1) := by decide +kernel
theorem dX12_close_148 : decode cX12_close 148 = .ok (.getfield 398, 3) := by decide +kernel
theorem dX12_close_151 : decode cX12_close 151 = .ok (.iconst 1, 1) := by decide +kernel
theorem dX12_close_152 : decode cX12_close 152 = .ok (.iadd, 1) := by decide +kernel
theorem dX12_close_153 : decode cX12_close 153 = .ok (.putfield 398, 3) := by decide +kernel
theorem dX12_close_156 : decode cX12_close 156 = .ok (.iinc 1 1, 3) := by decide +kernel
theorem dX12_close_159 : decode cX12_close 159 = .ok (.iinc 2 1, 3) := by decide +kernel
theorem dX12_close_162 : decode cX12_close 162 = .ok (.goto (-135), 3) := by decide +kernel
theorem dX12_close_165 : decode cX12_close 165 = .ok (.aload_n 0, 1) := by decide +kernel
theorem dX12_close_166 : decode cX12_close 166 = .ok (.invokevirtual 404, 3) := by decide +kernel
theorem dX12_close_169 : decode cX12_close 169 = .ok (.aload_n 0, 1) := by decide +kernel
theorem dX12_close_170 : decode cX12_close 170 = .ok (.dup, 1) := by decide +kernel
theorem dX12_close_171 : decode cX12_close 171 = .ok (.getfield 395, 3) := by decide +kernel
theorem dX12_close_174 : decode cX12_close 174 = .ok (.iconst 1, 1) := by decide +kernel
theorem dX12_close_175 : decode cX12_close 175 = .ok (.iadd, 1) := by decide +kernel
theorem dX12_close_176 : decode cX12_close 176 = .ok (.putfield 395, 3) := by decide +kernel
theorem dX12_close_179 : decode cX12_close 179 = .ok (.iload_n 1, 1) := by decide +kernel
theorem dX12_close_180 : decode cX12_close 180 = .ok (.ireturn, 1) := by decide +kernel
theorem dX12_payments_0 : decode cX12_payments 0 = .ok (.aload_n 0, 1) := by decide +kernel
theorem dX12_payments_1 : decode cX12_payments 1 = .ok (.iconst 0, 1) := by decide +kernel
theorem dX12_payments_2 : decode cX12_payments 2 = .ok (.invokevirtual 227, 3) := by decide +kernel
theorem dX12_payments_5 : decode cX12_payments 5 = .ok (.pop, 1) := by decide +kernel
theorem dX12_payments_6 : decode cX12_payments 6 = .ok (.aload_n 0, 1) := by decide +kernel
theorem dX12_payments_7 : decode cX12_payments 7 = .ok (.getfield 398, 3) := by decide +kernel
theorem dX12_payments_10 : decode cX12_payments 10 = .ok (.ireturn, 1) := by decide +kernel
theorem dX12_payment_0 : decode cX12_payment 0 = .ok (.aload_n 0, 1) := by decide +kernel
theorem dX12_payment_1 : decode cX12_payment 1 = .ok (.aload_n 0, 1) := by decide +kernel
theorem dX12_payment_2 : decode cX12_payment 2 = .ok (.iload_n 1, 1) := by decide +kernel
theorem dX12_payment_3 : decode cX12_payment 3 = .ok (.i2l, 1) := by decide +kernel
theorem dX12_payment_4 : decode cX12_payment 4 = .ok (.lconst 0, 1) := by decide +kernel
theorem dX12_payment_5 : decode cX12_payment 5 = .ok (.aload_n 0, 1) := by decide +kernel
theorem dX12_payment_6 : decode cX12_payment 6 = .ok (.getfield 398, 3) := by decide +kernel
theorem dX12_payment_9 : decode cX12_payment 9 = .ok (.iconst 1, 1) := by decide +kernel
theorem dX12_payment_10 : decode cX12_payment 10 = .ok (.isub, 1) := by decide +kernel
theorem dX12_payment_11 : decode cX12_payment 11 = .ok (.i2l, 1) := by decide +kernel
theorem dX12_payment_12 : decode cX12_payment 12 = .ok (.invokevirtual 191, 3) := by decide +kernel
theorem dX12_payment_15 : decode cX12_payment 15 = .ok (.ifCond .ne 7, 3) := by decide +kernel
theorem dX12_payment_18 : decode cX12_payment 18 = .ok (.iconst 1, 1) := by decide +kernel
theorem dX12_payment_19 : decode cX12_payment 19 = .ok (.goto 21, 3) := by decide +kernel
theorem dX12_payment_22 : decode cX12_payment 22 = .ok (.aload_n 0, 1) := by decide +kernel
theorem dX12_payment_23 : decode cX12_payment 23 = .ok (.iload_n 2, 1) := by decide +kernel
theorem dX12_payment_24 : decode cX12_payment 24 = .ok (.i2l, 1) := by decide +kernel
theorem dX12_payment_25 : decode cX12_payment 25 = .ok (.lconst 0, 1) := by decide +kernel
theorem dX12_payment_26 : decode cX12_payment 26 = .ok (.ldc2_w 407, 3) := by decide +kernel
theorem dX12_payment_29 : decode cX12_payment 29 = .ok (.invokevirtual 191, 3) := by decide +kernel
theorem dX12_payment_32 : decode cX12_payment 32 = .ok (.ifCond .eq 7, 3) := by decide +kernel
theorem dX12_payment_35 : decode cX12_payment 35 = .ok (.iconst 0, 1) := by decide +kernel
theorem dX12_payment_36 : decode cX12_payment 36 = .ok (.goto 4, 3) := by decide +kernel
theorem dX12_payment_39 : decode cX12_payment 39 = .ok (.iconst 2, 1) := by decide +kernel
theorem dX12_payment_40 : decode cX12_payment 40 = .ok (.invokevirtual 227, 3) := by decide +kernel
theorem dX12_payment_43 : decode cX12_payment 43 = .ok (.ifCond .eq 7, 3) := by decide +kernel
theorem dX12_payment_46 : decode cX12_payment 46 = .ok (.ldc2_w 275, 3) := by decide +kernel
theorem dX12_payment_49 : decode cX12_payment 49 = .ok (.lreturn, 1) := by decide +kernel
theorem dX12_payment_50 : decode cX12_payment 50 = .ok (.iload_n 2, 1) := by decide +kernel
theorem dX12_payment_51 : decode cX12_payment 51 = .ok (.ifCond .ne 13, 3) := by decide +kernel
theorem dX12_payment_54 : decode cX12_payment 54 = .ok (.aload_n 0, 1) := by decide +kernel
theorem dX12_payment_55 : decode cX12_payment 55 = .ok (.getfield 122, 3) := by decide +kernel
theorem dX12_payment_58 : decode cX12_payment 58 = .ok (.iload_n 1, 1) := by decide +kernel
theorem dX12_payment_59 : decode cX12_payment 59 = .ok (.iaload, 1) := by decide +kernel
theorem dX12_payment_60 : decode cX12_payment 60 = .ok (.i2l, 1) := by decide +kernel
theorem dX12_payment_61 : decode cX12_payment 61 = .ok (.goto 39, 3) := by decide +kernel
theorem dX12_payment_64 : decode cX12_payment 64 = .ok (.iload_n 2, 1) := by decide +kernel
theorem dX12_payment_65 : decode cX12_payment 65 = .ok (.iconst 1, 1) := by decide +kernel
theorem dX12_payment_66 : decode cX12_payment 66 = .ok (.if_icmp .ne 13, 3) := by decide +kernel
theorem dX12_payment_69 : decode cX12_payment 69 = .ok (.aload_n 0, 1) := by decide +kernel
theorem dX12_payment_70 : decode cX12_payment 70 = .ok (.getfield 125, 3) := by decide +kernel
theorem dX12_payment_73 : decode cX12_payment 73 = .ok (.iload_n 1, 1) := by decide +kernel
theorem dX12_payment_74 : decode cX12_payment 74 = .ok (.iaload, 1) := by decide +kernel
theorem dX12_payment_75 : decode cX12_payment 75 = .ok (.i2l, 1) := by decide +kernel
theorem dX12_payment_76 : decode cX12_payment 76 = .ok (.goto 24, 3) := by decide +kernel
theorem dX12_payment_79 : decode cX12_payment 79 = .ok (.iload_n 2, 1) := by decide +kernel
theorem dX12_payment_80 : decode cX12_payment 80 = .ok (.iconst 2, 1) := by decide +kernel
theorem dX12_payment_81 : decode cX12_payment 81 = .ok (.if_icmp .ne 12, 3) := by decide +kernel
theorem dX12_payment_84 : decode cX12_payment 84 = .ok (.aload_n 0, 1) := by decide +kernel
theorem dX12_payment_85 : decode cX12_payment 85 = .ok (.getfield 128, 3) := by decide +kernel
theorem dX12_payment_88 : decode cX12_payment 88 = .ok (.iload_n 1, 1) := by decide +kernel
theorem dX12_payment_89 : decode cX12_payment 89 = .ok (.laload, 1) := by decide +kernel
theorem dX12_payment_90 : decode cX12_payment 90 = .ok (.goto 10, 3) := by decide +kernel
theorem dX12_payment_93 : decode cX12_payment 93 = .ok (.aload_n 0, 1) := by decide +kernel
theorem dX12_payment_94 : decode cX12_payment 94 = .ok (.getfield 131, 3) := by decide +kernel
theorem dX12_payment_97 : decode cX12_payment 97 = .ok (.iload_n 1, 1) := by decide +kernel
theorem dX12_payment_98 : decode cX12_payment 98 = .ok (.iaload, 1) := by decide +kernel
theorem dX12_payment_99 : decode cX12_payment 99 = .ok (.i2l, 1) := by decide +kernel
theorem dX12_payment_100 : decode cX12_payment 100 = .ok (.lreturn, 1) := by decide +kernel
theorem dX12_comeBack_0 : decode cX12_comeBack 0 = .ok (.aload_n 0, 1) := by decide +kernel
theorem dX12_comeBack_1 : decode cX12_comeBack 1 = .ok (.iload_n 1, 1) := by decide +kernel
theorem dX12_comeBack_2 : decode cX12_comeBack 2 = .ok (.i2l, 1) := by decide +kernel
theorem dX12_comeBack_3 : decode cX12_comeBack 3 = .ok (.lconst 0, 1) := by decide +kernel
theorem dX12_comeBack_4 : decode cX12_comeBack 4 = .ok (.aload_n 0, 1) := by decide +kernel
theorem dX12_comeBack_5 : decode cX12_comeBack 5 = .ok (.getfield 398, 3) := by decide +kernel
theorem dX12_comeBack_8 : decode cX12_comeBack 8 = .ok (.iconst 1, 1) := by decide +kernel
theorem dX12_comeBack_9 : decode cX12_comeBack 9 = .ok (.isub, 1) := by decide +kernel
theorem dX12_comeBack_10 : decode cX12_comeBack 10 = .ok (.i2l, 1) := by decide +kernel
theorem dX12_comeBack_11 : decode cX12_comeBack 11 = .ok (.invokevirtual 191, 3) := by decide +kernel
theorem dX12_comeBack_14 : decode cX12_comeBack 14 = .ok (.istore_n 2, 1) := by decide +kernel
theorem dX12_comeBack_15 : decode cX12_comeBack 15 = .ok (.aload_n 0, 1) := by decide +kernel
theorem dX12_comeBack_16 : decode cX12_comeBack 16 = .ok (.iload_n 2, 1) := by decide +kernel
theorem dX12_comeBack_17 : decode cX12_comeBack 17 = .ok (.ifCond .ne 7, 3) := by decide +kernel
theorem dX12_comeBack_20 : decode cX12_comeBack 20 = .ok (.iconst 1, 1) := by decide +kernel
theorem dX12_comeBack_21 : decode cX12_comeBack 21 = .ok (.goto 18, 3) := by decide +kernel
theorem dX12_comeBack_24 : decode cX12_comeBack 24 = .ok (.aload_n 0, 1) := by decide +kernel
theorem dX12_comeBack_25 : decode cX12_comeBack 25 = .ok (.getfield 131, 3) := by decide +kernel
theorem dX12_comeBack_28 : decode cX12_comeBack 28 = .ok (.iload_n 1, 1) := by decide +kernel
theorem dX12_comeBack_29 : decode cX12_comeBack 29 = .ok (.iaload, 1) := by decide +kernel
theorem dX12_comeBack_30 : decode cX12_comeBack 30 = .ok (.iconst 1, 1) := by decide +kernel
theorem dX12_comeBack_31 : decode cX12_comeBack 31 = .ok (.if_icmp .ne 7, 3) := by decide +kernel
theorem dX12_comeBack_34 : decode cX12_comeBack 34 = .ok (.iconst 2, 1) := by decide +kernel
theorem dX12_comeBack_35 : decode cX12_comeBack 35 = .ok (.goto 4, 3) := by decide +kernel
theorem dX12_comeBack_38 : decode cX12_comeBack 38 = .ok (.iconst 0, 1) := by decide +kernel
theorem dX12_comeBack_39 : decode cX12_comeBack 39 = .ok (.invokevirtual 227, 3) := by decide +kernel
theorem dX12_comeBack_42 : decode cX12_comeBack 42 = .ok (.ifCond .eq 7, 3) := by decide +kernel
theorem dX12_comeBack_45 : decode cX12_comeBack 45 = .ok (.ldc2_w 275, 3) := by decide +kernel
theorem dX12_comeBack_48 : decode cX12_comeBack 48 = .ok (.lreturn, 1) := by decide +kernel
theorem dX12_comeBack_49 : decode cX12_comeBack 49 = .ok (.aload_n 0, 1) := by decide +kernel
theorem dX12_comeBack_50 : decode cX12_comeBack 50 = .ok (.getfield 131, 3) := by decide +kernel
theorem dX12_comeBack_53 : decode cX12_comeBack 53 = .ok (.iload_n 1, 1) := by decide +kernel
theorem dX12_comeBack_54 : decode cX12_comeBack 54 = .ok (.iconst 1, 1) := by decide +kernel
theorem dX12_comeBack_55 : decode cX12_comeBack 55 = .ok (.iastore, 1) := by decide +kernel
theorem dX12_comeBack_56 : decode cX12_comeBack 56 = .ok (.aload_n 0, 1) := by decide +kernel
theorem dX12_comeBack_57 : decode cX12_comeBack 57 = .ok (.getfield 128, 3) := by decide +kernel
theorem dX12_comeBack_60 : decode cX12_comeBack 60 = .ok (.iload_n 1, 1) := by decide +kernel
theorem dX12_comeBack_61 : decode cX12_comeBack 61 = .ok (.laload, 1) := by decide +kernel
theorem dX12_comeBack_62 : decode cX12_comeBack 62 = .ok (.lreturn, 1) := by decide +kernel
theorem dX12_owed_0 : decode cX12_owed 0 = .ok (.aload_n 0, 1) := by decide +kernel
theorem dX12_owed_1 : decode cX12_owed 1 = .ok (.aload_n 0, 1) := by decide +kernel
theorem dX12_owed_2 : decode cX12_owed 2 = .ok (.iload_n 1, 1) := by decide +kernel
theorem dX12_owed_3 : decode cX12_owed 3 = .ok (.invokevirtual 212, 3) := by decide +kernel
theorem dX12_owed_6 : decode cX12_owed 6 = .ok (.ifCond .eq 7, 3) := by decide +kernel
theorem dX12_owed_9 : decode cX12_owed 9 = .ok (.iconst 0, 1) := by decide +kernel
theorem dX12_owed_10 : decode cX12_owed 10 = .ok (.goto 4, 3) := by decide +kernel
theorem dX12_owed_13 : decode cX12_owed 13 = .ok (.iconst 1, 1) := by decide +kernel
theorem dX12_owed_14 : decode cX12_owed 14 = .ok (.invokevirtual 227, 3) := by decide +kernel
theorem dX12_owed_17 : decode cX12_owed 17 = .ok (.ifCond .eq 9, 3) := by decide +kernel
theorem dX12_owed_20 : decode cX12_owed 20 = .ok (.ldc2_w 275, 3) := by decide +kernel
theorem dX12_owed_23 : decode cX12_owed 23 = .ok (.goto 26, 3) := by decide +kernel
theorem dX12_owed_26 : decode cX12_owed 26 = .ok (.aload_n 0, 1) := by decide +kernel
theorem dX12_owed_27 : decode cX12_owed 27 = .ok (.iload_n 1, 1) := by decide +kernel
theorem dX12_owed_28 : decode cX12_owed 28 = .ok (.aload_n 0, 1) := by decide +kernel
theorem dX12_owed_29 : decode cX12_owed 29 = .ok (.getfield 395, 3) := by decide +kernel
theorem dX12_owed_32 : decode cX12_owed 32 = .ok (.bipush 24, 2) := by decide +kernel
theorem dX12_owed_34 : decode cX12_owed 34 = .ok (.if_icmp .ne 8, 3) := by decide +kernel
theorem dX12_owed_37 : decode cX12_owed 37 = .ok (.bipush 23, 2) := by decide +kernel
theorem dX12_owed_39 : decode cX12_owed 39 = .ok (.goto 7, 3) := by decide +kernel
theorem dX12_owed_42 : decode cX12_owed 42 = .ok (.aload_n 0, 1) := by decide +kernel
theorem dX12_owed_43 : decode cX12_owed 43 = .ok (.getfield 395, 3) := by decide +kernel
theorem dX12_owed_46 : decode cX12_owed 46 = .ok (.invokevirtual 401, 3) := by decide +kernel
theorem dX12_owed_49 : decode cX12_owed 49 = .ok (.lreturn, 1) := by decide +kernel
theorem dX12_filed_0 : decode cX12_filed 0 = .ok (.aload_n 0, 1) := by decide +kernel
theorem dX12_filed_1 : decode cX12_filed 1 = .ok (.aload_n 0, 1) := by decide +kernel
theorem dX12_filed_2 : decode cX12_filed 2 = .ok (.iload_n 1, 1) := by decide +kernel
theorem dX12_filed_3 : decode cX12_filed 3 = .ok (.invokevirtual 215, 3) := by decide +kernel
theorem dX12_filed_6 : decode cX12_filed 6 = .ok (.ifCond .eq 15, 3) := by decide +kernel
theorem dX12_filed_9 : decode cX12_filed 9 = .ok (.aload_n 0, 1) := by decide +kernel
theorem dX12_filed_10 : decode cX12_filed 10 = .ok (.iload_n 2, 1) := by decide +kernel
theorem dX12_filed_11 : decode cX12_filed 11 = .ok (.invokevirtual 272, 3) := by decide +kernel
theorem dX12_filed_14 : decode cX12_filed 14 = .ok (.ifCond .eq 7, 3) := by decide +kernel
theorem dX12_filed_17 : decode cX12_filed 17 = .ok (.iconst 0, 1) := by decide +kernel
theorem dX12_filed_18 : decode cX12_filed 18 = .ok (.goto 4, 3) := by decide +kernel
theorem dX12_filed_21 : decode cX12_filed 21 = .ok (.iconst 1, 1) := by decide +kernel
theorem dX12_filed_22 : decode cX12_filed 22 = .ok (.invokevirtual 227, 3) := by decide +kernel
theorem dX12_filed_25 : decode cX12_filed 25 = .ok (.ifCond .eq 7, 3) := by decide +kernel
theorem dX12_filed_28 : decode cX12_filed 28 = .ok (.ldc2_w 275, 3) := by decide +kernel
theorem dX12_filed_31 : decode cX12_filed 31 = .ok (.lreturn, 1) := by decide +kernel
theorem dX12_filed_32 : decode cX12_filed 32 = .ok (.iload_n 3, 1) := by decide +kernel
theorem dX12_filed_33 : decode cX12_filed 33 = .ok (.ifCond .eq 17, 3) := by decide +kernel
theorem dX12_filed_36 : decode cX12_filed 36 = .ok (.aload_n 0, 1) := by decide +kernel
theorem dX12_filed_37 : decode cX12_filed 37 = .ok (.getfield 134, 3) := by decide +kernel
theorem dX12_filed_40 : decode cX12_filed 40 = .ok (.bipush 24, 2) := by decide +kernel
theorem dX12_filed_42 : decode cX12_filed 42 = .ok (.iload_n 1, 1) := by decide +kernel
theorem dX12_filed_43 : decode cX12_filed 43 = .ok (.imul, 1) := by decide +kernel
theorem dX12_filed_44 : decode cX12_filed 44 = .ok (.iload_n 2, 1) := by decide +kernel
theorem dX12_filed_45 : decode cX12_filed 45 = .ok (.iadd, 1) := by decide +kernel
theorem dX12_filed_46 : decode cX12_filed 46 = .ok (.laload, 1) := by decide +kernel
theorem dX12_filed_47 : decode cX12_filed 47 = .ok (.goto 14, 3) := by decide +kernel
theorem dX12_filed_50 : decode cX12_filed 50 = .ok (.aload_n 0, 1) := by decide +kernel
theorem dX12_filed_51 : decode cX12_filed 51 = .ok (.getfield 137, 3) := by decide +kernel
theorem dX12_filed_54 : decode cX12_filed 54 = .ok (.bipush 24, 2) := by decide +kernel
theorem dX12_filed_56 : decode cX12_filed 56 = .ok (.iload_n 1, 1) := by decide +kernel
theorem dX12_filed_57 : decode cX12_filed 57 = .ok (.imul, 1) := by decide +kernel
theorem dX12_filed_58 : decode cX12_filed 58 = .ok (.iload_n 2, 1) := by decide +kernel
theorem dX12_filed_59 : decode cX12_filed 59 = .ok (.iadd, 1) := by decide +kernel
theorem dX12_filed_60 : decode cX12_filed 60 = .ok (.laload, 1) := by decide +kernel
theorem dX12_filed_61 : decode cX12_filed 61 = .ok (.lreturn, 1) := by decide +kernel
theorem dX12_corrections_0 : decode cX12_corrections 0 = .ok (.aload_n 0, 1) := by decide +kernel
theorem dX12_corrections_1 : decode cX12_corrections 1 = .ok (.aload_n 0, 1) := by decide +kernel
theorem dX12_corrections_2 : decode cX12_corrections 2 = .ok (.iload_n 1, 1) := by decide +kernel
theorem dX12_corrections_3 : decode cX12_corrections 3 = .ok (.invokevirtual 215, 3) := by decide +kernel
theorem dX12_corrections_6 : decode cX12_corrections 6 = .ok (.ifCond .eq 15, 3) := by decide +kernel
theorem dX12_corrections_9 : decode cX12_corrections 9 = .ok (.aload_n 0, 1) := by decide +kernel
theorem dX12_corrections_10 : decode cX12_corrections 10 = .ok (.iload_n 2, 1) := by decide +kernel
theorem dX12_corrections_11 : decode cX12_corrections 11 = .ok (.invokevirtual 272, 3) := by decide +kernel
theorem dX12_corrections_14 : decode cX12_corrections 14 = .ok (.ifCond .eq 7, 3) := by decide +kernel
theorem dX12_corrections_17 : decode cX12_corrections 17 = .ok (.iconst 0, 1) := by decide +kernel
theorem dX12_corrections_18 : decode cX12_corrections 18 = .ok (.goto 4, 3) := by decide +kernel
theorem dX12_corrections_21 : decode cX12_corrections 21 = .ok (.iconst 1, 1) := by decide +kernel
theorem dX12_corrections_22 : decode cX12_corrections 22 = .ok (.invokevirtual 227, 3) := by decide +kernel
theorem dX12_corrections_25 : decode cX12_corrections 25 = .ok (.ifCond .eq 7, 3) := by decide +kernel
theorem dX12_corrections_28 : decode cX12_corrections 28 = .ok (.iconst (-1), 1) := by decide +kernel
theorem dX12_corrections_29 : decode cX12_corrections 29 = .ok (.goto 14, 3) := by decide +kernel
theorem dX12_corrections_32 : decode cX12_corrections 32 = .ok (.aload_n 0, 1) := by decide +kernel
theorem dX12_corrections_33 : decode cX12_corrections 33 = .ok (.getfield 140, 3) := by decide +kernel
theorem dX12_corrections_36 : decode cX12_corrections 36 = .ok (.bipush 24, 2) := by decide +kernel
theorem dX12_corrections_38 : decode cX12_corrections 38 = .ok (.iload_n 1, 1) := by decide +kernel
theorem dX12_corrections_39 : decode cX12_corrections 39 = .ok (.imul, 1) := by decide +kernel
theorem dX12_corrections_40 : decode cX12_corrections 40 = .ok (.iload_n 2, 1) := by decide +kernel
theorem dX12_corrections_41 : decode cX12_corrections 41 = .ok (.iadd, 1) := by decide +kernel
theorem dX12_corrections_42 : decode cX12_corrections 42 = .ok (.iaload, 1) := by decide +kernel
theorem dX12_corrections_43 : decode cX12_corrections 43 = .ok (.ireturn, 1) := by decide +kernel
theorem dJ5_init_d00df_0 : decode cJ5_init_d00df 0 = .ok (.aload_n 0, 1) := by decide +kernel
theorem dJ5_init_d00df_1 : decode cJ5_init_d00df 1 = .ok (.invokespecial 3, 3) := by decide +kernel
theorem dJ5_init_d00df_4 : decode cJ5_init_d00df 4 = .ok (.getstatic 18, 3) := by decide +kernel
theorem dJ5_init_d00df_7 : decode cJ5_init_d00df 7 = .ok (.ifCond .eq 18, 3) := by decide +kernel
theorem dJ5_init_d00df_10 : decode cJ5_init_d00df 10 = .ok (.aload_n 0, 1) := by decide +kernel
theorem dJ5_init_d00df_11 : decode cJ5_init_d00df 11 = .ok (.iload_n 1, 1) := by decide +kernel
theorem dJ5_init_d00df_12 : decode cJ5_init_d00df 12 = .ok (.newarray .byte, 2) := by decide +kernel
theorem dJ5_init_d00df_14 : decode cJ5_init_d00df 14 = .ok (.putfield 15, 3) := by decide +kernel
theorem dJ5_init_d00df_17 : decode cJ5_init_d00df 17 = .ok (.aload_n 0, 1) := by decide +kernel
theorem dJ5_init_d00df_18 : decode cJ5_init_d00df 18 = .ok (.iconst 0, 1) := by decide +kernel
theorem dJ5_init_d00df_19 : decode cJ5_init_d00df 19 = .ok (.putfield 22, 3) := by decide +kernel
theorem dJ5_init_d00df_22 : decode cJ5_init_d00df 22 = .ok (.goto 16, 3) := by decide +kernel
theorem dJ5_init_d00df_25 : decode cJ5_init_d00df 25 = .ok (.aload_n 0, 1) := by decide +kernel
theorem dJ5_init_d00df_26 : decode cJ5_init_d00df 26 = .ok (.iload_n 1, 1) := by decide +kernel
theorem dJ5_init_d00df_27 : decode cJ5_init_d00df 27 = .ok (.invokestatic 26, 3) := by decide +kernel
theorem dJ5_init_d00df_30 : decode cJ5_init_d00df 30 = .ok (.putfield 15, 3) := by decide +kernel
theorem dJ5_init_d00df_33 : decode cJ5_init_d00df 33 = .ok (.aload_n 0, 1) := by decide +kernel
theorem dJ5_init_d00df_34 : decode cJ5_init_d00df 34 = .ok (.iconst 1, 1) := by decide +kernel
theorem dJ5_init_d00df_35 : decode cJ5_init_d00df 35 = .ok (.putfield 22, 3) := by decide +kernel
theorem dJ5_init_d00df_38 : decode cJ5_init_d00df 38 = .ok (.return_, 1) := by decide +kernel
theorem dJ5_length_8abf5_0 : decode cJ5_length_8abf5 0 = .ok (.aload_n 0, 1) := by decide +kernel
theorem dJ5_length_8abf5_1 : decode cJ5_length_8abf5 1 = .ok (.getfield 79, 3) := by decide +kernel
theorem dJ5_length_8abf5_4 : decode cJ5_length_8abf5 4 = .ok (.ireturn, 1) := by decide +kernel
theorem dJ5_ensureCapacityInternal_d00df_0 : decode cJ5_ensureCapacityInternal_d00df 0 = .ok (.aload_n 0, 1) := by decide +kernel
theorem dJ5_ensureCapacityInternal_d00df_1 : decode cJ5_ensureCapacityInternal_d00df 1 = .ok (.getfield 15, 3) := by decide +kernel
theorem dJ5_ensureCapacityInternal_d00df_4 : decode cJ5_ensureCapacityInternal_d00df 4 = .ok (.arraylength, 1) := by decide +kernel
theorem dJ5_ensureCapacityInternal_d00df_5 : decode cJ5_ensureCapacityInternal_d00df 5 = .ok (.aload_n 0, 1) := by decide +kernel
theorem dJ5_ensureCapacityInternal_d00df_6 : decode cJ5_ensureCapacityInternal_d00df 6 = .ok (.getfield 22, 3) := by decide +kernel
theorem dJ5_ensureCapacityInternal_d00df_9 : decode cJ5_ensureCapacityInternal_d00df 9 = .ok (.ishr, 1) := by decide +kernel
theorem dJ5_ensureCapacityInternal_d00df_10 : decode cJ5_ensureCapacityInternal_d00df 10 = .ok (.istore_n 2, 1) := by decide +kernel
theorem dJ5_ensureCapacityInternal_d00df_11 : decode cJ5_ensureCapacityInternal_d00df 11 = .ok (.iload_n 1, 1) := by decide +kernel
theorem dJ5_ensureCapacityInternal_d00df_12 : decode cJ5_ensureCapacityInternal_d00df 12 = .ok (.iload_n 2, 1) := by decide +kernel
theorem dJ5_ensureCapacityInternal_d00df_13 : decode cJ5_ensureCapacityInternal_d00df 13 = .ok (.isub, 1) := by decide +kernel
theorem dJ5_ensureCapacityInternal_d00df_14 : decode cJ5_ensureCapacityInternal_d00df 14 = .ok (.ifCond .le 24, 3) := by decide +kernel
theorem dJ5_ensureCapacityInternal_d00df_17 : decode cJ5_ensureCapacityInternal_d00df 17 = .ok (.aload_n 0, 1) := by decide +kernel
theorem dJ5_ensureCapacityInternal_d00df_18 : decode cJ5_ensureCapacityInternal_d00df 18 = .ok (.aload_n 0, 1) := by decide +kernel
theorem dJ5_ensureCapacityInternal_d00df_19 : decode cJ5_ensureCapacityInternal_d00df 19 = .ok (.getfield 15, 3) := by decide +kernel
theorem dJ5_ensureCapacityInternal_d00df_22 : decode cJ5_ensureCapacityInternal_d00df 22 = .ok (.aload_n 0, 1) := by decide +kernel
theorem dJ5_ensureCapacityInternal_d00df_23 : decode cJ5_ensureCapacityInternal_d00df 23 = .ok (.iload_n 1, 1) := by decide +kernel
theorem dJ5_ensureCapacityInternal_d00df_24 : decode cJ5_ensureCapacityInternal_d00df 24 = .ok (.invokevirtual 104, 3) := by decide +kernel
theorem dJ5_ensureCapacityInternal_d00df_27 : decode cJ5_ensureCapacityInternal_d00df 27 = .ok (.aload_n 0, 1) := by decide +kernel
theorem dJ5_ensureCapacityInternal_d00df_28 : decode cJ5_ensureCapacityInternal_d00df 28 = .ok (.getfield 22, 3) := by decide +kernel
theorem dJ5_ensureCapacityInternal_d00df_31 : decode cJ5_ensureCapacityInternal_d00df 31 = .ok (.ishl, 1) := by decide +kernel
theorem dJ5_ensureCapacityInternal_d00df_32 : decode cJ5_ensureCapacityInternal_d00df 32 = .ok (.invokestatic 108, 3) := by decide +kernel
theorem dJ5_ensureCapacityInternal_d00df_35 : decode cJ5_ensureCapacityInternal_d00df 35 = .ok (.putfield 15, 3) := by decide +kernel
theorem dJ5_ensureCapacityInternal_d00df_38 : decode cJ5_ensureCapacityInternal_d00df 38 = .ok (.return_, 1) := by decide +kernel
theorem dJ5_newCapacity_0f7a4_0 : decode cJ5_newCapacity_0f7a4 0 = .ok (.aload_n 0, 1) := by decide +kernel
theorem dJ5_newCapacity_0f7a4_1 : decode cJ5_newCapacity_0f7a4 1 = .ok (.getfield 15, 3) := by decide +kernel
theorem dJ5_newCapacity_0f7a4_4 : decode cJ5_newCapacity_0f7a4 4 = .ok (.arraylength, 1) := by decide +kernel
theorem dJ5_newCapacity_0f7a4_5 : decode cJ5_newCapacity_0f7a4 5 = .ok (.istore_n 2, 1) := by decide +kernel
theorem dJ5_newCapacity_0f7a4_6 : decode cJ5_newCapacity_0f7a4 6 = .ok (.iload_n 1, 1) := by decide +kernel
theorem dJ5_newCapacity_0f7a4_7 : decode cJ5_newCapacity_0f7a4 7 = .ok (.aload_n 0, 1) := by decide +kernel
theorem dJ5_newCapacity_0f7a4_8 : decode cJ5_newCapacity_0f7a4 8 = .ok (.getfield 22, 3) := by decide +kernel
theorem dJ5_newCapacity_0f7a4_11 : decode cJ5_newCapacity_0f7a4 11 = .ok (.ishl, 1) := by decide +kernel
theorem dJ5_newCapacity_0f7a4_12 : decode cJ5_newCapacity_0f7a4 12 = .ok (.istore_n 3, 1) := by decide +kernel
theorem dJ5_newCapacity_0f7a4_13 : decode cJ5_newCapacity_0f7a4 13 = .ok (.iload_n 3, 1) := by decide +kernel
theorem dJ5_newCapacity_0f7a4_14 : decode cJ5_newCapacity_0f7a4 14 = .ok (.iload_n 2, 1) := by decide +kernel
theorem dJ5_newCapacity_0f7a4_15 : decode cJ5_newCapacity_0f7a4 15 = .ok (.isub, 1) := by decide +kernel
theorem dJ5_newCapacity_0f7a4_16 : decode cJ5_newCapacity_0f7a4 16 = .ok (.istore 4, 2) := by decide +kernel
theorem dJ5_newCapacity_0f7a4_18 : decode cJ5_newCapacity_0f7a4 18 = .ok (.iload_n 2, 1) := by decide +kernel
theorem dJ5_newCapacity_0f7a4_19 : decode cJ5_newCapacity_0f7a4 19 = .ok (.iload 4, 2) := by decide +kernel
theorem dJ5_newCapacity_0f7a4_21 : decode cJ5_newCapacity_0f7a4 21 = .ok (.iload_n 2, 1) := by decide +kernel
theorem dJ5_newCapacity_0f7a4_22 : decode cJ5_newCapacity_0f7a4 22 = .ok (.iconst 2, 1) := by decide +kernel
theorem dJ5_newCapacity_0f7a4_23 : decode cJ5_newCapacity_0f7a4 23 = .ok (.aload_n 0, 1) := by decide +kernel
theorem dJ5_newCapacity_0f7a4_24 : decode cJ5_newCapacity_0f7a4 24 = .ok (.getfield 22, 3) := by decide +kernel
theorem dJ5_newCapacity_0f7a4_27 : decode cJ5_newCapacity_0f7a4 27 = .ok (.ishl, 1) := by decide +kernel
theorem dJ5_newCapacity_0f7a4_28 : decode cJ5_newCapacity_0f7a4 28 = .ok (.iadd, 1) := by decide +kernel
theorem dJ5_newCapacity_0f7a4_29 : decode cJ5_newCapacity_0f7a4 29 = .ok (.invokestatic 114, 3) := by decide +kernel
theorem dJ5_newCapacity_0f7a4_32 : decode cJ5_newCapacity_0f7a4 32 = .ok (.istore 5, 2) := by decide +kernel
theorem dJ5_newCapacity_0f7a4_34 : decode cJ5_newCapacity_0f7a4 34 = .ok (.iload 5, 2) := by decide +kernel
theorem dJ5_newCapacity_0f7a4_36 : decode cJ5_newCapacity_0f7a4 36 = .ok (.ldc 39, 2) := by decide +kernel
theorem dJ5_newCapacity_0f7a4_38 : decode cJ5_newCapacity_0f7a4 38 = .ok (.if_icmp .ne 13, 3) := by decide +kernel
theorem dJ5_newCapacity_0f7a4_41 : decode cJ5_newCapacity_0f7a4 41 = .ok (.new 120, 3) := by decide +kernel
theorem dJ5_newCapacity_0f7a4_44 : decode cJ5_newCapacity_0f7a4 44 = .ok (.dup, 1) := by decide +kernel
theorem dJ5_newCapacity_0f7a4_45 : decode cJ5_newCapacity_0f7a4 45 = .ok (.ldc 122, 2) := by decide +kernel
theorem dJ5_newCapacity_0f7a4_47 : decode cJ5_newCapacity_0f7a4 47 = .ok (.invokespecial 124, 3) := by decide +kernel
theorem dJ5_newCapacity_0f7a4_50 : decode cJ5_newCapacity_0f7a4 50 = .ok (.athrow, 1) := by decide +kernel
theorem dJ5_newCapacity_0f7a4_51 : decode cJ5_newCapacity_0f7a4 51 = .ok (.iload 5, 2) := by decide +kernel
theorem dJ5_newCapacity_0f7a4_53 : decode cJ5_newCapacity_0f7a4 53 = .ok (.aload_n 0, 1) := by decide +kernel
theorem dJ5_newCapacity_0f7a4_54 : decode cJ5_newCapacity_0f7a4 54 = .ok (.getfield 22, 3) := by decide +kernel
theorem dJ5_newCapacity_0f7a4_57 : decode cJ5_newCapacity_0f7a4 57 = .ok (.ishr, 1) := by decide +kernel
theorem dJ5_newCapacity_0f7a4_58 : decode cJ5_newCapacity_0f7a4 58 = .ok (.ireturn, 1) := by decide +kernel
theorem dJ5_inflate_da8c8_0 : decode cJ5_inflate_da8c8 0 = .ok (.aload_n 0, 1) := by decide +kernel
theorem dJ5_inflate_da8c8_1 : decode cJ5_inflate_da8c8 1 = .ok (.invokevirtual 83, 3) := by decide +kernel
theorem dJ5_inflate_da8c8_4 : decode cJ5_inflate_da8c8 4 = .ok (.ifCond .ne 4, 3) := by decide +kernel
theorem dJ5_inflate_da8c8_7 : decode cJ5_inflate_da8c8 7 = .ok (.return_, 1) := by decide +kernel
theorem dJ5_inflate_da8c8_8 : decode cJ5_inflate_da8c8 8 = .ok (.aload_n 0, 1) := by decide +kernel
theorem dJ5_inflate_da8c8_9 : decode cJ5_inflate_da8c8 9 = .ok (.getfield 15, 3) := by decide +kernel
theorem dJ5_inflate_da8c8_12 : decode cJ5_inflate_da8c8 12 = .ok (.arraylength, 1) := by decide +kernel
theorem dJ5_inflate_da8c8_13 : decode cJ5_inflate_da8c8 13 = .ok (.invokestatic 26, 3) := by decide +kernel
theorem dJ5_inflate_da8c8_16 : decode cJ5_inflate_da8c8 16 = .ok (.astore_n 1, 1) := by decide +kernel
theorem dJ5_inflate_da8c8_17 : decode cJ5_inflate_da8c8 17 = .ok (.aload_n 0, 1) := by decide +kernel
theorem dJ5_inflate_da8c8_18 : decode cJ5_inflate_da8c8 18 = .ok (.getfield 15, 3) := by decide +kernel
theorem dJ5_inflate_da8c8_21 : decode cJ5_inflate_da8c8 21 = .ok (.iconst 0, 1) := by decide +kernel
theorem dJ5_inflate_da8c8_22 : decode cJ5_inflate_da8c8 22 = .ok (.aload_n 1, 1) := by decide +kernel
theorem dJ5_inflate_da8c8_23 : decode cJ5_inflate_da8c8 23 = .ok (.iconst 0, 1) := by decide +kernel
theorem dJ5_inflate_da8c8_24 : decode cJ5_inflate_da8c8 24 = .ok (.aload_n 0, 1) := by decide +kernel
theorem dJ5_inflate_da8c8_25 : decode cJ5_inflate_da8c8 25 = .ok (.getfield 79, 3) := by decide +kernel
theorem dJ5_inflate_da8c8_28 : decode cJ5_inflate_da8c8 28 = .ok (.invokestatic 125, 3) := by decide +kernel
theorem dJ5_inflate_da8c8_31 : decode cJ5_inflate_da8c8 31 = .ok (.aload_n 0, 1) := by decide +kernel
theorem dJ5_inflate_da8c8_32 : decode cJ5_inflate_da8c8 32 = .ok (.aload_n 1, 1) := by decide +kernel
theorem dJ5_inflate_da8c8_33 : decode cJ5_inflate_da8c8 33 = .ok (.putfield 15, 3) := by decide +kernel
theorem dJ5_inflate_da8c8_36 : decode cJ5_inflate_da8c8 36 = .ok (.aload_n 0, 1) := by decide +kernel
theorem dJ5_inflate_da8c8_37 : decode cJ5_inflate_da8c8 37 = .ok (.iconst 1, 1) := by decide +kernel
theorem dJ5_inflate_da8c8_38 : decode cJ5_inflate_da8c8 38 = .ok (.putfield 22, 3) := by decide +kernel
theorem dJ5_inflate_da8c8_41 : decode cJ5_inflate_da8c8 41 = .ok (.return_, 1) := by decide +kernel
theorem dJ5_append_cf1ce_0 : decode cJ5_append_cf1ce 0 = .ok (.aload_n 1, 1) := by decide +kernel
theorem dJ5_append_cf1ce_1 : decode cJ5_append_cf1ce 1 = .ok (.ifnonnull 8, 3) := by decide +kernel
theorem dJ5_append_cf1ce_4 : decode cJ5_append_cf1ce 4 = .ok (.aload_n 0, 1) := by decide +kernel
theorem dJ5_append_cf1ce_5 : decode cJ5_append_cf1ce 5 = .ok (.invokevirtual 204, 3) := by decide +kernel
theorem dJ5_append_cf1ce_8 : decode cJ5_append_cf1ce 8 = .ok (.areturn, 1) := by decide +kernel
theorem dJ5_append_cf1ce_9 : decode cJ5_append_cf1ce 9 = .ok (.aload_n 1, 1) := by decide +kernel
theorem dJ5_append_cf1ce_10 : decode cJ5_append_cf1ce 10 = .ok (.invokevirtual 32, 3) := by decide +kernel
theorem dJ5_append_cf1ce_13 : decode cJ5_append_cf1ce 13 = .ok (.istore_n 2, 1) := by decide +kernel
theorem dJ5_append_cf1ce_14 : decode cJ5_append_cf1ce 14 = .ok (.aload_n 0, 1) := by decide +kernel
theorem dJ5_append_cf1ce_15 : decode cJ5_append_cf1ce 15 = .ok (.aload_n 0, 1) := by decide +kernel
theorem dJ5_append_cf1ce_16 : decode cJ5_append_cf1ce 16 = .ok (.getfield 79, 3) := by decide +kernel
theorem dJ5_append_cf1ce_19 : decode cJ5_append_cf1ce 19 = .ok (.iload_n 2, 1) := by decide +kernel
theorem dJ5_append_cf1ce_20 : decode cJ5_append_cf1ce 20 = .ok (.iadd, 1) := by decide +kernel
theorem dJ5_append_cf1ce_21 : decode cJ5_append_cf1ce 21 = .ok (.invokevirtual 100, 3) := by decide +kernel
theorem dJ5_append_cf1ce_24 : decode cJ5_append_cf1ce 24 = .ok (.aload_n 0, 1) := by decide +kernel
theorem dJ5_append_cf1ce_25 : decode cJ5_append_cf1ce 25 = .ok (.aload_n 0, 1) := by decide +kernel
theorem dJ5_append_cf1ce_26 : decode cJ5_append_cf1ce 26 = .ok (.getfield 79, 3) := by decide +kernel
theorem dJ5_append_cf1ce_29 : decode cJ5_append_cf1ce 29 = .ok (.aload_n 1, 1) := by decide +kernel
theorem dJ5_append_cf1ce_30 : decode cJ5_append_cf1ce 30 = .ok (.invokevirtual 208, 3) := by decide +kernel
theorem dJ5_append_cf1ce_33 : decode cJ5_append_cf1ce 33 = .ok (.aload_n 0, 1) := by decide +kernel
theorem dJ5_append_cf1ce_34 : decode cJ5_append_cf1ce 34 = .ok (.dup, 1) := by decide +kernel
theorem dJ5_append_cf1ce_35 : decode cJ5_append_cf1ce 35 = .ok (.getfield 79, 3) := by decide +kernel
theorem dJ5_append_cf1ce_38 : decode cJ5_append_cf1ce 38 = .ok (.iload_n 2, 1) := by decide +kernel
theorem dJ5_append_cf1ce_39 : decode cJ5_append_cf1ce 39 = .ok (.iadd, 1) := by decide +kernel
theorem dJ5_append_cf1ce_40 : decode cJ5_append_cf1ce 40 = .ok (.putfield 79, 3) := by decide +kernel
theorem dJ5_append_cf1ce_43 : decode cJ5_append_cf1ce 43 = .ok (.aload_n 0, 1) := by decide +kernel
theorem dJ5_append_cf1ce_44 : decode cJ5_append_cf1ce 44 = .ok (.areturn, 1) := by decide +kernel
theorem dJ5_appendNull_278bc_0 : decode cJ5_appendNull_278bc 0 = .ok (.aload_n 0, 1) := by decide +kernel
theorem dJ5_appendNull_278bc_1 : decode cJ5_appendNull_278bc 1 = .ok (.aload_n 0, 1) := by decide +kernel
theorem dJ5_appendNull_278bc_2 : decode cJ5_appendNull_278bc 2 = .ok (.getfield 79, 3) := by decide +kernel
theorem dJ5_appendNull_278bc_5 : decode cJ5_appendNull_278bc 5 = .ok (.iconst 4, 1) := by decide +kernel
theorem dJ5_appendNull_278bc_6 : decode cJ5_appendNull_278bc 6 = .ok (.iadd, 1) := by decide +kernel
theorem dJ5_appendNull_278bc_7 : decode cJ5_appendNull_278bc 7 = .ok (.invokevirtual 100, 3) := by decide +kernel
theorem dJ5_appendNull_278bc_10 : decode cJ5_appendNull_278bc 10 = .ok (.aload_n 0, 1) := by decide +kernel
theorem dJ5_appendNull_278bc_11 : decode cJ5_appendNull_278bc 11 = .ok (.getfield 79, 3) := by decide +kernel
theorem dJ5_appendNull_278bc_14 : decode cJ5_appendNull_278bc 14 = .ok (.istore_n 1, 1) := by decide +kernel
theorem dJ5_appendNull_278bc_15 : decode cJ5_appendNull_278bc 15 = .ok (.aload_n 0, 1) := by decide +kernel
theorem dJ5_appendNull_278bc_16 : decode cJ5_appendNull_278bc 16 = .ok (.getfield 15, 3) := by decide +kernel
theorem dJ5_appendNull_278bc_19 : decode cJ5_appendNull_278bc 19 = .ok (.astore_n 2, 1) := by decide +kernel
theorem dJ5_appendNull_278bc_20 : decode cJ5_appendNull_278bc 20 = .ok (.aload_n 0, 1) := by decide +kernel
theorem dJ5_appendNull_278bc_21 : decode cJ5_appendNull_278bc 21 = .ok (.invokevirtual 83, 3) := by decide +kernel
theorem dJ5_appendNull_278bc_24 : decode cJ5_appendNull_278bc 24 = .ok (.ifCond .eq 38, 3) := by decide +kernel
theorem dJ5_appendNull_278bc_27 : decode cJ5_appendNull_278bc 27 = .ok (.aload_n 2, 1) := by decide +kernel
theorem dJ5_appendNull_278bc_28 : decode cJ5_appendNull_278bc 28 = .ok (.iload_n 1, 1) := by decide +kernel
theorem dJ5_appendNull_278bc_29 : decode cJ5_appendNull_278bc 29 = .ok (.iinc 1 1, 3) := by decide +kernel
theorem dJ5_appendNull_278bc_32 : decode cJ5_appendNull_278bc 32 = .ok (.bipush 110, 2) := by decide +kernel
theorem dJ5_appendNull_278bc_34 : decode cJ5_appendNull_278bc 34 = .ok (.bastore, 1) := by decide +kernel
theorem dJ5_appendNull_278bc_35 : decode cJ5_appendNull_278bc 35 = .ok (.aload_n 2, 1) := by decide +kernel
theorem dJ5_appendNull_278bc_36 : decode cJ5_appendNull_278bc 36 = .ok (.iload_n 1, 1) := by decide +kernel
theorem dJ5_appendNull_278bc_37 : decode cJ5_appendNull_278bc 37 = .ok (.iinc 1 1, 3) := by decide +kernel
theorem dJ5_appendNull_278bc_40 : decode cJ5_appendNull_278bc 40 = .ok (.bipush 117, 2) := by decide +kernel
theorem dJ5_appendNull_278bc_42 : decode cJ5_appendNull_278bc 42 = .ok (.bastore, 1) := by decide +kernel
theorem dJ5_appendNull_278bc_43 : decode cJ5_appendNull_278bc 43 = .ok (.aload_n 2, 1) := by decide +kernel
theorem dJ5_appendNull_278bc_44 : decode cJ5_appendNull_278bc 44 = .ok (.iload_n 1, 1) := by decide +kernel
theorem dJ5_appendNull_278bc_45 : decode cJ5_appendNull_278bc 45 = .ok (.iinc 1 1, 3) := by decide +kernel
theorem dJ5_appendNull_278bc_48 : decode cJ5_appendNull_278bc 48 = .ok (.bipush 108, 2) := by decide +kernel
theorem dJ5_appendNull_278bc_50 : decode cJ5_appendNull_278bc 50 = .ok (.bastore, 1) := by decide +kernel
theorem dJ5_appendNull_278bc_51 : decode cJ5_appendNull_278bc 51 = .ok (.aload_n 2, 1) := by decide +kernel
theorem dJ5_appendNull_278bc_52 : decode cJ5_appendNull_278bc 52 = .ok (.iload_n 1, 1) := by decide +kernel
theorem dJ5_appendNull_278bc_53 : decode cJ5_appendNull_278bc 53 = .ok (.iinc 1 1, 3) := by decide +kernel
theorem dJ5_appendNull_278bc_56 : decode cJ5_appendNull_278bc 56 = .ok (.bipush 108, 2) := by decide +kernel
theorem dJ5_appendNull_278bc_58 : decode cJ5_appendNull_278bc 58 = .ok (.bastore, 1) := by decide +kernel
theorem dJ5_appendNull_278bc_59 : decode cJ5_appendNull_278bc 59 = .ok (.goto 17, 3) := by decide +kernel
theorem dJ5_appendNull_278bc_62 : decode cJ5_appendNull_278bc 62 = .ok (.aload_n 2, 1) := by decide +kernel
theorem dJ5_appendNull_278bc_63 : decode cJ5_appendNull_278bc 63 = .ok (.iload_n 1, 1) := by decide +kernel
theorem dJ5_appendNull_278bc_64 : decode cJ5_appendNull_278bc 64 = .ok (.bipush 110, 2) := by decide +kernel
theorem dJ5_appendNull_278bc_66 : decode cJ5_appendNull_278bc 66 = .ok (.bipush 117, 2) := by decide +kernel
theorem dJ5_appendNull_278bc_68 : decode cJ5_appendNull_278bc 68 = .ok (.bipush 108, 2) := by decide +kernel
theorem dJ5_appendNull_278bc_70 : decode cJ5_appendNull_278bc 70 = .ok (.bipush 108, 2) := by decide +kernel
theorem dJ5_appendNull_278bc_72 : decode cJ5_appendNull_278bc 72 = .ok (.invokestatic 226, 3) := by decide +kernel
theorem dJ5_appendNull_278bc_75 : decode cJ5_appendNull_278bc 75 = .ok (.istore_n 1, 1) := by decide +kernel
theorem dJ5_appendNull_278bc_76 : decode cJ5_appendNull_278bc 76 = .ok (.aload_n 0, 1) := by decide +kernel
theorem dJ5_appendNull_278bc_77 : decode cJ5_appendNull_278bc 77 = .ok (.iload_n 1, 1) := by decide +kernel
theorem dJ5_appendNull_278bc_78 : decode cJ5_appendNull_278bc 78 = .ok (.putfield 79, 3) := by decide +kernel
theorem dJ5_appendNull_278bc_81 : decode cJ5_appendNull_278bc 81 = .ok (.aload_n 0, 1) := by decide +kernel
theorem dJ5_appendNull_278bc_82 : decode cJ5_appendNull_278bc 82 = .ok (.areturn, 1) := by decide +kernel
theorem dJ5_append_c97b9_0 : decode cJ5_append_c97b9 0 = .ok (.aload_n 0, 1) := by decide +kernel
theorem dJ5_append_c97b9_1 : decode cJ5_append_c97b9 1 = .ok (.getfield 79, 3) := by decide +kernel
theorem dJ5_append_c97b9_4 : decode cJ5_append_c97b9 4 = .ok (.istore_n 2, 1) := by decide +kernel
theorem dJ5_append_c97b9_5 : decode cJ5_append_c97b9 5 = .ok (.iload_n 2, 1) := by decide +kernel
theorem dJ5_append_c97b9_6 : decode cJ5_append_c97b9 6 = .ok (.iload_n 1, 1) := by decide +kernel
theorem dJ5_append_c97b9_7 : decode cJ5_append_c97b9 7 = .ok (.invokestatic 245, 3) := by decide +kernel
theorem dJ5_append_c97b9_10 : decode cJ5_append_c97b9 10 = .ok (.iadd, 1) := by decide +kernel
theorem dJ5_append_c97b9_11 : decode cJ5_append_c97b9 11 = .ok (.istore_n 3, 1) := by decide +kernel
theorem dJ5_append_c97b9_12 : decode cJ5_append_c97b9 12 = .ok (.aload_n 0, 1) := by decide +kernel
theorem dJ5_append_c97b9_13 : decode cJ5_append_c97b9 13 = .ok (.iload_n 3, 1) := by decide +kernel
theorem dJ5_append_c97b9_14 : decode cJ5_append_c97b9 14 = .ok (.invokevirtual 100, 3) := by decide +kernel
theorem dJ5_append_c97b9_17 : decode cJ5_append_c97b9 17 = .ok (.aload_n 0, 1) := by decide +kernel
theorem dJ5_append_c97b9_18 : decode cJ5_append_c97b9 18 = .ok (.invokevirtual 83, 3) := by decide +kernel
theorem dJ5_append_c97b9_21 : decode cJ5_append_c97b9 21 = .ok (.ifCond .eq 16, 3) := by decide +kernel
theorem dJ5_append_c97b9_24 : decode cJ5_append_c97b9 24 = .ok (.iload_n 1, 1) := by decide +kernel
theorem dJ5_append_c97b9_25 : decode cJ5_append_c97b9 25 = .ok (.iload_n 3, 1) := by decide +kernel
theorem dJ5_append_c97b9_26 : decode cJ5_append_c97b9 26 = .ok (.aload_n 0, 1) := by decide +kernel
theorem dJ5_append_c97b9_27 : decode cJ5_append_c97b9 27 = .ok (.getfield 15, 3) := by decide +kernel
theorem dJ5_append_c97b9_30 : decode cJ5_append_c97b9 30 = .ok (.invokestatic 248, 3) := by decide +kernel
theorem dJ5_append_c97b9_33 : decode cJ5_append_c97b9 33 = .ok (.pop, 1) := by decide +kernel
theorem dJ5_append_c97b9_34 : decode cJ5_append_c97b9 34 = .ok (.goto 14, 3) := by decide +kernel
theorem dJ5_append_c97b9_37 : decode cJ5_append_c97b9 37 = .ok (.iload_n 1, 1) := by decide +kernel
theorem dJ5_append_c97b9_38 : decode cJ5_append_c97b9 38 = .ok (.iload_n 2, 1) := by decide +kernel
theorem dJ5_append_c97b9_39 : decode cJ5_append_c97b9 39 = .ok (.iload_n 3, 1) := by decide +kernel
theorem dJ5_append_c97b9_40 : decode cJ5_append_c97b9 40 = .ok (.aload_n 0, 1) := by decide +kernel
theorem dJ5_append_c97b9_41 : decode cJ5_append_c97b9 41 = .ok (.getfield 15, 3) := by decide +kernel
theorem dJ5_append_c97b9_44 : decode cJ5_append_c97b9 44 = .ok (.invokestatic 251, 3) := by decide +kernel
theorem dJ5_append_c97b9_47 : decode cJ5_append_c97b9 47 = .ok (.pop, 1) := by decide +kernel
theorem dJ5_append_c97b9_48 : decode cJ5_append_c97b9 48 = .ok (.aload_n 0, 1) := by decide +kernel
theorem dJ5_append_c97b9_49 : decode cJ5_append_c97b9 49 = .ok (.iload_n 3, 1) := by decide +kernel
theorem dJ5_append_c97b9_50 : decode cJ5_append_c97b9 50 = .ok (.putfield 79, 3) := by decide +kernel
theorem dJ5_append_c97b9_53 : decode cJ5_append_c97b9 53 = .ok (.aload_n 0, 1) := by decide +kernel
theorem dJ5_append_c97b9_54 : decode cJ5_append_c97b9 54 = .ok (.areturn, 1) := by decide +kernel
theorem dJ5_getValue_6d5f1_0 : decode cJ5_getValue_6d5f1 0 = .ok (.aload_n 0, 1) := by decide +kernel
theorem dJ5_getValue_6d5f1_1 : decode cJ5_getValue_6d5f1 1 = .ok (.getfield 15, 3) := by decide +kernel
theorem dJ5_getValue_6d5f1_4 : decode cJ5_getValue_6d5f1 4 = .ok (.areturn, 1) := by decide +kernel
theorem dJ5_isLatin1_aae02_0 : decode cJ5_isLatin1_aae02 0 = .ok (.getstatic 18, 3) := by decide +kernel
theorem dJ5_isLatin1_aae02_3 : decode cJ5_isLatin1_aae02 3 = .ok (.ifCond .eq 14, 3) := by decide +kernel
theorem dJ5_isLatin1_aae02_6 : decode cJ5_isLatin1_aae02 6 = .ok (.aload_n 0, 1) := by decide +kernel
theorem dJ5_isLatin1_aae02_7 : decode cJ5_isLatin1_aae02 7 = .ok (.getfield 22, 3) := by decide +kernel
theorem dJ5_isLatin1_aae02_10 : decode cJ5_isLatin1_aae02 10 = .ok (.ifCond .ne 7, 3) := by decide +kernel
theorem dJ5_isLatin1_aae02_13 : decode cJ5_isLatin1_aae02 13 = .ok (.iconst 1, 1) := by decide +kernel
theorem dJ5_isLatin1_aae02_14 : decode cJ5_isLatin1_aae02 14 = .ok (.goto 4, 3) := by decide +kernel
theorem dJ5_isLatin1_aae02_17 : decode cJ5_isLatin1_aae02 17 = .ok (.iconst 0, 1) := by decide +kernel
theorem dJ5_isLatin1_aae02_18 : decode cJ5_isLatin1_aae02 18 = .ok (.ireturn, 1) := by decide +kernel
theorem dJ5_inflateIfNeededFor_a7421_0 : decode cJ5_inflateIfNeededFor_a7421 0 = .ok (.getstatic 18, 3) := by decide +kernel
theorem dJ5_inflateIfNeededFor_a7421_3 : decode cJ5_inflateIfNeededFor_a7421 3 = .ok (.ifCond .eq 18, 3) := by decide +kernel
theorem dJ5_inflateIfNeededFor_a7421_6 : decode cJ5_inflateIfNeededFor_a7421 6 = .ok (.aload_n 0, 1) := by decide +kernel
theorem dJ5_inflateIfNeededFor_a7421_7 : decode cJ5_inflateIfNeededFor_a7421 7 = .ok (.getfield 22, 3) := by decide +kernel
theorem dJ5_inflateIfNeededFor_a7421_10 : decode cJ5_inflateIfNeededFor_a7421 10 = .ok (.aload_n 1, 1) := by decide +kernel
theorem dJ5_inflateIfNeededFor_a7421_11 : decode cJ5_inflateIfNeededFor_a7421 11 = .ok (.invokevirtual 40, 3) := by decide +kernel
theorem dJ5_inflateIfNeededFor_a7421_14 : decode cJ5_inflateIfNeededFor_a7421 14 = .ok (.if_icmp .eq 7, 3) := by decide +kernel
theorem dJ5_inflateIfNeededFor_a7421_17 : decode cJ5_inflateIfNeededFor_a7421 17 = .ok (.aload_n 0, 1) := by decide +kernel
theorem dJ5_inflateIfNeededFor_a7421_18 : decode cJ5_inflateIfNeededFor_a7421 18 = .ok (.invokevirtual 195, 3) := by decide +kernel
theorem dJ5_inflateIfNeededFor_a7421_21 : decode cJ5_inflateIfNeededFor_a7421 21 = .ok (.return_, 1) := by decide +kernel
theorem dJ5_putStringAt_47b60_0 : decode cJ5_putStringAt_47b60 0 = .ok (.aload_n 0, 1) := by decide +kernel
theorem dJ5_putStringAt_47b60_1 : decode cJ5_putStringAt_47b60 1 = .ok (.aload_n 2, 1) := by decide +kernel
theorem dJ5_putStringAt_47b60_2 : decode cJ5_putStringAt_47b60 2 = .ok (.invokevirtual 397, 3) := by decide +kernel
theorem dJ5_putStringAt_47b60_5 : decode cJ5_putStringAt_47b60 5 = .ok (.aload_n 2, 1) := by decide +kernel
theorem dJ5_putStringAt_47b60_6 : decode cJ5_putStringAt_47b60 6 = .ok (.aload_n 0, 1) := by decide +kernel
theorem dJ5_putStringAt_47b60_7 : decode cJ5_putStringAt_47b60 7 = .ok (.getfield 15, 3) := by decide +kernel
theorem dJ5_putStringAt_47b60_10 : decode cJ5_putStringAt_47b60 10 = .ok (.iload_n 1, 1) := by decide +kernel
theorem dJ5_putStringAt_47b60_11 : decode cJ5_putStringAt_47b60 11 = .ok (.aload_n 0, 1) := by decide +kernel
theorem dJ5_putStringAt_47b60_12 : decode cJ5_putStringAt_47b60 12 = .ok (.getfield 22, 3) := by decide +kernel
theorem dJ5_putStringAt_47b60_15 : decode cJ5_putStringAt_47b60 15 = .ok (.invokevirtual 399, 3) := by decide +kernel
theorem dJ5_putStringAt_47b60_18 : decode cJ5_putStringAt_47b60 18 = .ok (.return_, 1) := by decide +kernel
theorem dJ6_getChars_ba4f3_0 : decode cJ6_getChars_ba4f3 0 = .ok (.iload_n 1, 1) := by decide +kernel
theorem dJ6_getChars_ba4f3_1 : decode cJ6_getChars_ba4f3 1 = .ok (.istore 5, 2) := by decide +kernel
theorem dJ6_getChars_ba4f3_3 : decode cJ6_getChars_ba4f3 3 = .ok (.iload_n 0, 1) := by decide +kernel
theorem dJ6_getChars_ba4f3_4 : decode cJ6_getChars_ba4f3 4 = .ok (.ifCond .ge 7, 3) := by decide +kernel
theorem dJ6_getChars_ba4f3_7 : decode cJ6_getChars_ba4f3 7 = .ok (.iconst 1, 1) := by decide +kernel
theorem dJ6_getChars_ba4f3_8 : decode cJ6_getChars_ba4f3 8 = .ok (.goto 4, 3) := by decide +kernel
theorem dJ6_getChars_ba4f3_11 : decode cJ6_getChars_ba4f3 11 = .ok (.iconst 0, 1) := by decide +kernel
theorem dJ6_getChars_ba4f3_12 : decode cJ6_getChars_ba4f3 12 = .ok (.istore 6, 2) := by decide +kernel
theorem dJ6_getChars_ba4f3_14 : decode cJ6_getChars_ba4f3 14 = .ok (.iload 6, 2) := by decide +kernel
theorem dJ6_getChars_ba4f3_16 : decode cJ6_getChars_ba4f3 16 = .ok (.ifCond .ne 6, 3) := by decide +kernel
theorem dJ6_getChars_ba4f3_19 : decode cJ6_getChars_ba4f3 19 = .ok (.iload_n 0, 1) := by decide +kernel
theorem dJ6_getChars_ba4f3_20 : decode cJ6_getChars_ba4f3 20 = .ok (.ineg, 1) := by decide +kernel
theorem dJ6_getChars_ba4f3_21 : decode cJ6_getChars_ba4f3 21 = .ok (.istore_n 0, 1) := by decide +kernel
theorem dJ6_getChars_ba4f3_22 : decode cJ6_getChars_ba4f3 22 = .ok (.iload_n 0, 1) := by decide +kernel
theorem dJ6_getChars_ba4f3_23 : decode cJ6_getChars_ba4f3 23 = .ok (.bipush (-100), 2) := by decide +kernel
theorem dJ6_getChars_ba4f3_25 : decode cJ6_getChars_ba4f3 25 = .ok (.if_icmp .gt 47, 3) := by decide +kernel
theorem dJ6_getChars_ba4f3_28 : decode cJ6_getChars_ba4f3 28 = .ok (.iload_n 0, 1) := by decide +kernel
theorem dJ6_getChars_ba4f3_29 : decode cJ6_getChars_ba4f3 29 = .ok (.bipush 100, 2) := by decide +kernel
theorem dJ6_getChars_ba4f3_31 : decode cJ6_getChars_ba4f3 31 = .ok (.idiv, 1) := by decide +kernel
theorem dJ6_getChars_ba4f3_32 : decode cJ6_getChars_ba4f3 32 = .ok (.istore_n 3, 1) := by decide +kernel
theorem dJ6_getChars_ba4f3_33 : decode cJ6_getChars_ba4f3 33 = .ok (.iload_n 3, 1) := by decide +kernel
theorem dJ6_getChars_ba4f3_34 : decode cJ6_getChars_ba4f3 34 = .ok (.bipush 100, 2) := by decide +kernel
theorem dJ6_getChars_ba4f3_36 : decode cJ6_getChars_ba4f3 36 = .ok (.imul, 1) := by decide +kernel
theorem dJ6_getChars_ba4f3_37 : decode cJ6_getChars_ba4f3 37 = .ok (.iload_n 0, 1) := by decide +kernel
theorem dJ6_getChars_ba4f3_38 : decode cJ6_getChars_ba4f3 38 = .ok (.isub, 1) := by decide +kernel
theorem dJ6_getChars_ba4f3_39 : decode cJ6_getChars_ba4f3 39 = .ok (.istore 4, 2) := by decide +kernel
theorem dJ6_getChars_ba4f3_41 : decode cJ6_getChars_ba4f3 41 = .ok (.iload_n 3, 1) := by decide +kernel
theorem dJ6_getChars_ba4f3_42 : decode cJ6_getChars_ba4f3 42 = .ok (.istore_n 0, 1) := by decide +kernel
theorem dJ6_getChars_ba4f3_43 : decode cJ6_getChars_ba4f3 43 = .ok (.aload_n 2, 1) := by decide +kernel
theorem dJ6_getChars_ba4f3_44 : decode cJ6_getChars_ba4f3 44 = .ok (.iinc 5 (-1), 3) := by decide +kernel
theorem dJ6_getChars_ba4f3_47 : decode cJ6_getChars_ba4f3 47 = .ok (.iload 5, 2) := by decide +kernel
theorem dJ6_getChars_ba4f3_49 : decode cJ6_getChars_ba4f3 49 = .ok (.getstatic 83, 3) := by decide +kernel
theorem dJ6_getChars_ba4f3_52 : decode cJ6_getChars_ba4f3 52 = .ok (.iload 4, 2) := by decide +kernel
theorem dJ6_getChars_ba4f3_54 : decode cJ6_getChars_ba4f3 54 = .ok (.baload, 1) := by decide +kernel
theorem dJ6_getChars_ba4f3_55 : decode cJ6_getChars_ba4f3 55 = .ok (.bastore, 1) := by decide +kernel
theorem dJ6_getChars_ba4f3_56 : decode cJ6_getChars_ba4f3 56 = .ok (.aload_n 2, 1) := by decide +kernel
theorem dJ6_getChars_ba4f3_57 : decode cJ6_getChars_ba4f3 57 = .ok (.iinc 5 (-1), 3) := by decide +kernel
theorem dJ6_getChars_ba4f3_60 : decode cJ6_getChars_ba4f3 60 = .ok (.iload 5, 2) := by decide +kernel
theorem dJ6_getChars_ba4f3_62 : decode cJ6_getChars_ba4f3 62 = .ok (.getstatic 87, 3) := by decide +kernel
theorem dJ6_getChars_ba4f3_65 : decode cJ6_getChars_ba4f3 65 = .ok (.iload 4, 2) := by decide +kernel
theorem dJ6_getChars_ba4f3_67 : decode cJ6_getChars_ba4f3 67 = .ok (.baload, 1) := by decide +kernel
theorem dJ6_getChars_ba4f3_68 : decode cJ6_getChars_ba4f3 68 = .ok (.bastore, 1) := by decide +kernel
theorem dJ6_getChars_ba4f3_69 : decode cJ6_getChars_ba4f3 69 = .ok (.goto (-47), 3) := by decide +kernel
theorem dJ6_getChars_ba4f3_72 : decode cJ6_getChars_ba4f3 72 = .ok (.aload_n 2, 1) := by decide +kernel
theorem dJ6_getChars_ba4f3_73 : decode cJ6_getChars_ba4f3 73 = .ok (.iinc 5 (-1), 3) := by decide +kernel
theorem dJ6_getChars_ba4f3_76 : decode cJ6_getChars_ba4f3 76 = .ok (.iload 5, 2) := by decide +kernel
theorem dJ6_getChars_ba4f3_78 : decode cJ6_getChars_ba4f3 78 = .ok (.getstatic 83, 3) := by decide +kernel
theorem dJ6_getChars_ba4f3_81 : decode cJ6_getChars_ba4f3 81 = .ok (.iload_n 0, 1) := by decide +kernel
theorem dJ6_getChars_ba4f3_82 : decode cJ6_getChars_ba4f3 82 = .ok (.ineg, 1) := by decide +kernel
theorem dJ6_getChars_ba4f3_83 : decode cJ6_getChars_ba4f3 83 = .ok (.baload, 1) := by decide +kernel
theorem dJ6_getChars_ba4f3_84 : decode cJ6_getChars_ba4f3 84 = .ok (.bastore, 1) := by decide +kernel
theorem dJ6_getChars_ba4f3_85 : decode cJ6_getChars_ba4f3 85 = .ok (.iload_n 0, 1) := by decide +kernel
theorem dJ6_getChars_ba4f3_86 : decode cJ6_getChars_ba4f3 86 = .ok (.bipush (-9), 2) := by decide +kernel
theorem dJ6_getChars_ba4f3_88 : decode cJ6_getChars_ba4f3 88 = .ok (.if_icmp .ge 16, 3) := by decide +kernel
theorem dJ6_getChars_ba4f3_91 : decode cJ6_getChars_ba4f3 91 = .ok (.aload_n 2, 1) := by decide +kernel
theorem dJ6_getChars_ba4f3_92 : decode cJ6_getChars_ba4f3 92 = .ok (.iinc 5 (-1), 3) := by decide +kernel
theorem dJ6_getChars_ba4f3_95 : decode cJ6_getChars_ba4f3 95 = .ok (.iload 5, 2) := by decide +kernel
theorem dJ6_getChars_ba4f3_97 : decode cJ6_getChars_ba4f3 97 = .ok (.getstatic 87, 3) := by decide +kernel
theorem dJ6_getChars_ba4f3_100 : decode cJ6_getChars_ba4f3 100 = .ok (.iload_n 0, 1) := by decide +kernel
theorem dJ6_getChars_ba4f3_101 : decode cJ6_getChars_ba4f3 101 = .ok (.ineg, 1) := by decide +kernel
theorem dJ6_getChars_ba4f3_102 : decode cJ6_getChars_ba4f3 102 = .ok (.baload, 1) := by decide +kernel
theorem dJ6_getChars_ba4f3_103 : decode cJ6_getChars_ba4f3 103 = .ok (.bastore, 1) := by decide +kernel
theorem dJ6_getChars_ba4f3_104 : decode cJ6_getChars_ba4f3 104 = .ok (.iload 6, 2) := by decide +kernel
theorem dJ6_getChars_ba4f3_106 : decode cJ6_getChars_ba4f3 106 = .ok (.ifCond .eq 12, 3) := by decide +kernel
theorem dJ6_getChars_ba4f3_109 : decode cJ6_getChars_ba4f3 109 = .ok (.aload_n 2, 1) := by decide +kernel
theorem dJ6_getChars_ba4f3_110 : decode cJ6_getChars_ba4f3 110 = .ok (.iinc 5 (-1), 3) := by decide +kernel
theorem dJ6_getChars_ba4f3_113 : decode cJ6_getChars_ba4f3 113 = .ok (.iload 5, 2) := by decide +kernel
theorem dJ6_getChars_ba4f3_115 : decode cJ6_getChars_ba4f3 115 = .ok (.bipush 45, 2) := by decide +kernel
theorem dJ6_getChars_ba4f3_117 : decode cJ6_getChars_ba4f3 117 = .ok (.bastore, 1) := by decide +kernel
theorem dJ6_getChars_ba4f3_118 : decode cJ6_getChars_ba4f3 118 = .ok (.iload 5, 2) := by decide +kernel
theorem dJ6_getChars_ba4f3_120 : decode cJ6_getChars_ba4f3 120 = .ok (.ireturn, 1) := by decide +kernel
theorem dJ6_stringSize_0f7a4_0 : decode cJ6_stringSize_0f7a4 0 = .ok (.iconst 1, 1) := by decide +kernel
theorem dJ6_stringSize_0f7a4_1 : decode cJ6_stringSize_0f7a4 1 = .ok (.istore_n 1, 1) := by decide +kernel
theorem dJ6_stringSize_0f7a4_2 : decode cJ6_stringSize_0f7a4 2 = .ok (.iload_n 0, 1) := by decide +kernel
theorem dJ6_stringSize_0f7a4_3 : decode cJ6_stringSize_0f7a4 3 = .ok (.ifCond .lt 8, 3) := by decide +kernel
theorem dJ6_stringSize_0f7a4_6 : decode cJ6_stringSize_0f7a4 6 = .ok (.iconst 0, 1) := by decide +kernel
theorem dJ6_stringSize_0f7a4_7 : decode cJ6_stringSize_0f7a4 7 = .ok (.istore_n 1, 1) := by decide +kernel
theorem dJ6_stringSize_0f7a4_8 : decode cJ6_stringSize_0f7a4 8 = .ok (.iload_n 0, 1) := by decide +kernel
theorem dJ6_stringSize_0f7a4_9 : decode cJ6_stringSize_0f7a4 9 = .ok (.ineg, 1) := by decide +kernel
theorem dJ6_stringSize_0f7a4_10 : decode cJ6_stringSize_0f7a4 10 = .ok (.istore_n 0, 1) := by decide +kernel
theorem dJ6_stringSize_0f7a4_11 : decode cJ6_stringSize_0f7a4 11 = .ok (.bipush (-10), 2) := by decide +kernel
theorem dJ6_stringSize_0f7a4_13 : decode cJ6_stringSize_0f7a4 13 = .ok (.istore_n 2, 1) := by decide +kernel
theorem dJ6_stringSize_0f7a4_14 : decode cJ6_stringSize_0f7a4 14 = .ok (.iconst 1, 1) := by decide +kernel
theorem dJ6_stringSize_0f7a4_15 : decode cJ6_stringSize_0f7a4 15 = .ok (.istore_n 3, 1) := by decide +kernel
theorem dJ6_stringSize_0f7a4_16 : decode cJ6_stringSize_0f7a4 16 = .ok (.iload_n 3, 1) := by decide +kernel
theorem dJ6_stringSize_0f7a4_17 : decode cJ6_stringSize_0f7a4 17 = .ok (.bipush 10, 2) := by decide +kernel
theorem dJ6_stringSize_0f7a4_19 : decode cJ6_stringSize_0f7a4 19 = .ok (.if_icmp .ge 23, 3) := by decide +kernel
theorem dJ6_stringSize_0f7a4_22 : decode cJ6_stringSize_0f7a4 22 = .ok (.iload_n 0, 1) := by decide +kernel
theorem dJ6_stringSize_0f7a4_23 : decode cJ6_stringSize_0f7a4 23 = .ok (.iload_n 2, 1) := by decide +kernel
theorem dJ6_stringSize_0f7a4_24 : decode cJ6_stringSize_0f7a4 24 = .ok (.if_icmp .le 7, 3) := by decide +kernel
theorem dJ6_stringSize_0f7a4_27 : decode cJ6_stringSize_0f7a4 27 = .ok (.iload_n 3, 1) := by decide +kernel
theorem dJ6_stringSize_0f7a4_28 : decode cJ6_stringSize_0f7a4 28 = .ok (.iload_n 1, 1) := by decide +kernel
theorem dJ6_stringSize_0f7a4_29 : decode cJ6_stringSize_0f7a4 29 = .ok (.iadd, 1) := by decide +kernel
theorem dJ6_stringSize_0f7a4_30 : decode cJ6_stringSize_0f7a4 30 = .ok (.ireturn, 1) := by decide +kernel
theorem dJ6_stringSize_0f7a4_31 : decode cJ6_stringSize_0f7a4 31 = .ok (.bipush 10, 2) := by decide +kernel
theorem dJ6_stringSize_0f7a4_33 : decode cJ6_stringSize_0f7a4 33 = .ok (.iload_n 2, 1) := by decide +kernel
theorem dJ6_stringSize_0f7a4_34 : decode cJ6_stringSize_0f7a4 34 = .ok (.imul, 1) := by decide +kernel
theorem dJ6_stringSize_0f7a4_35 : decode cJ6_stringSize_0f7a4 35 = .ok (.istore_n 2, 1) := by decide +kernel
theorem dJ6_stringSize_0f7a4_36 : decode cJ6_stringSize_0f7a4 36 = .ok (.iinc 3 1, 3) := by decide +kernel
theorem dJ6_stringSize_0f7a4_39 : decode cJ6_stringSize_0f7a4 39 = .ok (.goto (-23), 3) := by decide +kernel
theorem dJ6_stringSize_0f7a4_42 : decode cJ6_stringSize_0f7a4 42 = .ok (.bipush 10, 2) := by decide +kernel
theorem dJ6_stringSize_0f7a4_44 : decode cJ6_stringSize_0f7a4 44 = .ok (.iload_n 1, 1) := by decide +kernel
theorem dJ6_stringSize_0f7a4_45 : decode cJ6_stringSize_0f7a4 45 = .ok (.iadd, 1) := by decide +kernel
theorem dJ6_stringSize_0f7a4_46 : decode cJ6_stringSize_0f7a4 46 = .ok (.ireturn, 1) := by decide +kernel
theorem dJ9_floorDiv_f86c9_0 : decode cJ9_floorDiv_f86c9 0 = .ok (.lload_n 0, 1) := by decide +kernel
theorem dJ9_floorDiv_f86c9_1 : decode cJ9_floorDiv_f86c9 1 = .ok (.lload_n 2, 1) := by decide +kernel
theorem dJ9_floorDiv_f86c9_2 : decode cJ9_floorDiv_f86c9 2 = .ok (.ldiv, 1) := by decide +kernel
theorem dJ9_floorDiv_f86c9_3 : decode cJ9_floorDiv_f86c9 3 = .ok (.lstore 4, 2) := by decide +kernel
theorem dJ9_floorDiv_f86c9_5 : decode cJ9_floorDiv_f86c9 5 = .ok (.lload_n 0, 1) := by decide +kernel
theorem dJ9_floorDiv_f86c9_6 : decode cJ9_floorDiv_f86c9 6 = .ok (.lload_n 2, 1) := by decide +kernel
theorem dJ9_floorDiv_f86c9_7 : decode cJ9_floorDiv_f86c9 7 = .ok (.lxor, 1) := by decide +kernel
theorem dJ9_floorDiv_f86c9_8 : decode cJ9_floorDiv_f86c9 8 = .ok (.lconst 0, 1) := by decide +kernel
theorem dJ9_floorDiv_f86c9_9 : decode cJ9_floorDiv_f86c9 9 = .ok (.lcmp, 1) := by decide +kernel
theorem dJ9_floorDiv_f86c9_10 : decode cJ9_floorDiv_f86c9 10 = .ok (.ifCond .ge 17, 3) := by decide +kernel
theorem dJ9_floorDiv_f86c9_13 : decode cJ9_floorDiv_f86c9 13 = .ok (.lload 4, 2) := by decide +kernel
theorem dJ9_floorDiv_f86c9_15 : decode cJ9_floorDiv_f86c9 15 = .ok (.lload_n 2, 1) := by decide +kernel
theorem dJ9_floorDiv_f86c9_16 : decode cJ9_floorDiv_f86c9 16 = .ok (.lmul, 1) := by decide +kernel
theorem dJ9_floorDiv_f86c9_17 : decode cJ9_floorDiv_f86c9 17 = .ok (.lload_n 0, 1) := by decide +kernel
theorem dJ9_floorDiv_f86c9_18 : decode cJ9_floorDiv_f86c9 18 = .ok (.lcmp, 1) := by decide +kernel
theorem dJ9_floorDiv_f86c9_19 : decode cJ9_floorDiv_f86c9 19 = .ok (.ifCond .eq 8, 3) := by decide +kernel
theorem dJ9_floorDiv_f86c9_22 : decode cJ9_floorDiv_f86c9 22 = .ok (.lload 4, 2) := by decide +kernel
theorem dJ9_floorDiv_f86c9_24 : decode cJ9_floorDiv_f86c9 24 = .ok (.lconst 1, 1) := by decide +kernel
theorem dJ9_floorDiv_f86c9_25 : decode cJ9_floorDiv_f86c9 25 = .ok (.lsub, 1) := by decide +kernel
theorem dJ9_floorDiv_f86c9_26 : decode cJ9_floorDiv_f86c9 26 = .ok (.lreturn, 1) := by decide +kernel
theorem dJ9_floorDiv_f86c9_27 : decode cJ9_floorDiv_f86c9 27 = .ok (.lload 4, 2) := by decide +kernel
theorem dJ9_floorDiv_f86c9_29 : decode cJ9_floorDiv_f86c9 29 = .ok (.lreturn, 1) := by decide +kernel
theorem dJ9_max_7cf53_0 : decode cJ9_max_7cf53 0 = .ok (.iload_n 0, 1) := by decide +kernel
theorem dJ9_max_7cf53_1 : decode cJ9_max_7cf53 1 = .ok (.iload_n 1, 1) := by decide +kernel
theorem dJ9_max_7cf53_2 : decode cJ9_max_7cf53 2 = .ok (.if_icmp .lt 7, 3) := by decide +kernel
theorem dJ9_max_7cf53_5 : decode cJ9_max_7cf53 5 = .ok (.iload_n 0, 1) := by decide +kernel
theorem dJ9_max_7cf53_6 : decode cJ9_max_7cf53 6 = .ok (.goto 4, 3) := by decide +kernel
theorem dJ9_max_7cf53_9 : decode cJ9_max_7cf53 9 = .ok (.iload_n 1, 1) := by decide +kernel
theorem dJ9_max_7cf53_10 : decode cJ9_max_7cf53 10 = .ok (.ireturn, 1) := by decide +kernel
theorem dJ9_max_f86c9_0 : decode cJ9_max_f86c9 0 = .ok (.lload_n 0, 1) := by decide +kernel
theorem dJ9_max_f86c9_1 : decode cJ9_max_f86c9 1 = .ok (.lload_n 2, 1) := by decide +kernel
theorem dJ9_max_f86c9_2 : decode cJ9_max_f86c9 2 = .ok (.lcmp, 1) := by decide +kernel
theorem dJ9_max_f86c9_3 : decode cJ9_max_f86c9 3 = .ok (.ifCond .lt 7, 3) := by decide +kernel
theorem dJ9_max_f86c9_6 : decode cJ9_max_f86c9 6 = .ok (.lload_n 0, 1) := by decide +kernel
theorem dJ9_max_f86c9_7 : decode cJ9_max_f86c9 7 = .ok (.goto 4, 3) := by decide +kernel
theorem dJ9_max_f86c9_10 : decode cJ9_max_f86c9 10 = .ok (.lload_n 2, 1) := by decide +kernel
theorem dJ9_max_f86c9_11 : decode cJ9_max_f86c9 11 = .ok (.lreturn, 1) := by decide +kernel
theorem dJ9_min_7cf53_0 : decode cJ9_min_7cf53 0 = .ok (.iload_n 0, 1) := by decide +kernel
theorem dJ9_min_7cf53_1 : decode cJ9_min_7cf53 1 = .ok (.iload_n 1, 1) := by decide +kernel
theorem dJ9_min_7cf53_2 : decode cJ9_min_7cf53 2 = .ok (.if_icmp .gt 7, 3) := by decide +kernel
theorem dJ9_min_7cf53_5 : decode cJ9_min_7cf53 5 = .ok (.iload_n 0, 1) := by decide +kernel
theorem dJ9_min_7cf53_6 : decode cJ9_min_7cf53 6 = .ok (.goto 4, 3) := by decide +kernel
theorem dJ9_min_7cf53_9 : decode cJ9_min_7cf53 9 = .ok (.iload_n 1, 1) := by decide +kernel
theorem dJ9_min_7cf53_10 : decode cJ9_min_7cf53 10 = .ok (.ireturn, 1) := by decide +kernel
theorem dJ9_min_f86c9_0 : decode cJ9_min_f86c9 0 = .ok (.lload_n 0, 1) := by decide +kernel
theorem dJ9_min_f86c9_1 : decode cJ9_min_f86c9 1 = .ok (.lload_n 2, 1) := by decide +kernel
theorem dJ9_min_f86c9_2 : decode cJ9_min_f86c9 2 = .ok (.lcmp, 1) := by decide +kernel
theorem dJ9_min_f86c9_3 : decode cJ9_min_f86c9 3 = .ok (.ifCond .gt 7, 3) := by decide +kernel
theorem dJ9_min_f86c9_6 : decode cJ9_min_f86c9 6 = .ok (.lload_n 0, 1) := by decide +kernel
theorem dJ9_min_f86c9_7 : decode cJ9_min_f86c9 7 = .ok (.goto 4, 3) := by decide +kernel
theorem dJ9_min_f86c9_10 : decode cJ9_min_f86c9 10 = .ok (.lload_n 2, 1) := by decide +kernel
theorem dJ9_min_f86c9_11 : decode cJ9_min_f86c9 11 = .ok (.lreturn, 1) := by decide +kernel
theorem dJ0_init_81219_0 : decode cJ0_init_81219 0 = .ok (.aload_n 0, 1) := by decide +kernel
theorem dJ0_init_81219_1 : decode cJ0_init_81219 1 = .ok (.aload_n 1, 1) := by decide +kernel
theorem dJ0_init_81219_2 : decode cJ0_init_81219 2 = .ok (.aconst_null, 1) := by decide +kernel
theorem dJ0_init_81219_3 : decode cJ0_init_81219 3 = .ok (.invokespecial 489, 3) := by decide +kernel
theorem dJ0_init_81219_6 : decode cJ0_init_81219 6 = .ok (.return_, 1) := by decide +kernel
theorem dJ0_length_8abf5_0 : decode cJ0_length_8abf5 0 = .ok (.aload_n 0, 1) := by decide +kernel
theorem dJ0_length_8abf5_1 : decode cJ0_length_8abf5 1 = .ok (.getfield 9, 3) := by decide +kernel
theorem dJ0_length_8abf5_4 : decode cJ0_length_8abf5 4 = .ok (.arraylength, 1) := by decide +kernel
theorem dJ0_length_8abf5_5 : decode cJ0_length_8abf5 5 = .ok (.aload_n 0, 1) := by decide +kernel
theorem dJ0_length_8abf5_6 : decode cJ0_length_8abf5 6 = .ok (.invokevirtual 335, 3) := by decide +kernel
theorem dJ0_length_8abf5_9 : decode cJ0_length_8abf5 9 = .ok (.ishr, 1) := by decide +kernel
theorem dJ0_length_8abf5_10 : decode cJ0_length_8abf5 10 = .ok (.ireturn, 1) := by decide +kernel
theorem dJ0_getBytes_840e7_0 : decode cJ0_getBytes_840e7 0 = .ok (.aload_n 0, 1) := by decide +kernel
theorem dJ0_getBytes_840e7_1 : decode cJ0_getBytes_840e7 1 = .ok (.invokevirtual 335, 3) := by decide +kernel
theorem dJ0_getBytes_840e7_4 : decode cJ0_getBytes_840e7 4 = .ok (.iload_n 3, 1) := by decide +kernel
theorem dJ0_getBytes_840e7_5 : decode cJ0_getBytes_840e7 5 = .ok (.if_icmp .ne 23, 3) := by decide +kernel
theorem dJ0_getBytes_840e7_8 : decode cJ0_getBytes_840e7 8 = .ok (.aload_n 0, 1) := by decide +kernel
theorem dJ0_getBytes_840e7_9 : decode cJ0_getBytes_840e7 9 = .ok (.getfield 9, 3) := by decide +kernel
theorem dJ0_getBytes_840e7_12 : decode cJ0_getBytes_840e7 12 = .ok (.iconst 0, 1) := by decide +kernel
theorem dJ0_getBytes_840e7_13 : decode cJ0_getBytes_840e7 13 = .ok (.aload_n 1, 1) := by decide +kernel
theorem dJ0_getBytes_840e7_14 : decode cJ0_getBytes_840e7 14 = .ok (.iload_n 2, 1) := by decide +kernel
theorem dJ0_getBytes_840e7_15 : decode cJ0_getBytes_840e7 15 = .ok (.iload_n 3, 1) := by decide +kernel
theorem dJ0_getBytes_840e7_16 : decode cJ0_getBytes_840e7 16 = .ok (.ishl, 1) := by decide +kernel
theorem dJ0_getBytes_840e7_17 : decode cJ0_getBytes_840e7 17 = .ok (.aload_n 0, 1) := by decide +kernel
theorem dJ0_getBytes_840e7_18 : decode cJ0_getBytes_840e7 18 = .ok (.getfield 9, 3) := by decide +kernel
theorem dJ0_getBytes_840e7_21 : decode cJ0_getBytes_840e7 21 = .ok (.arraylength, 1) := by decide +kernel
theorem dJ0_getBytes_840e7_22 : decode cJ0_getBytes_840e7 22 = .ok (.invokestatic 212, 3) := by decide +kernel
theorem dJ0_getBytes_840e7_25 : decode cJ0_getBytes_840e7 25 = .ok (.goto 18, 3) := by decide +kernel
theorem dJ0_getBytes_840e7_28 : decode cJ0_getBytes_840e7 28 = .ok (.aload_n 0, 1) := by decide +kernel
theorem dJ0_getBytes_840e7_29 : decode cJ0_getBytes_840e7 29 = .ok (.getfield 9, 3) := by decide +kernel
theorem dJ0_getBytes_840e7_32 : decode cJ0_getBytes_840e7 32 = .ok (.iconst 0, 1) := by decide +kernel
theorem dJ0_getBytes_840e7_33 : decode cJ0_getBytes_840e7 33 = .ok (.aload_n 1, 1) := by decide +kernel
theorem dJ0_getBytes_840e7_34 : decode cJ0_getBytes_840e7 34 = .ok (.iload_n 2, 1) := by decide +kernel
theorem dJ0_getBytes_840e7_35 : decode cJ0_getBytes_840e7 35 = .ok (.aload_n 0, 1) := by decide +kernel
theorem dJ0_getBytes_840e7_36 : decode cJ0_getBytes_840e7 36 = .ok (.getfield 9, 3) := by decide +kernel
theorem dJ0_getBytes_840e7_39 : decode cJ0_getBytes_840e7 39 = .ok (.arraylength, 1) := by decide +kernel
theorem dJ0_getBytes_840e7_40 : decode cJ0_getBytes_840e7 40 = .ok (.invokestatic 106, 3) := by decide +kernel
theorem dJ0_getBytes_840e7_43 : decode cJ0_getBytes_840e7 43 = .ok (.return_, 1) := by decide +kernel
theorem dJ0_init_db425_0 : decode cJ0_init_db425 0 = .ok (.aload_n 0, 1) := by decide +kernel
theorem dJ0_init_db425_1 : decode cJ0_init_db425 1 = .ok (.invokespecial 1, 3) := by decide +kernel
theorem dJ0_init_db425_4 : decode cJ0_init_db425 4 = .ok (.aload_n 1, 1) := by decide +kernel
theorem dJ0_init_db425_5 : decode cJ0_init_db425 5 = .ok (.invokevirtual 552, 3) := by decide +kernel
theorem dJ0_init_db425_8 : decode cJ0_init_db425 8 = .ok (.astore_n 3, 1) := by decide +kernel
theorem dJ0_init_db425_9 : decode cJ0_init_db425 9 = .ok (.aload_n 1, 1) := by decide +kernel
theorem dJ0_init_db425_10 : decode cJ0_init_db425 10 = .ok (.invokevirtual 549, 3) := by decide +kernel
theorem dJ0_init_db425_13 : decode cJ0_init_db425 13 = .ok (.istore 4, 2) := by decide +kernel
theorem dJ0_init_db425_15 : decode cJ0_init_db425 15 = .ok (.aload_n 1, 1) := by decide +kernel
theorem dJ0_init_db425_16 : decode cJ0_init_db425 16 = .ok (.invokevirtual 1047, 3) := by decide +kernel
theorem dJ0_init_db425_19 : decode cJ0_init_db425 19 = .ok (.ifCond .eq 22, 3) := by decide +kernel
theorem dJ0_init_db425_22 : decode cJ0_init_db425 22 = .ok (.aload_n 0, 1) := by decide +kernel
theorem dJ0_init_db425_23 : decode cJ0_init_db425 23 = .ok (.iconst 0, 1) := by decide +kernel
theorem dJ0_init_db425_24 : decode cJ0_init_db425 24 = .ok (.putfield 15, 3) := by decide +kernel
theorem dJ0_init_db425_27 : decode cJ0_init_db425 27 = .ok (.aload_n 0, 1) := by decide +kernel
theorem dJ0_init_db425_28 : decode cJ0_init_db425 28 = .ok (.aload_n 3, 1) := by decide +kernel
theorem dJ0_init_db425_29 : decode cJ0_init_db425 29 = .ok (.iconst 0, 1) := by decide +kernel
theorem dJ0_init_db425_30 : decode cJ0_init_db425 30 = .ok (.iload 4, 2) := by decide +kernel
theorem dJ0_init_db425_32 : decode cJ0_init_db425 32 = .ok (.invokestatic 54, 3) := by decide +kernel
theorem dJ0_init_db425_35 : decode cJ0_init_db425 35 = .ok (.putfield 9, 3) := by decide +kernel
theorem dJ0_init_db425_38 : decode cJ0_init_db425 38 = .ok (.goto 59, 3) := by decide +kernel
theorem dJ0_init_db425_41 : decode cJ0_init_db425 41 = .ok (.getstatic 38, 3) := by decide +kernel
theorem dJ0_init_db425_44 : decode cJ0_init_db425 44 = .ok (.ifCond .eq 35, 3) := by decide +kernel
theorem dJ0_init_db425_47 : decode cJ0_init_db425 47 = .ok (.aload_n 1, 1) := by decide +kernel
theorem dJ0_init_db425_48 : decode cJ0_init_db425 48 = .ok (.getfield 1048, 3) := by decide +kernel
theorem dJ0_init_db425_51 : decode cJ0_init_db425 51 = .ok (.ifCond .eq 28, 3) := by decide +kernel
theorem dJ0_init_db425_54 : decode cJ0_init_db425 54 = .ok (.aload_n 0, 1) := by decide +kernel
theorem dJ0_init_db425_55 : decode cJ0_init_db425 55 = .ok (.aload_n 3, 1) := by decide +kernel
theorem dJ0_init_db425_56 : decode cJ0_init_db425 56 = .ok (.iconst 0, 1) := by decide +kernel
theorem dJ0_init_db425_57 : decode cJ0_init_db425 57 = .ok (.iload 4, 2) := by decide +kernel
theorem dJ0_init_db425_59 : decode cJ0_init_db425 59 = .ok (.invokestatic 1051, 3) := by decide +kernel
theorem dJ0_init_db425_62 : decode cJ0_init_db425 62 = .ok (.putfield 9, 3) := by decide +kernel
theorem dJ0_init_db425_65 : decode cJ0_init_db425 65 = .ok (.aload_n 0, 1) := by decide +kernel
theorem dJ0_init_db425_66 : decode cJ0_init_db425 66 = .ok (.aload_n 0, 1) := by decide +kernel
theorem dJ0_init_db425_67 : decode cJ0_init_db425 67 = .ok (.getfield 9, 3) := by decide +kernel
theorem dJ0_init_db425_70 : decode cJ0_init_db425 70 = .ok (.iload 4, 2) := by decide +kernel
theorem dJ0_init_db425_72 : decode cJ0_init_db425 72 = .ok (.invokestatic 47, 3) := by decide +kernel
theorem dJ0_init_db425_75 : decode cJ0_init_db425 75 = .ok (.putfield 15, 3) := by decide +kernel
theorem dJ0_init_db425_78 : decode cJ0_init_db425 78 = .ok (.return_, 1) := by decide +kernel
theorem dJ0_init_db425_79 : decode cJ0_init_db425 79 = .ok (.aload_n 0, 1) := by decide +kernel
theorem dJ0_init_db425_80 : decode cJ0_init_db425 80 = .ok (.iconst 1, 1) := by decide +kernel
theorem dJ0_init_db425_81 : decode cJ0_init_db425 81 = .ok (.putfield 15, 3) := by decide +kernel
theorem dJ0_init_db425_84 : decode cJ0_init_db425 84 = .ok (.aload_n 0, 1) := by decide +kernel
theorem dJ0_init_db425_85 : decode cJ0_init_db425 85 = .ok (.aload_n 3, 1) := by decide +kernel
theorem dJ0_init_db425_86 : decode cJ0_init_db425 86 = .ok (.iconst 0, 1) := by decide +kernel
theorem dJ0_init_db425_87 : decode cJ0_init_db425 87 = .ok (.iload 4, 2) := by decide +kernel
theorem dJ0_init_db425_89 : decode cJ0_init_db425 89 = .ok (.iconst 1, 1) := by decide +kernel
theorem dJ0_init_db425_90 : decode cJ0_init_db425 90 = .ok (.ishl, 1) := by decide +kernel
theorem dJ0_init_db425_91 : decode cJ0_init_db425 91 = .ok (.invokestatic 54, 3) := by decide +kernel
theorem dJ0_init_db425_94 : decode cJ0_init_db425 94 = .ok (.putfield 9, 3) := by decide +kernel
theorem dJ0_init_db425_97 : decode cJ0_init_db425 97 = .ok (.return_, 1) := by decide +kernel
theorem dJ0_coder_7d493_0 : decode cJ0_coder_7d493 0 = .ok (.getstatic 38, 3) := by decide +kernel
theorem dJ0_coder_7d493_3 : decode cJ0_coder_7d493 3 = .ok (.ifCond .eq 10, 3) := by decide +kernel
theorem dJ0_coder_7d493_6 : decode cJ0_coder_7d493 6 = .ok (.aload_n 0, 1) := by decide +kernel
theorem dJ0_coder_7d493_7 : decode cJ0_coder_7d493 7 = .ok (.getfield 15, 3) := by decide +kernel
theorem dJ0_coder_7d493_10 : decode cJ0_coder_7d493 10 = .ok (.goto 4, 3) := by decide +kernel
theorem dJ0_coder_7d493_13 : decode cJ0_coder_7d493 13 = .ok (.iconst 1, 1) := by decide +kernel
theorem dJ0_coder_7d493_14 : decode cJ0_coder_7d493 14 = .ok (.ireturn, 1) := by decide +kernel
theorem dJ0_checkBoundsOffCount_cabcc_0 : decode cJ0_checkBoundsOffCount_cabcc 0 = .ok (.iload_n 0, 1) := by decide +kernel
theorem dJ0_checkBoundsOffCount_cabcc_1 : decode cJ0_checkBoundsOffCount_cabcc 1 = .ok (.iload_n 1, 1) := by decide +kernel
theorem dJ0_checkBoundsOffCount_cabcc_2 : decode cJ0_checkBoundsOffCount_cabcc 2 = .ok (.iload_n 2, 1) := by decide +kernel
theorem dJ0_checkBoundsOffCount_cabcc_3 : decode cJ0_checkBoundsOffCount_cabcc 3 = .ok (.getstatic 1053, 3) := by decide +kernel
theorem dJ0_checkBoundsOffCount_cabcc_6 : decode cJ0_checkBoundsOffCount_cabcc 6 = .ok (.invokestatic 1065, 3) := by decide +kernel
theorem dJ0_checkBoundsOffCount_cabcc_9 : decode cJ0_checkBoundsOffCount_cabcc 9 = .ok (.ireturn, 1) := by decide +kernel
theorem dJ0_checkBoundsBeginEnd_23922_0 : decode cJ0_checkBoundsBeginEnd_23922 0 = .ok (.iload_n 0, 1) := by decide +kernel
theorem dJ0_checkBoundsBeginEnd_23922_1 : decode cJ0_checkBoundsBeginEnd_23922 1 = .ok (.iload_n 1, 1) := by decide +kernel
theorem dJ0_checkBoundsBeginEnd_23922_2 : decode cJ0_checkBoundsBeginEnd_23922 2 = .ok (.iload_n 2, 1) := by decide +kernel
theorem dJ0_checkBoundsBeginEnd_23922_3 : decode cJ0_checkBoundsBeginEnd_23922 3 = .ok (.getstatic 1053, 3) := by decide +kernel
theorem dJ0_checkBoundsBeginEnd_23922_6 : decode cJ0_checkBoundsBeginEnd_23922 6 = .ok (.invokestatic 1062, 3) := by decide +kernel
theorem dJ0_checkBoundsBeginEnd_23922_9 : decode cJ0_checkBoundsBeginEnd_23922 9 = .ok (.pop, 1) := by decide +kernel
theorem dJ0_checkBoundsBeginEnd_23922_10 : decode cJ0_checkBoundsBeginEnd_23922 10 = .ok (.return_, 1) := by decide +kernel
theorem dJ4_init_da8c8_0 : decode cJ4_init_da8c8 0 = .ok (.aload_n 0, 1) := by decide +kernel
theorem dJ4_init_da8c8_1 : decode cJ4_init_da8c8 1 = .ok (.bipush 16, 2) := by decide +kernel
theorem dJ4_init_da8c8_3 : decode cJ4_init_da8c8 3 = .ok (.invokespecial 1, 3) := by decide +kernel
theorem dJ4_init_da8c8_6 : decode cJ4_init_da8c8 6 = .ok (.return_, 1) := by decide +kernel
theorem dJ4_append_15ec4_0 : decode cJ4_append_15ec4 0 = .ok (.aload_n 0, 1) := by decide +kernel
theorem dJ4_append_15ec4_1 : decode cJ4_append_15ec4 1 = .ok (.aload_n 1, 1) := by decide +kernel
theorem dJ4_append_15ec4_2 : decode cJ4_append_15ec4 2 = .ok (.invokespecial 29, 3) := by decide +kernel
theorem dJ4_append_15ec4_5 : decode cJ4_append_15ec4 5 = .ok (.pop, 1) := by decide +kernel
theorem dJ4_append_15ec4_6 : decode cJ4_append_15ec4 6 = .ok (.aload_n 0, 1) := by decide +kernel
theorem dJ4_append_15ec4_7 : decode cJ4_append_15ec4 7 = .ok (.areturn, 1) := by decide +kernel
theorem dJ4_append_bf812_0 : decode cJ4_append_bf812 0 = .ok (.aload_n 0, 1) := by decide +kernel
theorem dJ4_append_bf812_1 : decode cJ4_append_bf812 1 = .ok (.iload_n 1, 1) := by decide +kernel
theorem dJ4_append_bf812_2 : decode cJ4_append_bf812 2 = .ok (.invokespecial 53, 3) := by decide +kernel
theorem dJ4_append_bf812_5 : decode cJ4_append_bf812 5 = .ok (.pop, 1) := by decide +kernel
theorem dJ4_append_bf812_6 : decode cJ4_append_bf812 6 = .ok (.aload_n 0, 1) := by decide +kernel
theorem dJ4_append_bf812_7 : decode cJ4_append_bf812 7 = .ok (.areturn, 1) := by decide +kernel
theorem dJ4_toString_0e30d_0 : decode cJ4_toString_0e30d 0 = .ok (.new 18, 3) := by decide +kernel
theorem dJ4_toString_0e30d_3 : decode cJ4_toString_0e30d 3 = .ok (.dup, 1) := by decide +kernel
theorem dJ4_toString_0e30d_4 : decode cJ4_toString_0e30d 4 = .ok (.aload_n 0, 1) := by decide +kernel
theorem dJ4_toString_0e30d_5 : decode cJ4_toString_0e30d 5 = .ok (.invokespecial 137, 3) := by decide +kernel
theorem dJ4_toString_0e30d_8 : decode cJ4_toString_0e30d 8 = .ok (.areturn, 1) := by decide +kernel
theorem dJ4_length_8abf5_0 : decode cJ4_length_8abf5 0 = .ok (.aload_n 0, 1) := by decide +kernel
theorem dJ4_length_8abf5_1 : decode cJ4_length_8abf5 1 = .ok (.invokespecial 343, 3) := by decide +kernel
theorem dJ4_length_8abf5_4 : decode cJ4_length_8abf5 4 = .ok (.ireturn, 1) := by decide +kernel
theorem dJ1_inflate_0e8fd_0 : decode cJ1_inflate_0e8fd 0 = .ok (.aload_n 0, 1) := by decide +kernel
theorem dJ1_inflate_0e8fd_1 : decode cJ1_inflate_0e8fd 1 = .ok (.iload_n 1, 1) := by decide +kernel
theorem dJ1_inflate_0e8fd_2 : decode cJ1_inflate_0e8fd 2 = .ok (.aload_n 2, 1) := by decide +kernel
theorem dJ1_inflate_0e8fd_3 : decode cJ1_inflate_0e8fd 3 = .ok (.iload_n 3, 1) := by decide +kernel
theorem dJ1_inflate_0e8fd_4 : decode cJ1_inflate_0e8fd 4 = .ok (.iload 4, 2) := by decide +kernel
theorem dJ1_inflate_0e8fd_6 : decode cJ1_inflate_0e8fd 6 = .ok (.invokestatic 240, 3) := by decide +kernel
theorem dJ1_inflate_0e8fd_9 : decode cJ1_inflate_0e8fd 9 = .ok (.return_, 1) := by decide +kernel
theorem dJ2_newBytesFor_77867_0 : decode cJ2_newBytesFor_77867 0 = .ok (.iload_n 0, 1) := by decide +kernel
theorem dJ2_newBytesFor_77867_1 : decode cJ2_newBytesFor_77867 1 = .ok (.invokestatic 11, 3) := by decide +kernel
theorem dJ2_newBytesFor_77867_4 : decode cJ2_newBytesFor_77867 4 = .ok (.newarray .byte, 2) := by decide +kernel
theorem dJ2_newBytesFor_77867_6 : decode cJ2_newBytesFor_77867 6 = .ok (.areturn, 1) := by decide +kernel
theorem dJ2_newBytesLength_0f7a4_0 : decode cJ2_newBytesLength_0f7a4 0 = .ok (.iload_n 0, 1) := by decide +kernel
theorem dJ2_newBytesLength_0f7a4_1 : decode cJ2_newBytesLength_0f7a4 1 = .ok (.ifCond .ge 11, 3) := by decide +kernel
theorem dJ2_newBytesLength_0f7a4_4 : decode cJ2_newBytesLength_0f7a4 4 = .ok (.new 17, 3) := by decide +kernel
theorem dJ2_newBytesLength_0f7a4_7 : decode cJ2_newBytesLength_0f7a4 7 = .ok (.dup, 1) := by decide +kernel
theorem dJ2_newBytesLength_0f7a4_8 : decode cJ2_newBytesLength_0f7a4 8 = .ok (.invokespecial 19, 3) := by decide +kernel
theorem dJ2_newBytesLength_0f7a4_11 : decode cJ2_newBytesLength_0f7a4 11 = .ok (.athrow, 1) := by decide +kernel
theorem dJ2_newBytesLength_0f7a4_12 : decode cJ2_newBytesLength_0f7a4 12 = .ok (.iload_n 0, 1) := by decide +kernel
theorem dJ2_newBytesLength_0f7a4_13 : decode cJ2_newBytesLength_0f7a4 13 = .ok (.ldc 20, 2) := by decide +kernel
theorem dJ2_newBytesLength_0f7a4_15 : decode cJ2_newBytesLength_0f7a4 15 = .ok (.if_icmp .lt 40, 3) := by decide +kernel
theorem dJ2_newBytesLength_0f7a4_18 : decode cJ2_newBytesLength_0f7a4 18 = .ok (.new 21, 3) := by decide +kernel
theorem dJ2_newBytesLength_0f7a4_21 : decode cJ2_newBytesLength_0f7a4 21 = .ok (.dup, 1) := by decide +kernel
theorem dJ2_newBytesLength_0f7a4_22 : decode cJ2_newBytesLength_0f7a4 22 = .ok (.new 23, 3) := by decide +kernel
theorem dJ2_newBytesLength_0f7a4_25 : decode cJ2_newBytesLength_0f7a4 25 = .ok (.dup, 1) := by decide +kernel
theorem dJ2_newBytesLength_0f7a4_26 : decode cJ2_newBytesLength_0f7a4 26 = .ok (.invokespecial 25, 3) := by decide +kernel
theorem dJ2_newBytesLength_0f7a4_29 : decode cJ2_newBytesLength_0f7a4 29 = .ok (.ldc 26, 2) := by decide +kernel
theorem dJ2_newBytesLength_0f7a4_31 : decode cJ2_newBytesLength_0f7a4 31 = .ok (.invokevirtual 28, 3) := by decide +kernel
theorem dJ2_newBytesLength_0f7a4_34 : decode cJ2_newBytesLength_0f7a4 34 = .ok (.iload_n 0, 1) := by decide +kernel
theorem dJ2_newBytesLength_0f7a4_35 : decode cJ2_newBytesLength_0f7a4 35 = .ok (.invokevirtual 32, 3) := by decide +kernel
theorem dJ2_newBytesLength_0f7a4_38 : decode cJ2_newBytesLength_0f7a4 38 = .ok (.ldc 35, 2) := by decide +kernel
theorem dJ2_newBytesLength_0f7a4_40 : decode cJ2_newBytesLength_0f7a4 40 = .ok (.invokevirtual 28, 3) := by decide +kernel
theorem dJ2_newBytesLength_0f7a4_43 : decode cJ2_newBytesLength_0f7a4 43 = .ok (.ldc 20, 2) := by decide +kernel
theorem dJ2_newBytesLength_0f7a4_45 : decode cJ2_newBytesLength_0f7a4 45 = .ok (.invokevirtual 32, 3) := by decide +kernel
theorem dJ2_newBytesLength_0f7a4_48 : decode cJ2_newBytesLength_0f7a4 48 = .ok (.invokevirtual 37, 3) := by decide +kernel
theorem dJ2_newBytesLength_0f7a4_51 : decode cJ2_newBytesLength_0f7a4 51 = .ok (.invokespecial 41, 3) := by decide +kernel
theorem dJ2_newBytesLength_0f7a4_54 : decode cJ2_newBytesLength_0f7a4 54 = .ok (.athrow, 1) := by decide +kernel
theorem dJ2_newBytesLength_0f7a4_55 : decode cJ2_newBytesLength_0f7a4 55 = .ok (.iload_n 0, 1) := by decide +kernel
theorem dJ2_newBytesLength_0f7a4_56 : decode cJ2_newBytesLength_0f7a4 56 = .ok (.iconst 1, 1) := by decide +kernel
theorem dJ2_newBytesLength_0f7a4_57 : decode cJ2_newBytesLength_0f7a4 57 = .ok (.ishl, 1) := by decide +kernel
theorem dJ2_newBytesLength_0f7a4_58 : decode cJ2_newBytesLength_0f7a4 58 = .ok (.ireturn, 1) := by decide +kernel
theorem dJ2_putChar_b72d1_0 : decode cJ2_putChar_b72d1 0 = .ok (.getstatic 44, 3) := by decide +kernel
theorem dJ2_putChar_b72d1_3 : decode cJ2_putChar_b72d1 3 = .ok (.ifCond .ne 25, 3) := by decide +kernel
theorem dJ2_putChar_b72d1_6 : decode cJ2_putChar_b72d1 6 = .ok (.iload_n 1, 1) := by decide +kernel
theorem dJ2_putChar_b72d1_7 : decode cJ2_putChar_b72d1 7 = .ok (.ifCond .lt 11, 3) := by decide +kernel
theorem dJ2_putChar_b72d1_10 : decode cJ2_putChar_b72d1 10 = .ok (.iload_n 1, 1) := by decide +kernel
theorem dJ2_putChar_b72d1_11 : decode cJ2_putChar_b72d1 11 = .ok (.aload_n 0, 1) := by decide +kernel
theorem dJ2_putChar_b72d1_12 : decode cJ2_putChar_b72d1 12 = .ok (.invokestatic 48, 3) := by decide +kernel
theorem dJ2_putChar_b72d1_15 : decode cJ2_putChar_b72d1 15 = .ok (.if_icmp .lt 13, 3) := by decide +kernel
theorem dJ2_putChar_b72d1_18 : decode cJ2_putChar_b72d1 18 = .ok (.new 52, 3) := by decide +kernel
theorem dJ2_putChar_b72d1_21 : decode cJ2_putChar_b72d1 21 = .ok (.dup, 1) := by decide +kernel
theorem dJ2_putChar_b72d1_22 : decode cJ2_putChar_b72d1 22 = .ok (.ldc 54, 2) := by decide +kernel
theorem dJ2_putChar_b72d1_24 : decode cJ2_putChar_b72d1 24 = .ok (.invokespecial 56, 3) := by decide +kernel
theorem dJ2_putChar_b72d1_27 : decode cJ2_putChar_b72d1 27 = .ok (.athrow, 1) := by decide +kernel
theorem dJ2_putChar_b72d1_28 : decode cJ2_putChar_b72d1 28 = .ok (.iload_n 1, 1) := by decide +kernel
theorem dJ2_putChar_b72d1_29 : decode cJ2_putChar_b72d1 29 = .ok (.iconst 1, 1) := by decide +kernel
theorem dJ2_putChar_b72d1_30 : decode cJ2_putChar_b72d1 30 = .ok (.ishl, 1) := by decide +kernel
theorem dJ2_putChar_b72d1_31 : decode cJ2_putChar_b72d1 31 = .ok (.istore_n 1, 1) := by decide +kernel
theorem dJ2_putChar_b72d1_32 : decode cJ2_putChar_b72d1 32 = .ok (.aload_n 0, 1) := by decide +kernel
theorem dJ2_putChar_b72d1_33 : decode cJ2_putChar_b72d1 33 = .ok (.iload_n 1, 1) := by decide +kernel
theorem dJ2_putChar_b72d1_34 : decode cJ2_putChar_b72d1 34 = .ok (.iinc 1 1, 3) := by decide +kernel
theorem dJ2_putChar_b72d1_37 : decode cJ2_putChar_b72d1 37 = .ok (.iload_n 2, 1) := by decide +kernel
theorem dJ2_putChar_b72d1_38 : decode cJ2_putChar_b72d1 38 = .ok (.getstatic 59, 3) := by decide +kernel
theorem dJ2_putChar_b72d1_41 : decode cJ2_putChar_b72d1 41 = .ok (.ishr, 1) := by decide +kernel
theorem dJ2_putChar_b72d1_42 : decode cJ2_putChar_b72d1 42 = .ok (.i2b, 1) := by decide +kernel
theorem dJ2_putChar_b72d1_43 : decode cJ2_putChar_b72d1 43 = .ok (.bastore, 1) := by decide +kernel
theorem dJ2_putChar_b72d1_44 : decode cJ2_putChar_b72d1 44 = .ok (.aload_n 0, 1) := by decide +kernel
theorem dJ2_putChar_b72d1_45 : decode cJ2_putChar_b72d1 45 = .ok (.iload_n 1, 1) := by decide +kernel
theorem dJ2_putChar_b72d1_46 : decode cJ2_putChar_b72d1 46 = .ok (.iload_n 2, 1) := by decide +kernel
theorem dJ2_putChar_b72d1_47 : decode cJ2_putChar_b72d1 47 = .ok (.getstatic 63, 3) := by decide +kernel
theorem dJ2_putChar_b72d1_50 : decode cJ2_putChar_b72d1 50 = .ok (.ishr, 1) := by decide +kernel
theorem dJ2_putChar_b72d1_51 : decode cJ2_putChar_b72d1 51 = .ok (.i2b, 1) := by decide +kernel
theorem dJ2_putChar_b72d1_52 : decode cJ2_putChar_b72d1 52 = .ok (.bastore, 1) := by decide +kernel
theorem dJ2_putChar_b72d1_53 : decode cJ2_putChar_b72d1 53 = .ok (.return_, 1) := by decide +kernel
theorem dJ2_getChar_3b067_0 : decode cJ2_getChar_3b067 0 = .ok (.getstatic 44, 3) := by decide +kernel
theorem dJ2_getChar_3b067_3 : decode cJ2_getChar_3b067 3 = .ok (.ifCond .ne 25, 3) := by decide +kernel
theorem dJ2_getChar_3b067_6 : decode cJ2_getChar_3b067 6 = .ok (.iload_n 1, 1) := by decide +kernel
theorem dJ2_getChar_3b067_7 : decode cJ2_getChar_3b067 7 = .ok (.ifCond .lt 11, 3) := by decide +kernel
theorem dJ2_getChar_3b067_10 : decode cJ2_getChar_3b067 10 = .ok (.iload_n 1, 1) := by decide +kernel
theorem dJ2_getChar_3b067_11 : decode cJ2_getChar_3b067 11 = .ok (.aload_n 0, 1) := by decide +kernel
theorem dJ2_getChar_3b067_12 : decode cJ2_getChar_3b067 12 = .ok (.invokestatic 48, 3) := by decide +kernel
theorem dJ2_getChar_3b067_15 : decode cJ2_getChar_3b067 15 = .ok (.if_icmp .lt 13, 3) := by decide +kernel
theorem dJ2_getChar_3b067_18 : decode cJ2_getChar_3b067 18 = .ok (.new 52, 3) := by decide +kernel
theorem dJ2_getChar_3b067_21 : decode cJ2_getChar_3b067 21 = .ok (.dup, 1) := by decide +kernel
theorem dJ2_getChar_3b067_22 : decode cJ2_getChar_3b067 22 = .ok (.ldc 54, 2) := by decide +kernel
theorem dJ2_getChar_3b067_24 : decode cJ2_getChar_3b067 24 = .ok (.invokespecial 56, 3) := by decide +kernel
theorem dJ2_getChar_3b067_27 : decode cJ2_getChar_3b067 27 = .ok (.athrow, 1) := by decide +kernel
theorem dJ2_getChar_3b067_28 : decode cJ2_getChar_3b067 28 = .ok (.iload_n 1, 1) := by decide +kernel
theorem dJ2_getChar_3b067_29 : decode cJ2_getChar_3b067 29 = .ok (.iconst 1, 1) := by decide +kernel
theorem dJ2_getChar_3b067_30 : decode cJ2_getChar_3b067 30 = .ok (.ishl, 1) := by decide +kernel
theorem dJ2_getChar_3b067_31 : decode cJ2_getChar_3b067 31 = .ok (.istore_n 1, 1) := by decide +kernel
theorem dJ2_getChar_3b067_32 : decode cJ2_getChar_3b067 32 = .ok (.aload_n 0, 1) := by decide +kernel
theorem dJ2_getChar_3b067_33 : decode cJ2_getChar_3b067 33 = .ok (.iload_n 1, 1) := by decide +kernel
theorem dJ2_getChar_3b067_34 : decode cJ2_getChar_3b067 34 = .ok (.iinc 1 1, 3) := by decide +kernel
theorem dJ2_getChar_3b067_37 : decode cJ2_getChar_3b067 37 = .ok (.baload, 1) := by decide +kernel
theorem dJ2_getChar_3b067_38 : decode cJ2_getChar_3b067 38 = .ok (.sipush 255, 3) := by decide +kernel
theorem dJ2_getChar_3b067_41 : decode cJ2_getChar_3b067 41 = .ok (.iand, 1) := by decide +kernel
theorem dJ2_getChar_3b067_42 : decode cJ2_getChar_3b067 42 = .ok (.getstatic 59, 3) := by decide +kernel
theorem dJ2_getChar_3b067_45 : decode cJ2_getChar_3b067 45 = .ok (.ishl, 1) := by decide +kernel
theorem dJ2_getChar_3b067_46 : decode cJ2_getChar_3b067 46 = .ok (.aload_n 0, 1) := by decide +kernel
theorem dJ2_getChar_3b067_47 : decode cJ2_getChar_3b067 47 = .ok (.iload_n 1, 1) := by decide +kernel
theorem dJ2_getChar_3b067_48 : decode cJ2_getChar_3b067 48 = .ok (.baload, 1) := by decide +kernel
theorem dJ2_getChar_3b067_49 : decode cJ2_getChar_3b067 49 = .ok (.sipush 255, 3) := by decide +kernel
theorem dJ2_getChar_3b067_52 : decode cJ2_getChar_3b067 52 = .ok (.iand, 1) := by decide +kernel
theorem dJ2_getChar_3b067_53 : decode cJ2_getChar_3b067 53 = .ok (.getstatic 63, 3) := by decide +kernel
theorem dJ2_getChar_3b067_56 : decode cJ2_getChar_3b067 56 = .ok (.ishl, 1) := by decide +kernel
theorem dJ2_getChar_3b067_57 : decode cJ2_getChar_3b067 57 = .ok (.ior, 1) := by decide +kernel
theorem dJ2_getChar_3b067_58 : decode cJ2_getChar_3b067 58 = .ok (.i2c, 1) := by decide +kernel
theorem dJ2_getChar_3b067_59 : decode cJ2_getChar_3b067 59 = .ok (.ireturn, 1) := by decide +kernel
theorem dJ2_length_9d52b_0 : decode cJ2_length_9d52b 0 = .ok (.aload_n 0, 1) := by decide +kernel
