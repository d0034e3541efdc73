theorem dX0_init_0 : decode cX0_init 0 = .ok (.aload_n 0, 1) := by decide +kernel
theorem dX0_init_1 : decode cX0_init 1 = .ok (.invokespecial 3, 3) := by decide +kernel
theorem dX0_init_4 : decode cX0_init 4 = .ok (.aload_n 0, 1) := by decide +kernel
theorem dX0_init_5 : decode cX0_init 5 = .ok (.iconst 1, 1) := by decide +kernel
theorem dX0_init_6 : decode cX0_init 6 = .ok (.putfield 9, 3) := by decide +kernel
theorem dX0_init_9 : decode cX0_init 9 = .ok (.aload_n 0, 1) := by decide +kernel
theorem dX0_init_10 : decode cX0_init 10 = .ok (.iconst 3, 1) := by decide +kernel
theorem dX0_init_11 : decode cX0_init 11 = .ok (.bipush 24, 2) := by decide +kernel
theorem dX0_init_13 : decode cX0_init 13 = .ok (.multianewarray 15 2, 4) := by decide +kernel
theorem dX0_init_17 : decode cX0_init 17 = .ok (.putfield 17, 3) := by decide +kernel
theorem dX0_init_20 : decode cX0_init 20 = .ok (.aload_n 0, 1) := by decide +kernel
theorem dX0_init_21 : decode cX0_init 21 = .ok (.iconst 3, 1) := by decide +kernel
theorem dX0_init_22 : decode cX0_init 22 = .ok (.bipush 24, 2) := by decide +kernel
theorem dX0_init_24 : decode cX0_init 24 = .ok (.multianewarray 15 2, 4) := by decide +kernel
theorem dX0_init_28 : decode cX0_init 28 = .ok (.putfield 20, 3) := by decide +kernel
theorem dX0_init_31 : decode cX0_init 31 = .ok (.aload_n 0, 1) := by decide +kernel
theorem dX0_init_32 : decode cX0_init 32 = .ok (.iconst 3, 1) := by decide +kernel
theorem dX0_init_33 : decode cX0_init 33 = .ok (.bipush 24, 2) := by decide +kernel
theorem dX0_init_35 : decode cX0_init 35 = .ok (.multianewarray 15 2, 4) := by decide +kernel
theorem dX0_init_39 : decode cX0_init 39 = .ok (.putfield 23, 3) := by decide +kernel
theorem dX0_init_42 : decode cX0_init 42 = .ok (.aload_n 0, 1) := by decide +kernel
theorem dX0_init_43 : decode cX0_init 43 = .ok (.iconst 3, 1) := by decide +kernel
theorem dX0_init_44 : decode cX0_init 44 = .ok (.bipush 24, 2) := by decide +kernel
theorem dX0_init_46 : decode cX0_init 46 = .ok (.multianewarray 15 2, 4) := by decide +kernel
theorem dX0_init_50 : decode cX0_init 50 = .ok (.putfield 26, 3) := by decide +kernel
theorem dX0_init_53 : decode cX0_init 53 = .ok (.aload_n 0, 1) := by decide +kernel
theorem dX0_init_54 : decode cX0_init 54 = .ok (.iconst 3, 1) := by decide +kernel
theorem dX0_init_55 : decode cX0_init 55 = .ok (.bipush 24, 2) := by decide +kernel
theorem dX0_init_57 : decode cX0_init 57 = .ok (.multianewarray 15 2, 4) := by decide +kernel
theorem dX0_init_61 : decode cX0_init 61 = .ok (.putfield 29, 3) := by decide +kernel
theorem dX0_init_64 : decode cX0_init 64 = .ok (.aload_n 0, 1) := by decide +kernel
theorem dX0_init_65 : decode cX0_init 65 = .ok (.iconst 3, 1) := by decide +kernel
theorem dX0_init_66 : decode cX0_init 66 = .ok (.bipush 24, 2) := by decide +kernel
theorem dX0_init_68 : decode cX0_init 68 = .ok (.multianewarray 15 2, 4) := by decide +kernel
theorem dX0_init_72 : decode cX0_init 72 = .ok (.putfield 32, 3) := by decide +kernel
theorem dX0_init_75 : decode cX0_init 75 = .ok (.aload_n 0, 1) := by decide +kernel
theorem dX0_init_76 : decode cX0_init 76 = .ok (.iconst 3, 1) := by decide +kernel
theorem dX0_init_77 : decode cX0_init 77 = .ok (.bipush 24, 2) := by decide +kernel
theorem dX0_init_79 : decode cX0_init 79 = .ok (.multianewarray 15 2, 4) := by decide +kernel
theorem dX0_init_83 : decode cX0_init 83 = .ok (.putfield 35, 3) := by decide +kernel
theorem dX0_init_86 : decode cX0_init 86 = .ok (.aload_n 0, 1) := by decide +kernel
theorem dX0_init_87 : decode cX0_init 87 = .ok (.bipush 6, 2) := by decide +kernel
theorem dX0_init_89 : decode cX0_init 89 = .ok (.bipush 24, 2) := by decide +kernel
theorem dX0_init_91 : decode cX0_init 91 = .ok (.multianewarray 15 2, 4) := by decide +kernel
theorem dX0_init_95 : decode cX0_init 95 = .ok (.putfield 38, 3) := by decide +kernel
theorem dX0_init_98 : decode cX0_init 98 = .ok (.aload_n 0, 1) := by decide +kernel
theorem dX0_init_99 : decode cX0_init 99 = .ok (.bipush 24, 2) := by decide +kernel
theorem dX0_init_101 : decode cX0_init 101 = .ok (.newarray .int, 2) := by decide +kernel
theorem dX0_init_103 : decode cX0_init 103 = .ok (.putfield 41, 3) := by decide +kernel
theorem dX0_init_106 : decode cX0_init 106 = .ok (.aload_n 0, 1) := by decide +kernel
theorem dX0_init_107 : decode cX0_init 107 = .ok (.bipush 24, 2) := by decide +kernel
theorem dX0_init_109 : decode cX0_init 109 = .ok (.newarray .long, 2) := by decide +kernel
theorem dX0_init_111 : decode cX0_init 111 = .ok (.putfield 45, 3) := by decide +kernel
theorem dX0_init_114 : decode cX0_init 114 = .ok (.aload_n 0, 1) := by decide +kernel
theorem dX0_init_115 : decode cX0_init 115 = .ok (.bipush 24, 2) := by decide +kernel
theorem dX0_init_117 : decode cX0_init 117 = .ok (.newarray .long, 2) := by decide +kernel
theorem dX0_init_119 : decode cX0_init 119 = .ok (.putfield 49, 3) := by decide +kernel
theorem dX0_init_122 : decode cX0_init 122 = .ok (.aload_n 0, 1) := by decide +kernel
theorem dX0_init_123 : decode cX0_init 123 = .ok (.bipush 24, 2) := by decide +kernel
theorem dX0_init_125 : decode cX0_init 125 = .ok (.newarray .long, 2) := by decide +kernel
theorem dX0_init_127 : decode cX0_init 127 = .ok (.putfield 52, 3) := by decide +kernel
theorem dX0_init_130 : decode cX0_init 130 = .ok (.aload_n 0, 1) := by decide +kernel
theorem dX0_init_131 : decode cX0_init 131 = .ok (.bipush 24, 2) := by decide +kernel
theorem dX0_init_133 : decode cX0_init 133 = .ok (.newarray .long, 2) := by decide +kernel
theorem dX0_init_135 : decode cX0_init 135 = .ok (.putfield 55, 3) := by decide +kernel
theorem dX0_init_138 : decode cX0_init 138 = .ok (.aload_n 0, 1) := by decide +kernel
theorem dX0_init_139 : decode cX0_init 139 = .ok (.bipush 24, 2) := by decide +kernel
theorem dX0_init_141 : decode cX0_init 141 = .ok (.newarray .long, 2) := by decide +kernel
theorem dX0_init_143 : decode cX0_init 143 = .ok (.putfield 58, 3) := by decide +kernel
theorem dX0_init_146 : decode cX0_init 146 = .ok (.return_, 1) := by decide +kernel
theorem dX0_gather_0 : decode cX0_gather 0 = .ok (.iconst 0, 1) := by decide +kernel
theorem dX0_gather_1 : decode cX0_gather 1 = .ok (.istore 4, 2) := by decide +kernel
theorem dX0_gather_3 : decode cX0_gather 3 = .ok (.iload 4, 2) := by decide +kernel
theorem dX0_gather_5 : decode cX0_gather 5 = .ok (.iconst 3, 1) := by decide +kernel
theorem dX0_gather_6 : decode cX0_gather 6 = .ok (.if_icmp .ge 28, 3) := by decide +kernel
theorem dX0_gather_9 : decode cX0_gather 9 = .ok (.aload_n 0, 1) := by decide +kernel
theorem dX0_gather_10 : decode cX0_gather 10 = .ok (.getfield 17, 3) := by decide +kernel
theorem dX0_gather_13 : decode cX0_gather 13 = .ok (.iload 4, 2) := by decide +kernel
theorem dX0_gather_15 : decode cX0_gather 15 = .ok (.aaload, 1) := by decide +kernel
theorem dX0_gather_16 : decode cX0_gather 16 = .ok (.iload_n 1, 1) := by decide +kernel
theorem dX0_gather_17 : decode cX0_gather 17 = .ok (.aload_n 2, 1) := by decide +kernel
theorem dX0_gather_18 : decode cX0_gather 18 = .ok (.getfield 61, 3) := by decide +kernel
theorem dX0_gather_21 : decode cX0_gather 21 = .ok (.iload 4, 2) := by decide +kernel
theorem dX0_gather_23 : decode cX0_gather 23 = .ok (.aaload, 1) := by decide +kernel
theorem dX0_gather_24 : decode cX0_gather 24 = .ok (.iload_n 1, 1) := by decide +kernel
theorem dX0_gather_25 : decode cX0_gather 25 = .ok (.iaload, 1) := by decide +kernel
theorem dX0_gather_26 : decode cX0_gather 26 = .ok (.i2l, 1) := by decide +kernel
theorem dX0_gather_27 : decode cX0_gather 27 = .ok (.lastore, 1) := by decide +kernel
theorem dX0_gather_28 : decode cX0_gather 28 = .ok (.iinc 4 1, 3) := by decide +kernel
theorem dX0_gather_31 : decode cX0_gather 31 = .ok (.goto (-28), 3) := by decide +kernel
theorem dX0_gather_34 : decode cX0_gather 34 = .ok (.iconst (-1), 1) := by decide +kernel
theorem dX0_gather_35 : decode cX0_gather 35 = .ok (.istore 4, 2) := by decide +kernel
theorem dX0_gather_37 : decode cX0_gather 37 = .ok (.lconst 0, 1) := by decide +kernel
theorem dX0_gather_38 : decode cX0_gather 38 = .ok (.lstore 5, 2) := by decide +kernel
theorem dX0_gather_40 : decode cX0_gather 40 = .ok (.lconst 0, 1) := by decide +kernel
theorem dX0_gather_41 : decode cX0_gather 41 = .ok (.lstore 7, 2) := by decide +kernel
theorem dX0_gather_43 : decode cX0_gather 43 = .ok (.iconst 0, 1) := by decide +kernel
theorem dX0_gather_44 : decode cX0_gather 44 = .ok (.istore 9, 2) := by decide +kernel
theorem dX0_gather_46 : decode cX0_gather 46 = .ok (.iload 9, 2) := by decide +kernel
theorem dX0_gather_48 : decode cX0_gather 48 = .ok (.aload_n 2, 1) := by decide +kernel
theorem dX0_gather_49 : decode cX0_gather 49 = .ok (.getfield 67, 3) := by decide +kernel
theorem dX0_gather_52 : decode cX0_gather 52 = .ok (.invokevirtual 71, 3) := by decide +kernel
theorem dX0_gather_55 : decode cX0_gather 55 = .ok (.if_icmp .ge 90, 3) := by decide +kernel
theorem dX0_gather_58 : decode cX0_gather 58 = .ok (.aload_n 2, 1) := by decide +kernel
theorem dX0_gather_59 : decode cX0_gather 59 = .ok (.getfield 67, 3) := by decide +kernel
theorem dX0_gather_62 : decode cX0_gather 62 = .ok (.iload 9, 2) := by decide +kernel
theorem dX0_gather_64 : decode cX0_gather 64 = .ok (.invokevirtual 77, 3) := by decide +kernel
theorem dX0_gather_67 : decode cX0_gather 67 = .ok (.checkcast 81, 3) := by decide +kernel
theorem dX0_gather_70 : decode cX0_gather 70 = .ok (.astore 10, 2) := by decide +kernel
theorem dX0_gather_72 : decode cX0_gather 72 = .ok (.aload 10, 2) := by decide +kernel
theorem dX0_gather_74 : decode cX0_gather 74 = .ok (.iload_n 1, 1) := by decide +kernel
theorem dX0_gather_75 : decode cX0_gather 75 = .ok (.invokevirtual 83, 3) := by decide +kernel
theorem dX0_gather_78 : decode cX0_gather 78 = .ok (.lstore 11, 2) := by decide +kernel
theorem dX0_gather_80 : decode cX0_gather 80 = .ok (.aload_n 0, 1) := by decide +kernel
theorem dX0_gather_81 : decode cX0_gather 81 = .ok (.getfield 17, 3) := by decide +kernel
theorem dX0_gather_84 : decode cX0_gather 84 = .ok (.aload 10, 2) := by decide +kernel
theorem dX0_gather_86 : decode cX0_gather 86 = .ok (.getfield 87, 3) := by decide +kernel
theorem dX0_gather_89 : decode cX0_gather 89 = .ok (.aaload, 1) := by decide +kernel
theorem dX0_gather_90 : decode cX0_gather 90 = .ok (.iload_n 1, 1) := by decide +kernel
theorem dX0_gather_91 : decode cX0_gather 91 = .ok (.dup2, 1) := by decide +kernel
theorem dX0_gather_92 : decode cX0_gather 92 = .ok (.laload, 1) := by decide +kernel
theorem dX0_gather_93 : decode cX0_gather 93 = .ok (.lload 11, 2) := by decide +kernel
theorem dX0_gather_95 : decode cX0_gather 95 = .ok (.ladd, 1) := by decide +kernel
theorem dX0_gather_96 : decode cX0_gather 96 = .ok (.lastore, 1) := by decide +kernel
theorem dX0_gather_97 : decode cX0_gather 97 = .ok (.lload 5, 2) := by decide +kernel
theorem dX0_gather_99 : decode cX0_gather 99 = .ok (.lload 11, 2) := by decide +kernel
theorem dX0_gather_101 : decode cX0_gather 101 = .ok (.ladd, 1) := by decide +kernel
theorem dX0_gather_102 : decode cX0_gather 102 = .ok (.lstore 5, 2) := by decide +kernel
theorem dX0_gather_104 : decode cX0_gather 104 = .ok (.lload 7, 2) := by decide +kernel
theorem dX0_gather_106 : decode cX0_gather 106 = .ok (.aload 10, 2) := by decide +kernel
theorem dX0_gather_108 : decode cX0_gather 108 = .ok (.getfield 91, 3) := by decide +kernel
theorem dX0_gather_111 : decode cX0_gather 111 = .ok (.iload_n 1, 1) := by decide +kernel
theorem dX0_gather_112 : decode cX0_gather 112 = .ok (.iaload, 1) := by decide +kernel
theorem dX0_gather_113 : decode cX0_gather 113 = .ok (.i2l, 1) := by decide +kernel
theorem dX0_gather_114 : decode cX0_gather 114 = .ok (.ladd, 1) := by decide +kernel
theorem dX0_gather_115 : decode cX0_gather 115 = .ok (.lstore 7, 2) := by decide +kernel
theorem dX0_gather_117 : decode cX0_gather 117 = .ok (.iload 4, 2) := by decide +kernel
theorem dX0_gather_119 : decode cX0_gather 119 = .ok (.iconst (-1), 1) := by decide +kernel
theorem dX0_gather_120 : decode cX0_gather 120 = .ok (.if_icmp .ne 19, 3) := by decide +kernel
theorem dX0_gather_123 : decode cX0_gather 123 = .ok (.aload 10, 2) := by decide +kernel
theorem dX0_gather_125 : decode cX0_gather 125 = .ok (.iload_n 1, 1) := by decide +kernel
theorem dX0_gather_126 : decode cX0_gather 126 = .ok (.invokevirtual 94, 3) := by decide +kernel
theorem dX0_gather_129 : decode cX0_gather 129 = .ok (.ifCond .eq 10, 3) := by decide +kernel
theorem dX0_gather_132 : decode cX0_gather 132 = .ok (.aload 10, 2) := by decide +kernel
theorem dX0_gather_134 : decode cX0_gather 134 = .ok (.getfield 87, 3) := by decide +kernel
theorem dX0_gather_137 : decode cX0_gather 137 = .ok (.istore 4, 2) := by decide +kernel
theorem dX0_gather_139 : decode cX0_gather 139 = .ok (.iinc 9 1, 3) := by decide +kernel
theorem dX0_gather_142 : decode cX0_gather 142 = .ok (.goto (-96), 3) := by decide +kernel
theorem dX0_gather_145 : decode cX0_gather 145 = .ok (.aload_n 0, 1) := by decide +kernel
theorem dX0_gather_146 : decode cX0_gather 146 = .ok (.getfield 41, 3) := by decide +kernel
theorem dX0_gather_149 : decode cX0_gather 149 = .ok (.iload_n 1, 1) := by decide +kernel
theorem dX0_gather_150 : decode cX0_gather 150 = .ok (.iload 4, 2) := by decide +kernel
theorem dX0_gather_152 : decode cX0_gather 152 = .ok (.iconst (-1), 1) := by decide +kernel
theorem dX0_gather_153 : decode cX0_gather 153 = .ok (.if_icmp .ne 7, 3) := by decide +kernel
theorem dX0_gather_156 : decode cX0_gather 156 = .ok (.iconst 0, 1) := by decide +kernel
theorem dX0_gather_157 : decode cX0_gather 157 = .ok (.goto 5, 3) := by decide +kernel
theorem dX0_gather_160 : decode cX0_gather 160 = .ok (.iload 4, 2) := by decide +kernel
theorem dX0_gather_162 : decode cX0_gather 162 = .ok (.iastore, 1) := by decide +kernel
theorem dX0_gather_163 : decode cX0_gather 163 = .ok (.aload_n 3, 1) := by decide +kernel
theorem dX0_gather_164 : decode cX0_gather 164 = .ok (.aload_n 2, 1) := by decide +kernel
theorem dX0_gather_165 : decode cX0_gather 165 = .ok (.getfield 98, 3) := by decide +kernel
theorem dX0_gather_168 : decode cX0_gather 168 = .ok (.lload 5, 2) := by decide +kernel
theorem dX0_gather_170 : decode cX0_gather 170 = .ok (.lload 7, 2) := by decide +kernel
theorem dX0_gather_172 : decode cX0_gather 172 = .ok (.ldc2_w 101, 3) := by decide +kernel
theorem dX0_gather_175 : decode cX0_gather 175 = .ok (.ldiv, 1) := by decide +kernel
theorem dX0_gather_176 : decode cX0_gather 176 = .ok (.invokevirtual 103, 3) := by decide +kernel
theorem dX0_gather_179 : decode cX0_gather 179 = .ok (.iconst 0, 1) := by decide +kernel
theorem dX0_gather_180 : decode cX0_gather 180 = .ok (.istore 9, 2) := by decide +kernel
theorem dX0_gather_182 : decode cX0_gather 182 = .ok (.iload 9, 2) := by decide +kernel
theorem dX0_gather_184 : decode cX0_gather 184 = .ok (.bipush 6, 2) := by decide +kernel
theorem dX0_gather_186 : decode cX0_gather 186 = .ok (.if_icmp .ge 48, 3) := by decide +kernel
theorem dX0_gather_189 : decode cX0_gather 189 = .ok (.aload_n 0, 1) := by decide +kernel
theorem dX0_gather_190 : decode cX0_gather 190 = .ok (.getfield 38, 3) := by decide +kernel
theorem dX0_gather_193 : decode cX0_gather 193 = .ok (.iload 9, 2) := by decide +kernel
theorem dX0_gather_195 : decode cX0_gather 195 = .ok (.aaload, 1) := by decide +kernel
theorem dX0_gather_196 : decode cX0_gather 196 = .ok (.iload_n 1, 1) := by decide +kernel
theorem dX0_gather_197 : decode cX0_gather 197 = .ok (.aload_n 3, 1) := by decide +kernel
theorem dX0_gather_198 : decode cX0_gather 198 = .ok (.getfield 109, 3) := by decide +kernel
theorem dX0_gather_201 : decode cX0_gather 201 = .ok (.iload 9, 2) := by decide +kernel
theorem dX0_gather_203 : decode cX0_gather 203 = .ok (.laload, 1) := by decide +kernel
theorem dX0_gather_204 : decode cX0_gather 204 = .ok (.lastore, 1) := by decide +kernel
theorem dX0_gather_205 : decode cX0_gather 205 = .ok (.aload_n 0, 1) := by decide +kernel
theorem dX0_gather_206 : decode cX0_gather 206 = .ok (.getfield 17, 3) := by decide +kernel
theorem dX0_gather_209 : decode cX0_gather 209 = .ok (.aload_n 0, 1) := by decide +kernel
theorem dX0_gather_210 : decode cX0_gather 210 = .ok (.getfield 41, 3) := by decide +kernel
theorem dX0_gather_213 : decode cX0_gather 213 = .ok (.iload_n 1, 1) := by decide +kernel
theorem dX0_gather_214 : decode cX0_gather 214 = .ok (.iaload, 1) := by decide +kernel
theorem dX0_gather_215 : decode cX0_gather 215 = .ok (.aaload, 1) := by decide +kernel
theorem dX0_gather_216 : decode cX0_gather 216 = .ok (.iload_n 1, 1) := by decide +kernel
theorem dX0_gather_217 : decode cX0_gather 217 = .ok (.dup2, 1) := by decide +kernel
theorem dX0_gather_218 : decode cX0_gather 218 = .ok (.laload, 1) := by decide +kernel
theorem dX0_gather_219 : decode cX0_gather 219 = .ok (.aload_n 3, 1) := by decide +kernel
theorem dX0_gather_220 : decode cX0_gather 220 = .ok (.getfield 109, 3) := by decide +kernel
theorem dX0_gather_223 : decode cX0_gather 223 = .ok (.iload 9, 2) := by decide +kernel
theorem dX0_gather_225 : decode cX0_gather 225 = .ok (.laload, 1) := by decide +kernel
theorem dX0_gather_226 : decode cX0_gather 226 = .ok (.ladd, 1) := by decide +kernel
theorem dX0_gather_227 : decode cX0_gather 227 = .ok (.lastore, 1) := by decide +kernel
theorem dX0_gather_228 : decode cX0_gather 228 = .ok (.iinc 9 1, 3) := by decide +kernel
theorem dX0_gather_231 : decode cX0_gather 231 = .ok (.goto (-49), 3) := by decide +kernel
theorem dX0_gather_234 : decode cX0_gather 234 = .ok (.return_, 1) := by decide +kernel
theorem dX0_reckon_0 : decode cX0_reckon 0 = .ok (.lconst 0, 1) := by decide +kernel
theorem dX0_reckon_1 : decode cX0_reckon 1 = .ok (.lstore 4, 2) := by decide +kernel
theorem dX0_reckon_3 : decode cX0_reckon 3 = .ok (.lconst 0, 1) := by decide +kernel
theorem dX0_reckon_4 : decode cX0_reckon 4 = .ok (.lstore 6, 2) := by decide +kernel
theorem dX0_reckon_6 : decode cX0_reckon 6 = .ok (.iconst 0, 1) := by decide +kernel
theorem dX0_reckon_7 : decode cX0_reckon 7 = .ok (.istore 8, 2) := by decide +kernel
theorem dX0_reckon_9 : decode cX0_reckon 9 = .ok (.iload 8, 2) := by decide +kernel
theorem dX0_reckon_11 : decode cX0_reckon 11 = .ok (.iconst 3, 1) := by decide +kernel
theorem dX0_reckon_12 : decode cX0_reckon 12 = .ok (.if_icmp .ge 48, 3) := by decide +kernel
theorem dX0_reckon_15 : decode cX0_reckon 15 = .ok (.aload_n 0, 1) := by decide +kernel
theorem dX0_reckon_16 : decode cX0_reckon 16 = .ok (.iload_n 1, 1) := by decide +kernel
theorem dX0_reckon_17 : decode cX0_reckon 17 = .ok (.iload 8, 2) := by decide +kernel
theorem dX0_reckon_19 : decode cX0_reckon 19 = .ok (.aload_n 3, 1) := by decide +kernel
theorem dX0_reckon_20 : decode cX0_reckon 20 = .ok (.iload 8, 2) := by decide +kernel
theorem dX0_reckon_22 : decode cX0_reckon 22 = .ok (.aaload, 1) := by decide +kernel
theorem dX0_reckon_23 : decode cX0_reckon 23 = .ok (.invokevirtual 112, 3) := by decide +kernel
theorem dX0_reckon_26 : decode cX0_reckon 26 = .ok (.lload 4, 2) := by decide +kernel
theorem dX0_reckon_28 : decode cX0_reckon 28 = .ok (.aload_n 0, 1) := by decide +kernel
theorem dX0_reckon_29 : decode cX0_reckon 29 = .ok (.getfield 17, 3) := by decide +kernel
theorem dX0_reckon_32 : decode cX0_reckon 32 = .ok (.iload 8, 2) := by decide +kernel
theorem dX0_reckon_34 : decode cX0_reckon 34 = .ok (.aaload, 1) := by decide +kernel
theorem dX0_reckon_35 : decode cX0_reckon 35 = .ok (.iload_n 1, 1) := by decide +kernel
theorem dX0_reckon_36 : decode cX0_reckon 36 = .ok (.laload, 1) := by decide +kernel
theorem dX0_reckon_37 : decode cX0_reckon 37 = .ok (.ladd, 1) := by decide +kernel
theorem dX0_reckon_38 : decode cX0_reckon 38 = .ok (.lstore 4, 2) := by decide +kernel
theorem dX0_reckon_40 : decode cX0_reckon 40 = .ok (.lload 6, 2) := by decide +kernel
theorem dX0_reckon_42 : decode cX0_reckon 42 = .ok (.aload_n 0, 1) := by decide +kernel
theorem dX0_reckon_43 : decode cX0_reckon 43 = .ok (.getfield 20, 3) := by decide +kernel
theorem dX0_reckon_46 : decode cX0_reckon 46 = .ok (.iload 8, 2) := by decide +kernel
theorem dX0_reckon_48 : decode cX0_reckon 48 = .ok (.aaload, 1) := by decide +kernel
theorem dX0_reckon_49 : decode cX0_reckon 49 = .ok (.iload_n 1, 1) := by decide +kernel
theorem dX0_reckon_50 : decode cX0_reckon 50 = .ok (.laload, 1) := by decide +kernel
theorem dX0_reckon_51 : decode cX0_reckon 51 = .ok (.ladd, 1) := by decide +kernel
theorem dX0_reckon_52 : decode cX0_reckon 52 = .ok (.lstore 6, 2) := by decide +kernel
theorem dX0_reckon_54 : decode cX0_reckon 54 = .ok (.iinc 8 1, 3) := by decide +kernel
theorem dX0_reckon_57 : decode cX0_reckon 57 = .ok (.goto (-48), 3) := by decide +kernel
theorem dX0_reckon_60 : decode cX0_reckon 60 = .ok (.aload_n 2, 1) := by decide +kernel
theorem dX0_reckon_61 : decode cX0_reckon 61 = .ok (.getfield 116, 3) := by decide +kernel
theorem dX0_reckon_64 : decode cX0_reckon 64 = .ok (.iload_n 1, 1) := by decide +kernel
theorem dX0_reckon_65 : decode cX0_reckon 65 = .ok (.invokevirtual 120, 3) := by decide +kernel
theorem dX0_reckon_68 : decode cX0_reckon 68 = .ok (.istore 8, 2) := by decide +kernel
theorem dX0_reckon_70 : decode cX0_reckon 70 = .ok (.aload_n 0, 1) := by decide +kernel
theorem dX0_reckon_71 : decode cX0_reckon 71 = .ok (.getfield 45, 3) := by decide +kernel
theorem dX0_reckon_74 : decode cX0_reckon 74 = .ok (.iload_n 1, 1) := by decide +kernel
theorem dX0_reckon_75 : decode cX0_reckon 75 = .ok (.lconst 0, 1) := by decide +kernel
theorem dX0_reckon_76 : decode cX0_reckon 76 = .ok (.lload 4, 2) := by decide +kernel
theorem dX0_reckon_78 : decode cX0_reckon 78 = .ok (.iload 8, 2) := by decide +kernel
theorem dX0_reckon_80 : decode cX0_reckon 80 = .ok (.i2l, 1) := by decide +kernel
theorem dX0_reckon_81 : decode cX0_reckon 81 = .ok (.lmul, 1) := by decide +kernel
theorem dX0_reckon_82 : decode cX0_reckon 82 = .ok (.ldc2_w 126, 3) := by decide +kernel
theorem dX0_reckon_85 : decode cX0_reckon 85 = .ok (.invokestatic 128, 3) := by decide +kernel
theorem dX0_reckon_88 : decode cX0_reckon 88 = .ok (.invokestatic 134, 3) := by decide +kernel
theorem dX0_reckon_91 : decode cX0_reckon 91 = .ok (.lastore, 1) := by decide +kernel
theorem dX0_reckon_92 : decode cX0_reckon 92 = .ok (.aload_n 0, 1) := by decide +kernel
theorem dX0_reckon_93 : decode cX0_reckon 93 = .ok (.getfield 49, 3) := by decide +kernel
theorem dX0_reckon_96 : decode cX0_reckon 96 = .ok (.iload_n 1, 1) := by decide +kernel
theorem dX0_reckon_97 : decode cX0_reckon 97 = .ok (.lconst 0, 1) := by decide +kernel
theorem dX0_reckon_98 : decode cX0_reckon 98 = .ok (.lload 4, 2) := by decide +kernel
theorem dX0_reckon_100 : decode cX0_reckon 100 = .ok (.iload 8, 2) := by decide +kernel
theorem dX0_reckon_102 : decode cX0_reckon 102 = .ok (.bipush 50, 2) := by decide +kernel
theorem dX0_reckon_104 : decode cX0_reckon 104 = .ok (.invokestatic 139, 3) := by decide +kernel
theorem dX0_reckon_107 : decode cX0_reckon 107 = .ok (.i2l, 1) := by decide +kernel
theorem dX0_reckon_108 : decode cX0_reckon 108 = .ok (.lmul, 1) := by decide +kernel
theorem dX0_reckon_109 : decode cX0_reckon 109 = .ok (.ldc2_w 126, 3) := by decide +kernel
theorem dX0_reckon_112 : decode cX0_reckon 112 = .ok (.invokestatic 128, 3) := by decide +kernel
theorem dX0_reckon_115 : decode cX0_reckon 115 = .ok (.invokestatic 134, 3) := by decide +kernel
theorem dX0_reckon_118 : decode cX0_reckon 118 = .ok (.lastore, 1) := by decide +kernel
theorem dX0_reckon_119 : decode cX0_reckon 119 = .ok (.lload 6, 2) := by decide +kernel
theorem dX0_reckon_121 : decode cX0_reckon 121 = .ok (.aload_n 0, 1) := by decide +kernel
theorem dX0_reckon_122 : decode cX0_reckon 122 = .ok (.getfield 45, 3) := by decide +kernel
theorem dX0_reckon_125 : decode cX0_reckon 125 = .ok (.iload_n 1, 1) := by decide +kernel
theorem dX0_reckon_126 : decode cX0_reckon 126 = .ok (.laload, 1) := by decide +kernel
theorem dX0_reckon_127 : decode cX0_reckon 127 = .ok (.ladd, 1) := by decide +kernel
theorem dX0_reckon_128 : decode cX0_reckon 128 = .ok (.lstore 6, 2) := by decide +kernel
theorem dX0_reckon_130 : decode cX0_reckon 130 = .ok (.iconst 0, 1) := by decide +kernel
theorem dX0_reckon_131 : decode cX0_reckon 131 = .ok (.istore 9, 2) := by decide +kernel
theorem dX0_reckon_133 : decode cX0_reckon 133 = .ok (.iload 9, 2) := by decide +kernel
theorem dX0_reckon_135 : decode cX0_reckon 135 = .ok (.iconst 3, 1) := by decide +kernel
theorem dX0_reckon_136 : decode cX0_reckon 136 = .ok (.if_icmp .ge 46, 3) := by decide +kernel
theorem dX0_reckon_139 : decode cX0_reckon 139 = .ok (.aload_n 0, 1) := by decide +kernel
theorem dX0_reckon_140 : decode cX0_reckon 140 = .ok (.iload_n 1, 1) := by decide +kernel
theorem dX0_reckon_141 : decode cX0_reckon 141 = .ok (.iload 9, 2) := by decide +kernel
theorem dX0_reckon_143 : decode cX0_reckon 143 = .ok (.aload_n 3, 1) := by decide +kernel
theorem dX0_reckon_144 : decode cX0_reckon 144 = .ok (.iload 9, 2) := by decide +kernel
theorem dX0_reckon_146 : decode cX0_reckon 146 = .ok (.aaload, 1) := by decide +kernel
theorem dX0_reckon_147 : decode cX0_reckon 147 = .ok (.getfield 143, 3) := by decide +kernel
theorem dX0_reckon_150 : decode cX0_reckon 150 = .ok (.aload_n 2, 1) := by decide +kernel
theorem dX0_reckon_151 : decode cX0_reckon 151 = .ok (.getfield 149, 3) := by decide +kernel
theorem dX0_reckon_154 : decode cX0_reckon 154 = .ok (.iload_n 1, 1) := by decide +kernel
theorem dX0_reckon_155 : decode cX0_reckon 155 = .ok (.invokevirtual 120, 3) := by decide +kernel
theorem dX0_reckon_158 : decode cX0_reckon 158 = .ok (.aaload, 1) := by decide +kernel
theorem dX0_reckon_159 : decode cX0_reckon 159 = .ok (.invokevirtual 152, 3) := by decide +kernel
theorem dX0_reckon_162 : decode cX0_reckon 162 = .ok (.lload 6, 2) := by decide +kernel
theorem dX0_reckon_164 : decode cX0_reckon 164 = .ok (.aload_n 0, 1) := by decide +kernel
theorem dX0_reckon_165 : decode cX0_reckon 165 = .ok (.getfield 23, 3) := by decide +kernel
theorem dX0_reckon_168 : decode cX0_reckon 168 = .ok (.iload 9, 2) := by decide +kernel
theorem dX0_reckon_170 : decode cX0_reckon 170 = .ok (.aaload, 1) := by decide +kernel
theorem dX0_reckon_171 : decode cX0_reckon 171 = .ok (.iload_n 1, 1) := by decide +kernel
theorem dX0_reckon_172 : decode cX0_reckon 172 = .ok (.laload, 1) := by decide +kernel
theorem dX0_reckon_173 : decode cX0_reckon 173 = .ok (.ladd, 1) := by decide +kernel
theorem dX0_reckon_174 : decode cX0_reckon 174 = .ok (.lstore 6, 2) := by decide +kernel
theorem dX0_reckon_176 : decode cX0_reckon 176 = .ok (.iinc 9 1, 3) := by decide +kernel
theorem dX0_reckon_179 : decode cX0_reckon 179 = .ok (.goto (-46), 3) := by decide +kernel
theorem dX0_reckon_182 : decode cX0_reckon 182 = .ok (.aload_n 0, 1) := by decide +kernel
theorem dX0_reckon_183 : decode cX0_reckon 183 = .ok (.getfield 52, 3) := by decide +kernel
theorem dX0_reckon_186 : decode cX0_reckon 186 = .ok (.iload_n 1, 1) := by decide +kernel
theorem dX0_reckon_187 : decode cX0_reckon 187 = .ok (.lload 4, 2) := by decide +kernel
theorem dX0_reckon_189 : decode cX0_reckon 189 = .ok (.lload 6, 2) := by decide +kernel
theorem dX0_reckon_191 : decode cX0_reckon 191 = .ok (.lsub, 1) := by decide +kernel
theorem dX0_reckon_192 : decode cX0_reckon 192 = .ok (.lastore, 1) := by decide +kernel
theorem dX0_reckon_193 : decode cX0_reckon 193 = .ok (.return_, 1) := by decide +kernel
theorem dX0_contribute_0 : decode cX0_contribute 0 = .ok (.aload_n 0, 1) := by decide +kernel
theorem dX0_contribute_1 : decode cX0_contribute 1 = .ok (.getfield 26, 3) := by decide +kernel
theorem dX0_contribute_4 : decode cX0_contribute 4 = .ok (.iload_n 1, 1) := by decide +kernel
theorem dX0_contribute_5 : decode cX0_contribute 5 = .ok (.iload_n 2, 1) := by decide +kernel
theorem dX0_contribute_6 : decode cX0_contribute 6 = .ok (.invokestatic 156, 3) := by decide +kernel
theorem dX0_contribute_9 : decode cX0_contribute 9 = .ok (.aload_n 0, 1) := by decide +kernel
theorem dX0_contribute_10 : decode cX0_contribute 10 = .ok (.getfield 17, 3) := by decide +kernel
theorem dX0_contribute_13 : decode cX0_contribute 13 = .ok (.iload_n 2, 1) := by decide +kernel
theorem dX0_contribute_14 : decode cX0_contribute 14 = .ok (.aaload, 1) := by decide +kernel
theorem dX0_contribute_15 : decode cX0_contribute 15 = .ok (.iload_n 1, 1) := by decide +kernel
theorem dX0_contribute_16 : decode cX0_contribute 16 = .ok (.laload, 1) := by decide +kernel
theorem dX0_contribute_17 : decode cX0_contribute 17 = .ok (.ladd, 1) := by decide +kernel
theorem dX0_contribute_18 : decode cX0_contribute 18 = .ok (.lstore 4, 2) := by decide +kernel
theorem dX0_contribute_20 : decode cX0_contribute 20 = .ok (.aload_n 0, 1) := by decide +kernel
theorem dX0_contribute_21 : decode cX0_contribute 21 = .ok (.getfield 29, 3) := by decide +kernel
theorem dX0_contribute_24 : decode cX0_contribute 24 = .ok (.iload_n 1, 1) := by decide +kernel
theorem dX0_contribute_25 : decode cX0_contribute 25 = .ok (.iload_n 2, 1) := by decide +kernel
theorem dX0_contribute_26 : decode cX0_contribute 26 = .ok (.invokestatic 156, 3) := by decide +kernel
theorem dX0_contribute_29 : decode cX0_contribute 29 = .ok (.lstore 6, 2) := by decide +kernel
theorem dX0_contribute_31 : decode cX0_contribute 31 = .ok (.lconst 0, 1) := by decide +kernel
theorem dX0_contribute_32 : decode cX0_contribute 32 = .ok (.lload 4, 2) := by decide +kernel
theorem dX0_contribute_34 : decode cX0_contribute 34 = .ok (.aload_n 3, 1) := by decide +kernel
theorem dX0_contribute_35 : decode cX0_contribute 35 = .ok (.getfield 160, 3) := by decide +kernel
theorem dX0_contribute_38 : decode cX0_contribute 38 = .ok (.iload_n 1, 1) := by decide +kernel
theorem dX0_contribute_39 : decode cX0_contribute 39 = .ok (.invokevirtual 120, 3) := by decide +kernel
theorem dX0_contribute_42 : decode cX0_contribute 42 = .ok (.i2l, 1) := by decide +kernel
theorem dX0_contribute_43 : decode cX0_contribute 43 = .ok (.invokestatic 163, 3) := by decide +kernel
theorem dX0_contribute_46 : decode cX0_contribute 46 = .ok (.lload 6, 2) := by decide +kernel
theorem dX0_contribute_48 : decode cX0_contribute 48 = .ok (.lsub, 1) := by decide +kernel
theorem dX0_contribute_49 : decode cX0_contribute 49 = .ok (.invokestatic 134, 3) := by decide +kernel
theorem dX0_contribute_52 : decode cX0_contribute 52 = .ok (.lstore 8, 2) := by decide +kernel
theorem dX0_contribute_54 : decode cX0_contribute 54 = .ok (.aload_n 0, 1) := by decide +kernel
theorem dX0_contribute_55 : decode cX0_contribute 55 = .ok (.getfield 20, 3) := by decide +kernel
theorem dX0_contribute_58 : decode cX0_contribute 58 = .ok (.iload_n 2, 1) := by decide +kernel
theorem dX0_contribute_59 : decode cX0_contribute 59 = .ok (.aaload, 1) := by decide +kernel
theorem dX0_contribute_60 : decode cX0_contribute 60 = .ok (.iload_n 1, 1) := by decide +kernel
theorem dX0_contribute_61 : decode cX0_contribute 61 = .ok (.lload 8, 2) := by decide +kernel
theorem dX0_contribute_63 : decode cX0_contribute 63 = .ok (.aload_n 3, 1) := by decide +kernel
theorem dX0_contribute_64 : decode cX0_contribute 64 = .ok (.getfield 165, 3) := by decide +kernel
theorem dX0_contribute_67 : decode cX0_contribute 67 = .ok (.iload_n 1, 1) := by decide +kernel
theorem dX0_contribute_68 : decode cX0_contribute 68 = .ok (.invokevirtual 120, 3) := by decide +kernel
theorem dX0_contribute_71 : decode cX0_contribute 71 = .ok (.i2l, 1) := by decide +kernel
theorem dX0_contribute_72 : decode cX0_contribute 72 = .ok (.lmul, 1) := by decide +kernel
theorem dX0_contribute_73 : decode cX0_contribute 73 = .ok (.ldc2_w 126, 3) := by decide +kernel
theorem dX0_contribute_76 : decode cX0_contribute 76 = .ok (.invokestatic 128, 3) := by decide +kernel
theorem dX0_contribute_79 : decode cX0_contribute 79 = .ok (.lastore, 1) := by decide +kernel
theorem dX0_contribute_80 : decode cX0_contribute 80 = .ok (.aload_n 0, 1) := by decide +kernel
theorem dX0_contribute_81 : decode cX0_contribute 81 = .ok (.getfield 26, 3) := by decide +kernel
theorem dX0_contribute_84 : decode cX0_contribute 84 = .ok (.iload_n 2, 1) := by decide +kernel
theorem dX0_contribute_85 : decode cX0_contribute 85 = .ok (.aaload, 1) := by decide +kernel
theorem dX0_contribute_86 : decode cX0_contribute 86 = .ok (.iload_n 1, 1) := by decide +kernel
theorem dX0_contribute_87 : decode cX0_contribute 87 = .ok (.lload 4, 2) := by decide +kernel
theorem dX0_contribute_89 : decode cX0_contribute 89 = .ok (.lastore, 1) := by decide +kernel
theorem dX0_contribute_90 : decode cX0_contribute 90 = .ok (.aload_n 0, 1) := by decide +kernel
theorem dX0_contribute_91 : decode cX0_contribute 91 = .ok (.getfield 29, 3) := by decide +kernel
theorem dX0_contribute_94 : decode cX0_contribute 94 = .ok (.iload_n 2, 1) := by decide +kernel
theorem dX0_contribute_95 : decode cX0_contribute 95 = .ok (.aaload, 1) := by decide +kernel
theorem dX0_contribute_96 : decode cX0_contribute 96 = .ok (.iload_n 1, 1) := by decide +kernel
theorem dX0_contribute_97 : decode cX0_contribute 97 = .ok (.lload 6, 2) := by decide +kernel
theorem dX0_contribute_99 : decode cX0_contribute 99 = .ok (.lload 8, 2) := by decide +kernel
theorem dX0_contribute_101 : decode cX0_contribute 101 = .ok (.ladd, 1) := by decide +kernel
theorem dX0_contribute_102 : decode cX0_contribute 102 = .ok (.lastore, 1) := by decide +kernel
theorem dX0_contribute_103 : decode cX0_contribute 103 = .ok (.return_, 1) := by decide +kernel
theorem dX0_tax_0 : decode cX0_tax 0 = .ok (.aload_n 0, 1) := by decide +kernel
theorem dX0_tax_1 : decode cX0_tax 1 = .ok (.getfield 17, 3) := by decide +kernel
theorem dX0_tax_4 : decode cX0_tax 4 = .ok (.iload_n 2, 1) := by decide +kernel
theorem dX0_tax_5 : decode cX0_tax 5 = .ok (.aaload, 1) := by decide +kernel
theorem dX0_tax_6 : decode cX0_tax 6 = .ok (.iload_n 1, 1) := by decide +kernel
theorem dX0_tax_7 : decode cX0_tax 7 = .ok (.laload, 1) := by decide +kernel
theorem dX0_tax_8 : decode cX0_tax 8 = .ok (.aload_n 0, 1) := by decide +kernel
theorem dX0_tax_9 : decode cX0_tax 9 = .ok (.getfield 20, 3) := by decide +kernel
theorem dX0_tax_12 : decode cX0_tax 12 = .ok (.iload_n 2, 1) := by decide +kernel
theorem dX0_tax_13 : decode cX0_tax 13 = .ok (.aaload, 1) := by decide +kernel
theorem dX0_tax_14 : decode cX0_tax 14 = .ok (.iload_n 1, 1) := by decide +kernel
theorem dX0_tax_15 : decode cX0_tax 15 = .ok (.laload, 1) := by decide +kernel
theorem dX0_tax_16 : decode cX0_tax 16 = .ok (.lsub, 1) := by decide +kernel
theorem dX0_tax_17 : decode cX0_tax 17 = .ok (.lstore 4, 2) := by decide +kernel
theorem dX0_tax_19 : decode cX0_tax 19 = .ok (.iload_n 2, 1) := by decide +kernel
theorem dX0_tax_20 : decode cX0_tax 20 = .ok (.aload_n 0, 1) := by decide +kernel
theorem dX0_tax_21 : decode cX0_tax 21 = .ok (.getfield 41, 3) := by decide +kernel
theorem dX0_tax_24 : decode cX0_tax 24 = .ok (.iload_n 1, 1) := by decide +kernel
theorem dX0_tax_25 : decode cX0_tax 25 = .ok (.iaload, 1) := by decide +kernel
theorem dX0_tax_26 : decode cX0_tax 26 = .ok (.if_icmp .ne 14, 3) := by decide +kernel
theorem dX0_tax_29 : decode cX0_tax 29 = .ok (.lload 4, 2) := by decide +kernel
theorem dX0_tax_31 : decode cX0_tax 31 = .ok (.aload_n 0, 1) := by decide +kernel
theorem dX0_tax_32 : decode cX0_tax 32 = .ok (.getfield 45, 3) := by decide +kernel
theorem dX0_tax_35 : decode cX0_tax 35 = .ok (.iload_n 1, 1) := by decide +kernel
theorem dX0_tax_36 : decode cX0_tax 36 = .ok (.laload, 1) := by decide +kernel
theorem dX0_tax_37 : decode cX0_tax 37 = .ok (.lsub, 1) := by decide +kernel
theorem dX0_tax_38 : decode cX0_tax 38 = .ok (.lstore 4, 2) := by decide +kernel
theorem dX0_tax_40 : decode cX0_tax 40 = .ok (.aload_n 0, 1) := by decide +kernel
theorem dX0_tax_41 : decode cX0_tax 41 = .ok (.getfield 32, 3) := by decide +kernel
theorem dX0_tax_44 : decode cX0_tax 44 = .ok (.iload_n 1, 1) := by decide +kernel
theorem dX0_tax_45 : decode cX0_tax 45 = .ok (.iload_n 2, 1) := by decide +kernel
theorem dX0_tax_46 : decode cX0_tax 46 = .ok (.invokestatic 156, 3) := by decide +kernel
theorem dX0_tax_49 : decode cX0_tax 49 = .ok (.lload 4, 2) := by decide +kernel
theorem dX0_tax_51 : decode cX0_tax 51 = .ok (.ladd, 1) := by decide +kernel
theorem dX0_tax_52 : decode cX0_tax 52 = .ok (.lstore 6, 2) := by decide +kernel
theorem dX0_tax_54 : decode cX0_tax 54 = .ok (.iload_n 1, 1) := by decide +kernel
theorem dX0_tax_55 : decode cX0_tax 55 = .ok (.bipush 12, 2) := by decide +kernel
theorem dX0_tax_57 : decode cX0_tax 57 = .ok (.irem, 1) := by decide +kernel
theorem dX0_tax_58 : decode cX0_tax 58 = .ok (.iconst 1, 1) := by decide +kernel
theorem dX0_tax_59 : decode cX0_tax 59 = .ok (.iadd, 1) := by decide +kernel
theorem dX0_tax_60 : decode cX0_tax 60 = .ok (.istore 8, 2) := by decide +kernel
theorem dX0_tax_62 : decode cX0_tax 62 = .ok (.aload_n 3, 1) := by decide +kernel
theorem dX0_tax_63 : decode cX0_tax 63 = .ok (.lconst 0, 1) := by decide +kernel
theorem dX0_tax_64 : decode cX0_tax 64 = .ok (.lload 6, 2) := by decide +kernel
theorem dX0_tax_66 : decode cX0_tax 66 = .ok (.invokestatic 134, 3) := by decide +kernel
theorem dX0_tax_69 : decode cX0_tax 69 = .ok (.ldc2_w 168, 3) := by decide +kernel
theorem dX0_tax_72 : decode cX0_tax 72 = .ok (.lmul, 1) := by decide +kernel
theorem dX0_tax_73 : decode cX0_tax 73 = .ok (.iload 8, 2) := by decide +kernel
theorem dX0_tax_75 : decode cX0_tax 75 = .ok (.i2l, 1) := by decide +kernel
theorem dX0_tax_76 : decode cX0_tax 76 = .ok (.invokestatic 170, 3) := by decide +kernel
theorem dX0_tax_79 : decode cX0_tax 79 = .ok (.iload_n 1, 1) := by decide +kernel
theorem dX0_tax_80 : decode cX0_tax 80 = .ok (.invokevirtual 173, 3) := by decide +kernel
theorem dX0_tax_83 : decode cX0_tax 83 = .ok (.lstore 9, 2) := by decide +kernel
theorem dX0_tax_85 : decode cX0_tax 85 = .ok (.lload 9, 2) := by decide +kernel
theorem dX0_tax_87 : decode cX0_tax 87 = .ok (.iload 8, 2) := by decide +kernel
theorem dX0_tax_89 : decode cX0_tax 89 = .ok (.i2l, 1) := by decide +kernel
theorem dX0_tax_90 : decode cX0_tax 90 = .ok (.lmul, 1) := by decide +kernel
theorem dX0_tax_91 : decode cX0_tax 91 = .ok (.ldc2_w 168, 3) := by decide +kernel
theorem dX0_tax_94 : decode cX0_tax 94 = .ok (.ldiv, 1) := by decide +kernel
theorem dX0_tax_95 : decode cX0_tax 95 = .ok (.lstore 11, 2) := by decide +kernel
theorem dX0_tax_97 : decode cX0_tax 97 = .ok (.aload_n 0, 1) := by decide +kernel
theorem dX0_tax_98 : decode cX0_tax 98 = .ok (.getfield 23, 3) := by decide +kernel
theorem dX0_tax_101 : decode cX0_tax 101 = .ok (.iload_n 2, 1) := by decide +kernel
theorem dX0_tax_102 : decode cX0_tax 102 = .ok (.aaload, 1) := by decide +kernel
theorem dX0_tax_103 : decode cX0_tax 103 = .ok (.iload_n 1, 1) := by decide +kernel
theorem dX0_tax_104 : decode cX0_tax 104 = .ok (.lload 11, 2) := by decide +kernel
theorem dX0_tax_106 : decode cX0_tax 106 = .ok (.aload_n 0, 1) := by decide +kernel
theorem dX0_tax_107 : decode cX0_tax 107 = .ok (.getfield 35, 3) := by decide +kernel
theorem dX0_tax_110 : decode cX0_tax 110 = .ok (.iload_n 1, 1) := by decide +kernel
theorem dX0_tax_111 : decode cX0_tax 111 = .ok (.iload_n 2, 1) := by decide +kernel
theorem dX0_tax_112 : decode cX0_tax 112 = .ok (.invokestatic 156, 3) := by decide +kernel
theorem dX0_tax_115 : decode cX0_tax 115 = .ok (.lsub, 1) := by decide +kernel
theorem dX0_tax_116 : decode cX0_tax 116 = .ok (.lastore, 1) := by decide +kernel
theorem dX0_tax_117 : decode cX0_tax 117 = .ok (.aload_n 0, 1) := by decide +kernel
theorem dX0_tax_118 : decode cX0_tax 118 = .ok (.getfield 32, 3) := by decide +kernel
theorem dX0_tax_121 : decode cX0_tax 121 = .ok (.iload_n 2, 1) := by decide +kernel
theorem dX0_tax_122 : decode cX0_tax 122 = .ok (.aaload, 1) := by decide +kernel
theorem dX0_tax_123 : decode cX0_tax 123 = .ok (.iload_n 1, 1) := by decide +kernel
theorem dX0_tax_124 : decode cX0_tax 124 = .ok (.lload 6, 2) := by decide +kernel
theorem dX0_tax_126 : decode cX0_tax 126 = .ok (.lastore, 1) := by decide +kernel
theorem dX0_tax_127 : decode cX0_tax 127 = .ok (.aload_n 0, 1) := by decide +kernel
theorem dX0_tax_128 : decode cX0_tax 128 = .ok (.getfield 35, 3) := by decide +kernel
theorem dX0_tax_131 : decode cX0_tax 131 = .ok (.iload_n 2, 1) := by decide +kernel
theorem dX0_tax_132 : decode cX0_tax 132 = .ok (.aaload, 1) := by decide +kernel
theorem dX0_tax_133 : decode cX0_tax 133 = .ok (.iload_n 1, 1) := by decide +kernel
theorem dX0_tax_134 : decode cX0_tax 134 = .ok (.lload 11, 2) := by decide +kernel
theorem dX0_tax_136 : decode cX0_tax 136 = .ok (.lastore, 1) := by decide +kernel
theorem dX0_tax_137 : decode cX0_tax 137 = .ok (.return_, 1) := by decide +kernel
theorem dX0_earlier_0 : decode cX0_earlier 0 = .ok (.iload_n 1, 1) := by decide +kernel
theorem dX0_earlier_1 : decode cX0_earlier 1 = .ok (.bipush 12, 2) := by decide +kernel
theorem dX0_earlier_3 : decode cX0_earlier 3 = .ok (.irem, 1) := by decide +kernel
theorem dX0_earlier_4 : decode cX0_earlier 4 = .ok (.ifCond .ne 7, 3) := by decide +kernel
theorem dX0_earlier_7 : decode cX0_earlier 7 = .ok (.lconst 0, 1) := by decide +kernel
theorem dX0_earlier_8 : decode cX0_earlier 8 = .ok (.goto 10, 3) := by decide +kernel
theorem dX0_earlier_11 : decode cX0_earlier 11 = .ok (.aload_n 0, 1) := by decide +kernel
theorem dX0_earlier_12 : decode cX0_earlier 12 = .ok (.iload_n 2, 1) := by decide +kernel
theorem dX0_earlier_13 : decode cX0_earlier 13 = .ok (.aaload, 1) := by decide +kernel
theorem dX0_earlier_14 : decode cX0_earlier 14 = .ok (.iload_n 1, 1) := by decide +kernel
theorem dX0_earlier_15 : decode cX0_earlier 15 = .ok (.iconst 1, 1) := by decide +kernel
theorem dX0_earlier_16 : decode cX0_earlier 16 = .ok (.isub, 1) := by decide +kernel
theorem dX0_earlier_17 : decode cX0_earlier 17 = .ok (.laload, 1) := by decide +kernel
theorem dX0_earlier_18 : decode cX0_earlier 18 = .ok (.lreturn, 1) := by decide +kernel
theorem dX0_share_0 : decode cX0_share 0 = .ok (.lconst 0, 1) := by decide +kernel
theorem dX0_share_1 : decode cX0_share 1 = .ok (.lstore_n 2, 1) := by decide +kernel
theorem dX0_share_2 : decode cX0_share 2 = .ok (.iconst 0, 1) := by decide +kernel
theorem dX0_share_3 : decode cX0_share 3 = .ok (.istore 4, 2) := by decide +kernel
theorem dX0_share_5 : decode cX0_share 5 = .ok (.iload 4, 2) := by decide +kernel
theorem dX0_share_7 : decode cX0_share 7 = .ok (.bipush 24, 2) := by decide +kernel
theorem dX0_share_9 : decode cX0_share 9 = .ok (.if_icmp .ge 126, 3) := by decide +kernel
theorem dX0_share_12 : decode cX0_share 12 = .ok (.aload_n 0, 1) := by decide +kernel
theorem dX0_share_13 : decode cX0_share 13 = .ok (.getfield 52, 3) := by decide +kernel
theorem dX0_share_16 : decode cX0_share 16 = .ok (.iload 4, 2) := by decide +kernel
theorem dX0_share_18 : decode cX0_share 18 = .ok (.laload, 1) := by decide +kernel
theorem dX0_share_19 : decode cX0_share 19 = .ok (.lstore 5, 2) := by decide +kernel
theorem dX0_share_21 : decode cX0_share 21 = .ok (.iconst 0, 1) := by decide +kernel
theorem dX0_share_22 : decode cX0_share 22 = .ok (.istore 7, 2) := by decide +kernel
theorem dX0_share_24 : decode cX0_share 24 = .ok (.iload 7, 2) := by decide +kernel
theorem dX0_share_26 : decode cX0_share 26 = .ok (.aload_n 1, 1) := by decide +kernel
theorem dX0_share_27 : decode cX0_share 27 = .ok (.getfield 179, 3) := by decide +kernel
theorem dX0_share_30 : decode cX0_share 30 = .ok (.invokevirtual 71, 3) := by decide +kernel
theorem dX0_share_33 : decode cX0_share 33 = .ok (.if_icmp .ge 40, 3) := by decide +kernel
theorem dX0_share_36 : decode cX0_share 36 = .ok (.lload 5, 2) := by decide +kernel
theorem dX0_share_38 : decode cX0_share 38 = .ok (.aload_n 1, 1) := by decide +kernel
theorem dX0_share_39 : decode cX0_share 39 = .ok (.getfield 179, 3) := by decide +kernel
theorem dX0_share_42 : decode cX0_share 42 = .ok (.iload 7, 2) := by decide +kernel
theorem dX0_share_44 : decode cX0_share 44 = .ok (.invokevirtual 77, 3) := by decide +kernel
theorem dX0_share_47 : decode cX0_share 47 = .ok (.checkcast 182, 3) := by decide +kernel
theorem dX0_share_50 : decode cX0_share 50 = .ok (.iload 4, 2) := by decide +kernel
theorem dX0_share_52 : decode cX0_share 52 = .ok (.aload_n 0, 1) := by decide +kernel
theorem dX0_share_53 : decode cX0_share 53 = .ok (.getfield 52, 3) := by decide +kernel
theorem dX0_share_56 : decode cX0_share 56 = .ok (.iload 4, 2) := by decide +kernel
theorem dX0_share_58 : decode cX0_share 58 = .ok (.laload, 1) := by decide +kernel
theorem dX0_share_59 : decode cX0_share 59 = .ok (.lload 5, 2) := by decide +kernel
theorem dX0_share_61 : decode cX0_share 61 = .ok (.invokevirtual 184, 3) := by decide +kernel
theorem dX0_share_64 : decode cX0_share 64 = .ok (.lsub, 1) := by decide +kernel
theorem dX0_share_65 : decode cX0_share 65 = .ok (.lstore 5, 2) := by decide +kernel
theorem dX0_share_67 : decode cX0_share 67 = .ok (.iinc 7 1, 3) := by decide +kernel
theorem dX0_share_70 : decode cX0_share 70 = .ok (.goto (-46), 3) := by decide +kernel
theorem dX0_share_73 : decode cX0_share 73 = .ok (.aload_n 0, 1) := by decide +kernel
theorem dX0_share_74 : decode cX0_share 74 = .ok (.getfield 55, 3) := by decide +kernel
theorem dX0_share_77 : decode cX0_share 77 = .ok (.iload 4, 2) := by decide +kernel
theorem dX0_share_79 : decode cX0_share 79 = .ok (.aload_n 0, 1) := by decide +kernel
theorem dX0_share_80 : decode cX0_share 80 = .ok (.getfield 52, 3) := by decide +kernel
theorem dX0_share_83 : decode cX0_share 83 = .ok (.iload 4, 2) := by decide +kernel
theorem dX0_share_85 : decode cX0_share 85 = .ok (.laload, 1) := by decide +kernel
theorem dX0_share_86 : decode cX0_share 86 = .ok (.lload 5, 2) := by decide +kernel
theorem dX0_share_88 : decode cX0_share 88 = .ok (.lsub, 1) := by decide +kernel
theorem dX0_share_89 : decode cX0_share 89 = .ok (.lastore, 1) := by decide +kernel
theorem dX0_share_90 : decode cX0_share 90 = .ok (.lload_n 2, 1) := by decide +kernel
theorem dX0_share_91 : decode cX0_share 91 = .ok (.aload_n 1, 1) := by decide +kernel
theorem dX0_share_92 : decode cX0_share 92 = .ok (.getfield 188, 3) := by decide +kernel
theorem dX0_share_95 : decode cX0_share 95 = .ok (.iload 4, 2) := by decide +kernel
theorem dX0_share_97 : decode cX0_share 97 = .ok (.laload, 1) := by decide +kernel
theorem dX0_share_98 : decode cX0_share 98 = .ok (.ladd, 1) := by decide +kernel
theorem dX0_share_99 : decode cX0_share 99 = .ok (.lstore_n 2, 1) := by decide +kernel
theorem dX0_share_100 : decode cX0_share 100 = .ok (.lconst 0, 1) := by decide +kernel
theorem dX0_share_101 : decode cX0_share 101 = .ok (.lload_n 2, 1) := by decide +kernel
theorem dX0_share_102 : decode cX0_share 102 = .ok (.lload 5, 2) := by decide +kernel
theorem dX0_share_104 : decode cX0_share 104 = .ok (.invokestatic 163, 3) := by decide +kernel
theorem dX0_share_107 : decode cX0_share 107 = .ok (.invokestatic 134, 3) := by decide +kernel
theorem dX0_share_110 : decode cX0_share 110 = .ok (.lstore 7, 2) := by decide +kernel
theorem dX0_share_112 : decode cX0_share 112 = .ok (.lload_n 2, 1) := by decide +kernel
theorem dX0_share_113 : decode cX0_share 113 = .ok (.lload 7, 2) := by decide +kernel
theorem dX0_share_115 : decode cX0_share 115 = .ok (.lsub, 1) := by decide +kernel
theorem dX0_share_116 : decode cX0_share 116 = .ok (.lstore_n 2, 1) := by decide +kernel
theorem dX0_share_117 : decode cX0_share 117 = .ok (.aload_n 0, 1) := by decide +kernel
theorem dX0_share_118 : decode cX0_share 118 = .ok (.getfield 58, 3) := by decide +kernel
theorem dX0_share_121 : decode cX0_share 121 = .ok (.iload 4, 2) := by decide +kernel
theorem dX0_share_123 : decode cX0_share 123 = .ok (.lload 5, 2) := by decide +kernel
theorem dX0_share_125 : decode cX0_share 125 = .ok (.lload 7, 2) := by decide +kernel
theorem dX0_share_127 : decode cX0_share 127 = .ok (.lsub, 1) := by decide +kernel
theorem dX0_share_128 : decode cX0_share 128 = .ok (.lastore, 1) := by decide +kernel
theorem dX0_share_129 : decode cX0_share 129 = .ok (.iinc 4 1, 3) := by decide +kernel
theorem dX0_share_132 : decode cX0_share 132 = .ok (.goto (-127), 3) := by decide +kernel
theorem dX0_share_135 : decode cX0_share 135 = .ok (.return_, 1) := by decide +kernel
theorem dX0_line_0 : decode cX0_line 0 = .ok (.iload_n 2, 1) := by decide +kernel
theorem dX0_line_1 : decode cX0_line 1 = .ok (.tableswitch 74 2 7 #[39, 74, 46, 53, 60, 67], 39) := by decide +kernel
theorem dX0_line_40 : decode cX0_line 40 = .ok (.aload_n 0, 1) := by decide +kernel
theorem dX0_line_41 : decode cX0_line 41 = .ok (.getfield 45, 3) := by decide +kernel
theorem dX0_line_44 : decode cX0_line 44 = .ok (.iload_n 1, 1) := by decide +kernel
theorem dX0_line_45 : decode cX0_line 45 = .ok (.laload, 1) := by decide +kernel
theorem dX0_line_46 : decode cX0_line 46 = .ok (.lreturn, 1) := by decide +kernel
theorem dX0_line_47 : decode cX0_line 47 = .ok (.aload_n 0, 1) := by decide +kernel
theorem dX0_line_48 : decode cX0_line 48 = .ok (.getfield 52, 3) := by decide +kernel
theorem dX0_line_51 : decode cX0_line 51 = .ok (.iload_n 1, 1) := by decide +kernel
theorem dX0_line_52 : decode cX0_line 52 = .ok (.laload, 1) := by decide +kernel
theorem dX0_line_53 : decode cX0_line 53 = .ok (.lreturn, 1) := by decide +kernel
theorem dX0_line_54 : decode cX0_line 54 = .ok (.aload_n 0, 1) := by decide +kernel
theorem dX0_line_55 : decode cX0_line 55 = .ok (.getfield 55, 3) := by decide +kernel
theorem dX0_line_58 : decode cX0_line 58 = .ok (.iload_n 1, 1) := by decide +kernel
theorem dX0_line_59 : decode cX0_line 59 = .ok (.laload, 1) := by decide +kernel
theorem dX0_line_60 : decode cX0_line 60 = .ok (.lreturn, 1) := by decide +kernel
theorem dX0_line_61 : decode cX0_line 61 = .ok (.aload_n 0, 1) := by decide +kernel
theorem dX0_line_62 : decode cX0_line 62 = .ok (.getfield 58, 3) := by decide +kernel
theorem dX0_line_65 : decode cX0_line 65 = .ok (.iload_n 1, 1) := by decide +kernel
theorem dX0_line_66 : decode cX0_line 66 = .ok (.laload, 1) := by decide +kernel
theorem dX0_line_67 : decode cX0_line 67 = .ok (.lreturn, 1) := by decide +kernel
theorem dX0_line_68 : decode cX0_line 68 = .ok (.aload_n 0, 1) := by decide +kernel
theorem dX0_line_69 : decode cX0_line 69 = .ok (.getfield 49, 3) := by decide +kernel
theorem dX0_line_72 : decode cX0_line 72 = .ok (.iload_n 1, 1) := by decide +kernel
theorem dX0_line_73 : decode cX0_line 73 = .ok (.laload, 1) := by decide +kernel
theorem dX0_line_74 : decode cX0_line 74 = .ok (.lreturn, 1) := by decide +kernel
theorem dX0_line_75 : decode cX0_line 75 = .ok (.lconst 0, 1) := by decide +kernel
theorem dX0_line_76 : decode cX0_line 76 = .ok (.lstore_n 3, 1) := by decide +kernel
theorem dX0_line_77 : decode cX0_line 77 = .ok (.iconst 0, 1) := by decide +kernel
theorem dX0_line_78 : decode cX0_line 78 = .ok (.istore 5, 2) := by decide +kernel
theorem dX0_line_80 : decode cX0_line 80 = .ok (.iload 5, 2) := by decide +kernel
theorem dX0_line_82 : decode cX0_line 82 = .ok (.iconst 3, 1) := by decide +kernel
theorem dX0_line_83 : decode cX0_line 83 = .ok (.if_icmp .ge 20, 3) := by decide +kernel
theorem dX0_line_86 : decode cX0_line 86 = .ok (.lload_n 3, 1) := by decide +kernel
theorem dX0_line_87 : decode cX0_line 87 = .ok (.aload_n 0, 1) := by decide +kernel
theorem dX0_line_88 : decode cX0_line 88 = .ok (.iload_n 1, 1) := by decide +kernel
theorem dX0_line_89 : decode cX0_line 89 = .ok (.iload 5, 2) := by decide +kernel
theorem dX0_line_91 : decode cX0_line 91 = .ok (.iload_n 2, 1) := by decide +kernel
theorem dX0_line_92 : decode cX0_line 92 = .ok (.invokevirtual 191, 3) := by decide +kernel
theorem dX0_line_95 : decode cX0_line 95 = .ok (.ladd, 1) := by decide +kernel
theorem dX0_line_96 : decode cX0_line 96 = .ok (.lstore_n 3, 1) := by decide +kernel
theorem dX0_line_97 : decode cX0_line 97 = .ok (.iinc 5 1, 3) := by decide +kernel
theorem dX0_line_100 : decode cX0_line 100 = .ok (.goto (-20), 3) := by decide +kernel
theorem dX0_line_103 : decode cX0_line 103 = .ok (.lload_n 3, 1) := by decide +kernel
theorem dX0_line_104 : decode cX0_line 104 = .ok (.lreturn, 1) := by decide +kernel
theorem dX0_lineIn_0 : decode cX0_lineIn 0 = .ok (.iload_n 3, 1) := by decide +kernel
theorem dX0_lineIn_1 : decode cX0_lineIn 1 = .ok (.lookupswitch 45 #[(0, 27), (1, 36)], 27) := by decide +kernel
theorem dX0_lineIn_28 : decode cX0_lineIn 28 = .ok (.aload_n 0, 1) := by decide +kernel
theorem dX0_lineIn_29 : decode cX0_lineIn 29 = .ok (.getfield 17, 3) := by decide +kernel
theorem dX0_lineIn_32 : decode cX0_lineIn 32 = .ok (.iload_n 2, 1) := by decide +kernel
theorem dX0_lineIn_33 : decode cX0_lineIn 33 = .ok (.aaload, 1) := by decide +kernel
theorem dX0_lineIn_34 : decode cX0_lineIn 34 = .ok (.iload_n 1, 1) := by decide +kernel
theorem dX0_lineIn_35 : decode cX0_lineIn 35 = .ok (.laload, 1) := by decide +kernel
theorem dX0_lineIn_36 : decode cX0_lineIn 36 = .ok (.lreturn, 1) := by decide +kernel
theorem dX0_lineIn_37 : decode cX0_lineIn 37 = .ok (.aload_n 0, 1) := by decide +kernel
theorem dX0_lineIn_38 : decode cX0_lineIn 38 = .ok (.getfield 20, 3) := by decide +kernel
theorem dX0_lineIn_41 : decode cX0_lineIn 41 = .ok (.iload_n 2, 1) := by decide +kernel
theorem dX0_lineIn_42 : decode cX0_lineIn 42 = .ok (.aaload, 1) := by decide +kernel
theorem dX0_lineIn_43 : decode cX0_lineIn 43 = .ok (.iload_n 1, 1) := by decide +kernel
theorem dX0_lineIn_44 : decode cX0_lineIn 44 = .ok (.laload, 1) := by decide +kernel
theorem dX0_lineIn_45 : decode cX0_lineIn 45 = .ok (.lreturn, 1) := by decide +kernel
theorem dX0_lineIn_46 : decode cX0_lineIn 46 = .ok (.aload_n 0, 1) := by decide +kernel
theorem dX0_lineIn_47 : decode cX0_lineIn 47 = .ok (.getfield 23, 3) := by decide +kernel
theorem dX0_lineIn_50 : decode cX0_lineIn 50 = .ok (.iload_n 2, 1) := by decide +kernel
theorem dX0_lineIn_51 : decode cX0_lineIn 51 = .ok (.aaload, 1) := by decide +kernel
theorem dX0_lineIn_52 : decode cX0_lineIn 52 = .ok (.iload_n 1, 1) := by decide +kernel
theorem dX0_lineIn_53 : decode cX0_lineIn 53 = .ok (.laload, 1) := by decide +kernel
theorem dX0_lineIn_54 : decode cX0_lineIn 54 = .ok (.lreturn, 1) := by decide +kernel
theorem dX1_init_0 : decode cX1_init 0 = .ok (.aload_n 0, 1) := by decide +kernel
theorem dX1_init_1 : decode cX1_init 1 = .ok (.invokespecial 3, 3) := by decide +kernel
theorem dX1_init_4 : decode cX1_init 4 = .ok (.aload_n 0, 1) := by decide +kernel
theorem dX1_init_5 : decode cX1_init 5 = .ok (.bipush 24, 2) := by decide +kernel
theorem dX1_init_7 : decode cX1_init 7 = .ok (.newarray .int, 2) := by decide +kernel
theorem dX1_init_9 : decode cX1_init 9 = .ok (.putfield 9, 3) := by decide +kernel
theorem dX1_init_12 : decode cX1_init 12 = .ok (.aload_n 0, 1) := by decide +kernel
theorem dX1_init_13 : decode cX1_init 13 = .ok (.iconst 4, 1) := by decide +kernel
theorem dX1_init_14 : decode cX1_init 14 = .ok (.bipush 24, 2) := by decide +kernel
theorem dX1_init_16 : decode cX1_init 16 = .ok (.multianewarray 15 2, 4) := by decide +kernel
theorem dX1_init_20 : decode cX1_init 20 = .ok (.putfield 17, 3) := by decide +kernel
theorem dX1_init_23 : decode cX1_init 23 = .ok (.aload_n 0, 1) := by decide +kernel
theorem dX1_init_24 : decode cX1_init 24 = .ok (.iconst 4, 1) := by decide +kernel
theorem dX1_init_25 : decode cX1_init 25 = .ok (.bipush 24, 2) := by decide +kernel
theorem dX1_init_27 : decode cX1_init 27 = .ok (.multianewarray 15 2, 4) := by decide +kernel
theorem dX1_init_31 : decode cX1_init 31 = .ok (.putfield 20, 3) := by decide +kernel
theorem dX1_init_34 : decode cX1_init 34 = .ok (.return_, 1) := by decide +kernel
theorem dX1_takesEnd_0 : decode cX1_takesEnd 0 = .ok (.aload_n 0, 1) := by decide +kernel
theorem dX1_takesEnd_1 : decode cX1_takesEnd 1 = .ok (.getfield 9, 3) := by decide +kernel
theorem dX1_takesEnd_4 : decode cX1_takesEnd 4 = .ok (.iload_n 1, 1) := by decide +kernel
theorem dX1_takesEnd_5 : decode cX1_takesEnd 5 = .ok (.iaload, 1) := by decide +kernel
theorem dX1_takesEnd_6 : decode cX1_takesEnd 6 = .ok (.istore_n 3, 1) := by decide +kernel
theorem dX1_takesEnd_7 : decode cX1_takesEnd 7 = .ok (.iload_n 3, 1) := by decide +kernel
theorem dX1_takesEnd_8 : decode cX1_takesEnd 8 = .ok (.ifCond .eq 22, 3) := by decide +kernel
theorem dX1_takesEnd_11 : decode cX1_takesEnd 11 = .ok (.iload_n 3, 1) := by decide +kernel
theorem dX1_takesEnd_12 : decode cX1_takesEnd 12 = .ok (.iconst 4, 1) := by decide +kernel
theorem dX1_takesEnd_13 : decode cX1_takesEnd 13 = .ok (.if_icmp .ge 21, 3) := by decide +kernel
theorem dX1_takesEnd_16 : decode cX1_takesEnd 16 = .ok (.iload_n 2, 1) := by decide +kernel
theorem dX1_takesEnd_17 : decode cX1_takesEnd 17 = .ok (.aload_n 0, 1) := by decide +kernel
theorem dX1_takesEnd_18 : decode cX1_takesEnd 18 = .ok (.getfield 17, 3) := by decide +kernel
theorem dX1_takesEnd_21 : decode cX1_takesEnd 21 = .ok (.iload_n 3, 1) := by decide +kernel
theorem dX1_takesEnd_22 : decode cX1_takesEnd 22 = .ok (.iconst 1, 1) := by decide +kernel
theorem dX1_takesEnd_23 : decode cX1_takesEnd 23 = .ok (.isub, 1) := by decide +kernel
theorem dX1_takesEnd_24 : decode cX1_takesEnd 24 = .ok (.aaload, 1) := by decide +kernel
theorem dX1_takesEnd_25 : decode cX1_takesEnd 25 = .ok (.iload_n 1, 1) := by decide +kernel
theorem dX1_takesEnd_26 : decode cX1_takesEnd 26 = .ok (.iaload, 1) := by decide +kernel
theorem dX1_takesEnd_27 : decode cX1_takesEnd 27 = .ok (.if_icmp .le 7, 3) := by decide +kernel
theorem dX1_takesEnd_30 : decode cX1_takesEnd 30 = .ok (.iconst 1, 1) := by decide +kernel
theorem dX1_takesEnd_31 : decode cX1_takesEnd 31 = .ok (.goto 4, 3) := by decide +kernel
theorem dX1_takesEnd_34 : decode cX1_takesEnd 34 = .ok (.iconst 0, 1) := by decide +kernel
theorem dX1_takesEnd_35 : decode cX1_takesEnd 35 = .ok (.ireturn, 1) := by decide +kernel
theorem dX1_add_0 : decode cX1_add 0 = .ok (.aload_n 0, 1) := by decide +kernel
theorem dX1_add_1 : decode cX1_add 1 = .ok (.getfield 9, 3) := by decide +kernel
theorem dX1_add_4 : decode cX1_add 4 = .ok (.iload_n 1, 1) := by decide +kernel
theorem dX1_add_5 : decode cX1_add 5 = .ok (.iaload, 1) := by decide +kernel
theorem dX1_add_6 : decode cX1_add 6 = .ok (.istore 4, 2) := by decide +kernel
theorem dX1_add_8 : decode cX1_add 8 = .ok (.iload 4, 2) := by decide +kernel
theorem dX1_add_10 : decode cX1_add 10 = .ok (.iconst 4, 1) := by decide +kernel
theorem dX1_add_11 : decode cX1_add 11 = .ok (.if_icmp .ge 33, 3) := by decide +kernel
theorem dX1_add_14 : decode cX1_add 14 = .ok (.aload_n 0, 1) := by decide +kernel
theorem dX1_add_15 : decode cX1_add 15 = .ok (.getfield 17, 3) := by decide +kernel
theorem dX1_add_18 : decode cX1_add 18 = .ok (.iload 4, 2) := by decide +kernel
theorem dX1_add_20 : decode cX1_add 20 = .ok (.aaload, 1) := by decide +kernel
theorem dX1_add_21 : decode cX1_add 21 = .ok (.iload_n 1, 1) := by decide +kernel
theorem dX1_add_22 : decode cX1_add 22 = .ok (.iload_n 2, 1) := by decide +kernel
theorem dX1_add_23 : decode cX1_add 23 = .ok (.iastore, 1) := by decide +kernel
theorem dX1_add_24 : decode cX1_add 24 = .ok (.aload_n 0, 1) := by decide +kernel
theorem dX1_add_25 : decode cX1_add 25 = .ok (.getfield 20, 3) := by decide +kernel
theorem dX1_add_28 : decode cX1_add 28 = .ok (.iload 4, 2) := by decide +kernel
theorem dX1_add_30 : decode cX1_add 30 = .ok (.aaload, 1) := by decide +kernel
theorem dX1_add_31 : decode cX1_add 31 = .ok (.iload_n 1, 1) := by decide +kernel
theorem dX1_add_32 : decode cX1_add 32 = .ok (.iload_n 3, 1) := by decide +kernel
theorem dX1_add_33 : decode cX1_add 33 = .ok (.iastore, 1) := by decide +kernel
theorem dX1_add_34 : decode cX1_add 34 = .ok (.aload_n 0, 1) := by decide +kernel
theorem dX1_add_35 : decode cX1_add 35 = .ok (.getfield 9, 3) := by decide +kernel
theorem dX1_add_38 : decode cX1_add 38 = .ok (.iload_n 1, 1) := by decide +kernel
theorem dX1_add_39 : decode cX1_add 39 = .ok (.iload 4, 2) := by decide +kernel
theorem dX1_add_41 : decode cX1_add 41 = .ok (.iconst 1, 1) := by decide +kernel
theorem dX1_add_42 : decode cX1_add 42 = .ok (.iadd, 1) := by decide +kernel
theorem dX1_add_43 : decode cX1_add 43 = .ok (.iastore, 1) := by decide +kernel
theorem dX1_add_44 : decode cX1_add 44 = .ok (.return_, 1) := by decide +kernel
theorem dX1_taxOn_0 : decode cX1_taxOn 0 = .ok (.iload_n 3, 1) := by decide +kernel
theorem dX1_taxOn_1 : decode cX1_taxOn 1 = .ok (.istore 4, 2) := by decide +kernel
theorem dX1_taxOn_3 : decode cX1_taxOn 3 = .ok (.iload 4, 2) := by decide +kernel
theorem dX1_taxOn_5 : decode cX1_taxOn 5 = .ok (.ifCond .le 19, 3) := by decide +kernel
theorem dX1_taxOn_8 : decode cX1_taxOn 8 = .ok (.aload_n 0, 1) := by decide +kernel
theorem dX1_taxOn_9 : decode cX1_taxOn 9 = .ok (.getfield 9, 3) := by decide +kernel
theorem dX1_taxOn_12 : decode cX1_taxOn 12 = .ok (.iload 4, 2) := by decide +kernel
theorem dX1_taxOn_14 : decode cX1_taxOn 14 = .ok (.iaload, 1) := by decide +kernel
theorem dX1_taxOn_15 : decode cX1_taxOn 15 = .ok (.ifCond .ne 9, 3) := by decide +kernel
theorem dX1_taxOn_18 : decode cX1_taxOn 18 = .ok (.iinc 4 (-1), 3) := by decide +kernel
theorem dX1_taxOn_21 : decode cX1_taxOn 21 = .ok (.goto (-18), 3) := by decide +kernel
theorem dX1_taxOn_24 : decode cX1_taxOn 24 = .ok (.lconst 0, 1) := by decide +kernel
theorem dX1_taxOn_25 : decode cX1_taxOn 25 = .ok (.lstore 5, 2) := by decide +kernel
theorem dX1_taxOn_27 : decode cX1_taxOn 27 = .ok (.lconst 0, 1) := by decide +kernel
theorem dX1_taxOn_28 : decode cX1_taxOn 28 = .ok (.lstore 7, 2) := by decide +kernel
theorem dX1_taxOn_30 : decode cX1_taxOn 30 = .ok (.iconst 0, 1) := by decide +kernel
theorem dX1_taxOn_31 : decode cX1_taxOn 31 = .ok (.istore 9, 2) := by decide +kernel
theorem dX1_taxOn_33 : decode cX1_taxOn 33 = .ok (.iload 9, 2) := by decide +kernel
theorem dX1_taxOn_35 : decode cX1_taxOn 35 = .ok (.aload_n 0, 1) := by decide +kernel
theorem dX1_taxOn_36 : decode cX1_taxOn 36 = .ok (.getfield 9, 3) := by decide +kernel
theorem dX1_taxOn_39 : decode cX1_taxOn 39 = .ok (.iload 4, 2) := by decide +kernel
theorem dX1_taxOn_41 : decode cX1_taxOn 41 = .ok (.iaload, 1) := by decide +kernel
theorem dX1_taxOn_42 : decode cX1_taxOn 42 = .ok (.if_icmp .ge 70, 3) := by decide +kernel
theorem dX1_taxOn_45 : decode cX1_taxOn 45 = .ok (.iload 9, 2) := by decide +kernel
theorem dX1_taxOn_47 : decode cX1_taxOn 47 = .ok (.iconst 4, 1) := by decide +kernel
theorem dX1_taxOn_48 : decode cX1_taxOn 48 = .ok (.if_icmp .ge 64, 3) := by decide +kernel
theorem dX1_taxOn_51 : decode cX1_taxOn 51 = .ok (.aload_n 0, 1) := by decide +kernel
theorem dX1_taxOn_52 : decode cX1_taxOn 52 = .ok (.getfield 17, 3) := by decide +kernel
theorem dX1_taxOn_55 : decode cX1_taxOn 55 = .ok (.iload 9, 2) := by decide +kernel
theorem dX1_taxOn_57 : decode cX1_taxOn 57 = .ok (.aaload, 1) := by decide +kernel
theorem dX1_taxOn_58 : decode cX1_taxOn 58 = .ok (.iload 4, 2) := by decide +kernel
theorem dX1_taxOn_60 : decode cX1_taxOn 60 = .ok (.iaload, 1) := by decide +kernel
theorem dX1_taxOn_61 : decode cX1_taxOn 61 = .ok (.i2l, 1) := by decide +kernel
theorem dX1_taxOn_62 : decode cX1_taxOn 62 = .ok (.lstore 10, 2) := by decide +kernel
theorem dX1_taxOn_64 : decode cX1_taxOn 64 = .ok (.lconst 0, 1) := by decide +kernel
theorem dX1_taxOn_65 : decode cX1_taxOn 65 = .ok (.lload_n 1, 1) := by decide +kernel
theorem dX1_taxOn_66 : decode cX1_taxOn 66 = .ok (.lload 10, 2) := by decide +kernel
theorem dX1_taxOn_68 : decode cX1_taxOn 68 = .ok (.invokestatic 23, 3) := by decide +kernel
theorem dX1_taxOn_71 : decode cX1_taxOn 71 = .ok (.lload 7, 2) := by decide +kernel
theorem dX1_taxOn_73 : decode cX1_taxOn 73 = .ok (.lsub, 1) := by decide +kernel
theorem dX1_taxOn_74 : decode cX1_taxOn 74 = .ok (.invokestatic 29, 3) := by decide +kernel
theorem dX1_taxOn_77 : decode cX1_taxOn 77 = .ok (.lstore 12, 2) := by decide +kernel
theorem dX1_taxOn_79 : decode cX1_taxOn 79 = .ok (.lload 5, 2) := by decide +kernel
theorem dX1_taxOn_81 : decode cX1_taxOn 81 = .ok (.lload 12, 2) := by decide +kernel
theorem dX1_taxOn_83 : decode cX1_taxOn 83 = .ok (.aload_n 0, 1) := by decide +kernel
theorem dX1_taxOn_84 : decode cX1_taxOn 84 = .ok (.getfield 20, 3) := by decide +kernel
theorem dX1_taxOn_87 : decode cX1_taxOn 87 = .ok (.iload 9, 2) := by decide +kernel
theorem dX1_taxOn_89 : decode cX1_taxOn 89 = .ok (.aaload, 1) := by decide +kernel
theorem dX1_taxOn_90 : decode cX1_taxOn 90 = .ok (.iload 4, 2) := by decide +kernel
theorem dX1_taxOn_92 : decode cX1_taxOn 92 = .ok (.iaload, 1) := by decide +kernel
theorem dX1_taxOn_93 : decode cX1_taxOn 93 = .ok (.i2l, 1) := by decide +kernel
theorem dX1_taxOn_94 : decode cX1_taxOn 94 = .ok (.lmul, 1) := by decide +kernel
theorem dX1_taxOn_95 : decode cX1_taxOn 95 = .ok (.ldc2_w 32, 3) := by decide +kernel
theorem dX1_taxOn_98 : decode cX1_taxOn 98 = .ok (.ldiv, 1) := by decide +kernel
theorem dX1_taxOn_99 : decode cX1_taxOn 99 = .ok (.ladd, 1) := by decide +kernel
theorem dX1_taxOn_100 : decode cX1_taxOn 100 = .ok (.lstore 5, 2) := by decide +kernel
theorem dX1_taxOn_102 : decode cX1_taxOn 102 = .ok (.lload 10, 2) := by decide +kernel
theorem dX1_taxOn_104 : decode cX1_taxOn 104 = .ok (.lstore 7, 2) := by decide +kernel
theorem dX1_taxOn_106 : decode cX1_taxOn 106 = .ok (.iinc 9 1, 3) := by decide +kernel
theorem dX1_taxOn_109 : decode cX1_taxOn 109 = .ok (.goto (-76), 3) := by decide +kernel
theorem dX1_taxOn_112 : decode cX1_taxOn 112 = .ok (.lload 5, 2) := by decide +kernel
theorem dX1_taxOn_114 : decode cX1_taxOn 114 = .ok (.lreturn, 1) := by decide +kernel
theorem dX2_rounded_0 : decode cX2_rounded 0 = .ok (.lload_n 2, 1) := by decide +kernel
theorem dX2_rounded_1 : decode cX2_rounded 1 = .ok (.lconst 0, 1) := by decide +kernel
theorem dX2_rounded_2 : decode cX2_rounded 2 = .ok (.lcmp, 1) := by decide +kernel
theorem dX2_rounded_3 : decode cX2_rounded 3 = .ok (.ifCond .gt 7, 3) := by decide +kernel
theorem dX2_rounded_6 : decode cX2_rounded 6 = .ok (.lconst 0, 1) := by decide +kernel
theorem dX2_rounded_7 : decode cX2_rounded 7 = .ok (.goto 18, 3) := by decide +kernel
theorem dX2_rounded_10 : decode cX2_rounded 10 = .ok (.ldc2_w 7, 3) := by decide +kernel
theorem dX2_rounded_13 : decode cX2_rounded 13 = .ok (.lload_n 0, 1) := by decide +kernel
theorem dX2_rounded_14 : decode cX2_rounded 14 = .ok (.lmul, 1) := by decide +kernel
theorem dX2_rounded_15 : decode cX2_rounded 15 = .ok (.lload_n 2, 1) := by decide +kernel
theorem dX2_rounded_16 : decode cX2_rounded 16 = .ok (.ladd, 1) := by decide +kernel
theorem dX2_rounded_17 : decode cX2_rounded 17 = .ok (.ldc2_w 7, 3) := by decide +kernel
theorem dX2_rounded_20 : decode cX2_rounded 20 = .ok (.lload_n 2, 1) := by decide +kernel
theorem dX2_rounded_21 : decode cX2_rounded 21 = .ok (.lmul, 1) := by decide +kernel
theorem dX2_rounded_22 : decode cX2_rounded 22 = .ok (.invokestatic 9, 3) := by decide +kernel
theorem dX2_rounded_25 : decode cX2_rounded 25 = .ok (.lreturn, 1) := by decide +kernel
theorem dX2_roundedDown_0 : decode cX2_roundedDown 0 = .ok (.lload_n 2, 1) := by decide +kernel
theorem dX2_roundedDown_1 : decode cX2_roundedDown 1 = .ok (.lconst 0, 1) := by decide +kernel
theorem dX2_roundedDown_2 : decode cX2_roundedDown 2 = .ok (.lcmp, 1) := by decide +kernel
theorem dX2_roundedDown_3 : decode cX2_roundedDown 3 = .ok (.ifCond .gt 7, 3) := by decide +kernel
theorem dX2_roundedDown_6 : decode cX2_roundedDown 6 = .ok (.lconst 0, 1) := by decide +kernel
theorem dX2_roundedDown_7 : decode cX2_roundedDown 7 = .ok (.goto 8, 3) := by decide +kernel
theorem dX2_roundedDown_10 : decode cX2_roundedDown 10 = .ok (.lload_n 0, 1) := by decide +kernel
theorem dX2_roundedDown_11 : decode cX2_roundedDown 11 = .ok (.lload_n 2, 1) := by decide +kernel
theorem dX2_roundedDown_12 : decode cX2_roundedDown 12 = .ok (.invokestatic 9, 3) := by decide +kernel
theorem dX2_roundedDown_15 : decode cX2_roundedDown 15 = .ok (.lreturn, 1) := by decide +kernel
theorem dX3_init_0 : decode cX3_init 0 = .ok (.aload_n 0, 1) := by decide +kernel
theorem dX3_init_1 : decode cX3_init 1 = .ok (.invokespecial 3, 3) := by decide +kernel
theorem dX3_init_4 : decode cX3_init 4 = .ok (.aload_n 0, 1) := by decide +kernel
theorem dX3_init_5 : decode cX3_init 5 = .ok (.new 9, 3) := by decide +kernel
theorem dX3_init_8 : decode cX3_init 8 = .ok (.dup, 1) := by decide +kernel
theorem dX3_init_9 : decode cX3_init 9 = .ok (.sipush 720, 3) := by decide +kernel
theorem dX3_init_12 : decode cX3_init 12 = .ok (.invokespecial 11, 3) := by decide +kernel
theorem dX3_init_15 : decode cX3_init 15 = .ok (.putfield 14, 3) := by decide +kernel
theorem dX3_init_18 : decode cX3_init 18 = .ok (.aload_n 0, 1) := by decide +kernel
theorem dX3_init_19 : decode cX3_init 19 = .ok (.sipush 720, 3) := by decide +kernel
theorem dX3_init_22 : decode cX3_init 22 = .ok (.newarray .int, 2) := by decide +kernel
theorem dX3_init_24 : decode cX3_init 24 = .ok (.putfield 20, 3) := by decide +kernel
theorem dX3_init_27 : decode cX3_init 27 = .ok (.aload_n 0, 1) := by decide +kernel
theorem dX3_init_28 : decode cX3_init 28 = .ok (.bipush 40, 2) := by decide +kernel
theorem dX3_init_30 : decode cX3_init 30 = .ok (.newarray .int, 2) := by decide +kernel
theorem dX3_init_32 : decode cX3_init 32 = .ok (.putfield 24, 3) := by decide +kernel
theorem dX3_init_35 : decode cX3_init 35 = .ok (.aload_n 0, 1) := by decide +kernel
theorem dX3_init_36 : decode cX3_init 36 = .ok (.bipush 40, 2) := by decide +kernel
theorem dX3_init_38 : decode cX3_init 38 = .ok (.newarray .int, 2) := by decide +kernel
theorem dX3_init_40 : decode cX3_init 40 = .ok (.putfield 27, 3) := by decide +kernel
theorem dX3_init_43 : decode cX3_init 43 = .ok (.aload_n 0, 1) := by decide +kernel
theorem dX3_init_44 : decode cX3_init 44 = .ok (.iconst 1, 1) := by decide +kernel
theorem dX3_init_45 : decode cX3_init 45 = .ok (.putfield 30, 3) := by decide +kernel
theorem dX3_init_48 : decode cX3_init 48 = .ok (.aload_n 0, 1) := by decide +kernel
theorem dX3_init_49 : decode cX3_init 49 = .ok (.bipush 24, 2) := by decide +kernel
theorem dX3_init_51 : decode cX3_init 51 = .ok (.newarray .long, 2) := by decide +kernel
theorem dX3_init_53 : decode cX3_init 53 = .ok (.putfield 34, 3) := by decide +kernel
theorem dX3_init_56 : decode cX3_init 56 = .ok (.aload_n 0, 1) := by decide +kernel
theorem dX3_init_57 : decode cX3_init 57 = .ok (.bipush 24, 2) := by decide +kernel
theorem dX3_init_59 : decode cX3_init 59 = .ok (.newarray .int, 2) := by decide +kernel
theorem dX3_init_61 : decode cX3_init 61 = .ok (.putfield 38, 3) := by decide +kernel
theorem dX3_init_64 : decode cX3_init 64 = .ok (.aload_n 0, 1) := by decide +kernel
theorem dX3_init_65 : decode cX3_init 65 = .ok (.bipush 24, 2) := by decide +kernel
theorem dX3_init_67 : decode cX3_init 67 = .ok (.newarray .long, 2) := by decide +kernel
theorem dX3_init_69 : decode cX3_init 69 = .ok (.putfield 41, 3) := by decide +kernel
theorem dX3_init_72 : decode cX3_init 72 = .ok (.aload_n 0, 1) := by decide +kernel
theorem dX3_init_73 : decode cX3_init 73 = .ok (.iload_n 1, 1) := by decide +kernel
theorem dX3_init_74 : decode cX3_init 74 = .ok (.putfield 44, 3) := by decide +kernel
theorem dX3_init_77 : decode cX3_init 77 = .ok (.aload_n 0, 1) := by decide +kernel
theorem dX3_init_78 : decode cX3_init 78 = .ok (.iload_n 2, 1) := by decide +kernel
theorem dX3_init_79 : decode cX3_init 79 = .ok (.putfield 48, 3) := by decide +kernel
theorem dX3_init_82 : decode cX3_init 82 = .ok (.aload_n 0, 1) := by decide +kernel
theorem dX3_init_83 : decode cX3_init 83 = .ok (.iload_n 3, 1) := by decide +kernel
theorem dX3_init_84 : decode cX3_init 84 = .ok (.putfield 51, 3) := by decide +kernel
theorem dX3_init_87 : decode cX3_init 87 = .ok (.aload_n 0, 1) := by decide +kernel
theorem dX3_init_88 : decode cX3_init 88 = .ok (.iload 4, 2) := by decide +kernel
theorem dX3_init_90 : decode cX3_init 90 = .ok (.putfield 54, 3) := by decide +kernel
theorem dX3_init_93 : decode cX3_init 93 = .ok (.aload_n 0, 1) := by decide +kernel
theorem dX3_init_94 : decode cX3_init 94 = .ok (.iload 5, 2) := by decide +kernel
theorem dX3_init_96 : decode cX3_init 96 = .ok (.putfield 57, 3) := by decide +kernel
theorem dX3_init_99 : decode cX3_init 99 = .ok (.aload_n 0, 1) := by decide +kernel
theorem dX3_init_100 : decode cX3_init 100 = .ok (.iload 6, 2) := by decide +kernel
theorem dX3_init_102 : decode cX3_init 102 = .ok (.putfield 60, 3) := by decide +kernel
theorem dX3_init_105 : decode cX3_init 105 = .ok (.return_, 1) := by decide +kernel
theorem dX3_covers_0 : decode cX3_covers 0 = .ok (.iload_n 1, 1) := by decide +kernel
theorem dX3_covers_1 : decode cX3_covers 1 = .ok (.aload_n 0, 1) := by decide +kernel
theorem dX3_covers_2 : decode cX3_covers 2 = .ok (.getfield 51, 3) := by decide +kernel
theorem dX3_covers_5 : decode cX3_covers 5 = .ok (.if_icmp .lt 15, 3) := by decide +kernel
theorem dX3_covers_8 : decode cX3_covers 8 = .ok (.iload_n 1, 1) := by decide +kernel
theorem dX3_covers_9 : decode cX3_covers 9 = .ok (.aload_n 0, 1) := by decide +kernel
theorem dX3_covers_10 : decode cX3_covers 10 = .ok (.getfield 54, 3) := by decide +kernel
theorem dX3_covers_13 : decode cX3_covers 13 = .ok (.if_icmp .gt 7, 3) := by decide +kernel
theorem dX3_covers_16 : decode cX3_covers 16 = .ok (.iconst 1, 1) := by decide +kernel
theorem dX3_covers_17 : decode cX3_covers 17 = .ok (.goto 4, 3) := by decide +kernel
theorem dX3_covers_20 : decode cX3_covers 20 = .ok (.iconst 0, 1) := by decide +kernel
theorem dX3_covers_21 : decode cX3_covers 21 = .ok (.ireturn, 1) := by decide +kernel
theorem dX3_hasDayIn_0 : decode cX3_hasDayIn 0 = .ok (.aload_n 0, 1) := by decide +kernel
theorem dX3_hasDayIn_1 : decode cX3_hasDayIn 1 = .ok (.getfield 51, 3) := by decide +kernel
theorem dX3_hasDayIn_4 : decode cX3_hasDayIn 4 = .ok (.iload_n 1, 1) := by decide +kernel
theorem dX3_hasDayIn_5 : decode cX3_hasDayIn 5 = .ok (.iconst 1, 1) := by decide +kernel
theorem dX3_hasDayIn_6 : decode cX3_hasDayIn 6 = .ok (.iadd, 1) := by decide +kernel
theorem dX3_hasDayIn_7 : decode cX3_hasDayIn 7 = .ok (.bipush 30, 2) := by decide +kernel
theorem dX3_hasDayIn_9 : decode cX3_hasDayIn 9 = .ok (.imul, 1) := by decide +kernel
theorem dX3_hasDayIn_10 : decode cX3_hasDayIn 10 = .ok (.if_icmp .ge 18, 3) := by decide +kernel
theorem dX3_hasDayIn_13 : decode cX3_hasDayIn 13 = .ok (.aload_n 0, 1) := by decide +kernel
theorem dX3_hasDayIn_14 : decode cX3_hasDayIn 14 = .ok (.getfield 54, 3) := by decide +kernel
theorem dX3_hasDayIn_17 : decode cX3_hasDayIn 17 = .ok (.iload_n 1, 1) := by decide +kernel
theorem dX3_hasDayIn_18 : decode cX3_hasDayIn 18 = .ok (.bipush 30, 2) := by decide +kernel
theorem dX3_hasDayIn_20 : decode cX3_hasDayIn 20 = .ok (.imul, 1) := by decide +kernel
theorem dX3_hasDayIn_21 : decode cX3_hasDayIn 21 = .ok (.if_icmp .lt 7, 3) := by decide +kernel
theorem dX3_hasDayIn_24 : decode cX3_hasDayIn 24 = .ok (.iconst 1, 1) := by decide +kernel
theorem dX3_hasDayIn_25 : decode cX3_hasDayIn 25 = .ok (.goto 4, 3) := by decide +kernel
theorem dX3_hasDayIn_28 : decode cX3_hasDayIn 28 = .ok (.iconst 0, 1) := by decide +kernel
theorem dX3_hasDayIn_29 : decode cX3_hasDayIn 29 = .ok (.ireturn, 1) := by decide +kernel
theorem dX3_payOn_0 : decode cX3_payOn 0 = .ok (.aload_n 0, 1) := by decide +kernel
theorem dX3_payOn_1 : decode cX3_payOn 1 = .ok (.getfield 14, 3) := by decide +kernel
theorem dX3_payOn_4 : decode cX3_payOn 4 = .ok (.aload_n 0, 1) := by decide +kernel
theorem dX3_payOn_5 : decode cX3_payOn 5 = .ok (.iload_n 1, 1) := by decide +kernel
theorem dX3_payOn_6 : decode cX3_payOn 6 = .ok (.invokevirtual 63, 3) := by decide +kernel
theorem dX3_payOn_9 : decode cX3_payOn 9 = .ok (.ifCond .eq 7, 3) := by decide +kernel
theorem dX3_payOn_12 : decode cX3_payOn 12 = .ok (.iload_n 1, 1) := by decide +kernel
theorem dX3_payOn_13 : decode cX3_payOn 13 = .ok (.goto 7, 3) := by decide +kernel
theorem dX3_payOn_16 : decode cX3_payOn 16 = .ok (.aload_n 0, 1) := by decide +kernel
theorem dX3_payOn_17 : decode cX3_payOn 17 = .ok (.getfield 54, 3) := by decide +kernel
theorem dX3_payOn_20 : decode cX3_payOn 20 = .ok (.invokevirtual 67, 3) := by decide +kernel
theorem dX3_payOn_23 : decode cX3_payOn 23 = .ok (.ireturn, 1) := by decide +kernel
theorem dX3_isFree_0 : decode cX3_isFree 0 = .ok (.iconst 0, 1) := by decide +kernel
theorem dX3_isFree_1 : decode cX3_isFree 1 = .ok (.istore_n 3, 1) := by decide +kernel
theorem dX3_isFree_2 : decode cX3_isFree 2 = .ok (.iload_n 3, 1) := by decide +kernel
theorem dX3_isFree_3 : decode cX3_isFree 3 = .ok (.aload_n 0, 1) := by decide +kernel
theorem dX3_isFree_4 : decode cX3_isFree 4 = .ok (.getfield 84, 3) := by decide +kernel
theorem dX3_isFree_7 : decode cX3_isFree 7 = .ok (.if_icmp .ge 31, 3) := by decide +kernel
theorem dX3_isFree_10 : decode cX3_isFree 10 = .ok (.iload_n 1, 1) := by decide +kernel
theorem dX3_isFree_11 : decode cX3_isFree 11 = .ok (.aload_n 0, 1) := by decide +kernel
theorem dX3_isFree_12 : decode cX3_isFree 12 = .ok (.getfield 27, 3) := by decide +kernel
theorem dX3_isFree_15 : decode cX3_isFree 15 = .ok (.iload_n 3, 1) := by decide +kernel
theorem dX3_isFree_16 : decode cX3_isFree 16 = .ok (.iaload, 1) := by decide +kernel
theorem dX3_isFree_17 : decode cX3_isFree 17 = .ok (.if_icmp .ge 15, 3) := by decide +kernel
theorem dX3_isFree_20 : decode cX3_isFree 20 = .ok (.aload_n 0, 1) := by decide +kernel
theorem dX3_isFree_21 : decode cX3_isFree 21 = .ok (.getfield 24, 3) := by decide +kernel
theorem dX3_isFree_24 : decode cX3_isFree 24 = .ok (.iload_n 3, 1) := by decide +kernel
theorem dX3_isFree_25 : decode cX3_isFree 25 = .ok (.iaload, 1) := by decide +kernel
theorem dX3_isFree_26 : decode cX3_isFree 26 = .ok (.iload_n 2, 1) := by decide +kernel
theorem dX3_isFree_27 : decode cX3_isFree 27 = .ok (.if_icmp .ge 5, 3) := by decide +kernel
theorem dX3_isFree_30 : decode cX3_isFree 30 = .ok (.iconst 0, 1) := by decide +kernel
theorem dX3_isFree_31 : decode cX3_isFree 31 = .ok (.ireturn, 1) := by decide +kernel
theorem dX3_isFree_32 : decode cX3_isFree 32 = .ok (.iinc 3 1, 3) := by decide +kernel
theorem dX3_isFree_35 : decode cX3_isFree 35 = .ok (.goto (-33), 3) := by decide +kernel
theorem dX3_isFree_38 : decode cX3_isFree 38 = .ok (.iconst 1, 1) := by decide +kernel
theorem dX3_isFree_39 : decode cX3_isFree 39 = .ok (.ireturn, 1) := by decide +kernel
theorem dX3_addShift_0 : decode cX3_addShift 0 = .ok (.aload_n 0, 1) := by decide +kernel
theorem dX3_addShift_1 : decode cX3_addShift 1 = .ok (.getfield 84, 3) := by decide +kernel
theorem dX3_addShift_4 : decode cX3_addShift 4 = .ok (.bipush 40, 2) := by decide +kernel
theorem dX3_addShift_6 : decode cX3_addShift 6 = .ok (.if_icmp .ge 14, 3) := by decide +kernel
theorem dX3_addShift_9 : decode cX3_addShift 9 = .ok (.iload_n 1, 1) := by decide +kernel
theorem dX3_addShift_10 : decode cX3_addShift 10 = .ok (.ifCond .lt 10, 3) := by decide +kernel
theorem dX3_addShift_13 : decode cX3_addShift 13 = .ok (.iload_n 1, 1) := by decide +kernel
theorem dX3_addShift_14 : decode cX3_addShift 14 = .ok (.sipush 720, 3) := by decide +kernel
theorem dX3_addShift_17 : decode cX3_addShift 17 = .ok (.if_icmp .lt 4, 3) := by decide +kernel
theorem dX3_addShift_20 : decode cX3_addShift 20 = .ok (.return_, 1) := by decide +kernel
theorem dX3_addShift_21 : decode cX3_addShift 21 = .ok (.aload_n 0, 1) := by decide +kernel
theorem dX3_addShift_22 : decode cX3_addShift 22 = .ok (.getfield 24, 3) := by decide +kernel
theorem dX3_addShift_25 : decode cX3_addShift 25 = .ok (.aload_n 0, 1) := by decide +kernel
theorem dX3_addShift_26 : decode cX3_addShift 26 = .ok (.getfield 84, 3) := by decide +kernel
theorem dX3_addShift_29 : decode cX3_addShift 29 = .ok (.iload_n 1, 1) := by decide +kernel
theorem dX3_addShift_30 : decode cX3_addShift 30 = .ok (.sipush 1440, 3) := by decide +kernel
theorem dX3_addShift_33 : decode cX3_addShift 33 = .ok (.imul, 1) := by decide +kernel
theorem dX3_addShift_34 : decode cX3_addShift 34 = .ok (.iload_n 2, 1) := by decide +kernel
theorem dX3_addShift_35 : decode cX3_addShift 35 = .ok (.iadd, 1) := by decide +kernel
theorem dX3_addShift_36 : decode cX3_addShift 36 = .ok (.iastore, 1) := by decide +kernel
theorem dX3_addShift_37 : decode cX3_addShift 37 = .ok (.aload_n 0, 1) := by decide +kernel
theorem dX3_addShift_38 : decode cX3_addShift 38 = .ok (.getfield 27, 3) := by decide +kernel
theorem dX3_addShift_41 : decode cX3_addShift 41 = .ok (.aload_n 0, 1) := by decide +kernel
theorem dX3_addShift_42 : decode cX3_addShift 42 = .ok (.getfield 84, 3) := by decide +kernel
theorem dX3_addShift_45 : decode cX3_addShift 45 = .ok (.aload_n 0, 1) := by decide +kernel
theorem dX3_addShift_46 : decode cX3_addShift 46 = .ok (.getfield 24, 3) := by decide +kernel
theorem dX3_addShift_49 : decode cX3_addShift 49 = .ok (.aload_n 0, 1) := by decide +kernel
theorem dX3_addShift_50 : decode cX3_addShift 50 = .ok (.getfield 84, 3) := by decide +kernel
theorem dX3_addShift_53 : decode cX3_addShift 53 = .ok (.iaload, 1) := by decide +kernel
theorem dX3_addShift_54 : decode cX3_addShift 54 = .ok (.iload_n 3, 1) := by decide +kernel
theorem dX3_addShift_55 : decode cX3_addShift 55 = .ok (.iadd, 1) := by decide +kernel
theorem dX3_addShift_56 : decode cX3_addShift 56 = .ok (.iastore, 1) := by decide +kernel
theorem dX3_addShift_57 : decode cX3_addShift 57 = .ok (.aload_n 0, 1) := by decide +kernel
theorem dX3_addShift_58 : decode cX3_addShift 58 = .ok (.dup, 1) := by decide +kernel
theorem dX3_addShift_59 : decode cX3_addShift 59 = .ok (.getfield 84, 3) := by decide +kernel
theorem dX3_addShift_62 : decode cX3_addShift 62 = .ok (.iconst 1, 1) := by decide +kernel
theorem dX3_addShift_63 : decode cX3_addShift 63 = .ok (.iadd, 1) := by decide +kernel
theorem dX3_addShift_64 : decode cX3_addShift 64 = .ok (.putfield 84, 3) := by decide +kernel
theorem dX3_addShift_67 : decode cX3_addShift 67 = .ok (.iload_n 3, 1) := by decide +kernel
theorem dX3_addShift_68 : decode cX3_addShift 68 = .ok (.sipush 360, 3) := by decide +kernel
theorem dX3_addShift_71 : decode cX3_addShift 71 = .ok (.if_icmp .le 10, 3) := by decide +kernel
theorem dX3_addShift_74 : decode cX3_addShift 74 = .ok (.iload_n 3, 1) := by decide +kernel
theorem dX3_addShift_75 : decode cX3_addShift 75 = .ok (.bipush 30, 2) := by decide +kernel
theorem dX3_addShift_77 : decode cX3_addShift 77 = .ok (.isub, 1) := by decide +kernel
theorem dX3_addShift_78 : decode cX3_addShift 78 = .ok (.goto 4, 3) := by decide +kernel
theorem dX3_addShift_81 : decode cX3_addShift 81 = .ok (.iload_n 3, 1) := by decide +kernel
theorem dX3_addShift_82 : decode cX3_addShift 82 = .ok (.istore 4, 2) := by decide +kernel
theorem dX3_addShift_84 : decode cX3_addShift 84 = .ok (.iload 4, 2) := by decide +kernel
theorem dX3_addShift_86 : decode cX3_addShift 86 = .ok (.sipush 1440, 3) := by decide +kernel
theorem dX3_addShift_89 : decode cX3_addShift 89 = .ok (.iload_n 2, 1) := by decide +kernel
theorem dX3_addShift_90 : decode cX3_addShift 90 = .ok (.isub, 1) := by decide +kernel
theorem dX3_addShift_91 : decode cX3_addShift 91 = .ok (.invokestatic 87, 3) := by decide +kernel
theorem dX3_addShift_94 : decode cX3_addShift 94 = .ok (.istore 5, 2) := by decide +kernel
theorem dX3_addShift_96 : decode cX3_addShift 96 = .ok (.aload_n 0, 1) := by decide +kernel
theorem dX3_addShift_97 : decode cX3_addShift 97 = .ok (.getfield 20, 3) := by decide +kernel
theorem dX3_addShift_100 : decode cX3_addShift 100 = .ok (.iload_n 1, 1) := by decide +kernel
theorem dX3_addShift_101 : decode cX3_addShift 101 = .ok (.dup2, 1) := by decide +kernel
theorem dX3_addShift_102 : decode cX3_addShift 102 = .ok (.iaload, 1) := by decide +kernel
theorem dX3_addShift_103 : decode cX3_addShift 103 = .ok (.iload 5, 2) := by decide +kernel
theorem dX3_addShift_105 : decode cX3_addShift 105 = .ok (.iadd, 1) := by decide +kernel
theorem dX3_addShift_106 : decode cX3_addShift 106 = .ok (.iastore, 1) := by decide +kernel
theorem dX3_addShift_107 : decode cX3_addShift 107 = .ok (.iload_n 1, 1) := by decide +kernel
theorem dX3_addShift_108 : decode cX3_addShift 108 = .ok (.iconst 1, 1) := by decide +kernel
theorem dX3_addShift_109 : decode cX3_addShift 109 = .ok (.iadd, 1) := by decide +kernel
theorem dX3_addShift_110 : decode cX3_addShift 110 = .ok (.sipush 720, 3) := by decide +kernel
theorem dX3_addShift_113 : decode cX3_addShift 113 = .ok (.if_icmp .ge 19, 3) := by decide +kernel
theorem dX3_addShift_116 : decode cX3_addShift 116 = .ok (.aload_n 0, 1) := by decide +kernel
theorem dX3_addShift_117 : decode cX3_addShift 117 = .ok (.getfield 20, 3) := by decide +kernel
theorem dX3_addShift_120 : decode cX3_addShift 120 = .ok (.iload_n 1, 1) := by decide +kernel
theorem dX3_addShift_121 : decode cX3_addShift 121 = .ok (.iconst 1, 1) := by decide +kernel
theorem dX3_addShift_122 : decode cX3_addShift 122 = .ok (.iadd, 1) := by decide +kernel
theorem dX3_addShift_123 : decode cX3_addShift 123 = .ok (.dup2, 1) := by decide +kernel
theorem dX3_addShift_124 : decode cX3_addShift 124 = .ok (.iaload, 1) := by decide +kernel
theorem dX3_addShift_125 : decode cX3_addShift 125 = .ok (.iload 4, 2) := by decide +kernel
theorem dX3_addShift_127 : decode cX3_addShift 127 = .ok (.iload 5, 2) := by decide +kernel
theorem dX3_addShift_129 : decode cX3_addShift 129 = .ok (.isub, 1) := by decide +kernel
theorem dX3_addShift_130 : decode cX3_addShift 130 = .ok (.iadd, 1) := by decide +kernel
theorem dX3_addShift_131 : decode cX3_addShift 131 = .ok (.iastore, 1) := by decide +kernel
theorem dX3_addShift_132 : decode cX3_addShift 132 = .ok (.aload_n 0, 1) := by decide +kernel
theorem dX3_addShift_133 : decode cX3_addShift 133 = .ok (.iconst 1, 1) := by decide +kernel
theorem dX3_addShift_134 : decode cX3_addShift 134 = .ok (.putfield 30, 3) := by decide +kernel
theorem dX3_addShift_137 : decode cX3_addShift 137 = .ok (.return_, 1) := by decide +kernel
theorem dX3_overtimeIn_0 : decode cX3_overtimeIn 0 = .ok (.iconst 0, 1) := by decide +kernel
theorem dX3_overtimeIn_1 : decode cX3_overtimeIn 1 = .ok (.istore_n 2, 1) := by decide +kernel
theorem dX3_overtimeIn_2 : decode cX3_overtimeIn 2 = .ok (.iconst 0, 1) := by decide +kernel
theorem dX3_overtimeIn_3 : decode cX3_overtimeIn 3 = .ok (.istore_n 3, 1) := by decide +kernel
theorem dX3_overtimeIn_4 : decode cX3_overtimeIn 4 = .ok (.iload_n 1, 1) := by decide +kernel
theorem dX3_overtimeIn_5 : decode cX3_overtimeIn 5 = .ok (.bipush 7, 2) := by decide +kernel
theorem dX3_overtimeIn_7 : decode cX3_overtimeIn 7 = .ok (.imul, 1) := by decide +kernel
theorem dX3_overtimeIn_8 : decode cX3_overtimeIn 8 = .ok (.istore 4, 2) := by decide +kernel
theorem dX3_overtimeIn_10 : decode cX3_overtimeIn 10 = .ok (.iload 4, 2) := by decide +kernel
theorem dX3_overtimeIn_12 : decode cX3_overtimeIn 12 = .ok (.istore 5, 2) := by decide +kernel
theorem dX3_overtimeIn_14 : decode cX3_overtimeIn 14 = .ok (.iload 5, 2) := by decide +kernel
theorem dX3_overtimeIn_16 : decode cX3_overtimeIn 16 = .ok (.iload 4, 2) := by decide +kernel
theorem dX3_overtimeIn_18 : decode cX3_overtimeIn 18 = .ok (.bipush 7, 2) := by decide +kernel
theorem dX3_overtimeIn_20 : decode cX3_overtimeIn 20 = .ok (.iadd, 1) := by decide +kernel
theorem dX3_overtimeIn_21 : decode cX3_overtimeIn 21 = .ok (.if_icmp .ge 46, 3) := by decide +kernel
theorem dX3_overtimeIn_24 : decode cX3_overtimeIn 24 = .ok (.iload 5, 2) := by decide +kernel
theorem dX3_overtimeIn_26 : decode cX3_overtimeIn 26 = .ok (.sipush 720, 3) := by decide +kernel
theorem dX3_overtimeIn_29 : decode cX3_overtimeIn 29 = .ok (.if_icmp .ge 38, 3) := by decide +kernel
theorem dX3_overtimeIn_32 : decode cX3_overtimeIn 32 = .ok (.iload_n 2, 1) := by decide +kernel
theorem dX3_overtimeIn_33 : decode cX3_overtimeIn 33 = .ok (.iconst 0, 1) := by decide +kernel
theorem dX3_overtimeIn_34 : decode cX3_overtimeIn 34 = .ok (.aload_n 0, 1) := by decide +kernel
theorem dX3_overtimeIn_35 : decode cX3_overtimeIn 35 = .ok (.getfield 20, 3) := by decide +kernel
theorem dX3_overtimeIn_38 : decode cX3_overtimeIn 38 = .ok (.iload 5, 2) := by decide +kernel
theorem dX3_overtimeIn_40 : decode cX3_overtimeIn 40 = .ok (.iaload, 1) := by decide +kernel
theorem dX3_overtimeIn_41 : decode cX3_overtimeIn 41 = .ok (.aload_n 0, 1) := by decide +kernel
theorem dX3_overtimeIn_42 : decode cX3_overtimeIn 42 = .ok (.getfield 60, 3) := by decide +kernel
theorem dX3_overtimeIn_45 : decode cX3_overtimeIn 45 = .ok (.isub, 1) := by decide +kernel
theorem dX3_overtimeIn_46 : decode cX3_overtimeIn 46 = .ok (.invokestatic 71, 3) := by decide +kernel
theorem dX3_overtimeIn_49 : decode cX3_overtimeIn 49 = .ok (.iadd, 1) := by decide +kernel
theorem dX3_overtimeIn_50 : decode cX3_overtimeIn 50 = .ok (.istore_n 2, 1) := by decide +kernel
theorem dX3_overtimeIn_51 : decode cX3_overtimeIn 51 = .ok (.iload_n 3, 1) := by decide +kernel
theorem dX3_overtimeIn_52 : decode cX3_overtimeIn 52 = .ok (.aload_n 0, 1) := by decide +kernel
theorem dX3_overtimeIn_53 : decode cX3_overtimeIn 53 = .ok (.getfield 20, 3) := by decide +kernel
theorem dX3_overtimeIn_56 : decode cX3_overtimeIn 56 = .ok (.iload 5, 2) := by decide +kernel
theorem dX3_overtimeIn_58 : decode cX3_overtimeIn 58 = .ok (.iaload, 1) := by decide +kernel
theorem dX3_overtimeIn_59 : decode cX3_overtimeIn 59 = .ok (.iadd, 1) := by decide +kernel
theorem dX3_overtimeIn_60 : decode cX3_overtimeIn 60 = .ok (.istore_n 3, 1) := by decide +kernel
theorem dX3_overtimeIn_61 : decode cX3_overtimeIn 61 = .ok (.iinc 5 1, 3) := by decide +kernel
theorem dX3_overtimeIn_64 : decode cX3_overtimeIn 64 = .ok (.goto (-50), 3) := by decide +kernel
theorem dX3_overtimeIn_67 : decode cX3_overtimeIn 67 = .ok (.iload_n 2, 1) := by decide +kernel
theorem dX3_overtimeIn_68 : decode cX3_overtimeIn 68 = .ok (.iload_n 3, 1) := by decide +kernel
theorem dX3_overtimeIn_69 : decode cX3_overtimeIn 69 = .ok (.iconst 5, 1) := by decide +kernel
theorem dX3_overtimeIn_70 : decode cX3_overtimeIn 70 = .ok (.aload_n 0, 1) := by decide +kernel
theorem dX3_overtimeIn_71 : decode cX3_overtimeIn 71 = .ok (.getfield 60, 3) := by decide +kernel
theorem dX3_overtimeIn_74 : decode cX3_overtimeIn 74 = .ok (.imul, 1) := by decide +kernel
theorem dX3_overtimeIn_75 : decode cX3_overtimeIn 75 = .ok (.isub, 1) := by decide +kernel
theorem dX3_overtimeIn_76 : decode cX3_overtimeIn 76 = .ok (.invokestatic 71, 3) := by decide +kernel
theorem dX3_overtimeIn_79 : decode cX3_overtimeIn 79 = .ok (.ireturn, 1) := by decide +kernel
theorem dX3_baseIn_0 : decode cX3_baseIn 0 = .ok (.aload_n 0, 1) := by decide +kernel
theorem dX3_baseIn_1 : decode cX3_baseIn 1 = .ok (.getfield 34, 3) := by decide +kernel
theorem dX3_baseIn_4 : decode cX3_baseIn 4 = .ok (.iload_n 1, 1) := by decide +kernel
theorem dX3_baseIn_5 : decode cX3_baseIn 5 = .ok (.laload, 1) := by decide +kernel
theorem dX3_baseIn_6 : decode cX3_baseIn 6 = .ok (.aload_n 0, 1) := by decide +kernel
theorem dX3_baseIn_7 : decode cX3_baseIn 7 = .ok (.getfield 41, 3) := by decide +kernel
theorem dX3_baseIn_10 : decode cX3_baseIn 10 = .ok (.iload_n 1, 1) := by decide +kernel
theorem dX3_baseIn_11 : decode cX3_baseIn 11 = .ok (.laload, 1) := by decide +kernel
theorem dX3_baseIn_12 : decode cX3_baseIn 12 = .ok (.ladd, 1) := by decide +kernel
theorem dX3_baseIn_13 : decode cX3_baseIn 13 = .ok (.lreturn, 1) := by decide +kernel
theorem dX3_refresh_0 : decode cX3_refresh 0 = .ok (.iconst 0, 1) := by decide +kernel
theorem dX3_refresh_1 : decode cX3_refresh 1 = .ok (.istore_n 1, 1) := by decide +kernel
theorem dX3_refresh_2 : decode cX3_refresh 2 = .ok (.iload_n 1, 1) := by decide +kernel
theorem dX3_refresh_3 : decode cX3_refresh 3 = .ok (.bipush 24, 2) := by decide +kernel
theorem dX3_refresh_5 : decode cX3_refresh 5 = .ok (.if_icmp .ge 16, 3) := by decide +kernel
theorem dX3_refresh_8 : decode cX3_refresh 8 = .ok (.aload_n 0, 1) := by decide +kernel
theorem dX3_refresh_9 : decode cX3_refresh 9 = .ok (.getfield 41, 3) := by decide +kernel
theorem dX3_refresh_12 : decode cX3_refresh 12 = .ok (.iload_n 1, 1) := by decide +kernel
theorem dX3_refresh_13 : decode cX3_refresh 13 = .ok (.lconst 0, 1) := by decide +kernel
theorem dX3_refresh_14 : decode cX3_refresh 14 = .ok (.lastore, 1) := by decide +kernel
theorem dX3_refresh_15 : decode cX3_refresh 15 = .ok (.iinc 1 1, 3) := by decide +kernel
theorem dX3_refresh_18 : decode cX3_refresh 18 = .ok (.goto (-16), 3) := by decide +kernel
theorem dX3_refresh_21 : decode cX3_refresh 21 = .ok (.aload_n 0, 1) := by decide +kernel
theorem dX3_refresh_22 : decode cX3_refresh 22 = .ok (.getfield 30, 3) := by decide +kernel
theorem dX3_refresh_25 : decode cX3_refresh 25 = .ok (.ifCond .eq 12, 3) := by decide +kernel
theorem dX3_refresh_28 : decode cX3_refresh 28 = .ok (.aload_n 0, 1) := by decide +kernel
theorem dX3_refresh_29 : decode cX3_refresh 29 = .ok (.invokevirtual 90, 3) := by decide +kernel
theorem dX3_refresh_32 : decode cX3_refresh 32 = .ok (.aload_n 0, 1) := by decide +kernel
theorem dX3_refresh_33 : decode cX3_refresh 33 = .ok (.iconst 0, 1) := by decide +kernel
theorem dX3_refresh_34 : decode cX3_refresh 34 = .ok (.putfield 30, 3) := by decide +kernel
theorem dX3_refresh_37 : decode cX3_refresh 37 = .ok (.return_, 1) := by decide +kernel
theorem dX3_fillWorked_0 : decode cX3_fillWorked 0 = .ok (.iconst 0, 1) := by decide +kernel
theorem dX3_fillWorked_1 : decode cX3_fillWorked 1 = .ok (.istore_n 1, 1) := by decide +kernel
theorem dX3_fillWorked_2 : decode cX3_fillWorked 2 = .ok (.iload_n 1, 1) := by decide +kernel
theorem dX3_fillWorked_3 : decode cX3_fillWorked 3 = .ok (.bipush 24, 2) := by decide +kernel
theorem dX3_fillWorked_5 : decode cX3_fillWorked 5 = .ok (.if_icmp .ge 14, 3) := by decide +kernel
theorem dX3_fillWorked_8 : decode cX3_fillWorked 8 = .ok (.aload_n 0, 1) := by decide +kernel
theorem dX3_fillWorked_9 : decode cX3_fillWorked 9 = .ok (.iload_n 1, 1) := by decide +kernel
theorem dX3_fillWorked_10 : decode cX3_fillWorked 10 = .ok (.invokevirtual 93, 3) := by decide +kernel
theorem dX3_fillWorked_13 : decode cX3_fillWorked 13 = .ok (.iinc 1 1, 3) := by decide +kernel
theorem dX3_fillWorked_16 : decode cX3_fillWorked 16 = .ok (.goto (-14), 3) := by decide +kernel
theorem dX3_fillWorked_19 : decode cX3_fillWorked 19 = .ok (.iconst 0, 1) := by decide +kernel
theorem dX3_fillWorked_20 : decode cX3_fillWorked 20 = .ok (.istore_n 1, 1) := by decide +kernel
theorem dX3_fillWorked_21 : decode cX3_fillWorked 21 = .ok (.iload_n 1, 1) := by decide +kernel
theorem dX3_fillWorked_22 : decode cX3_fillWorked 22 = .ok (.bipush 103, 2) := by decide +kernel
theorem dX3_fillWorked_24 : decode cX3_fillWorked 24 = .ok (.if_icmp .ge 47, 3) := by decide +kernel
theorem dX3_fillWorked_27 : decode cX3_fillWorked 27 = .ok (.iload_n 1, 1) := by decide +kernel
theorem dX3_fillWorked_28 : decode cX3_fillWorked 28 = .ok (.bipush 7, 2) := by decide +kernel
theorem dX3_fillWorked_30 : decode cX3_fillWorked 30 = .ok (.imul, 1) := by decide +kernel
theorem dX3_fillWorked_31 : decode cX3_fillWorked 31 = .ok (.bipush 7, 2) := by decide +kernel
theorem dX3_fillWorked_33 : decode cX3_fillWorked 33 = .ok (.iadd, 1) := by decide +kernel
theorem dX3_fillWorked_34 : decode cX3_fillWorked 34 = .ok (.sipush 720, 3) := by decide +kernel
theorem dX3_fillWorked_37 : decode cX3_fillWorked 37 = .ok (.invokestatic 87, 3) := by decide +kernel
theorem dX3_fillWorked_40 : decode cX3_fillWorked 40 = .ok (.iconst 1, 1) := by decide +kernel
theorem dX3_fillWorked_41 : decode cX3_fillWorked 41 = .ok (.isub, 1) := by decide +kernel
theorem dX3_fillWorked_42 : decode cX3_fillWorked 42 = .ok (.istore_n 2, 1) := by decide +kernel
theorem dX3_fillWorked_43 : decode cX3_fillWorked 43 = .ok (.aload_n 0, 1) := by decide +kernel
theorem dX3_fillWorked_44 : decode cX3_fillWorked 44 = .ok (.getfield 34, 3) := by decide +kernel
theorem dX3_fillWorked_47 : decode cX3_fillWorked 47 = .ok (.iload_n 2, 1) := by decide +kernel
theorem dX3_fillWorked_48 : decode cX3_fillWorked 48 = .ok (.bipush 30, 2) := by decide +kernel
theorem dX3_fillWorked_50 : decode cX3_fillWorked 50 = .ok (.idiv, 1) := by decide +kernel
theorem dX3_fillWorked_51 : decode cX3_fillWorked 51 = .ok (.dup2, 1) := by decide +kernel
theorem dX3_fillWorked_52 : decode cX3_fillWorked 52 = .ok (.laload, 1) := by decide +kernel
theorem dX3_fillWorked_53 : decode cX3_fillWorked 53 = .ok (.aload_n 0, 1) := by decide +kernel
theorem dX3_fillWorked_54 : decode cX3_fillWorked 54 = .ok (.aload_n 0, 1) := by decide +kernel
theorem dX3_fillWorked_55 : decode cX3_fillWorked 55 = .ok (.iload_n 1, 1) := by decide +kernel
theorem dX3_fillWorked_56 : decode cX3_fillWorked 56 = .ok (.invokevirtual 96, 3) := by decide +kernel
theorem dX3_fillWorked_59 : decode cX3_fillWorked 59 = .ok (.iload_n 2, 1) := by decide +kernel
theorem dX3_fillWorked_60 : decode cX3_fillWorked 60 = .ok (.invokevirtual 99, 3) := by decide +kernel
theorem dX3_fillWorked_63 : decode cX3_fillWorked 63 = .ok (.ladd, 1) := by decide +kernel
theorem dX3_fillWorked_64 : decode cX3_fillWorked 64 = .ok (.lastore, 1) := by decide +kernel
theorem dX3_fillWorked_65 : decode cX3_fillWorked 65 = .ok (.iinc 1 1, 3) := by decide +kernel
theorem dX3_fillWorked_68 : decode cX3_fillWorked 68 = .ok (.goto (-47), 3) := by decide +kernel
theorem dX3_fillWorked_71 : decode cX3_fillWorked 71 = .ok (.return_, 1) := by decide +kernel
theorem dX3_fillMonth_0 : decode cX3_fillMonth 0 = .ok (.lconst 0, 1) := by decide +kernel
theorem dX3_fillMonth_1 : decode cX3_fillMonth 1 = .ok (.lstore_n 2, 1) := by decide +kernel
theorem dX3_fillMonth_2 : decode cX3_fillMonth 2 = .ok (.iconst 0, 1) := by decide +kernel
theorem dX3_fillMonth_3 : decode cX3_fillMonth 3 = .ok (.istore 4, 2) := by decide +kernel
theorem dX3_fillMonth_5 : decode cX3_fillMonth 5 = .ok (.iload_n 1, 1) := by decide +kernel
theorem dX3_fillMonth_6 : decode cX3_fillMonth 6 = .ok (.bipush 30, 2) := by decide +kernel
theorem dX3_fillMonth_8 : decode cX3_fillMonth 8 = .ok (.imul, 1) := by decide +kernel
theorem dX3_fillMonth_9 : decode cX3_fillMonth 9 = .ok (.istore 5, 2) := by decide +kernel
theorem dX3_fillMonth_11 : decode cX3_fillMonth 11 = .ok (.iload 5, 2) := by decide +kernel
theorem dX3_fillMonth_13 : decode cX3_fillMonth 13 = .ok (.istore 6, 2) := by decide +kernel
theorem dX3_fillMonth_15 : decode cX3_fillMonth 15 = .ok (.iload 6, 2) := by decide +kernel
theorem dX3_fillMonth_17 : decode cX3_fillMonth 17 = .ok (.iload 5, 2) := by decide +kernel
theorem dX3_fillMonth_19 : decode cX3_fillMonth 19 = .ok (.bipush 30, 2) := by decide +kernel
theorem dX3_fillMonth_21 : decode cX3_fillMonth 21 = .ok (.iadd, 1) := by decide +kernel
theorem dX3_fillMonth_22 : decode cX3_fillMonth 22 = .ok (.if_icmp .ge 69, 3) := by decide +kernel
theorem dX3_fillMonth_25 : decode cX3_fillMonth 25 = .ok (.iload 4, 2) := by decide +kernel
theorem dX3_fillMonth_27 : decode cX3_fillMonth 27 = .ok (.aload_n 0, 1) := by decide +kernel
theorem dX3_fillMonth_28 : decode cX3_fillMonth 28 = .ok (.getfield 20, 3) := by decide +kernel
theorem dX3_fillMonth_31 : decode cX3_fillMonth 31 = .ok (.iload 6, 2) := by decide +kernel
theorem dX3_fillMonth_33 : decode cX3_fillMonth 33 = .ok (.iaload, 1) := by decide +kernel
theorem dX3_fillMonth_34 : decode cX3_fillMonth 34 = .ok (.iadd, 1) := by decide +kernel
theorem dX3_fillMonth_35 : decode cX3_fillMonth 35 = .ok (.istore 4, 2) := by decide +kernel
theorem dX3_fillMonth_37 : decode cX3_fillMonth 37 = .ok (.aload_n 0, 1) := by decide +kernel
theorem dX3_fillMonth_38 : decode cX3_fillMonth 38 = .ok (.getfield 57, 3) := by decide +kernel
theorem dX3_fillMonth_41 : decode cX3_fillMonth 41 = .ok (.ifCond .eq 25, 3) := by decide +kernel
theorem dX3_fillMonth_44 : decode cX3_fillMonth 44 = .ok (.lload_n 2, 1) := by decide +kernel
theorem dX3_fillMonth_45 : decode cX3_fillMonth 45 = .ok (.aload_n 0, 1) := by decide +kernel
theorem dX3_fillMonth_46 : decode cX3_fillMonth 46 = .ok (.getfield 20, 3) := by decide +kernel
theorem dX3_fillMonth_49 : decode cX3_fillMonth 49 = .ok (.iload 6, 2) := by decide +kernel
theorem dX3_fillMonth_51 : decode cX3_fillMonth 51 = .ok (.iaload, 1) := by decide +kernel
theorem dX3_fillMonth_52 : decode cX3_fillMonth 52 = .ok (.i2l, 1) := by decide +kernel
theorem dX3_fillMonth_53 : decode cX3_fillMonth 53 = .ok (.aload_n 0, 1) := by decide +kernel
theorem dX3_fillMonth_54 : decode cX3_fillMonth 54 = .ok (.iload 6, 2) := by decide +kernel
theorem dX3_fillMonth_56 : decode cX3_fillMonth 56 = .ok (.invokevirtual 77, 3) := by decide +kernel
theorem dX3_fillMonth_59 : decode cX3_fillMonth 59 = .ok (.i2l, 1) := by decide +kernel
theorem dX3_fillMonth_60 : decode cX3_fillMonth 60 = .ok (.lmul, 1) := by decide +kernel
theorem dX3_fillMonth_61 : decode cX3_fillMonth 61 = .ok (.ladd, 1) := by decide +kernel
theorem dX3_fillMonth_62 : decode cX3_fillMonth 62 = .ok (.lstore_n 2, 1) := by decide +kernel
theorem dX3_fillMonth_63 : decode cX3_fillMonth 63 = .ok (.goto 22, 3) := by decide +kernel
theorem dX3_fillMonth_66 : decode cX3_fillMonth 66 = .ok (.aload_n 0, 1) := by decide +kernel
theorem dX3_fillMonth_67 : decode cX3_fillMonth 67 = .ok (.iload 6, 2) := by decide +kernel
theorem dX3_fillMonth_69 : decode cX3_fillMonth 69 = .ok (.invokevirtual 63, 3) := by decide +kernel
theorem dX3_fillMonth_72 : decode cX3_fillMonth 72 = .ok (.ifCond .eq 13, 3) := by decide +kernel
theorem dX3_fillMonth_75 : decode cX3_fillMonth 75 = .ok (.lload_n 2, 1) := by decide +kernel
theorem dX3_fillMonth_76 : decode cX3_fillMonth 76 = .ok (.aload_n 0, 1) := by decide +kernel
theorem dX3_fillMonth_77 : decode cX3_fillMonth 77 = .ok (.iload 6, 2) := by decide +kernel
theorem dX3_fillMonth_79 : decode cX3_fillMonth 79 = .ok (.invokevirtual 77, 3) := by decide +kernel
theorem dX3_fillMonth_82 : decode cX3_fillMonth 82 = .ok (.i2l, 1) := by decide +kernel
theorem dX3_fillMonth_83 : decode cX3_fillMonth 83 = .ok (.ladd, 1) := by decide +kernel
theorem dX3_fillMonth_84 : decode cX3_fillMonth 84 = .ok (.lstore_n 2, 1) := by decide +kernel
theorem dX3_fillMonth_85 : decode cX3_fillMonth 85 = .ok (.iinc 6 1, 3) := by decide +kernel
theorem dX3_fillMonth_88 : decode cX3_fillMonth 88 = .ok (.goto (-73), 3) := by decide +kernel
theorem dX3_fillMonth_91 : decode cX3_fillMonth 91 = .ok (.aload_n 0, 1) := by decide +kernel
theorem dX3_fillMonth_92 : decode cX3_fillMonth 92 = .ok (.getfield 38, 3) := by decide +kernel
theorem dX3_fillMonth_95 : decode cX3_fillMonth 95 = .ok (.iload_n 1, 1) := by decide +kernel
theorem dX3_fillMonth_96 : decode cX3_fillMonth 96 = .ok (.iload 4, 2) := by decide +kernel
theorem dX3_fillMonth_98 : decode cX3_fillMonth 98 = .ok (.iastore, 1) := by decide +kernel
theorem dX3_fillMonth_99 : decode cX3_fillMonth 99 = .ok (.aload_n 0, 1) := by decide +kernel
theorem dX3_fillMonth_100 : decode cX3_fillMonth 100 = .ok (.getfield 34, 3) := by decide +kernel
theorem dX3_fillMonth_103 : decode cX3_fillMonth 103 = .ok (.iload_n 1, 1) := by decide +kernel
theorem dX3_fillMonth_104 : decode cX3_fillMonth 104 = .ok (.lload_n 2, 1) := by decide +kernel
theorem dX3_fillMonth_105 : decode cX3_fillMonth 105 = .ok (.aload_n 0, 1) := by decide +kernel
theorem dX3_fillMonth_106 : decode cX3_fillMonth 106 = .ok (.getfield 57, 3) := by decide +kernel
theorem dX3_fillMonth_109 : decode cX3_fillMonth 109 = .ok (.ifCond .eq 9, 3) := by decide +kernel
theorem dX3_fillMonth_112 : decode cX3_fillMonth 112 = .ok (.ldc2_w 103, 3) := by decide +kernel
theorem dX3_fillMonth_115 : decode cX3_fillMonth 115 = .ok (.goto 6, 3) := by decide +kernel
theorem dX3_fillMonth_118 : decode cX3_fillMonth 118 = .ok (.ldc2_w 105, 3) := by decide +kernel
theorem dX3_fillMonth_121 : decode cX3_fillMonth 121 = .ok (.invokestatic 107, 3) := by decide +kernel
theorem dX3_fillMonth_124 : decode cX3_fillMonth 124 = .ok (.lastore, 1) := by decide +kernel
theorem dX3_fillMonth_125 : decode cX3_fillMonth 125 = .ok (.return_, 1) := by decide +kernel
theorem dX3_overtimePay_0 : decode cX3_overtimePay 0 = .ok (.iload_n 1, 1) := by decide +kernel
theorem dX3_overtimePay_1 : decode cX3_overtimePay 1 = .ok (.ifCond .gt 5, 3) := by decide +kernel
theorem dX3_overtimePay_4 : decode cX3_overtimePay 4 = .ok (.lconst 0, 1) := by decide +kernel
theorem dX3_overtimePay_5 : decode cX3_overtimePay 5 = .ok (.lreturn, 1) := by decide +kernel
theorem dX3_overtimePay_6 : decode cX3_overtimePay 6 = .ok (.aload_n 0, 1) := by decide +kernel
theorem dX3_overtimePay_7 : decode cX3_overtimePay 7 = .ok (.getfield 57, 3) := by decide +kernel
theorem dX3_overtimePay_10 : decode cX3_overtimePay 10 = .ok (.ifCond .eq 12, 3) := by decide +kernel
theorem dX3_overtimePay_13 : decode cX3_overtimePay 13 = .ok (.aload_n 0, 1) := by decide +kernel
theorem dX3_overtimePay_14 : decode cX3_overtimePay 14 = .ok (.iload_n 2, 1) := by decide +kernel
theorem dX3_overtimePay_15 : decode cX3_overtimePay 15 = .ok (.invokevirtual 77, 3) := by decide +kernel
theorem dX3_overtimePay_18 : decode cX3_overtimePay 18 = .ok (.i2l, 1) := by decide +kernel
theorem dX3_overtimePay_19 : decode cX3_overtimePay 19 = .ok (.goto 25, 3) := by decide +kernel
theorem dX3_overtimePay_22 : decode cX3_overtimePay 22 = .ok (.ldc2_w 103, 3) := by decide +kernel
theorem dX3_overtimePay_25 : decode cX3_overtimePay 25 = .ok (.aload_n 0, 1) := by decide +kernel
theorem dX3_overtimePay_26 : decode cX3_overtimePay 26 = .ok (.iload_n 2, 1) := by decide +kernel
theorem dX3_overtimePay_27 : decode cX3_overtimePay 27 = .ok (.invokevirtual 77, 3) := by decide +kernel
theorem dX3_overtimePay_30 : decode cX3_overtimePay 30 = .ok (.i2l, 1) := by decide +kernel
theorem dX3_overtimePay_31 : decode cX3_overtimePay 31 = .ok (.lmul, 1) := by decide +kernel
theorem dX3_overtimePay_32 : decode cX3_overtimePay 32 = .ok (.ldc2_w 105, 3) := by decide +kernel
theorem dX3_overtimePay_35 : decode cX3_overtimePay 35 = .ok (.aload_n 0, 1) := by decide +kernel
theorem dX3_overtimePay_36 : decode cX3_overtimePay 36 = .ok (.getfield 60, 3) := by decide +kernel
theorem dX3_overtimePay_39 : decode cX3_overtimePay 39 = .ok (.i2l, 1) := by decide +kernel
theorem dX3_overtimePay_40 : decode cX3_overtimePay 40 = .ok (.lmul, 1) := by decide +kernel
theorem dX3_overtimePay_41 : decode cX3_overtimePay 41 = .ok (.invokestatic 107, 3) := by decide +kernel
theorem dX3_overtimePay_44 : decode cX3_overtimePay 44 = .ok (.lstore_n 3, 1) := by decide +kernel
theorem dX3_overtimePay_45 : decode cX3_overtimePay 45 = .ok (.lload_n 3, 1) := by decide +kernel
theorem dX3_overtimePay_46 : decode cX3_overtimePay 46 = .ok (.iload_n 1, 1) := by decide +kernel
theorem dX3_overtimePay_47 : decode cX3_overtimePay 47 = .ok (.i2l, 1) := by decide +kernel
theorem dX3_overtimePay_48 : decode cX3_overtimePay 48 = .ok (.lmul, 1) := by decide +kernel
theorem dX3_overtimePay_49 : decode cX3_overtimePay 49 = .ok (.ldc2_w 113, 3) := by decide +kernel
theorem dX3_overtimePay_52 : decode cX3_overtimePay 52 = .ok (.invokestatic 107, 3) := by decide +kernel
theorem dX3_overtimePay_55 : decode cX3_overtimePay 55 = .ok (.lreturn, 1) := by decide +kernel
theorem dX4_init_0 : decode cX4_init 0 = .ok (.aload_n 0, 1) := by decide +kernel
theorem dX4_init_1 : decode cX4_init 1 = .ok (.invokespecial 3, 3) := by decide +kernel
theorem dX4_init_4 : decode cX4_init 4 = .ok (.aload_n 0, 1) := by decide +kernel
theorem dX4_init_5 : decode cX4_init 5 = .ok (.bipush 7, 2) := by decide +kernel
theorem dX4_init_7 : decode cX4_init 7 = .ok (.bipush 10, 2) := by decide +kernel
theorem dX4_init_9 : decode cX4_init 9 = .ok (.multianewarray 11 2, 4) := by decide +kernel
theorem dX4_init_13 : decode cX4_init 13 = .ok (.putfield 13, 3) := by decide +kernel
theorem dX4_init_16 : decode cX4_init 16 = .ok (.aload_n 0, 1) := by decide +kernel
theorem dX4_init_17 : decode cX4_init 17 = .ok (.bipush 7, 2) := by decide +kernel
theorem dX4_init_19 : decode cX4_init 19 = .ok (.bipush 10, 2) := by decide +kernel
theorem dX4_init_21 : decode cX4_init 21 = .ok (.multianewarray 11 2, 4) := by decide +kernel
theorem dX4_init_25 : decode cX4_init 25 = .ok (.putfield 16, 3) := by decide +kernel
theorem dX4_init_28 : decode cX4_init 28 = .ok (.aload_n 0, 1) := by decide +kernel
theorem dX4_init_29 : decode cX4_init 29 = .ok (.bipush 7, 2) := by decide +kernel
theorem dX4_init_31 : decode cX4_init 31 = .ok (.newarray .int, 2) := by decide +kernel
theorem dX4_init_33 : decode cX4_init 33 = .ok (.putfield 19, 3) := by decide +kernel
theorem dX4_init_36 : decode cX4_init 36 = .ok (.aload_n 0, 1) := by decide +kernel
theorem dX4_init_37 : decode cX4_init 37 = .ok (.bipush 7, 2) := by decide +kernel
theorem dX4_init_39 : decode cX4_init 39 = .ok (.newarray .int, 2) := by decide +kernel
theorem dX4_init_41 : decode cX4_init 41 = .ok (.putfield 23, 3) := by decide +kernel
theorem dX4_init_44 : decode cX4_init 44 = .ok (.aload_n 0, 1) := by decide +kernel
theorem dX4_init_45 : decode cX4_init 45 = .ok (.bipush 6, 2) := by decide +kernel
theorem dX4_init_47 : decode cX4_init 47 = .ok (.newarray .int, 2) := by decide +kernel
theorem dX4_init_49 : decode cX4_init 49 = .ok (.putfield 26, 3) := by decide +kernel
theorem dX4_init_52 : decode cX4_init 52 = .ok (.aload_n 0, 1) := by decide +kernel
theorem dX4_init_53 : decode cX4_init 53 = .ok (.bipush 6, 2) := by decide +kernel
theorem dX4_init_55 : decode cX4_init 55 = .ok (.newarray .int, 2) := by decide +kernel
theorem dX4_init_57 : decode cX4_init 57 = .ok (.putfield 29, 3) := by decide +kernel
theorem dX4_init_60 : decode cX4_init 60 = .ok (.aload_n 0, 1) := by decide +kernel
theorem dX4_init_61 : decode cX4_init 61 = .ok (.bipush 6, 2) := by decide +kernel
theorem dX4_init_63 : decode cX4_init 63 = .ok (.newarray .long, 2) := by decide +kernel
theorem dX4_init_65 : decode cX4_init 65 = .ok (.putfield 32, 3) := by decide +kernel
theorem dX4_init_68 : decode cX4_init 68 = .ok (.aload_n 0, 1) := by decide +kernel
theorem dX4_init_69 : decode cX4_init 69 = .ok (.bipush 10, 2) := by decide +kernel
theorem dX4_init_71 : decode cX4_init 71 = .ok (.newarray .long, 2) := by decide +kernel
theorem dX4_init_73 : decode cX4_init 73 = .ok (.putfield 36, 3) := by decide +kernel
theorem dX4_init_76 : decode cX4_init 76 = .ok (.return_, 1) := by decide +kernel
theorem dX4_takesWord_0 : decode cX4_takesWord 0 = .ok (.aload_n 0, 1) := by decide +kernel
theorem dX4_takesWord_1 : decode cX4_takesWord 1 = .ok (.getfield 19, 3) := by decide +kernel
theorem dX4_takesWord_4 : decode cX4_takesWord 4 = .ok (.bipush 6, 2) := by decide +kernel
theorem dX4_takesWord_6 : decode cX4_takesWord 6 = .ok (.iaload, 1) := by decide +kernel
theorem dX4_takesWord_7 : decode cX4_takesWord 7 = .ok (.bipush 10, 2) := by decide +kernel
theorem dX4_takesWord_9 : decode cX4_takesWord 9 = .ok (.if_icmp .ge 20, 3) := by decide +kernel
theorem dX4_takesWord_12 : decode cX4_takesWord 12 = .ok (.iload_n 1, 1) := by decide +kernel
theorem dX4_takesWord_13 : decode cX4_takesWord 13 = .ok (.iconst 4, 1) := by decide +kernel
theorem dX4_takesWord_14 : decode cX4_takesWord 14 = .ok (.if_icmp .lt 11, 3) := by decide +kernel
theorem dX4_takesWord_17 : decode cX4_takesWord 17 = .ok (.aload_n 0, 1) := by decide +kernel
theorem dX4_takesWord_18 : decode cX4_takesWord 18 = .ok (.getfield 39, 3) := by decide +kernel
theorem dX4_takesWord_21 : decode cX4_takesWord 21 = .ok (.iconst 2, 1) := by decide +kernel
theorem dX4_takesWord_22 : decode cX4_takesWord 22 = .ok (.if_icmp .lt 7, 3) := by decide +kernel
theorem dX4_takesWord_25 : decode cX4_takesWord 25 = .ok (.iconst 1, 1) := by decide +kernel
theorem dX4_takesWord_26 : decode cX4_takesWord 26 = .ok (.goto 4, 3) := by decide +kernel
theorem dX4_takesWord_29 : decode cX4_takesWord 29 = .ok (.iconst 0, 1) := by decide +kernel
theorem dX4_takesWord_30 : decode cX4_takesWord 30 = .ok (.ireturn, 1) := by decide +kernel
theorem dX4_putWord_0 : decode cX4_putWord 0 = .ok (.aload_n 0, 1) := by decide +kernel
theorem dX4_putWord_1 : decode cX4_putWord 1 = .ok (.getfield 19, 3) := by decide +kernel
theorem dX4_putWord_4 : decode cX4_putWord 4 = .ok (.bipush 6, 2) := by decide +kernel
theorem dX4_putWord_6 : decode cX4_putWord 6 = .ok (.iaload, 1) := by decide +kernel
theorem dX4_putWord_7 : decode cX4_putWord 7 = .ok (.istore_n 3, 1) := by decide +kernel
theorem dX4_putWord_8 : decode cX4_putWord 8 = .ok (.iload_n 3, 1) := by decide +kernel
theorem dX4_putWord_9 : decode cX4_putWord 9 = .ok (.bipush 10, 2) := by decide +kernel
theorem dX4_putWord_11 : decode cX4_putWord 11 = .ok (.if_icmp .ge 74, 3) := by decide +kernel
theorem dX4_putWord_14 : decode cX4_putWord 14 = .ok (.aload_n 0, 1) := by decide +kernel
theorem dX4_putWord_15 : decode cX4_putWord 15 = .ok (.getfield 13, 3) := by decide +kernel
theorem dX4_putWord_18 : decode cX4_putWord 18 = .ok (.bipush 6, 2) := by decide +kernel
theorem dX4_putWord_20 : decode cX4_putWord 20 = .ok (.aaload, 1) := by decide +kernel
theorem dX4_putWord_21 : decode cX4_putWord 21 = .ok (.iload_n 3, 1) := by decide +kernel
theorem dX4_putWord_22 : decode cX4_putWord 22 = .ok (.iload_n 1, 1) := by decide +kernel
theorem dX4_putWord_23 : decode cX4_putWord 23 = .ok (.iastore, 1) := by decide +kernel
theorem dX4_putWord_24 : decode cX4_putWord 24 = .ok (.aload_n 0, 1) := by decide +kernel
theorem dX4_putWord_25 : decode cX4_putWord 25 = .ok (.getfield 16, 3) := by decide +kernel
theorem dX4_putWord_28 : decode cX4_putWord 28 = .ok (.bipush 6, 2) := by decide +kernel
theorem dX4_putWord_30 : decode cX4_putWord 30 = .ok (.aaload, 1) := by decide +kernel
theorem dX4_putWord_31 : decode cX4_putWord 31 = .ok (.iload_n 3, 1) := by decide +kernel
theorem dX4_putWord_32 : decode cX4_putWord 32 = .ok (.iload_n 2, 1) := by decide +kernel
theorem dX4_putWord_33 : decode cX4_putWord 33 = .ok (.iastore, 1) := by decide +kernel
theorem dX4_putWord_34 : decode cX4_putWord 34 = .ok (.aload_n 0, 1) := by decide +kernel
theorem dX4_putWord_35 : decode cX4_putWord 35 = .ok (.getfield 19, 3) := by decide +kernel
theorem dX4_putWord_38 : decode cX4_putWord 38 = .ok (.bipush 6, 2) := by decide +kernel
theorem dX4_putWord_40 : decode cX4_putWord 40 = .ok (.iload_n 3, 1) := by decide +kernel
theorem dX4_putWord_41 : decode cX4_putWord 41 = .ok (.iconst 1, 1) := by decide +kernel
theorem dX4_putWord_42 : decode cX4_putWord 42 = .ok (.iadd, 1) := by decide +kernel
theorem dX4_putWord_43 : decode cX4_putWord 43 = .ok (.iastore, 1) := by decide +kernel
theorem dX4_putWord_44 : decode cX4_putWord 44 = .ok (.aload_n 0, 1) := by decide +kernel
theorem dX4_putWord_45 : decode cX4_putWord 45 = .ok (.dup, 1) := by decide +kernel
theorem dX4_putWord_46 : decode cX4_putWord 46 = .ok (.getfield 39, 3) := by decide +kernel
theorem dX4_putWord_49 : decode cX4_putWord 49 = .ok (.iload_n 1, 1) := by decide +kernel
theorem dX4_putWord_50 : decode cX4_putWord 50 = .ok (.iconst 4, 1) := by decide +kernel
theorem dX4_putWord_51 : decode cX4_putWord 51 = .ok (.if_icmp .ge 7, 3) := by decide +kernel
theorem dX4_putWord_54 : decode cX4_putWord 54 = .ok (.iconst 1, 1) := by decide +kernel
theorem dX4_putWord_55 : decode cX4_putWord 55 = .ok (.goto 4, 3) := by decide +kernel
theorem dX4_putWord_58 : decode cX4_putWord 58 = .ok (.iconst (-1), 1) := by decide +kernel
theorem dX4_putWord_59 : decode cX4_putWord 59 = .ok (.iadd, 1) := by decide +kernel
theorem dX4_putWord_60 : decode cX4_putWord 60 = .ok (.putfield 39, 3) := by decide +kernel
theorem dX4_putWord_63 : decode cX4_putWord 63 = .ok (.aload_n 0, 1) := by decide +kernel
theorem dX4_putWord_64 : decode cX4_putWord 64 = .ok (.getfield 23, 3) := by decide +kernel
theorem dX4_putWord_67 : decode cX4_putWord 67 = .ok (.bipush 6, 2) := by decide +kernel
theorem dX4_putWord_69 : decode cX4_putWord 69 = .ok (.dup2, 1) := by decide +kernel
theorem dX4_putWord_70 : decode cX4_putWord 70 = .ok (.iaload, 1) := by decide +kernel
theorem dX4_putWord_71 : decode cX4_putWord 71 = .ok (.iload_n 1, 1) := by decide +kernel
theorem dX4_putWord_72 : decode cX4_putWord 72 = .ok (.iconst 2, 1) := by decide +kernel
theorem dX4_putWord_73 : decode cX4_putWord 73 = .ok (.if_icmp .ne 9, 3) := by decide +kernel
theorem dX4_putWord_76 : decode cX4_putWord 76 = .ok (.iconst 1, 1) := by decide +kernel
theorem dX4_putWord_77 : decode cX4_putWord 77 = .ok (.iload_n 2, 1) := by decide +kernel
theorem dX4_putWord_78 : decode cX4_putWord 78 = .ok (.ishl, 1) := by decide +kernel
theorem dX4_putWord_79 : decode cX4_putWord 79 = .ok (.goto 4, 3) := by decide +kernel
theorem dX4_putWord_82 : decode cX4_putWord 82 = .ok (.iconst 0, 1) := by decide +kernel
theorem dX4_putWord_83 : decode cX4_putWord 83 = .ok (.ior, 1) := by decide +kernel
theorem dX4_putWord_84 : decode cX4_putWord 84 = .ok (.iastore, 1) := by decide +kernel
theorem dX4_putWord_85 : decode cX4_putWord 85 = .ok (.aload_n 0, 1) := by decide +kernel
theorem dX4_putWord_86 : decode cX4_putWord 86 = .ok (.getfield 19, 3) := by decide +kernel
theorem dX4_putWord_89 : decode cX4_putWord 89 = .ok (.bipush 6, 2) := by decide +kernel
theorem dX4_putWord_91 : decode cX4_putWord 91 = .ok (.iaload, 1) := by decide +kernel
theorem dX4_putWord_92 : decode cX4_putWord 92 = .ok (.ireturn, 1) := by decide +kernel
theorem dX4_wouldNeedItself_0 : decode cX4_wouldNeedItself 0 = .ok (.aload_n 0, 1) := by decide +kernel
theorem dX4_wouldNeedItself_1 : decode cX4_wouldNeedItself 1 = .ok (.getfield 23, 3) := by decide +kernel
theorem dX4_wouldNeedItself_4 : decode cX4_wouldNeedItself 4 = .ok (.bipush 6, 2) := by decide +kernel
theorem dX4_wouldNeedItself_6 : decode cX4_wouldNeedItself 6 = .ok (.iaload, 1) := by decide +kernel
theorem dX4_wouldNeedItself_7 : decode cX4_wouldNeedItself 7 = .ok (.istore_n 2, 1) := by decide +kernel
theorem dX4_wouldNeedItself_8 : decode cX4_wouldNeedItself 8 = .ok (.iconst 0, 1) := by decide +kernel
theorem dX4_wouldNeedItself_9 : decode cX4_wouldNeedItself 9 = .ok (.istore_n 3, 1) := by decide +kernel
theorem dX4_wouldNeedItself_10 : decode cX4_wouldNeedItself 10 = .ok (.iload_n 3, 1) := by decide +kernel
theorem dX4_wouldNeedItself_11 : decode cX4_wouldNeedItself 11 = .ok (.aload_n 0, 1) := by decide +kernel
theorem dX4_wouldNeedItself_12 : decode cX4_wouldNeedItself 12 = .ok (.getfield 43, 3) := by decide +kernel
theorem dX4_wouldNeedItself_15 : decode cX4_wouldNeedItself 15 = .ok (.if_icmp .ge 52, 3) := by decide +kernel
theorem dX4_wouldNeedItself_18 : decode cX4_wouldNeedItself 18 = .ok (.iconst 0, 1) := by decide +kernel
theorem dX4_wouldNeedItself_19 : decode cX4_wouldNeedItself 19 = .ok (.istore 4, 2) := by decide +kernel
theorem dX4_wouldNeedItself_21 : decode cX4_wouldNeedItself 21 = .ok (.iload 4, 2) := by decide +kernel
theorem dX4_wouldNeedItself_23 : decode cX4_wouldNeedItself 23 = .ok (.aload_n 0, 1) := by decide +kernel
theorem dX4_wouldNeedItself_24 : decode cX4_wouldNeedItself 24 = .ok (.getfield 43, 3) := by decide +kernel
theorem dX4_wouldNeedItself_27 : decode cX4_wouldNeedItself 27 = .ok (.if_icmp .ge 34, 3) := by decide +kernel
theorem dX4_wouldNeedItself_30 : decode cX4_wouldNeedItself 30 = .ok (.iload 4, 2) := by decide +kernel
theorem dX4_wouldNeedItself_32 : decode cX4_wouldNeedItself 32 = .ok (.iload_n 1, 1) := by decide +kernel
theorem dX4_wouldNeedItself_33 : decode cX4_wouldNeedItself 33 = .ok (.if_icmp .eq 22, 3) := by decide +kernel
theorem dX4_wouldNeedItself_36 : decode cX4_wouldNeedItself 36 = .ok (.iload 4, 2) := by decide +kernel
theorem dX4_wouldNeedItself_38 : decode cX4_wouldNeedItself 38 = .ok (.iload_n 2, 1) := by decide +kernel
theorem dX4_wouldNeedItself_39 : decode cX4_wouldNeedItself 39 = .ok (.invokestatic 46, 3) := by decide +kernel
theorem dX4_wouldNeedItself_42 : decode cX4_wouldNeedItself 42 = .ok (.ifCond .eq 13, 3) := by decide +kernel
theorem dX4_wouldNeedItself_45 : decode cX4_wouldNeedItself 45 = .ok (.iload_n 2, 1) := by decide +kernel
theorem dX4_wouldNeedItself_46 : decode cX4_wouldNeedItself 46 = .ok (.aload_n 0, 1) := by decide +kernel
theorem dX4_wouldNeedItself_47 : decode cX4_wouldNeedItself 47 = .ok (.getfield 23, 3) := by decide +kernel
theorem dX4_wouldNeedItself_50 : decode cX4_wouldNeedItself 50 = .ok (.iload 4, 2) := by decide +kernel
theorem dX4_wouldNeedItself_52 : decode cX4_wouldNeedItself 52 = .ok (.iaload, 1) := by decide +kernel
theorem dX4_wouldNeedItself_53 : decode cX4_wouldNeedItself 53 = .ok (.ior, 1) := by decide +kernel
theorem dX4_wouldNeedItself_54 : decode cX4_wouldNeedItself 54 = .ok (.istore_n 2, 1) := by decide +kernel
theorem dX4_wouldNeedItself_55 : decode cX4_wouldNeedItself 55 = .ok (.iinc 4 1, 3) := by decide +kernel
theorem dX4_wouldNeedItself_58 : decode cX4_wouldNeedItself 58 = .ok (.goto (-37), 3) := by decide +kernel
theorem dX4_wouldNeedItself_61 : decode cX4_wouldNeedItself 61 = .ok (.iinc 3 1, 3) := by decide +kernel
theorem dX4_wouldNeedItself_64 : decode cX4_wouldNeedItself 64 = .ok (.goto (-54), 3) := by decide +kernel
theorem dX4_wouldNeedItself_67 : decode cX4_wouldNeedItself 67 = .ok (.iload_n 1, 1) := by decide +kernel
theorem dX4_wouldNeedItself_68 : decode cX4_wouldNeedItself 68 = .ok (.iload_n 2, 1) := by decide +kernel
theorem dX4_wouldNeedItself_69 : decode cX4_wouldNeedItself 69 = .ok (.invokestatic 46, 3) := by decide +kernel
theorem dX4_wouldNeedItself_72 : decode cX4_wouldNeedItself 72 = .ok (.ireturn, 1) := by decide +kernel
theorem dX4_make_0 : decode cX4_make 0 = .ok (.iload_n 1, 1) := by decide +kernel
theorem dX4_make_1 : decode cX4_make 1 = .ok (.ifCond .lt 9, 3) := by decide +kernel
theorem dX4_make_4 : decode cX4_make 4 = .ok (.iload_n 1, 1) := by decide +kernel
theorem dX4_make_5 : decode cX4_make 5 = .ok (.bipush 6, 2) := by decide +kernel
theorem dX4_make_7 : decode cX4_make 7 = .ok (.if_icmp .lt 4, 3) := by decide +kernel
theorem dX4_make_10 : decode cX4_make 10 = .ok (.return_, 1) := by decide +kernel
theorem dX4_make_11 : decode cX4_make 11 = .ok (.aload_n 0, 1) := by decide +kernel
theorem dX4_make_12 : decode cX4_make 12 = .ok (.getfield 13, 3) := by decide +kernel
theorem dX4_make_15 : decode cX4_make 15 = .ok (.bipush 6, 2) := by decide +kernel
theorem dX4_make_17 : decode cX4_make 17 = .ok (.aaload, 1) := by decide +kernel
theorem dX4_make_18 : decode cX4_make 18 = .ok (.iconst 0, 1) := by decide +kernel
theorem dX4_make_19 : decode cX4_make 19 = .ok (.aload_n 0, 1) := by decide +kernel
theorem dX4_make_20 : decode cX4_make 20 = .ok (.getfield 13, 3) := by decide +kernel
theorem dX4_make_23 : decode cX4_make 23 = .ok (.iload_n 1, 1) := by decide +kernel
theorem dX4_make_24 : decode cX4_make 24 = .ok (.aaload, 1) := by decide +kernel
theorem dX4_make_25 : decode cX4_make 25 = .ok (.iconst 0, 1) := by decide +kernel
theorem dX4_make_26 : decode cX4_make 26 = .ok (.bipush 10, 2) := by decide +kernel
theorem dX4_make_28 : decode cX4_make 28 = .ok (.invokestatic 50, 3) := by decide +kernel
theorem dX4_make_31 : decode cX4_make 31 = .ok (.aload_n 0, 1) := by decide +kernel
theorem dX4_make_32 : decode cX4_make 32 = .ok (.getfield 16, 3) := by decide +kernel
theorem dX4_make_35 : decode cX4_make 35 = .ok (.bipush 6, 2) := by decide +kernel
theorem dX4_make_37 : decode cX4_make 37 = .ok (.aaload, 1) := by decide +kernel
theorem dX4_make_38 : decode cX4_make 38 = .ok (.iconst 0, 1) := by decide +kernel
theorem dX4_make_39 : decode cX4_make 39 = .ok (.aload_n 0, 1) := by decide +kernel
theorem dX4_make_40 : decode cX4_make 40 = .ok (.getfield 16, 3) := by decide +kernel
theorem dX4_make_43 : decode cX4_make 43 = .ok (.iload_n 1, 1) := by decide +kernel
theorem dX4_make_44 : decode cX4_make 44 = .ok (.aaload, 1) := by decide +kernel
theorem dX4_make_45 : decode cX4_make 45 = .ok (.iconst 0, 1) := by decide +kernel
theorem dX4_make_46 : decode cX4_make 46 = .ok (.bipush 10, 2) := by decide +kernel
theorem dX4_make_48 : decode cX4_make 48 = .ok (.invokestatic 50, 3) := by decide +kernel
theorem dX4_make_51 : decode cX4_make 51 = .ok (.aload_n 0, 1) := by decide +kernel
theorem dX4_make_52 : decode cX4_make 52 = .ok (.getfield 19, 3) := by decide +kernel
theorem dX4_make_55 : decode cX4_make 55 = .ok (.iload_n 1, 1) := by decide +kernel
theorem dX4_make_56 : decode cX4_make 56 = .ok (.aload_n 0, 1) := by decide +kernel
theorem dX4_make_57 : decode cX4_make 57 = .ok (.getfield 19, 3) := by decide +kernel
theorem dX4_make_60 : decode cX4_make 60 = .ok (.bipush 6, 2) := by decide +kernel
theorem dX4_make_62 : decode cX4_make 62 = .ok (.iaload, 1) := by decide +kernel
theorem dX4_make_63 : decode cX4_make 63 = .ok (.iastore, 1) := by decide +kernel
theorem dX4_make_64 : decode cX4_make 64 = .ok (.aload_n 0, 1) := by decide +kernel
theorem dX4_make_65 : decode cX4_make 65 = .ok (.getfield 23, 3) := by decide +kernel
theorem dX4_make_68 : decode cX4_make 68 = .ok (.iload_n 1, 1) := by decide +kernel
theorem dX4_make_69 : decode cX4_make 69 = .ok (.aload_n 0, 1) := by decide +kernel
theorem dX4_make_70 : decode cX4_make 70 = .ok (.getfield 23, 3) := by decide +kernel
theorem dX4_make_73 : decode cX4_make 73 = .ok (.bipush 6, 2) := by decide +kernel
theorem dX4_make_75 : decode cX4_make 75 = .ok (.iaload, 1) := by decide +kernel
theorem dX4_make_76 : decode cX4_make 76 = .ok (.iastore, 1) := by decide +kernel
theorem dX4_make_77 : decode cX4_make 77 = .ok (.aload_n 0, 1) := by decide +kernel
theorem dX4_make_78 : decode cX4_make 78 = .ok (.getfield 26, 3) := by decide +kernel
theorem dX4_make_81 : decode cX4_make 81 = .ok (.iload_n 1, 1) := by decide +kernel
theorem dX4_make_82 : decode cX4_make 82 = .ok (.iload_n 2, 1) := by decide +kernel
theorem dX4_make_83 : decode cX4_make 83 = .ok (.iastore, 1) := by decide +kernel
theorem dX4_make_84 : decode cX4_make 84 = .ok (.aload_n 0, 1) := by decide +kernel
theorem dX4_make_85 : decode cX4_make 85 = .ok (.getfield 19, 3) := by decide +kernel
theorem dX4_make_88 : decode cX4_make 88 = .ok (.bipush 6, 2) := by decide +kernel
theorem dX4_make_90 : decode cX4_make 90 = .ok (.iconst 0, 1) := by decide +kernel
theorem dX4_make_91 : decode cX4_make 91 = .ok (.iastore, 1) := by decide +kernel
theorem dX4_make_92 : decode cX4_make 92 = .ok (.aload_n 0, 1) := by decide +kernel
theorem dX4_make_93 : decode cX4_make 93 = .ok (.getfield 23, 3) := by decide +kernel
theorem dX4_make_96 : decode cX4_make 96 = .ok (.bipush 6, 2) := by decide +kernel
theorem dX4_make_98 : decode cX4_make 98 = .ok (.iconst 0, 1) := by decide +kernel
theorem dX4_make_99 : decode cX4_make 99 = .ok (.iastore, 1) := by decide +kernel
theorem dX4_make_100 : decode cX4_make 100 = .ok (.aload_n 0, 1) := by decide +kernel
theorem dX4_make_101 : decode cX4_make 101 = .ok (.iconst 0, 1) := by decide +kernel
theorem dX4_make_102 : decode cX4_make 102 = .ok (.putfield 39, 3) := by decide +kernel
theorem dX4_make_105 : decode cX4_make 105 = .ok (.aload_n 0, 1) := by decide +kernel
theorem dX4_make_106 : decode cX4_make 106 = .ok (.aload_n 0, 1) := by decide +kernel
theorem dX4_make_107 : decode cX4_make 107 = .ok (.getfield 43, 3) := by decide +kernel
theorem dX4_make_110 : decode cX4_make 110 = .ok (.iload_n 1, 1) := by decide +kernel
theorem dX4_make_111 : decode cX4_make 111 = .ok (.iconst 1, 1) := by decide +kernel
theorem dX4_make_112 : decode cX4_make 112 = .ok (.iadd, 1) := by decide +kernel
theorem dX4_make_113 : decode cX4_make 113 = .ok (.invokestatic 56, 3) := by decide +kernel
theorem dX4_make_116 : decode cX4_make 116 = .ok (.putfield 43, 3) := by decide +kernel
theorem dX4_make_119 : decode cX4_make 119 = .ok (.aload_n 0, 1) := by decide +kernel
theorem dX4_make_120 : decode cX4_make 120 = .ok (.invokevirtual 62, 3) := by decide +kernel
theorem dX4_make_123 : decode cX4_make 123 = .ok (.return_, 1) := by decide +kernel
theorem dX4_arrange_0 : decode cX4_arrange 0 = .ok (.iconst 0, 1) := by decide +kernel
theorem dX4_arrange_1 : decode cX4_arrange 1 = .ok (.istore_n 1, 1) := by decide +kernel
theorem dX4_arrange_2 : decode cX4_arrange 2 = .ok (.iconst 0, 1) := by decide +kernel
theorem dX4_arrange_3 : decode cX4_arrange 3 = .ok (.istore_n 2, 1) := by decide +kernel
theorem dX4_arrange_4 : decode cX4_arrange 4 = .ok (.iload_n 2, 1) := by decide +kernel
theorem dX4_arrange_5 : decode cX4_arrange 5 = .ok (.aload_n 0, 1) := by decide +kernel
theorem dX4_arrange_6 : decode cX4_arrange 6 = .ok (.getfield 43, 3) := by decide +kernel
theorem dX4_arrange_9 : decode cX4_arrange 9 = .ok (.if_icmp .ge 31, 3) := by decide +kernel
theorem dX4_arrange_12 : decode cX4_arrange 12 = .ok (.aload_n 0, 1) := by decide +kernel
theorem dX4_arrange_13 : decode cX4_arrange 13 = .ok (.getfield 29, 3) := by decide +kernel
theorem dX4_arrange_16 : decode cX4_arrange 16 = .ok (.iload_n 2, 1) := by decide +kernel
theorem dX4_arrange_17 : decode cX4_arrange 17 = .ok (.aload_n 0, 1) := by decide +kernel
theorem dX4_arrange_18 : decode cX4_arrange 18 = .ok (.iload_n 1, 1) := by decide +kernel
theorem dX4_arrange_19 : decode cX4_arrange 19 = .ok (.invokevirtual 65, 3) := by decide +kernel
theorem dX4_arrange_22 : decode cX4_arrange 22 = .ok (.iastore, 1) := by decide +kernel
theorem dX4_arrange_23 : decode cX4_arrange 23 = .ok (.iload_n 1, 1) := by decide +kernel
theorem dX4_arrange_24 : decode cX4_arrange 24 = .ok (.iconst 1, 1) := by decide +kernel
theorem dX4_arrange_25 : decode cX4_arrange 25 = .ok (.aload_n 0, 1) := by decide +kernel
theorem dX4_arrange_26 : decode cX4_arrange 26 = .ok (.getfield 29, 3) := by decide +kernel
theorem dX4_arrange_29 : decode cX4_arrange 29 = .ok (.iload_n 2, 1) := by decide +kernel
theorem dX4_arrange_30 : decode cX4_arrange 30 = .ok (.iaload, 1) := by decide +kernel
theorem dX4_arrange_31 : decode cX4_arrange 31 = .ok (.ishl, 1) := by decide +kernel
theorem dX4_arrange_32 : decode cX4_arrange 32 = .ok (.ior, 1) := by decide +kernel
theorem dX4_arrange_33 : decode cX4_arrange 33 = .ok (.istore_n 1, 1) := by decide +kernel
theorem dX4_arrange_34 : decode cX4_arrange 34 = .ok (.iinc 2 1, 3) := by decide +kernel
theorem dX4_arrange_37 : decode cX4_arrange 37 = .ok (.goto (-33), 3) := by decide +kernel
theorem dX4_arrange_40 : decode cX4_arrange 40 = .ok (.return_, 1) := by decide +kernel
theorem dX4_lowestReady_0 : decode cX4_lowestReady 0 = .ok (.iconst 1, 1) := by decide +kernel
theorem dX4_lowestReady_1 : decode cX4_lowestReady 1 = .ok (.aload_n 0, 1) := by decide +kernel
theorem dX4_lowestReady_2 : decode cX4_lowestReady 2 = .ok (.getfield 43, 3) := by decide +kernel
theorem dX4_lowestReady_5 : decode cX4_lowestReady 5 = .ok (.ishl, 1) := by decide +kernel
theorem dX4_lowestReady_6 : decode cX4_lowestReady 6 = .ok (.iconst 1, 1) := by decide +kernel
theorem dX4_lowestReady_7 : decode cX4_lowestReady 7 = .ok (.isub, 1) := by decide +kernel
theorem dX4_lowestReady_8 : decode cX4_lowestReady 8 = .ok (.iload_n 1, 1) := by decide +kernel
theorem dX4_lowestReady_9 : decode cX4_lowestReady 9 = .ok (.iconst (-1), 1) := by decide +kernel
theorem dX4_lowestReady_10 : decode cX4_lowestReady 10 = .ok (.ixor, 1) := by decide +kernel
theorem dX4_lowestReady_11 : decode cX4_lowestReady 11 = .ok (.iand, 1) := by decide +kernel
theorem dX4_lowestReady_12 : decode cX4_lowestReady 12 = .ok (.istore_n 2, 1) := by decide +kernel
theorem dX4_lowestReady_13 : decode cX4_lowestReady 13 = .ok (.iconst 0, 1) := by decide +kernel
theorem dX4_lowestReady_14 : decode cX4_lowestReady 14 = .ok (.istore_n 3, 1) := by decide +kernel
theorem dX4_lowestReady_15 : decode cX4_lowestReady 15 = .ok (.iload_n 3, 1) := by decide +kernel
theorem dX4_lowestReady_16 : decode cX4_lowestReady 16 = .ok (.aload_n 0, 1) := by decide +kernel
theorem dX4_lowestReady_17 : decode cX4_lowestReady 17 = .ok (.getfield 43, 3) := by decide +kernel
theorem dX4_lowestReady_20 : decode cX4_lowestReady 20 = .ok (.if_icmp .ge 30, 3) := by decide +kernel
theorem dX4_lowestReady_23 : decode cX4_lowestReady 23 = .ok (.iload_n 3, 1) := by decide +kernel
theorem dX4_lowestReady_24 : decode cX4_lowestReady 24 = .ok (.iload_n 2, 1) := by decide +kernel
theorem dX4_lowestReady_25 : decode cX4_lowestReady 25 = .ok (.invokestatic 46, 3) := by decide +kernel
theorem dX4_lowestReady_28 : decode cX4_lowestReady 28 = .ok (.ifCond .eq 16, 3) := by decide +kernel
theorem dX4_lowestReady_31 : decode cX4_lowestReady 31 = .ok (.aload_n 0, 1) := by decide +kernel
theorem dX4_lowestReady_32 : decode cX4_lowestReady 32 = .ok (.getfield 23, 3) := by decide +kernel
theorem dX4_lowestReady_35 : decode cX4_lowestReady 35 = .ok (.iload_n 3, 1) := by decide +kernel
theorem dX4_lowestReady_36 : decode cX4_lowestReady 36 = .ok (.iaload, 1) := by decide +kernel
theorem dX4_lowestReady_37 : decode cX4_lowestReady 37 = .ok (.iload_n 2, 1) := by decide +kernel
theorem dX4_lowestReady_38 : decode cX4_lowestReady 38 = .ok (.iand, 1) := by decide +kernel
theorem dX4_lowestReady_39 : decode cX4_lowestReady 39 = .ok (.ifCond .ne 5, 3) := by decide +kernel
theorem dX4_lowestReady_42 : decode cX4_lowestReady 42 = .ok (.iload_n 3, 1) := by decide +kernel
theorem dX4_lowestReady_43 : decode cX4_lowestReady 43 = .ok (.ireturn, 1) := by decide +kernel
theorem dX4_lowestReady_44 : decode cX4_lowestReady 44 = .ok (.iinc 3 1, 3) := by decide +kernel
theorem dX4_lowestReady_47 : decode cX4_lowestReady 47 = .ok (.goto (-32), 3) := by decide +kernel
theorem dX4_lowestReady_50 : decode cX4_lowestReady 50 = .ok (.iconst 0, 1) := by decide +kernel
theorem dX4_lowestReady_51 : decode cX4_lowestReady 51 = .ok (.ireturn, 1) := by decide +kernel
theorem dX4_reckonAll_0 : decode cX4_reckonAll 0 = .ok (.iconst 0, 1) := by decide +kernel
theorem dX4_reckonAll_1 : decode cX4_reckonAll 1 = .ok (.istore 6, 2) := by decide +kernel
theorem dX4_reckonAll_3 : decode cX4_reckonAll 3 = .ok (.iload 6, 2) := by decide +kernel
theorem dX4_reckonAll_5 : decode cX4_reckonAll 5 = .ok (.bipush 6, 2) := by decide +kernel
theorem dX4_reckonAll_7 : decode cX4_reckonAll 7 = .ok (.if_icmp .ge 17, 3) := by decide +kernel
theorem dX4_reckonAll_10 : decode cX4_reckonAll 10 = .ok (.aload_n 0, 1) := by decide +kernel
theorem dX4_reckonAll_11 : decode cX4_reckonAll 11 = .ok (.getfield 32, 3) := by decide +kernel
theorem dX4_reckonAll_14 : decode cX4_reckonAll 14 = .ok (.iload 6, 2) := by decide +kernel
theorem dX4_reckonAll_16 : decode cX4_reckonAll 16 = .ok (.lconst 0, 1) := by decide +kernel
theorem dX4_reckonAll_17 : decode cX4_reckonAll 17 = .ok (.lastore, 1) := by decide +kernel
theorem dX4_reckonAll_18 : decode cX4_reckonAll 18 = .ok (.iinc 6 1, 3) := by decide +kernel
theorem dX4_reckonAll_21 : decode cX4_reckonAll 21 = .ok (.goto (-18), 3) := by decide +kernel
theorem dX4_reckonAll_24 : decode cX4_reckonAll 24 = .ok (.iconst 0, 1) := by decide +kernel
theorem dX4_reckonAll_25 : decode cX4_reckonAll 25 = .ok (.istore 6, 2) := by decide +kernel
theorem dX4_reckonAll_27 : decode cX4_reckonAll 27 = .ok (.iload 6, 2) := by decide +kernel
theorem dX4_reckonAll_29 : decode cX4_reckonAll 29 = .ok (.aload_n 0, 1) := by decide +kernel
theorem dX4_reckonAll_30 : decode cX4_reckonAll 30 = .ok (.getfield 43, 3) := by decide +kernel
theorem dX4_reckonAll_33 : decode cX4_reckonAll 33 = .ok (.if_icmp .ge 48, 3) := by decide +kernel
theorem dX4_reckonAll_36 : decode cX4_reckonAll 36 = .ok (.aload_n 0, 1) := by decide +kernel
theorem dX4_reckonAll_37 : decode cX4_reckonAll 37 = .ok (.getfield 29, 3) := by decide +kernel
theorem dX4_reckonAll_40 : decode cX4_reckonAll 40 = .ok (.iload 6, 2) := by decide +kernel
theorem dX4_reckonAll_42 : decode cX4_reckonAll 42 = .ok (.iaload, 1) := by decide +kernel
theorem dX4_reckonAll_43 : decode cX4_reckonAll 43 = .ok (.istore 7, 2) := by decide +kernel
theorem dX4_reckonAll_45 : decode cX4_reckonAll 45 = .ok (.iload_n 1, 1) := by decide +kernel
theorem dX4_reckonAll_46 : decode cX4_reckonAll 46 = .ok (.aload_n 0, 1) := by decide +kernel
theorem dX4_reckonAll_47 : decode cX4_reckonAll 47 = .ok (.getfield 26, 3) := by decide +kernel
theorem dX4_reckonAll_50 : decode cX4_reckonAll 50 = .ok (.iload 7, 2) := by decide +kernel
theorem dX4_reckonAll_52 : decode cX4_reckonAll 52 = .ok (.iaload, 1) := by decide +kernel
theorem dX4_reckonAll_53 : decode cX4_reckonAll 53 = .ok (.invokestatic 46, 3) := by decide +kernel
theorem dX4_reckonAll_56 : decode cX4_reckonAll 56 = .ok (.ifCond .eq 19, 3) := by decide +kernel
theorem dX4_reckonAll_59 : decode cX4_reckonAll 59 = .ok (.aload_n 0, 1) := by decide +kernel
theorem dX4_reckonAll_60 : decode cX4_reckonAll 60 = .ok (.getfield 32, 3) := by decide +kernel
theorem dX4_reckonAll_63 : decode cX4_reckonAll 63 = .ok (.iload 7, 2) := by decide +kernel
theorem dX4_reckonAll_65 : decode cX4_reckonAll 65 = .ok (.aload_n 0, 1) := by decide +kernel
theorem dX4_reckonAll_66 : decode cX4_reckonAll 66 = .ok (.iload 7, 2) := by decide +kernel
theorem dX4_reckonAll_68 : decode cX4_reckonAll 68 = .ok (.lload_n 2, 1) := by decide +kernel
theorem dX4_reckonAll_69 : decode cX4_reckonAll 69 = .ok (.lload 4, 2) := by decide +kernel
theorem dX4_reckonAll_71 : decode cX4_reckonAll 71 = .ok (.invokevirtual 69, 3) := by decide +kernel
theorem dX4_reckonAll_74 : decode cX4_reckonAll 74 = .ok (.lastore, 1) := by decide +kernel
theorem dX4_reckonAll_75 : decode cX4_reckonAll 75 = .ok (.iinc 6 1, 3) := by decide +kernel
theorem dX4_reckonAll_78 : decode cX4_reckonAll 78 = .ok (.goto (-51), 3) := by decide +kernel
theorem dX4_reckonAll_81 : decode cX4_reckonAll 81 = .ok (.return_, 1) := by decide +kernel
theorem dX4_comesTo_0 : decode cX4_comesTo 0 = .ok (.iconst 0, 1) := by decide +kernel
theorem dX4_comesTo_1 : decode cX4_comesTo 1 = .ok (.istore 6, 2) := by decide +kernel
theorem dX4_comesTo_3 : decode cX4_comesTo 3 = .ok (.iconst 0, 1) := by decide +kernel
theorem dX4_comesTo_4 : decode cX4_comesTo 4 = .ok (.istore 7, 2) := by decide +kernel
theorem dX4_comesTo_6 : decode cX4_comesTo 6 = .ok (.iload 7, 2) := by decide +kernel
theorem dX4_comesTo_8 : decode cX4_comesTo 8 = .ok (.aload_n 0, 1) := by decide +kernel
theorem dX4_comesTo_9 : decode cX4_comesTo 9 = .ok (.getfield 19, 3) := by decide +kernel
theorem dX4_comesTo_12 : decode cX4_comesTo 12 = .ok (.iload_n 1, 1) := by decide +kernel
theorem dX4_comesTo_13 : decode cX4_comesTo 13 = .ok (.iaload, 1) := by decide +kernel
theorem dX4_comesTo_14 : decode cX4_comesTo 14 = .ok (.if_icmp .ge 111, 3) := by decide +kernel
theorem dX4_comesTo_17 : decode cX4_comesTo 17 = .ok (.aload_n 0, 1) := by decide +kernel
theorem dX4_comesTo_18 : decode cX4_comesTo 18 = .ok (.getfield 13, 3) := by decide +kernel
theorem dX4_comesTo_21 : decode cX4_comesTo 21 = .ok (.iload_n 1, 1) := by decide +kernel
theorem dX4_comesTo_22 : decode cX4_comesTo 22 = .ok (.aaload, 1) := by decide +kernel
theorem dX4_comesTo_23 : decode cX4_comesTo 23 = .ok (.iload 7, 2) := by decide +kernel
theorem dX4_comesTo_25 : decode cX4_comesTo 25 = .ok (.iaload, 1) := by decide +kernel
theorem dX4_comesTo_26 : decode cX4_comesTo 26 = .ok (.istore 8, 2) := by decide +kernel
theorem dX4_comesTo_28 : decode cX4_comesTo 28 = .ok (.iload 8, 2) := by decide +kernel
theorem dX4_comesTo_30 : decode cX4_comesTo 30 = .ok (.iconst 4, 1) := by decide +kernel
theorem dX4_comesTo_31 : decode cX4_comesTo 31 = .ok (.if_icmp .ge 44, 3) := by decide +kernel
theorem dX4_comesTo_34 : decode cX4_comesTo 34 = .ok (.iload 6, 2) := by decide +kernel
theorem dX4_comesTo_36 : decode cX4_comesTo 36 = .ok (.bipush 10, 2) := by decide +kernel
theorem dX4_comesTo_38 : decode cX4_comesTo 38 = .ok (.if_icmp .ge 37, 3) := by decide +kernel
theorem dX4_comesTo_41 : decode cX4_comesTo 41 = .ok (.aload_n 0, 1) := by decide +kernel
theorem dX4_comesTo_42 : decode cX4_comesTo 42 = .ok (.getfield 36, 3) := by decide +kernel
theorem dX4_comesTo_45 : decode cX4_comesTo 45 = .ok (.iload 6, 2) := by decide +kernel
theorem dX4_comesTo_47 : decode cX4_comesTo 47 = .ok (.aload_n 0, 1) := by decide +kernel
theorem dX4_comesTo_48 : decode cX4_comesTo 48 = .ok (.iload 8, 2) := by decide +kernel
theorem dX4_comesTo_50 : decode cX4_comesTo 50 = .ok (.aload_n 0, 1) := by decide +kernel
theorem dX4_comesTo_51 : decode cX4_comesTo 51 = .ok (.getfield 16, 3) := by decide +kernel
theorem dX4_comesTo_54 : decode cX4_comesTo 54 = .ok (.iload_n 1, 1) := by decide +kernel
theorem dX4_comesTo_55 : decode cX4_comesTo 55 = .ok (.aaload, 1) := by decide +kernel
theorem dX4_comesTo_56 : decode cX4_comesTo 56 = .ok (.iload 7, 2) := by decide +kernel
theorem dX4_comesTo_58 : decode cX4_comesTo 58 = .ok (.iaload, 1) := by decide +kernel
theorem dX4_comesTo_59 : decode cX4_comesTo 59 = .ok (.lload_n 2, 1) := by decide +kernel
theorem dX4_comesTo_60 : decode cX4_comesTo 60 = .ok (.lload 4, 2) := by decide +kernel
theorem dX4_comesTo_62 : decode cX4_comesTo 62 = .ok (.invokevirtual 73, 3) := by decide +kernel
theorem dX4_comesTo_65 : decode cX4_comesTo 65 = .ok (.invokestatic 77, 3) := by decide +kernel
theorem dX4_comesTo_68 : decode cX4_comesTo 68 = .ok (.lastore, 1) := by decide +kernel
theorem dX4_comesTo_69 : decode cX4_comesTo 69 = .ok (.iinc 6 1, 3) := by decide +kernel
theorem dX4_comesTo_72 : decode cX4_comesTo 72 = .ok (.goto 47, 3) := by decide +kernel
theorem dX4_comesTo_75 : decode cX4_comesTo 75 = .ok (.iload 6, 2) := by decide +kernel
theorem dX4_comesTo_77 : decode cX4_comesTo 77 = .ok (.iconst 2, 1) := by decide +kernel
theorem dX4_comesTo_78 : decode cX4_comesTo 78 = .ok (.if_icmp .lt 41, 3) := by decide +kernel
theorem dX4_comesTo_81 : decode cX4_comesTo 81 = .ok (.aload_n 0, 1) := by decide +kernel
theorem dX4_comesTo_82 : decode cX4_comesTo 82 = .ok (.getfield 36, 3) := by decide +kernel
theorem dX4_comesTo_85 : decode cX4_comesTo 85 = .ok (.iload 6, 2) := by decide +kernel
theorem dX4_comesTo_87 : decode cX4_comesTo 87 = .ok (.iconst 2, 1) := by decide +kernel
theorem dX4_comesTo_88 : decode cX4_comesTo 88 = .ok (.isub, 1) := by decide +kernel
theorem dX4_comesTo_89 : decode cX4_comesTo 89 = .ok (.iload 8, 2) := by decide +kernel
theorem dX4_comesTo_91 : decode cX4_comesTo 91 = .ok (.aload_n 0, 1) := by decide +kernel
theorem dX4_comesTo_92 : decode cX4_comesTo 92 = .ok (.getfield 36, 3) := by decide +kernel
theorem dX4_comesTo_95 : decode cX4_comesTo 95 = .ok (.iload 6, 2) := by decide +kernel
theorem dX4_comesTo_97 : decode cX4_comesTo 97 = .ok (.iconst 2, 1) := by decide +kernel
theorem dX4_comesTo_98 : decode cX4_comesTo 98 = .ok (.isub, 1) := by decide +kernel
theorem dX4_comesTo_99 : decode cX4_comesTo 99 = .ok (.laload, 1) := by decide +kernel
theorem dX4_comesTo_100 : decode cX4_comesTo 100 = .ok (.aload_n 0, 1) := by decide +kernel
theorem dX4_comesTo_101 : decode cX4_comesTo 101 = .ok (.getfield 36, 3) := by decide +kernel
theorem dX4_comesTo_104 : decode cX4_comesTo 104 = .ok (.iload 6, 2) := by decide +kernel
theorem dX4_comesTo_106 : decode cX4_comesTo 106 = .ok (.iconst 1, 1) := by decide +kernel
theorem dX4_comesTo_107 : decode cX4_comesTo 107 = .ok (.isub, 1) := by decide +kernel
theorem dX4_comesTo_108 : decode cX4_comesTo 108 = .ok (.laload, 1) := by decide +kernel
theorem dX4_comesTo_109 : decode cX4_comesTo 109 = .ok (.invokestatic 81, 3) := by decide +kernel
theorem dX4_comesTo_112 : decode cX4_comesTo 112 = .ok (.invokestatic 77, 3) := by decide +kernel
theorem dX4_comesTo_115 : decode cX4_comesTo 115 = .ok (.lastore, 1) := by decide +kernel
theorem dX4_comesTo_116 : decode cX4_comesTo 116 = .ok (.iinc 6 (-1), 3) := by decide +kernel
theorem dX4_comesTo_119 : decode cX4_comesTo 119 = .ok (.iinc 7 1, 3) := by decide +kernel
theorem dX4_comesTo_122 : decode cX4_comesTo 122 = .ok (.goto (-116), 3) := by decide +kernel
theorem dX4_comesTo_125 : decode cX4_comesTo 125 = .ok (.aload_n 0, 1) := by decide +kernel
theorem dX4_comesTo_126 : decode cX4_comesTo 126 = .ok (.getfield 36, 3) := by decide +kernel
theorem dX4_comesTo_129 : decode cX4_comesTo 129 = .ok (.iconst 0, 1) := by decide +kernel
theorem dX4_comesTo_130 : decode cX4_comesTo 130 = .ok (.laload, 1) := by decide +kernel
theorem dX4_comesTo_131 : decode cX4_comesTo 131 = .ok (.lreturn, 1) := by decide +kernel
theorem dX4_single_0 : decode cX4_single 0 = .ok (.iload_n 1, 1) := by decide +kernel
theorem dX4_single_1 : decode cX4_single 1 = .ok (.tableswitch 53 0 2 #[27, 29, 32], 27) := by decide +kernel
theorem dX4_single_28 : decode cX4_single 28 = .ok (.lload_n 3, 1) := by decide +kernel
theorem dX4_single_29 : decode cX4_single 29 = .ok (.lreturn, 1) := by decide +kernel
theorem dX4_single_30 : decode cX4_single 30 = .ok (.lload 5, 2) := by decide +kernel
theorem dX4_single_32 : decode cX4_single 32 = .ok (.lreturn, 1) := by decide +kernel
theorem dX4_single_33 : decode cX4_single 33 = .ok (.iload_n 2, 1) := by decide +kernel
theorem dX4_single_34 : decode cX4_single 34 = .ok (.ifCond .lt 18, 3) := by decide +kernel
theorem dX4_single_37 : decode cX4_single 37 = .ok (.iload_n 2, 1) := by decide +kernel
theorem dX4_single_38 : decode cX4_single 38 = .ok (.bipush 6, 2) := by decide +kernel
theorem dX4_single_40 : decode cX4_single 40 = .ok (.if_icmp .ge 12, 3) := by decide +kernel
theorem dX4_single_43 : decode cX4_single 43 = .ok (.aload_n 0, 1) := by decide +kernel
theorem dX4_single_44 : decode cX4_single 44 = .ok (.getfield 32, 3) := by decide +kernel
theorem dX4_single_47 : decode cX4_single 47 = .ok (.iload_n 2, 1) := by decide +kernel
theorem dX4_single_48 : decode cX4_single 48 = .ok (.laload, 1) := by decide +kernel
theorem dX4_single_49 : decode cX4_single 49 = .ok (.goto 4, 3) := by decide +kernel
theorem dX4_single_52 : decode cX4_single 52 = .ok (.lconst 0, 1) := by decide +kernel
theorem dX4_single_53 : decode cX4_single 53 = .ok (.lreturn, 1) := by decide +kernel
theorem dX4_single_54 : decode cX4_single 54 = .ok (.iload_n 2, 1) := by decide +kernel
theorem dX4_single_55 : decode cX4_single 55 = .ok (.i2l, 1) := by decide +kernel
theorem dX4_single_56 : decode cX4_single 56 = .ok (.lreturn, 1) := by decide +kernel
theorem dX4_joined_0 : decode cX4_joined 0 = .ok (.iload_n 0, 1) := by decide +kernel
theorem dX4_joined_1 : decode cX4_joined 1 = .ok (.tableswitch 63 4 8 #[35, 39, 43, 47, 57], 35) := by decide +kernel
theorem dX4_joined_36 : decode cX4_joined 36 = .ok (.lload_n 1, 1) := by decide +kernel
theorem dX4_joined_37 : decode cX4_joined 37 = .ok (.lload_n 3, 1) := by decide +kernel
theorem dX4_joined_38 : decode cX4_joined 38 = .ok (.ladd, 1) := by decide +kernel
theorem dX4_joined_39 : decode cX4_joined 39 = .ok (.lreturn, 1) := by decide +kernel
theorem dX4_joined_40 : decode cX4_joined 40 = .ok (.lload_n 1, 1) := by decide +kernel
theorem dX4_joined_41 : decode cX4_joined 41 = .ok (.lload_n 3, 1) := by decide +kernel
theorem dX4_joined_42 : decode cX4_joined 42 = .ok (.lsub, 1) := by decide +kernel
theorem dX4_joined_43 : decode cX4_joined 43 = .ok (.lreturn, 1) := by decide +kernel
theorem dX4_joined_44 : decode cX4_joined 44 = .ok (.lload_n 1, 1) := by decide +kernel
theorem dX4_joined_45 : decode cX4_joined 45 = .ok (.lload_n 3, 1) := by decide +kernel
theorem dX4_joined_46 : decode cX4_joined 46 = .ok (.lmul, 1) := by decide +kernel
theorem dX4_joined_47 : decode cX4_joined 47 = .ok (.lreturn, 1) := by decide +kernel
theorem dX4_joined_48 : decode cX4_joined 48 = .ok (.lload_n 1, 1) := by decide +kernel
theorem dX4_joined_49 : decode cX4_joined 49 = .ok (.lload_n 3, 1) := by decide +kernel
theorem dX4_joined_50 : decode cX4_joined 50 = .ok (.lmul, 1) := by decide +kernel
theorem dX4_joined_51 : decode cX4_joined 51 = .ok (.ldc2_w 84, 3) := by decide +kernel
theorem dX4_joined_54 : decode cX4_joined 54 = .ok (.invokestatic 86, 3) := by decide +kernel
theorem dX4_joined_57 : decode cX4_joined 57 = .ok (.lreturn, 1) := by decide +kernel
theorem dX4_joined_58 : decode cX4_joined 58 = .ok (.lload_n 1, 1) := by decide +kernel
theorem dX4_joined_59 : decode cX4_joined 59 = .ok (.lload_n 3, 1) := by decide +kernel
theorem dX4_joined_60 : decode cX4_joined 60 = .ok (.invokestatic 92, 3) := by decide +kernel
theorem dX4_joined_63 : decode cX4_joined 63 = .ok (.lreturn, 1) := by decide +kernel
theorem dX4_joined_64 : decode cX4_joined 64 = .ok (.lload_n 1, 1) := by decide +kernel
theorem dX4_joined_65 : decode cX4_joined 65 = .ok (.lload_n 3, 1) := by decide +kernel
theorem dX4_joined_66 : decode cX4_joined 66 = .ok (.invokestatic 95, 3) := by decide +kernel
theorem dX4_joined_69 : decode cX4_joined 69 = .ok (.lreturn, 1) := by decide +kernel
theorem dX4_bounded_0 : decode cX4_bounded 0 = .ok (.ldc2_w 97, 3) := by decide +kernel
theorem dX4_bounded_3 : decode cX4_bounded 3 = .ok (.ldc2_w 99, 3) := by decide +kernel
theorem dX4_bounded_6 : decode cX4_bounded 6 = .ok (.lload_n 0, 1) := by decide +kernel
theorem dX4_bounded_7 : decode cX4_bounded 7 = .ok (.invokestatic 92, 3) := by decide +kernel
theorem dX4_bounded_10 : decode cX4_bounded 10 = .ok (.invokestatic 95, 3) := by decide +kernel
theorem dX4_bounded_13 : decode cX4_bounded 13 = .ok (.lreturn, 1) := by decide +kernel
theorem dX4_isIn_0 : decode cX4_isIn 0 = .ok (.iload_n 1, 1) := by decide +kernel
theorem dX4_isIn_1 : decode cX4_isIn 1 = .ok (.iload_n 0, 1) := by decide +kernel
theorem dX4_isIn_2 : decode cX4_isIn 2 = .ok (.ishr, 1) := by decide +kernel
theorem dX4_isIn_3 : decode cX4_isIn 3 = .ok (.iconst 1, 1) := by decide +kernel
theorem dX4_isIn_4 : decode cX4_isIn 4 = .ok (.iand, 1) := by decide +kernel
theorem dX4_isIn_5 : decode cX4_isIn 5 = .ok (.iconst 1, 1) := by decide +kernel
theorem dX4_isIn_6 : decode cX4_isIn 6 = .ok (.if_icmp .ne 7, 3) := by decide +kernel
theorem dX4_isIn_9 : decode cX4_isIn 9 = .ok (.iconst 1, 1) := by decide +kernel
theorem dX4_isIn_10 : decode cX4_isIn 10 = .ok (.goto 4, 3) := by decide +kernel
theorem dX4_isIn_13 : decode cX4_isIn 13 = .ok (.iconst 0, 1) := by decide +kernel
theorem dX4_isIn_14 : decode cX4_isIn 14 = .ok (.ireturn, 1) := by decide +kernel
theorem dX5_init_0 : decode cX5_init 0 = .ok (.aload_n 0, 1) := by decide +kernel
theorem dX5_init_1 : decode cX5_init 1 = .ok (.invokespecial 3, 3) := by decide +kernel
theorem dX5_init_4 : decode cX5_init 4 = .ok (.aload_n 0, 1) := by decide +kernel
theorem dX5_init_5 : decode cX5_init 5 = .ok (.bipush 24, 2) := by decide +kernel
theorem dX5_init_7 : decode cX5_init 7 = .ok (.newarray .long, 2) := by decide +kernel
theorem dX5_init_9 : decode cX5_init 9 = .ok (.putfield 9, 3) := by decide +kernel
theorem dX5_init_12 : decode cX5_init 12 = .ok (.aload_n 0, 1) := by decide +kernel
theorem dX5_init_13 : decode cX5_init 13 = .ok (.iload_n 1, 1) := by decide +kernel
theorem dX5_init_14 : decode cX5_init 14 = .ok (.putfield 15, 3) := by decide +kernel
theorem dX5_init_17 : decode cX5_init 17 = .ok (.aload_n 0, 1) := by decide +kernel
theorem dX5_init_18 : decode cX5_init 18 = .ok (.iload_n 2, 1) := by decide +kernel
theorem dX5_init_19 : decode cX5_init 19 = .ok (.putfield 19, 3) := by decide +kernel
theorem dX5_init_22 : decode cX5_init 22 = .ok (.aload_n 0, 1) := by decide +kernel
theorem dX5_init_23 : decode cX5_init 23 = .ok (.iload_n 3, 1) := by decide +kernel
theorem dX5_init_24 : decode cX5_init 24 = .ok (.putfield 22, 3) := by decide +kernel
theorem dX5_init_27 : decode cX5_init 27 = .ok (.aload_n 0, 1) := by decide +kernel
theorem dX5_init_28 : decode cX5_init 28 = .ok (.iload 4, 2) := by decide +kernel
theorem dX5_init_30 : decode cX5_init 30 = .ok (.putfield 25, 3) := by decide +kernel
theorem dX5_init_33 : decode cX5_init 33 = .ok (.aload_n 0, 1) := by decide +kernel
theorem dX5_init_34 : decode cX5_init 34 = .ok (.iload 5, 2) := by decide +kernel
theorem dX5_init_36 : decode cX5_init 36 = .ok (.putfield 28, 3) := by decide +kernel
theorem dX5_init_39 : decode cX5_init 39 = .ok (.aload_n 0, 1) := by decide +kernel
theorem dX5_init_40 : decode cX5_init 40 = .ok (.iload 6, 2) := by decide +kernel
theorem dX5_init_42 : decode cX5_init 42 = .ok (.putfield 31, 3) := by decide +kernel
theorem dX5_init_45 : decode cX5_init 45 = .ok (.return_, 1) := by decide +kernel
theorem dX5_take_0 : decode cX5_take 0 = .ok (.iload_n 1, 1) := by decide +kernel
theorem dX5_take_1 : decode cX5_take 1 = .ok (.ifCond .ne 7, 3) := by decide +kernel
theorem dX5_take_4 : decode cX5_take 4 = .ok (.lconst 0, 1) := by decide +kernel
theorem dX5_take_5 : decode cX5_take 5 = .ok (.goto 11, 3) := by decide +kernel
theorem dX5_take_8 : decode cX5_take 8 = .ok (.aload_n 0, 1) := by decide +kernel
theorem dX5_take_9 : decode cX5_take 9 = .ok (.getfield 9, 3) := by decide +kernel
theorem dX5_take_12 : decode cX5_take 12 = .ok (.iload_n 1, 1) := by decide +kernel
theorem dX5_take_13 : decode cX5_take 13 = .ok (.iconst 1, 1) := by decide +kernel
theorem dX5_take_14 : decode cX5_take 14 = .ok (.isub, 1) := by decide +kernel
theorem dX5_take_15 : decode cX5_take 15 = .ok (.laload, 1) := by decide +kernel
theorem dX5_take_16 : decode cX5_take 16 = .ok (.lstore 6, 2) := by decide +kernel
theorem dX5_take_18 : decode cX5_take 18 = .ok (.lconst 0, 1) := by decide +kernel
theorem dX5_take_19 : decode cX5_take 19 = .ok (.lstore 8, 2) := by decide +kernel
theorem dX5_take_21 : decode cX5_take 21 = .ok (.iload_n 1, 1) := by decide +kernel
theorem dX5_take_22 : decode cX5_take 22 = .ok (.aload_n 0, 1) := by decide +kernel
theorem dX5_take_23 : decode cX5_take 23 = .ok (.getfield 19, 3) := by decide +kernel
theorem dX5_take_26 : decode cX5_take 26 = .ok (.if_icmp .lt 48, 3) := by decide +kernel
theorem dX5_take_29 : decode cX5_take 29 = .ok (.aload_n 0, 1) := by decide +kernel
theorem dX5_take_30 : decode cX5_take 30 = .ok (.getfield 25, 3) := by decide +kernel
theorem dX5_take_33 : decode cX5_take 33 = .ok (.i2l, 1) := by decide +kernel
theorem dX5_take_34 : decode cX5_take 34 = .ok (.lload 6, 2) := by decide +kernel
theorem dX5_take_36 : decode cX5_take 36 = .ok (.lsub, 1) := by decide +kernel
theorem dX5_take_37 : decode cX5_take 37 = .ok (.lload_n 2, 1) := by decide +kernel
theorem dX5_take_38 : decode cX5_take 38 = .ok (.aload_n 0, 1) := by decide +kernel
theorem dX5_take_39 : decode cX5_take 39 = .ok (.getfield 28, 3) := by decide +kernel
theorem dX5_take_42 : decode cX5_take 42 = .ok (.i2l, 1) := by decide +kernel
theorem dX5_take_43 : decode cX5_take 43 = .ok (.lmul, 1) := by decide +kernel
theorem dX5_take_44 : decode cX5_take 44 = .ok (.ldc2_w 34, 3) := by decide +kernel
theorem dX5_take_47 : decode cX5_take 47 = .ok (.invokestatic 36, 3) := by decide +kernel
theorem dX5_take_50 : decode cX5_take 50 = .ok (.invokestatic 42, 3) := by decide +kernel
theorem dX5_take_53 : decode cX5_take 53 = .ok (.lstore 10, 2) := by decide +kernel
theorem dX5_take_55 : decode cX5_take 55 = .ok (.lconst 0, 1) := by decide +kernel
theorem dX5_take_56 : decode cX5_take 56 = .ok (.lload 10, 2) := by decide +kernel
theorem dX5_take_58 : decode cX5_take 58 = .ok (.lload 4, 2) := by decide +kernel
theorem dX5_take_60 : decode cX5_take 60 = .ok (.aload_n 0, 1) := by decide +kernel
theorem dX5_take_61 : decode cX5_take 61 = .ok (.getfield 31, 3) := by decide +kernel
theorem dX5_take_64 : decode cX5_take 64 = .ok (.i2l, 1) := by decide +kernel
theorem dX5_take_65 : decode cX5_take 65 = .ok (.lsub, 1) := by decide +kernel
theorem dX5_take_66 : decode cX5_take 66 = .ok (.invokestatic 42, 3) := by decide +kernel
theorem dX5_take_69 : decode cX5_take 69 = .ok (.invokestatic 47, 3) := by decide +kernel
theorem dX5_take_72 : decode cX5_take 72 = .ok (.lstore 8, 2) := by decide +kernel
theorem dX5_take_74 : decode cX5_take 74 = .ok (.aload_n 0, 1) := by decide +kernel
theorem dX5_take_75 : decode cX5_take 75 = .ok (.getfield 9, 3) := by decide +kernel
theorem dX5_take_78 : decode cX5_take 78 = .ok (.iload_n 1, 1) := by decide +kernel
theorem dX5_take_79 : decode cX5_take 79 = .ok (.lload 6, 2) := by decide +kernel
theorem dX5_take_81 : decode cX5_take 81 = .ok (.lload 8, 2) := by decide +kernel
theorem dX5_take_83 : decode cX5_take 83 = .ok (.ladd, 1) := by decide +kernel
theorem dX5_take_84 : decode cX5_take 84 = .ok (.lastore, 1) := by decide +kernel
theorem dX5_take_85 : decode cX5_take 85 = .ok (.lload 8, 2) := by decide +kernel
theorem dX5_take_87 : decode cX5_take 87 = .ok (.lreturn, 1) := by decide +kernel
theorem dX6_init_0 : decode cX6_init 0 = .ok (.aload_n 0, 1) := by decide +kernel
theorem dX6_init_1 : decode cX6_init 1 = .ok (.invokespecial 1, 3) := by decide +kernel
theorem dX6_init_4 : decode cX6_init 4 = .ok (.aload_n 0, 1) := by decide +kernel
theorem dX6_init_5 : decode cX6_init 5 = .ok (.aload_n 1, 1) := by decide +kernel
theorem dX6_init_6 : decode cX6_init 6 = .ok (.putfield 7, 3) := by decide +kernel
theorem dX6_init_9 : decode cX6_init 9 = .ok (.aload_n 0, 1) := by decide +kernel
theorem dX6_init_10 : decode cX6_init 10 = .ok (.iload_n 2, 1) := by decide +kernel
theorem dX6_init_11 : decode cX6_init 11 = .ok (.putfield 13, 3) := by decide +kernel
theorem dX6_init_14 : decode cX6_init 14 = .ok (.return_, 1) := by decide +kernel
theorem dX7_init_0 : decode cX7_init 0 = .ok (.aload_n 0, 1) := by decide +kernel
theorem dX7_init_1 : decode cX7_init 1 = .ok (.invokespecial 1, 3) := by decide +kernel
theorem dX7_init_4 : decode cX7_init 4 = .ok (.aload_n 0, 1) := by decide +kernel
theorem dX7_init_5 : decode cX7_init 5 = .ok (.iload_n 1, 1) := by decide +kernel
theorem dX7_init_6 : decode cX7_init 6 = .ok (.putfield 7, 3) := by decide +kernel
theorem dX7_init_9 : decode cX7_init 9 = .ok (.aload_n 0, 1) := by decide +kernel
theorem dX7_init_10 : decode cX7_init 10 = .ok (.iload_n 2, 1) := by decide +kernel
theorem dX7_init_11 : decode cX7_init 11 = .ok (.putfield 13, 3) := by decide +kernel
theorem dX7_init_14 : decode cX7_init 14 = .ok (.aload_n 0, 1) := by decide +kernel
theorem dX7_init_15 : decode cX7_init 15 = .ok (.lload_n 3, 1) := by decide +kernel
theorem dX7_init_16 : decode cX7_init 16 = .ok (.putfield 16, 3) := by decide +kernel
theorem dX7_init_19 : decode cX7_init 19 = .ok (.return_, 1) := by decide +kernel
theorem dX8_init_0 : decode cX8_init 0 = .ok (.aload_n 0, 1) := by decide +kernel
theorem dX8_init_1 : decode cX8_init 1 = .ok (.invokespecial 3, 3) := by decide +kernel
theorem dX8_init_4 : decode cX8_init 4 = .ok (.aload_n 0, 1) := by decide +kernel
theorem dX8_init_5 : decode cX8_init 5 = .ok (.new 9, 3) := by decide +kernel
theorem dX8_init_8 : decode cX8_init 8 = .ok (.dup, 1) := by decide +kernel
theorem dX8_init_9 : decode cX8_init 9 = .ok (.invokespecial 11, 3) := by decide +kernel
theorem dX8_init_12 : decode cX8_init 12 = .ok (.putfield 12, 3) := by decide +kernel
theorem dX8_init_15 : decode cX8_init 15 = .ok (.aload_n 0, 1) := by decide +kernel
theorem dX8_init_16 : decode cX8_init 16 = .ok (.new 9, 3) := by decide +kernel
theorem dX8_init_19 : decode cX8_init 19 = .ok (.dup, 1) := by decide +kernel
theorem dX8_init_20 : decode cX8_init 20 = .ok (.invokespecial 11, 3) := by decide +kernel
theorem dX8_init_23 : decode cX8_init 23 = .ok (.putfield 18, 3) := by decide +kernel
theorem dX8_init_26 : decode cX8_init 26 = .ok (.aload_n 0, 1) := by decide +kernel
theorem dX8_init_27 : decode cX8_init 27 = .ok (.new 9, 3) := by decide +kernel
theorem dX8_init_30 : decode cX8_init 30 = .ok (.dup, 1) := by decide +kernel
theorem dX8_init_31 : decode cX8_init 31 = .ok (.invokespecial 11, 3) := by decide +kernel
theorem dX8_init_34 : decode cX8_init 34 = .ok (.putfield 21, 3) := by decide +kernel
theorem dX8_init_37 : decode cX8_init 37 = .ok (.aload_n 0, 1) := by decide +kernel
theorem dX8_init_38 : decode cX8_init 38 = .ok (.new 24, 3) := by decide +kernel
theorem dX8_init_41 : decode cX8_init 41 = .ok (.dup, 1) := by decide +kernel
theorem dX8_init_42 : decode cX8_init 42 = .ok (.bipush 24, 2) := by decide +kernel
theorem dX8_init_44 : decode cX8_init 44 = .ok (.invokespecial 26, 3) := by decide +kernel
theorem dX8_init_47 : decode cX8_init 47 = .ok (.putfield 29, 3) := by decide +kernel
theorem dX8_init_50 : decode cX8_init 50 = .ok (.aload_n 0, 1) := by decide +kernel
theorem dX8_init_51 : decode cX8_init 51 = .ok (.new 24, 3) := by decide +kernel
theorem dX8_init_54 : decode cX8_init 54 = .ok (.dup, 1) := by decide +kernel
theorem dX8_init_55 : decode cX8_init 55 = .ok (.bipush 24, 2) := by decide +kernel
theorem dX8_init_57 : decode cX8_init 57 = .ok (.invokespecial 26, 3) := by decide +kernel
theorem dX8_init_60 : decode cX8_init 60 = .ok (.putfield 33, 3) := by decide +kernel
theorem dX8_init_63 : decode cX8_init 63 = .ok (.aload_n 0, 1) := by decide +kernel
theorem dX8_init_64 : decode cX8_init 64 = .ok (.iconst 3, 1) := by decide +kernel
theorem dX8_init_65 : decode cX8_init 65 = .ok (.bipush 24, 2) := by decide +kernel
theorem dX8_init_67 : decode cX8_init 67 = .ok (.multianewarray 36 2, 4) := by decide +kernel
theorem dX8_init_71 : decode cX8_init 71 = .ok (.putfield 38, 3) := by decide +kernel
theorem dX8_init_74 : decode cX8_init 74 = .ok (.aload_n 0, 1) := by decide +kernel
theorem dX8_init_75 : decode cX8_init 75 = .ok (.bipush 24, 2) := by decide +kernel
theorem dX8_init_77 : decode cX8_init 77 = .ok (.newarray .long, 2) := by decide +kernel
theorem dX8_init_79 : decode cX8_init 79 = .ok (.putfield 41, 3) := by decide +kernel
theorem dX8_init_82 : decode cX8_init 82 = .ok (.aload_n 0, 1) := by decide +kernel
theorem dX8_init_83 : decode cX8_init 83 = .ok (.new 45, 3) := by decide +kernel
theorem dX8_init_86 : decode cX8_init 86 = .ok (.dup, 1) := by decide +kernel
theorem dX8_init_87 : decode cX8_init 87 = .ok (.invokespecial 47, 3) := by decide +kernel
theorem dX8_init_90 : decode cX8_init 90 = .ok (.putfield 48, 3) := by decide +kernel
theorem dX8_init_93 : decode cX8_init 93 = .ok (.aload_n 0, 1) := by decide +kernel
theorem dX8_init_94 : decode cX8_init 94 = .ok (.iload_n 1, 1) := by decide +kernel
theorem dX8_init_95 : decode cX8_init 95 = .ok (.putfield 52, 3) := by decide +kernel
theorem dX8_init_98 : decode cX8_init 98 = .ok (.return_, 1) := by decide +kernel
theorem dX8_worksOn_0 : decode cX8_worksOn 0 = .ok (.iconst 0, 1) := by decide +kernel
theorem dX8_worksOn_1 : decode cX8_worksOn 1 = .ok (.istore_n 2, 1) := by decide +kernel
theorem dX8_worksOn_2 : decode cX8_worksOn 2 = .ok (.iload_n 2, 1) := by decide +kernel
theorem dX8_worksOn_3 : decode cX8_worksOn 3 = .ok (.aload_n 0, 1) := by decide +kernel
theorem dX8_worksOn_4 : decode cX8_worksOn 4 = .ok (.getfield 12, 3) := by decide +kernel
theorem dX8_worksOn_7 : decode cX8_worksOn 7 = .ok (.invokevirtual 56, 3) := by decide +kernel
theorem dX8_worksOn_10 : decode cX8_worksOn 10 = .ok (.if_icmp .ge 29, 3) := by decide +kernel
theorem dX8_worksOn_13 : decode cX8_worksOn 13 = .ok (.aload_n 0, 1) := by decide +kernel
theorem dX8_worksOn_14 : decode cX8_worksOn 14 = .ok (.getfield 12, 3) := by decide +kernel
theorem dX8_worksOn_17 : decode cX8_worksOn 17 = .ok (.iload_n 2, 1) := by decide +kernel
theorem dX8_worksOn_18 : decode cX8_worksOn 18 = .ok (.invokevirtual 60, 3) := by decide +kernel
theorem dX8_worksOn_21 : decode cX8_worksOn 21 = .ok (.checkcast 64, 3) := by decide +kernel
theorem dX8_worksOn_24 : decode cX8_worksOn 24 = .ok (.iload_n 1, 1) := by decide +kernel
theorem dX8_worksOn_25 : decode cX8_worksOn 25 = .ok (.invokevirtual 66, 3) := by decide +kernel
theorem dX8_worksOn_28 : decode cX8_worksOn 28 = .ok (.ifCond .eq 5, 3) := by decide +kernel
theorem dX8_worksOn_31 : decode cX8_worksOn 31 = .ok (.iconst 1, 1) := by decide +kernel
theorem dX8_worksOn_32 : decode cX8_worksOn 32 = .ok (.ireturn, 1) := by decide +kernel
theorem dX8_worksOn_33 : decode cX8_worksOn 33 = .ok (.iinc 2 1, 3) := by decide +kernel
theorem dX8_worksOn_36 : decode cX8_worksOn 36 = .ok (.goto (-34), 3) := by decide +kernel
theorem dX8_worksOn_39 : decode cX8_worksOn 39 = .ok (.iconst 0, 1) := by decide +kernel
theorem dX8_worksOn_40 : decode cX8_worksOn 40 = .ok (.ireturn, 1) := by decide +kernel
theorem dX8_tellLeave_0 : decode cX8_tellLeave 0 = .ok (.aload_n 0, 1) := by decide +kernel
theorem dX8_tellLeave_1 : decode cX8_tellLeave 1 = .ok (.getfield 18, 3) := by decide +kernel
theorem dX8_tellLeave_4 : decode cX8_tellLeave 4 = .ok (.invokevirtual 56, 3) := by decide +kernel
theorem dX8_tellLeave_7 : decode cX8_tellLeave 7 = .ok (.istore_n 2, 1) := by decide +kernel
theorem dX8_tellLeave_8 : decode cX8_tellLeave 8 = .ok (.iload_n 2, 1) := by decide +kernel
theorem dX8_tellLeave_9 : decode cX8_tellLeave 9 = .ok (.ifCond .le 32, 3) := by decide +kernel
theorem dX8_tellLeave_12 : decode cX8_tellLeave 12 = .ok (.aload_n 0, 1) := by decide +kernel
theorem dX8_tellLeave_13 : decode cX8_tellLeave 13 = .ok (.getfield 18, 3) := by decide +kernel
theorem dX8_tellLeave_16 : decode cX8_tellLeave 16 = .ok (.iload_n 2, 1) := by decide +kernel
theorem dX8_tellLeave_17 : decode cX8_tellLeave 17 = .ok (.iconst 1, 1) := by decide +kernel
theorem dX8_tellLeave_18 : decode cX8_tellLeave 18 = .ok (.isub, 1) := by decide +kernel
theorem dX8_tellLeave_19 : decode cX8_tellLeave 19 = .ok (.invokevirtual 60, 3) := by decide +kernel
theorem dX8_tellLeave_22 : decode cX8_tellLeave 22 = .ok (.checkcast 70, 3) := by decide +kernel
theorem dX8_tellLeave_25 : decode cX8_tellLeave 25 = .ok (.getfield 72, 3) := by decide +kernel
theorem dX8_tellLeave_28 : decode cX8_tellLeave 28 = .ok (.aload_n 1, 1) := by decide +kernel
theorem dX8_tellLeave_29 : decode cX8_tellLeave 29 = .ok (.getfield 72, 3) := by decide +kernel
theorem dX8_tellLeave_32 : decode cX8_tellLeave 32 = .ok (.if_icmp .le 9, 3) := by decide +kernel
theorem dX8_tellLeave_35 : decode cX8_tellLeave 35 = .ok (.iinc 2 (-1), 3) := by decide +kernel
theorem dX8_tellLeave_38 : decode cX8_tellLeave 38 = .ok (.goto (-30), 3) := by decide +kernel
theorem dX8_tellLeave_41 : decode cX8_tellLeave 41 = .ok (.aload_n 0, 1) := by decide +kernel
theorem dX8_tellLeave_42 : decode cX8_tellLeave 42 = .ok (.getfield 18, 3) := by decide +kernel
theorem dX8_tellLeave_45 : decode cX8_tellLeave 45 = .ok (.iload_n 2, 1) := by decide +kernel
theorem dX8_tellLeave_46 : decode cX8_tellLeave 46 = .ok (.aload_n 1, 1) := by decide +kernel
theorem dX8_tellLeave_47 : decode cX8_tellLeave 47 = .ok (.invokevirtual 75, 3) := by decide +kernel
theorem dX8_tellLeave_50 : decode cX8_tellLeave 50 = .ok (.return_, 1) := by decide +kernel
theorem dX8_tellGarnishment_0 : decode cX8_tellGarnishment 0 = .ok (.aload_n 0, 1) := by decide +kernel
theorem dX8_tellGarnishment_1 : decode cX8_tellGarnishment 1 = .ok (.getfield 21, 3) := by decide +kernel
theorem dX8_tellGarnishment_4 : decode cX8_tellGarnishment 4 = .ok (.invokevirtual 56, 3) := by decide +kernel
theorem dX8_tellGarnishment_7 : decode cX8_tellGarnishment 7 = .ok (.istore_n 2, 1) := by decide +kernel
theorem dX8_tellGarnishment_8 : decode cX8_tellGarnishment 8 = .ok (.iload_n 2, 1) := by decide +kernel
theorem dX8_tellGarnishment_9 : decode cX8_tellGarnishment 9 = .ok (.ifCond .le 32, 3) := by decide +kernel
theorem dX8_tellGarnishment_12 : decode cX8_tellGarnishment 12 = .ok (.aload_n 0, 1) := by decide +kernel
theorem dX8_tellGarnishment_13 : decode cX8_tellGarnishment 13 = .ok (.getfield 21, 3) := by decide +kernel
theorem dX8_tellGarnishment_16 : decode cX8_tellGarnishment 16 = .ok (.iload_n 2, 1) := by decide +kernel
theorem dX8_tellGarnishment_17 : decode cX8_tellGarnishment 17 = .ok (.iconst 1, 1) := by decide +kernel
theorem dX8_tellGarnishment_18 : decode cX8_tellGarnishment 18 = .ok (.isub, 1) := by decide +kernel
theorem dX8_tellGarnishment_19 : decode cX8_tellGarnishment 19 = .ok (.invokevirtual 60, 3) := by decide +kernel
theorem dX8_tellGarnishment_22 : decode cX8_tellGarnishment 22 = .ok (.checkcast 79, 3) := by decide +kernel
theorem dX8_tellGarnishment_25 : decode cX8_tellGarnishment 25 = .ok (.getfield 81, 3) := by decide +kernel
theorem dX8_tellGarnishment_28 : decode cX8_tellGarnishment 28 = .ok (.aload_n 1, 1) := by decide +kernel
theorem dX8_tellGarnishment_29 : decode cX8_tellGarnishment 29 = .ok (.getfield 81, 3) := by decide +kernel
theorem dX8_tellGarnishment_32 : decode cX8_tellGarnishment 32 = .ok (.if_icmp .le 9, 3) := by decide +kernel
theorem dX8_tellGarnishment_35 : decode cX8_tellGarnishment 35 = .ok (.iinc 2 (-1), 3) := by decide +kernel
theorem dX8_tellGarnishment_38 : decode cX8_tellGarnishment 38 = .ok (.goto (-30), 3) := by decide +kernel
theorem dX8_tellGarnishment_41 : decode cX8_tellGarnishment 41 = .ok (.aload_n 0, 1) := by decide +kernel
theorem dX8_tellGarnishment_42 : decode cX8_tellGarnishment 42 = .ok (.getfield 21, 3) := by decide +kernel
theorem dX8_tellGarnishment_45 : decode cX8_tellGarnishment 45 = .ok (.iload_n 2, 1) := by decide +kernel
theorem dX8_tellGarnishment_46 : decode cX8_tellGarnishment 46 = .ok (.aload_n 1, 1) := by decide +kernel
theorem dX8_tellGarnishment_47 : decode cX8_tellGarnishment 47 = .ok (.invokevirtual 75, 3) := by decide +kernel
theorem dX8_tellGarnishment_50 : decode cX8_tellGarnishment 50 = .ok (.return_, 1) := by decide +kernel
theorem dX8_takeLeave_0 : decode cX8_takeLeave 0 = .ok (.iconst 0, 1) := by decide +kernel
theorem dX8_takeLeave_1 : decode cX8_takeLeave 1 = .ok (.istore 5, 2) := by decide +kernel
theorem dX8_takeLeave_3 : decode cX8_takeLeave 3 = .ok (.iconst 0, 1) := by decide +kernel
theorem dX8_takeLeave_4 : decode cX8_takeLeave 4 = .ok (.istore 6, 2) := by decide +kernel
theorem dX8_takeLeave_6 : decode cX8_takeLeave 6 = .ok (.iconst 0, 1) := by decide +kernel
theorem dX8_takeLeave_7 : decode cX8_takeLeave 7 = .ok (.istore 7, 2) := by decide +kernel
theorem dX8_takeLeave_9 : decode cX8_takeLeave 9 = .ok (.iconst 0, 1) := by decide +kernel
theorem dX8_takeLeave_10 : decode cX8_takeLeave 10 = .ok (.istore 8, 2) := by decide +kernel
theorem dX8_takeLeave_12 : decode cX8_takeLeave 12 = .ok (.iload 8, 2) := by decide +kernel
theorem dX8_takeLeave_14 : decode cX8_takeLeave 14 = .ok (.bipush 24, 2) := by decide +kernel
theorem dX8_takeLeave_16 : decode cX8_takeLeave 16 = .ok (.if_icmp .ge 190, 3) := by decide +kernel
theorem dX8_takeLeave_19 : decode cX8_takeLeave 19 = .ok (.iload 8, 2) := by decide +kernel
theorem dX8_takeLeave_21 : decode cX8_takeLeave 21 = .ok (.bipush 30, 2) := by decide +kernel
theorem dX8_takeLeave_23 : decode cX8_takeLeave 23 = .ok (.imul, 1) := by decide +kernel
theorem dX8_takeLeave_24 : decode cX8_takeLeave 24 = .ok (.iload_n 1, 1) := by decide +kernel
theorem dX8_takeLeave_25 : decode cX8_takeLeave 25 = .ok (.if_icmp .gt 181, 3) := by decide +kernel
theorem dX8_takeLeave_28 : decode cX8_takeLeave 28 = .ok (.iload 8, 2) := by decide +kernel
theorem dX8_takeLeave_30 : decode cX8_takeLeave 30 = .ok (.bipush 30, 2) := by decide +kernel
theorem dX8_takeLeave_32 : decode cX8_takeLeave 32 = .ok (.imul, 1) := by decide +kernel
theorem dX8_takeLeave_33 : decode cX8_takeLeave 33 = .ok (.istore 9, 2) := by decide +kernel
theorem dX8_takeLeave_35 : decode cX8_takeLeave 35 = .ok (.aload_n 0, 1) := by decide +kernel
theorem dX8_takeLeave_36 : decode cX8_takeLeave 36 = .ok (.iload 9, 2) := by decide +kernel
theorem dX8_takeLeave_38 : decode cX8_takeLeave 38 = .ok (.iconst 1, 1) := by decide +kernel
theorem dX8_takeLeave_39 : decode cX8_takeLeave 39 = .ok (.isub, 1) := by decide +kernel
theorem dX8_takeLeave_40 : decode cX8_takeLeave 40 = .ok (.invokevirtual 84, 3) := by decide +kernel
theorem dX8_takeLeave_43 : decode cX8_takeLeave 43 = .ok (.ifCond .eq 9, 3) := by decide +kernel
theorem dX8_takeLeave_46 : decode cX8_takeLeave 46 = .ok (.iload 6, 2) := by decide +kernel
theorem dX8_takeLeave_48 : decode cX8_takeLeave 48 = .ok (.iload_n 2, 1) := by decide +kernel
theorem dX8_takeLeave_49 : decode cX8_takeLeave 49 = .ok (.iadd, 1) := by decide +kernel
theorem dX8_takeLeave_50 : decode cX8_takeLeave 50 = .ok (.istore 6, 2) := by decide +kernel
theorem dX8_takeLeave_52 : decode cX8_takeLeave 52 = .ok (.iload 8, 2) := by decide +kernel
theorem dX8_takeLeave_54 : decode cX8_takeLeave 54 = .ok (.bipush 12, 2) := by decide +kernel
theorem dX8_takeLeave_56 : decode cX8_takeLeave 56 = .ok (.if_icmp .ne 14, 3) := by decide +kernel
theorem dX8_takeLeave_59 : decode cX8_takeLeave 59 = .ok (.iload 6, 2) := by decide +kernel
theorem dX8_takeLeave_61 : decode cX8_takeLeave 61 = .ok (.iload_n 3, 1) := by decide +kernel
theorem dX8_takeLeave_62 : decode cX8_takeLeave 62 = .ok (.invokestatic 87, 3) := by decide +kernel
theorem dX8_takeLeave_65 : decode cX8_takeLeave 65 = .ok (.istore 5, 2) := by decide +kernel
theorem dX8_takeLeave_67 : decode cX8_takeLeave 67 = .ok (.iconst 0, 1) := by decide +kernel
theorem dX8_takeLeave_68 : decode cX8_takeLeave 68 = .ok (.istore 6, 2) := by decide +kernel
theorem dX8_takeLeave_70 : decode cX8_takeLeave 70 = .ok (.iload 8, 2) := by decide +kernel
theorem dX8_takeLeave_72 : decode cX8_takeLeave 72 = .ok (.bipush 12, 2) := by decide +kernel
theorem dX8_takeLeave_74 : decode cX8_takeLeave 74 = .ok (.iload 4, 2) := by decide +kernel
theorem dX8_takeLeave_76 : decode cX8_takeLeave 76 = .ok (.iadd, 1) := by decide +kernel
theorem dX8_takeLeave_77 : decode cX8_takeLeave 77 = .ok (.if_icmp .ne 6, 3) := by decide +kernel
theorem dX8_takeLeave_80 : decode cX8_takeLeave 80 = .ok (.iconst 0, 1) := by decide +kernel
theorem dX8_takeLeave_81 : decode cX8_takeLeave 81 = .ok (.istore 5, 2) := by decide +kernel
theorem dX8_takeLeave_83 : decode cX8_takeLeave 83 = .ok (.iload_n 1, 1) := by decide +kernel
theorem dX8_takeLeave_84 : decode cX8_takeLeave 84 = .ok (.iload 9, 2) := by decide +kernel
theorem dX8_takeLeave_86 : decode cX8_takeLeave 86 = .ok (.bipush 30, 2) := by decide +kernel
theorem dX8_takeLeave_88 : decode cX8_takeLeave 88 = .ok (.iadd, 1) := by decide +kernel
theorem dX8_takeLeave_89 : decode cX8_takeLeave 89 = .ok (.invokestatic 87, 3) := by decide +kernel
theorem dX8_takeLeave_92 : decode cX8_takeLeave 92 = .ok (.istore 10, 2) := by decide +kernel
theorem dX8_takeLeave_94 : decode cX8_takeLeave 94 = .ok (.iload 7, 2) := by decide +kernel
theorem dX8_takeLeave_96 : decode cX8_takeLeave 96 = .ok (.aload_n 0, 1) := by decide +kernel
theorem dX8_takeLeave_97 : decode cX8_takeLeave 97 = .ok (.getfield 18, 3) := by decide +kernel
theorem dX8_takeLeave_100 : decode cX8_takeLeave 100 = .ok (.invokevirtual 56, 3) := by decide +kernel
theorem dX8_takeLeave_103 : decode cX8_takeLeave 103 = .ok (.if_icmp .ge 97, 3) := by decide +kernel
theorem dX8_takeLeave_106 : decode cX8_takeLeave 106 = .ok (.aload_n 0, 1) := by decide +kernel
theorem dX8_takeLeave_107 : decode cX8_takeLeave 107 = .ok (.getfield 18, 3) := by decide +kernel
theorem dX8_takeLeave_110 : decode cX8_takeLeave 110 = .ok (.iload 7, 2) := by decide +kernel
theorem dX8_takeLeave_112 : decode cX8_takeLeave 112 = .ok (.invokevirtual 60, 3) := by decide +kernel
theorem dX8_takeLeave_115 : decode cX8_takeLeave 115 = .ok (.checkcast 70, 3) := by decide +kernel
theorem dX8_takeLeave_118 : decode cX8_takeLeave 118 = .ok (.getfield 72, 3) := by decide +kernel
theorem dX8_takeLeave_121 : decode cX8_takeLeave 121 = .ok (.iload 10, 2) := by decide +kernel
theorem dX8_takeLeave_123 : decode cX8_takeLeave 123 = .ok (.if_icmp .ge 77, 3) := by decide +kernel
theorem dX8_takeLeave_126 : decode cX8_takeLeave 126 = .ok (.aload_n 0, 1) := by decide +kernel
theorem dX8_takeLeave_127 : decode cX8_takeLeave 127 = .ok (.getfield 18, 3) := by decide +kernel
theorem dX8_takeLeave_130 : decode cX8_takeLeave 130 = .ok (.iload 7, 2) := by decide +kernel
theorem dX8_takeLeave_132 : decode cX8_takeLeave 132 = .ok (.invokevirtual 60, 3) := by decide +kernel
theorem dX8_takeLeave_135 : decode cX8_takeLeave 135 = .ok (.checkcast 70, 3) := by decide +kernel
theorem dX8_takeLeave_138 : decode cX8_takeLeave 138 = .ok (.astore 11, 2) := by decide +kernel
theorem dX8_takeLeave_140 : decode cX8_takeLeave 140 = .ok (.aload 11, 2) := by decide +kernel
theorem dX8_takeLeave_142 : decode cX8_takeLeave 142 = .ok (.iload 5, 2) := by decide +kernel
theorem dX8_takeLeave_144 : decode cX8_takeLeave 144 = .ok (.iload 6, 2) := by decide +kernel
theorem dX8_takeLeave_146 : decode cX8_takeLeave 146 = .ok (.iadd, 1) := by decide +kernel
theorem dX8_takeLeave_147 : decode cX8_takeLeave 147 = .ok (.bipush 10, 2) := by decide +kernel
theorem dX8_takeLeave_149 : decode cX8_takeLeave 149 = .ok (.if_icmp .lt 7, 3) := by decide +kernel
theorem dX8_takeLeave_152 : decode cX8_takeLeave 152 = .ok (.iconst 1, 1) := by decide +kernel
theorem dX8_takeLeave_153 : decode cX8_takeLeave 153 = .ok (.goto 4, 3) := by decide +kernel
theorem dX8_takeLeave_156 : decode cX8_takeLeave 156 = .ok (.iconst 0, 1) := by decide +kernel
theorem dX8_takeLeave_157 : decode cX8_takeLeave 157 = .ok (.putfield 93, 3) := by decide +kernel
theorem dX8_takeLeave_160 : decode cX8_takeLeave 160 = .ok (.aload 11, 2) := by decide +kernel
theorem dX8_takeLeave_162 : decode cX8_takeLeave 162 = .ok (.getfield 93, 3) := by decide +kernel
theorem dX8_takeLeave_165 : decode cX8_takeLeave 165 = .ok (.ifCond .eq 29, 3) := by decide +kernel
theorem dX8_takeLeave_168 : decode cX8_takeLeave 168 = .ok (.iload 5, 2) := by decide +kernel
theorem dX8_takeLeave_170 : decode cX8_takeLeave 170 = .ok (.bipush 10, 2) := by decide +kernel
theorem dX8_takeLeave_172 : decode cX8_takeLeave 172 = .ok (.invokestatic 87, 3) := by decide +kernel
theorem dX8_takeLeave_175 : decode cX8_takeLeave 175 = .ok (.istore 12, 2) := by decide +kernel
theorem dX8_takeLeave_177 : decode cX8_takeLeave 177 = .ok (.iload 5, 2) := by decide +kernel
theorem dX8_takeLeave_179 : decode cX8_takeLeave 179 = .ok (.iload 12, 2) := by decide +kernel
theorem dX8_takeLeave_181 : decode cX8_takeLeave 181 = .ok (.isub, 1) := by decide +kernel
theorem dX8_takeLeave_182 : decode cX8_takeLeave 182 = .ok (.istore 5, 2) := by decide +kernel
theorem dX8_takeLeave_184 : decode cX8_takeLeave 184 = .ok (.iload 6, 2) := by decide +kernel
theorem dX8_takeLeave_186 : decode cX8_takeLeave 186 = .ok (.bipush 10, 2) := by decide +kernel
theorem dX8_takeLeave_188 : decode cX8_takeLeave 188 = .ok (.iload 12, 2) := by decide +kernel
theorem dX8_takeLeave_190 : decode cX8_takeLeave 190 = .ok (.isub, 1) := by decide +kernel
theorem dX8_takeLeave_191 : decode cX8_takeLeave 191 = .ok (.isub, 1) := by decide +kernel
theorem dX8_takeLeave_192 : decode cX8_takeLeave 192 = .ok (.istore 6, 2) := by decide +kernel
theorem dX8_takeLeave_194 : decode cX8_takeLeave 194 = .ok (.iinc 7 1, 3) := by decide +kernel
theorem dX8_takeLeave_197 : decode cX8_takeLeave 197 = .ok (.goto (-103), 3) := by decide +kernel
theorem dX8_takeLeave_200 : decode cX8_takeLeave 200 = .ok (.iinc 8 1, 3) := by decide +kernel
theorem dX8_takeLeave_203 : decode cX8_takeLeave 203 = .ok (.goto (-191), 3) := by decide +kernel
theorem dX8_takeLeave_206 : decode cX8_takeLeave 206 = .ok (.iload 5, 2) := by decide +kernel
theorem dX8_takeLeave_208 : decode cX8_takeLeave 208 = .ok (.iload 6, 2) := by decide +kernel
theorem dX8_takeLeave_210 : decode cX8_takeLeave 210 = .ok (.iadd, 1) := by decide +kernel
theorem dX8_takeLeave_211 : decode cX8_takeLeave 211 = .ok (.ireturn, 1) := by decide +kernel
theorem dX8_refreshContracts_0 : decode cX8_refreshContracts 0 = .ok (.iconst 0, 1) := by decide +kernel
theorem dX8_refreshContracts_1 : decode cX8_refreshContracts 1 = .ok (.istore_n 1, 1) := by decide +kernel
theorem dX8_refreshContracts_2 : decode cX8_refreshContracts 2 = .ok (.iload_n 1, 1) := by decide +kernel
theorem dX8_refreshContracts_3 : decode cX8_refreshContracts 3 = .ok (.aload_n 0, 1) := by decide +kernel
theorem dX8_refreshContracts_4 : decode cX8_refreshContracts 4 = .ok (.getfield 12, 3) := by decide +kernel
theorem dX8_refreshContracts_7 : decode cX8_refreshContracts 7 = .ok (.invokevirtual 56, 3) := by decide +kernel
theorem dX8_refreshContracts_10 : decode cX8_refreshContracts 10 = .ok (.if_icmp .ge 23, 3) := by decide +kernel
theorem dX8_refreshContracts_13 : decode cX8_refreshContracts 13 = .ok (.aload_n 0, 1) := by decide +kernel
theorem dX8_refreshContracts_14 : decode cX8_refreshContracts 14 = .ok (.getfield 12, 3) := by decide +kernel
theorem dX8_refreshContracts_17 : decode cX8_refreshContracts 17 = .ok (.iload_n 1, 1) := by decide +kernel
theorem dX8_refreshContracts_18 : decode cX8_refreshContracts 18 = .ok (.invokevirtual 60, 3) := by decide +kernel
theorem dX8_refreshContracts_21 : decode cX8_refreshContracts 21 = .ok (.checkcast 64, 3) := by decide +kernel
theorem dX8_refreshContracts_24 : decode cX8_refreshContracts 24 = .ok (.invokevirtual 97, 3) := by decide +kernel
theorem dX8_refreshContracts_27 : decode cX8_refreshContracts 27 = .ok (.iinc 1 1, 3) := by decide +kernel
theorem dX8_refreshContracts_30 : decode cX8_refreshContracts 30 = .ok (.goto (-28), 3) := by decide +kernel
theorem dX8_refreshContracts_33 : decode cX8_refreshContracts 33 = .ok (.iconst 0, 1) := by decide +kernel
theorem dX8_refreshContracts_34 : decode cX8_refreshContracts 34 = .ok (.istore_n 1, 1) := by decide +kernel
theorem dX8_refreshContracts_35 : decode cX8_refreshContracts 35 = .ok (.iload_n 1, 1) := by decide +kernel
theorem dX8_refreshContracts_36 : decode cX8_refreshContracts 36 = .ok (.aload_n 0, 1) := by decide +kernel
theorem dX8_refreshContracts_37 : decode cX8_refreshContracts 37 = .ok (.getfield 18, 3) := by decide +kernel
theorem dX8_refreshContracts_40 : decode cX8_refreshContracts 40 = .ok (.invokevirtual 56, 3) := by decide +kernel
theorem dX8_refreshContracts_43 : decode cX8_refreshContracts 43 = .ok (.if_icmp .ge 76, 3) := by decide +kernel
theorem dX8_refreshContracts_46 : decode cX8_refreshContracts 46 = .ok (.aload_n 0, 1) := by decide +kernel
theorem dX8_refreshContracts_47 : decode cX8_refreshContracts 47 = .ok (.getfield 18, 3) := by decide +kernel
theorem dX8_refreshContracts_50 : decode cX8_refreshContracts 50 = .ok (.iload_n 1, 1) := by decide +kernel
theorem dX8_refreshContracts_51 : decode cX8_refreshContracts 51 = .ok (.invokevirtual 60, 3) := by decide +kernel
theorem dX8_refreshContracts_54 : decode cX8_refreshContracts 54 = .ok (.checkcast 70, 3) := by decide +kernel
theorem dX8_refreshContracts_57 : decode cX8_refreshContracts 57 = .ok (.astore_n 2, 1) := by decide +kernel
theorem dX8_refreshContracts_58 : decode cX8_refreshContracts 58 = .ok (.aload_n 2, 1) := by decide +kernel
theorem dX8_refreshContracts_59 : decode cX8_refreshContracts 59 = .ok (.getfield 100, 3) := by decide +kernel
theorem dX8_refreshContracts_62 : decode cX8_refreshContracts 62 = .ok (.astore_n 3, 1) := by decide +kernel
theorem dX8_refreshContracts_63 : decode cX8_refreshContracts 63 = .ok (.aload_n 2, 1) := by decide +kernel
theorem dX8_refreshContracts_64 : decode cX8_refreshContracts 64 = .ok (.getfield 93, 3) := by decide +kernel
theorem dX8_refreshContracts_67 : decode cX8_refreshContracts 67 = .ok (.ifCond .eq 46, 3) := by decide +kernel
theorem dX8_refreshContracts_70 : decode cX8_refreshContracts 70 = .ok (.aload_n 3, 1) := by decide +kernel
theorem dX8_refreshContracts_71 : decode cX8_refreshContracts 71 = .ok (.getfield 104, 3) := by decide +kernel
theorem dX8_refreshContracts_74 : decode cX8_refreshContracts 74 = .ok (.ifCond .eq 39, 3) := by decide +kernel
theorem dX8_refreshContracts_77 : decode cX8_refreshContracts 77 = .ok (.aload_n 3, 1) := by decide +kernel
theorem dX8_refreshContracts_78 : decode cX8_refreshContracts 78 = .ok (.getfield 107, 3) := by decide +kernel
theorem dX8_refreshContracts_81 : decode cX8_refreshContracts 81 = .ok (.aload_n 2, 1) := by decide +kernel
theorem dX8_refreshContracts_82 : decode cX8_refreshContracts 82 = .ok (.getfield 72, 3) := by decide +kernel
theorem dX8_refreshContracts_85 : decode cX8_refreshContracts 85 = .ok (.bipush 30, 2) := by decide +kernel
theorem dX8_refreshContracts_87 : decode cX8_refreshContracts 87 = .ok (.idiv, 1) := by decide +kernel
theorem dX8_refreshContracts_88 : decode cX8_refreshContracts 88 = .ok (.dup2, 1) := by decide +kernel
theorem dX8_refreshContracts_89 : decode cX8_refreshContracts 89 = .ok (.laload, 1) := by decide +kernel
theorem dX8_refreshContracts_90 : decode cX8_refreshContracts 90 = .ok (.aload_n 3, 1) := by decide +kernel
theorem dX8_refreshContracts_91 : decode cX8_refreshContracts 91 = .ok (.getfield 110, 3) := by decide +kernel
theorem dX8_refreshContracts_94 : decode cX8_refreshContracts 94 = .ok (.i2l, 1) := by decide +kernel
theorem dX8_refreshContracts_95 : decode cX8_refreshContracts 95 = .ok (.aload_n 3, 1) := by decide +kernel
theorem dX8_refreshContracts_96 : decode cX8_refreshContracts 96 = .ok (.aload_n 2, 1) := by decide +kernel
theorem dX8_refreshContracts_97 : decode cX8_refreshContracts 97 = .ok (.getfield 72, 3) := by decide +kernel
theorem dX8_refreshContracts_100 : decode cX8_refreshContracts 100 = .ok (.invokevirtual 113, 3) := by decide +kernel
theorem dX8_refreshContracts_103 : decode cX8_refreshContracts 103 = .ok (.i2l, 1) := by decide +kernel
theorem dX8_refreshContracts_104 : decode cX8_refreshContracts 104 = .ok (.lmul, 1) := by decide +kernel
theorem dX8_refreshContracts_105 : decode cX8_refreshContracts 105 = .ok (.ldc2_w 117, 3) := by decide +kernel
theorem dX8_refreshContracts_108 : decode cX8_refreshContracts 108 = .ok (.invokestatic 119, 3) := by decide +kernel
theorem dX8_refreshContracts_111 : decode cX8_refreshContracts 111 = .ok (.ladd, 1) := by decide +kernel
theorem dX8_refreshContracts_112 : decode cX8_refreshContracts 112 = .ok (.lastore, 1) := by decide +kernel
theorem dX8_refreshContracts_113 : decode cX8_refreshContracts 113 = .ok (.iinc 1 1, 3) := by decide +kernel
theorem dX8_refreshContracts_116 : decode cX8_refreshContracts 116 = .ok (.goto (-81), 3) := by decide +kernel
theorem dX8_refreshContracts_119 : decode cX8_refreshContracts 119 = .ok (.return_, 1) := by decide +kernel
theorem dX9_init_0 : decode cX9_init 0 = .ok (.aload_n 0, 1) := by decide +kernel
theorem dX9_init_1 : decode cX9_init 1 = .ok (.invokespecial 3, 3) := by decide +kernel
theorem dX9_init_4 : decode cX9_init 4 = .ok (.aload_n 0, 1) := by decide +kernel
theorem dX9_init_5 : decode cX9_init 5 = .ok (.new 9, 3) := by decide +kernel
theorem dX9_init_8 : decode cX9_init 8 = .ok (.dup, 1) := by decide +kernel
theorem dX9_init_9 : decode cX9_init 9 = .ok (.bipush 24, 2) := by decide +kernel
theorem dX9_init_11 : decode cX9_init 11 = .ok (.invokespecial 11, 3) := by decide +kernel
theorem dX9_init_14 : decode cX9_init 14 = .ok (.putfield 14, 3) := by decide +kernel
theorem dX9_init_17 : decode cX9_init 17 = .ok (.aload_n 0, 1) := by decide +kernel
theorem dX9_init_18 : decode cX9_init 18 = .ok (.new 9, 3) := by decide +kernel
theorem dX9_init_21 : decode cX9_init 21 = .ok (.dup, 1) := by decide +kernel
theorem dX9_init_22 : decode cX9_init 22 = .ok (.bipush 24, 2) := by decide +kernel
theorem dX9_init_24 : decode cX9_init 24 = .ok (.invokespecial 11, 3) := by decide +kernel
theorem dX9_init_27 : decode cX9_init 27 = .ok (.putfield 20, 3) := by decide +kernel
theorem dX9_init_30 : decode cX9_init 30 = .ok (.aload_n 0, 1) := by decide +kernel
theorem dX9_init_31 : decode cX9_init 31 = .ok (.iconst 2, 1) := by decide +kernel
theorem dX9_init_32 : decode cX9_init 32 = .ok (.anewarray 23, 3) := by decide +kernel
theorem dX9_init_35 : decode cX9_init 35 = .ok (.putfield 25, 3) := by decide +kernel
theorem dX9_init_38 : decode cX9_init 38 = .ok (.aload_n 0, 1) := by decide +kernel
theorem dX9_init_39 : decode cX9_init 39 = .ok (.bipush 24, 2) := by decide +kernel
theorem dX9_init_41 : decode cX9_init 41 = .ok (.newarray .long, 2) := by decide +kernel
theorem dX9_init_43 : decode cX9_init 43 = .ok (.putfield 29, 3) := by decide +kernel
theorem dX9_init_46 : decode cX9_init 46 = .ok (.aload_n 0, 1) := by decide +kernel
theorem dX9_init_47 : decode cX9_init 47 = .ok (.bipush 24, 2) := by decide +kernel
theorem dX9_init_49 : decode cX9_init 49 = .ok (.newarray .long, 2) := by decide +kernel
theorem dX9_init_51 : decode cX9_init 51 = .ok (.putfield 33, 3) := by decide +kernel
theorem dX9_init_54 : decode cX9_init 54 = .ok (.aload_n 0, 1) := by decide +kernel
theorem dX9_init_55 : decode cX9_init 55 = .ok (.bipush 24, 2) := by decide +kernel
theorem dX9_init_57 : decode cX9_init 57 = .ok (.newarray .int, 2) := by decide +kernel
theorem dX9_init_59 : decode cX9_init 59 = .ok (.putfield 36, 3) := by decide +kernel
theorem dX9_init_62 : decode cX9_init 62 = .ok (.iconst 0, 1) := by decide +kernel
theorem dX9_init_63 : decode cX9_init 63 = .ok (.istore_n 1, 1) := by decide +kernel
theorem dX9_init_64 : decode cX9_init 64 = .ok (.iload_n 1, 1) := by decide +kernel
theorem dX9_init_65 : decode cX9_init 65 = .ok (.iconst 2, 1) := by decide +kernel
theorem dX9_init_66 : decode cX9_init 66 = .ok (.if_icmp .ge 22, 3) := by decide +kernel
theorem dX9_init_69 : decode cX9_init 69 = .ok (.aload_n 0, 1) := by decide +kernel
theorem dX9_init_70 : decode cX9_init 70 = .ok (.getfield 25, 3) := by decide +kernel
theorem dX9_init_73 : decode cX9_init 73 = .ok (.iload_n 1, 1) := by decide +kernel
theorem dX9_init_74 : decode cX9_init 74 = .ok (.new 23, 3) := by decide +kernel
theorem dX9_init_77 : decode cX9_init 77 = .ok (.dup, 1) := by decide +kernel
theorem dX9_init_78 : decode cX9_init 78 = .ok (.invokespecial 40, 3) := by decide +kernel
theorem dX9_init_81 : decode cX9_init 81 = .ok (.aastore, 1) := by decide +kernel
theorem dX9_init_82 : decode cX9_init 82 = .ok (.iinc 1 1, 3) := by decide +kernel
theorem dX9_init_85 : decode cX9_init 85 = .ok (.goto (-21), 3) := by decide +kernel
theorem dX9_init_88 : decode cX9_init 88 = .ok (.return_, 1) := by decide +kernel
theorem dX9_file_0 : decode cX9_file 0 = .ok (.iload 6, 2) := by decide +kernel
theorem dX9_file_2 : decode cX9_file 2 = .ok (.ifCond .eq 36, 3) := by decide +kernel
theorem dX9_file_5 : decode cX9_file 5 = .ok (.aload_n 0, 1) := by decide +kernel
theorem dX9_file_6 : decode cX9_file 6 = .ok (.getfield 29, 3) := by decide +kernel
theorem dX9_file_9 : decode cX9_file 9 = .ok (.iload_n 1, 1) := by decide +kernel
theorem dX9_file_10 : decode cX9_file 10 = .ok (.laload, 1) := by decide +kernel
theorem dX9_file_11 : decode cX9_file 11 = .ok (.lload_n 2, 1) := by decide +kernel
theorem dX9_file_12 : decode cX9_file 12 = .ok (.lcmp, 1) := by decide +kernel
theorem dX9_file_13 : decode cX9_file 13 = .ok (.ifCond .ne 15, 3) := by decide +kernel
theorem dX9_file_16 : decode cX9_file 16 = .ok (.aload_n 0, 1) := by decide +kernel
theorem dX9_file_17 : decode cX9_file 17 = .ok (.getfield 33, 3) := by decide +kernel
theorem dX9_file_20 : decode cX9_file 20 = .ok (.iload_n 1, 1) := by decide +kernel
theorem dX9_file_21 : decode cX9_file 21 = .ok (.laload, 1) := by decide +kernel
theorem dX9_file_22 : decode cX9_file 22 = .ok (.lload 4, 2) := by decide +kernel
theorem dX9_file_24 : decode cX9_file 24 = .ok (.lcmp, 1) := by decide +kernel
theorem dX9_file_25 : decode cX9_file 25 = .ok (.ifCond .eq 13, 3) := by decide +kernel
theorem dX9_file_28 : decode cX9_file 28 = .ok (.aload_n 0, 1) := by decide +kernel
theorem dX9_file_29 : decode cX9_file 29 = .ok (.getfield 36, 3) := by decide +kernel
theorem dX9_file_32 : decode cX9_file 32 = .ok (.iload_n 1, 1) := by decide +kernel
theorem dX9_file_33 : decode cX9_file 33 = .ok (.dup2, 1) := by decide +kernel
theorem dX9_file_34 : decode cX9_file 34 = .ok (.iaload, 1) := by decide +kernel
theorem dX9_file_35 : decode cX9_file 35 = .ok (.iconst 1, 1) := by decide +kernel
theorem dX9_file_36 : decode cX9_file 36 = .ok (.iadd, 1) := by decide +kernel
theorem dX9_file_37 : decode cX9_file 37 = .ok (.iastore, 1) := by decide +kernel
theorem dX9_file_38 : decode cX9_file 38 = .ok (.aload_n 0, 1) := by decide +kernel
theorem dX9_file_39 : decode cX9_file 39 = .ok (.getfield 29, 3) := by decide +kernel
theorem dX9_file_42 : decode cX9_file 42 = .ok (.iload_n 1, 1) := by decide +kernel
theorem dX9_file_43 : decode cX9_file 43 = .ok (.lload_n 2, 1) := by decide +kernel
theorem dX9_file_44 : decode cX9_file 44 = .ok (.lastore, 1) := by decide +kernel
theorem dX9_file_45 : decode cX9_file 45 = .ok (.aload_n 0, 1) := by decide +kernel
theorem dX9_file_46 : decode cX9_file 46 = .ok (.getfield 33, 3) := by decide +kernel
theorem dX9_file_49 : decode cX9_file 49 = .ok (.iload_n 1, 1) := by decide +kernel
theorem dX9_file_50 : decode cX9_file 50 = .ok (.lload 4, 2) := by decide +kernel
theorem dX9_file_52 : decode cX9_file 52 = .ok (.lastore, 1) := by decide +kernel
theorem dX9_file_53 : decode cX9_file 53 = .ok (.return_, 1) := by decide +kernel
theorem dX10_init_0 : decode cX10_init 0 = .ok (.aload_n 0, 1) := by decide +kernel
theorem dX10_init_1 : decode cX10_init 1 = .ok (.invokespecial 1, 3) := by decide +kernel
theorem dX10_init_4 : decode cX10_init 4 = .ok (.aload_n 0, 1) := by decide +kernel
theorem dX10_init_5 : decode cX10_init 5 = .ok (.iload_n 1, 1) := by decide +kernel
theorem dX10_init_6 : decode cX10_init 6 = .ok (.iconst 0, 1) := by decide +kernel
theorem dX10_init_7 : decode cX10_init 7 = .ok (.invokestatic 7, 3) := by decide +kernel
theorem dX10_init_10 : decode cX10_init 10 = .ok (.newarray .int, 2) := by decide +kernel
theorem dX10_init_12 : decode cX10_init 12 = .ok (.putfield 13, 3) := by decide +kernel
theorem dX10_init_15 : decode cX10_init 15 = .ok (.aload_n 0, 1) := by decide +kernel
theorem dX10_init_16 : decode cX10_init 16 = .ok (.iload_n 1, 1) := by decide +kernel
theorem dX10_init_17 : decode cX10_init 17 = .ok (.iconst 0, 1) := by decide +kernel
theorem dX10_init_18 : decode cX10_init 18 = .ok (.invokestatic 7, 3) := by decide +kernel
theorem dX10_init_21 : decode cX10_init 21 = .ok (.newarray .boolean, 2) := by decide +kernel
theorem dX10_init_23 : decode cX10_init 23 = .ok (.putfield 19, 3) := by decide +kernel
theorem dX10_init_26 : decode cX10_init 26 = .ok (.return_, 1) := by decide +kernel
theorem dX10_tell_0 : decode cX10_tell 0 = .ok (.iload_n 1, 1) := by decide +kernel
theorem dX10_tell_1 : decode cX10_tell 1 = .ok (.ifCond .lt 12, 3) := by decide +kernel
theorem dX10_tell_4 : decode cX10_tell 4 = .ok (.iload_n 1, 1) := by decide +kernel
theorem dX10_tell_5 : decode cX10_tell 5 = .ok (.aload_n 0, 1) := by decide +kernel
theorem dX10_tell_6 : decode cX10_tell 6 = .ok (.getfield 13, 3) := by decide +kernel
theorem dX10_tell_9 : decode cX10_tell 9 = .ok (.arraylength, 1) := by decide +kernel
theorem dX10_tell_10 : decode cX10_tell 10 = .ok (.if_icmp .lt 4, 3) := by decide +kernel
theorem dX10_tell_13 : decode cX10_tell 13 = .ok (.return_, 1) := by decide +kernel
theorem dX10_tell_14 : decode cX10_tell 14 = .ok (.aload_n 0, 1) := by decide +kernel
theorem dX10_tell_15 : decode cX10_tell 15 = .ok (.getfield 19, 3) := by decide +kernel
theorem dX10_tell_18 : decode cX10_tell 18 = .ok (.iload_n 1, 1) := by decide +kernel
theorem dX10_tell_19 : decode cX10_tell 19 = .ok (.iconst 1, 1) := by decide +kernel
theorem dX10_tell_20 : decode cX10_tell 20 = .ok (.bastore, 1) := by decide +kernel
theorem dX10_tell_21 : decode cX10_tell 21 = .ok (.aload_n 0, 1) := by decide +kernel
theorem dX10_tell_22 : decode cX10_tell 22 = .ok (.getfield 13, 3) := by decide +kernel
theorem dX10_tell_25 : decode cX10_tell 25 = .ok (.iload_n 1, 1) := by decide +kernel
theorem dX10_tell_26 : decode cX10_tell 26 = .ok (.iload_n 2, 1) := by decide +kernel
theorem dX10_tell_27 : decode cX10_tell 27 = .ok (.iastore, 1) := by decide +kernel
theorem dX10_tell_28 : decode cX10_tell 28 = .ok (.iload_n 1, 1) := by decide +kernel
theorem dX10_tell_29 : decode cX10_tell 29 = .ok (.iconst 1, 1) := by decide +kernel
theorem dX10_tell_30 : decode cX10_tell 30 = .ok (.iadd, 1) := by decide +kernel
theorem dX10_tell_31 : decode cX10_tell 31 = .ok (.istore_n 3, 1) := by decide +kernel
theorem dX10_tell_32 : decode cX10_tell 32 = .ok (.iload_n 3, 1) := by decide +kernel
theorem dX10_tell_33 : decode cX10_tell 33 = .ok (.aload_n 0, 1) := by decide +kernel
theorem dX10_tell_34 : decode cX10_tell 34 = .ok (.getfield 13, 3) := by decide +kernel
theorem dX10_tell_37 : decode cX10_tell 37 = .ok (.arraylength, 1) := by decide +kernel
theorem dX10_tell_38 : decode cX10_tell 38 = .ok (.if_icmp .ge 25, 3) := by decide +kernel
theorem dX10_tell_41 : decode cX10_tell 41 = .ok (.aload_n 0, 1) := by decide +kernel
theorem dX10_tell_42 : decode cX10_tell 42 = .ok (.getfield 19, 3) := by decide +kernel
theorem dX10_tell_45 : decode cX10_tell 45 = .ok (.iload_n 3, 1) := by decide +kernel
theorem dX10_tell_46 : decode cX10_tell 46 = .ok (.baload, 1) := by decide +kernel
theorem dX10_tell_47 : decode cX10_tell 47 = .ok (.ifCond .ne 16, 3) := by decide +kernel
theorem dX10_tell_50 : decode cX10_tell 50 = .ok (.aload_n 0, 1) := by decide +kernel
theorem dX10_tell_51 : decode cX10_tell 51 = .ok (.getfield 13, 3) := by decide +kernel
theorem dX10_tell_54 : decode cX10_tell 54 = .ok (.iload_n 3, 1) := by decide +kernel
theorem dX10_tell_55 : decode cX10_tell 55 = .ok (.iload_n 2, 1) := by decide +kernel
theorem dX10_tell_56 : decode cX10_tell 56 = .ok (.iastore, 1) := by decide +kernel
theorem dX10_tell_57 : decode cX10_tell 57 = .ok (.iinc 3 1, 3) := by decide +kernel
theorem dX10_tell_60 : decode cX10_tell 60 = .ok (.goto (-28), 3) := by decide +kernel
theorem dX10_tell_63 : decode cX10_tell 63 = .ok (.return_, 1) := by decide +kernel
theorem dX10_at_0 : decode cX10_at 0 = .ok (.iload_n 1, 1) := by decide +kernel
theorem dX10_at_1 : decode cX10_at 1 = .ok (.ifCond .lt 12, 3) := by decide +kernel
theorem dX10_at_4 : decode cX10_at 4 = .ok (.iload_n 1, 1) := by decide +kernel
theorem dX10_at_5 : decode cX10_at 5 = .ok (.aload_n 0, 1) := by decide +kernel
theorem dX10_at_6 : decode cX10_at 6 = .ok (.getfield 13, 3) := by decide +kernel
theorem dX10_at_9 : decode cX10_at 9 = .ok (.arraylength, 1) := by decide +kernel
theorem dX10_at_10 : decode cX10_at 10 = .ok (.if_icmp .lt 7, 3) := by decide +kernel
theorem dX10_at_13 : decode cX10_at 13 = .ok (.iconst 0, 1) := by decide +kernel
theorem dX10_at_14 : decode cX10_at 14 = .ok (.goto 9, 3) := by decide +kernel
theorem dX10_at_17 : decode cX10_at 17 = .ok (.aload_n 0, 1) := by decide +kernel
theorem dX10_at_18 : decode cX10_at 18 = .ok (.getfield 13, 3) := by decide +kernel
theorem dX10_at_21 : decode cX10_at 21 = .ok (.iload_n 1, 1) := by decide +kernel
theorem dX10_at_22 : decode cX10_at 22 = .ok (.iaload, 1) := by decide +kernel
theorem dX10_at_23 : decode cX10_at 23 = .ok (.ireturn, 1) := by decide +kernel
theorem dX11_init_0 : decode cX11_init 0 = .ok (.aload_n 0, 1) := by decide +kernel
theorem dX11_init_1 : decode cX11_init 1 = .ok (.invokespecial 1, 3) := by decide +kernel
theorem dX11_init_4 : decode cX11_init 4 = .ok (.aload_n 0, 1) := by decide +kernel
theorem dX11_init_5 : decode cX11_init 5 = .ok (.new 7, 3) := by decide +kernel
theorem dX11_init_8 : decode cX11_init 8 = .ok (.dup, 1) := by decide +kernel
theorem dX11_init_9 : decode cX11_init 9 = .ok (.invokespecial 9, 3) := by decide +kernel
theorem dX11_init_12 : decode cX11_init 12 = .ok (.putfield 10, 3) := by decide +kernel
theorem dX11_init_15 : decode cX11_init 15 = .ok (.aload_n 0, 1) := by decide +kernel
theorem dX11_init_16 : decode cX11_init 16 = .ok (.bipush 6, 2) := by decide +kernel
theorem dX11_init_18 : decode cX11_init 18 = .ok (.anewarray 16, 3) := by decide +kernel
theorem dX11_init_21 : decode cX11_init 21 = .ok (.putfield 18, 3) := by decide +kernel
theorem dX11_init_24 : decode cX11_init 24 = .ok (.aload_n 0, 1) := by decide +kernel
theorem dX11_init_25 : decode cX11_init 25 = .ok (.iconst 3, 1) := by decide +kernel
theorem dX11_init_26 : decode cX11_init 26 = .ok (.anewarray 22, 3) := by decide +kernel
theorem dX11_init_29 : decode cX11_init 29 = .ok (.putfield 24, 3) := by decide +kernel
theorem dX11_init_32 : decode cX11_init 32 = .ok (.aload_n 0, 1) := by decide +kernel
theorem dX11_init_33 : decode cX11_init 33 = .ok (.new 28, 3) := by decide +kernel
theorem dX11_init_36 : decode cX11_init 36 = .ok (.dup, 1) := by decide +kernel
theorem dX11_init_37 : decode cX11_init 37 = .ok (.invokespecial 30, 3) := by decide +kernel
theorem dX11_init_40 : decode cX11_init 40 = .ok (.putfield 31, 3) := by decide +kernel
theorem dX11_init_43 : decode cX11_init 43 = .ok (.aload_n 0, 1) := by decide +kernel
theorem dX11_init_44 : decode cX11_init 44 = .ok (.new 7, 3) := by decide +kernel
theorem dX11_init_47 : decode cX11_init 47 = .ok (.dup, 1) := by decide +kernel
theorem dX11_init_48 : decode cX11_init 48 = .ok (.invokespecial 9, 3) := by decide +kernel
theorem dX11_init_51 : decode cX11_init 51 = .ok (.putfield 35, 3) := by decide +kernel
theorem dX11_init_54 : decode cX11_init 54 = .ok (.aload_n 0, 1) := by decide +kernel
theorem dX11_init_55 : decode cX11_init 55 = .ok (.new 7, 3) := by decide +kernel
theorem dX11_init_58 : decode cX11_init 58 = .ok (.dup, 1) := by decide +kernel
theorem dX11_init_59 : decode cX11_init 59 = .ok (.invokespecial 9, 3) := by decide +kernel
theorem dX11_init_62 : decode cX11_init 62 = .ok (.putfield 38, 3) := by decide +kernel
theorem dX11_init_65 : decode cX11_init 65 = .ok (.iconst 0, 1) := by decide +kernel
theorem dX11_init_66 : decode cX11_init 66 = .ok (.istore_n 1, 1) := by decide +kernel
theorem dX11_init_67 : decode cX11_init 67 = .ok (.iload_n 1, 1) := by decide +kernel
theorem dX11_init_68 : decode cX11_init 68 = .ok (.bipush 6, 2) := by decide +kernel
theorem dX11_init_70 : decode cX11_init 70 = .ok (.if_icmp .ge 23, 3) := by decide +kernel
theorem dX11_init_73 : decode cX11_init 73 = .ok (.aload_n 0, 1) := by decide +kernel
theorem dX11_init_74 : decode cX11_init 74 = .ok (.getfield 18, 3) := by decide +kernel
theorem dX11_init_77 : decode cX11_init 77 = .ok (.iload_n 1, 1) := by decide +kernel
theorem dX11_init_78 : decode cX11_init 78 = .ok (.new 16, 3) := by decide +kernel
theorem dX11_init_81 : decode cX11_init 81 = .ok (.dup, 1) := by decide +kernel
theorem dX11_init_82 : decode cX11_init 82 = .ok (.iload_n 1, 1) := by decide +kernel
theorem dX11_init_83 : decode cX11_init 83 = .ok (.invokespecial 41, 3) := by decide +kernel
theorem dX11_init_86 : decode cX11_init 86 = .ok (.aastore, 1) := by decide +kernel
theorem dX11_init_87 : decode cX11_init 87 = .ok (.iinc 1 1, 3) := by decide +kernel
theorem dX11_init_90 : decode cX11_init 90 = .ok (.goto (-23), 3) := by decide +kernel
theorem dX11_init_93 : decode cX11_init 93 = .ok (.iconst 0, 1) := by decide +kernel
theorem dX11_init_94 : decode cX11_init 94 = .ok (.istore_n 1, 1) := by decide +kernel
theorem dX11_init_95 : decode cX11_init 95 = .ok (.iload_n 1, 1) := by decide +kernel
theorem dX11_init_96 : decode cX11_init 96 = .ok (.iconst 3, 1) := by decide +kernel
theorem dX11_init_97 : decode cX11_init 97 = .ok (.if_icmp .ge 22, 3) := by decide +kernel
theorem dX11_init_100 : decode cX11_init 100 = .ok (.aload_n 0, 1) := by decide +kernel
theorem dX11_init_101 : decode cX11_init 101 = .ok (.getfield 24, 3) := by decide +kernel
theorem dX11_init_104 : decode cX11_init 104 = .ok (.iload_n 1, 1) := by decide +kernel
theorem dX11_init_105 : decode cX11_init 105 = .ok (.new 22, 3) := by decide +kernel
theorem dX11_init_108 : decode cX11_init 108 = .ok (.dup, 1) := by decide +kernel
theorem dX11_init_109 : decode cX11_init 109 = .ok (.invokespecial 44, 3) := by decide +kernel
theorem dX11_init_112 : decode cX11_init 112 = .ok (.aastore, 1) := by decide +kernel
theorem dX11_init_113 : decode cX11_init 113 = .ok (.iinc 1 1, 3) := by decide +kernel
theorem dX11_init_116 : decode cX11_init 116 = .ok (.goto (-21), 3) := by decide +kernel
theorem dX11_init_119 : decode cX11_init 119 = .ok (.return_, 1) := by decide +kernel
theorem dX11_contract_0 : decode cX11_contract 0 = .ok (.iload_n 1, 1) := by decide +kernel
theorem dX11_contract_1 : decode cX11_contract 1 = .ok (.invokestatic 45, 3) := by decide +kernel
theorem dX11_contract_4 : decode cX11_contract 4 = .ok (.ifCond .eq 29, 3) := by decide +kernel
theorem dX11_contract_7 : decode cX11_contract 7 = .ok (.iload_n 2, 1) := by decide +kernel
theorem dX11_contract_8 : decode cX11_contract 8 = .ok (.invokestatic 49, 3) := by decide +kernel
theorem dX11_contract_11 : decode cX11_contract 11 = .ok (.ifCond .eq 22, 3) := by decide +kernel
theorem dX11_contract_14 : decode cX11_contract 14 = .ok (.iload_n 3, 1) := by decide +kernel
theorem dX11_contract_15 : decode cX11_contract 15 = .ok (.invokestatic 52, 3) := by decide +kernel
theorem dX11_contract_18 : decode cX11_contract 18 = .ok (.ifCond .eq 15, 3) := by decide +kernel
theorem dX11_contract_21 : decode cX11_contract 21 = .ok (.iload 4, 2) := by decide +kernel
theorem dX11_contract_23 : decode cX11_contract 23 = .ok (.invokestatic 52, 3) := by decide +kernel
theorem dX11_contract_26 : decode cX11_contract 26 = .ok (.ifCond .eq 7, 3) := by decide +kernel
theorem dX11_contract_29 : decode cX11_contract 29 = .ok (.iconst 1, 1) := by decide +kernel
theorem dX11_contract_30 : decode cX11_contract 30 = .ok (.goto 4, 3) := by decide +kernel
theorem dX11_contract_33 : decode cX11_contract 33 = .ok (.iconst 0, 1) := by decide +kernel
theorem dX11_contract_34 : decode cX11_contract 34 = .ok (.invokestatic 55, 3) := by decide +kernel
theorem dX11_contract_37 : decode cX11_contract 37 = .ok (.iload_n 3, 1) := by decide +kernel
theorem dX11_contract_38 : decode cX11_contract 38 = .ok (.iload 4, 2) := by decide +kernel
theorem dX11_contract_40 : decode cX11_contract 40 = .ok (.if_icmp .gt 31, 3) := by decide +kernel
theorem dX11_contract_43 : decode cX11_contract 43 = .ok (.iload 6, 2) := by decide +kernel
theorem dX11_contract_45 : decode cX11_contract 45 = .ok (.bipush 60, 2) := by decide +kernel
theorem dX11_contract_47 : decode cX11_contract 47 = .ok (.sipush 600, 3) := by decide +kernel
theorem dX11_contract_50 : decode cX11_contract 50 = .ok (.invokestatic 59, 3) := by decide +kernel
theorem dX11_contract_53 : decode cX11_contract 53 = .ok (.ifCond .eq 18, 3) := by decide +kernel
theorem dX11_contract_56 : decode cX11_contract 56 = .ok (.iload 7, 2) := by decide +kernel
theorem dX11_contract_58 : decode cX11_contract 58 = .ok (.iconst 0, 1) := by decide +kernel
theorem dX11_contract_59 : decode cX11_contract 59 = .ok (.ldc 63, 2) := by decide +kernel
theorem dX11_contract_61 : decode cX11_contract 61 = .ok (.invokestatic 59, 3) := by decide +kernel
theorem dX11_contract_64 : decode cX11_contract 64 = .ok (.ifCond .eq 7, 3) := by decide +kernel
theorem dX11_contract_67 : decode cX11_contract 67 = .ok (.iconst 1, 1) := by decide +kernel
theorem dX11_contract_68 : decode cX11_contract 68 = .ok (.goto 4, 3) := by decide +kernel
theorem dX11_contract_71 : decode cX11_contract 71 = .ok (.iconst 0, 1) := by decide +kernel
theorem dX11_contract_72 : decode cX11_contract 72 = .ok (.invokestatic 64, 3) := by decide +kernel
theorem dX11_contract_75 : decode cX11_contract 75 = .ok (.aload_n 0, 1) := by decide +kernel
theorem dX11_contract_76 : decode cX11_contract 76 = .ok (.getfield 10, 3) := by decide +kernel
theorem dX11_contract_79 : decode cX11_contract 79 = .ok (.invokevirtual 67, 3) := by decide +kernel
theorem dX11_contract_82 : decode cX11_contract 82 = .ok (.bipush 10, 2) := by decide +kernel
theorem dX11_contract_84 : decode cX11_contract 84 = .ok (.if_icmp .ge 7, 3) := by decide +kernel
theorem dX11_contract_87 : decode cX11_contract 87 = .ok (.iconst 1, 1) := by decide +kernel
theorem dX11_contract_88 : decode cX11_contract 88 = .ok (.goto 4, 3) := by decide +kernel
theorem dX11_contract_91 : decode cX11_contract 91 = .ok (.iconst 0, 1) := by decide +kernel
theorem dX11_contract_92 : decode cX11_contract 92 = .ok (.invokestatic 71, 3) := by decide +kernel
theorem dX11_contract_95 : decode cX11_contract 95 = .ok (.new 74, 3) := by decide +kernel
theorem dX11_contract_98 : decode cX11_contract 98 = .ok (.dup, 1) := by decide +kernel
theorem dX11_contract_99 : decode cX11_contract 99 = .ok (.iload_n 1, 1) := by decide +kernel
theorem dX11_contract_100 : decode cX11_contract 100 = .ok (.iload_n 2, 1) := by decide +kernel
theorem dX11_contract_101 : decode cX11_contract 101 = .ok (.iload_n 3, 1) := by decide +kernel
theorem dX11_contract_102 : decode cX11_contract 102 = .ok (.iload 4, 2) := by decide +kernel
theorem dX11_contract_104 : decode cX11_contract 104 = .ok (.iload 5, 2) := by decide +kernel
theorem dX11_contract_106 : decode cX11_contract 106 = .ok (.iload 6, 2) := by decide +kernel
theorem dX11_contract_108 : decode cX11_contract 108 = .ok (.invokespecial 76, 3) := by decide +kernel
theorem dX11_contract_111 : decode cX11_contract 111 = .ok (.astore 8, 2) := by decide +kernel
theorem dX11_contract_113 : decode cX11_contract 113 = .ok (.aload 8, 2) := by decide +kernel
theorem dX11_contract_115 : decode cX11_contract 115 = .ok (.getfield 79, 3) := by decide +kernel
theorem dX11_contract_118 : decode cX11_contract 118 = .ok (.iload_n 3, 1) := by decide +kernel
theorem dX11_contract_119 : decode cX11_contract 119 = .ok (.iload 7, 2) := by decide +kernel
theorem dX11_contract_121 : decode cX11_contract 121 = .ok (.invokevirtual 83, 3) := by decide +kernel
theorem dX11_contract_124 : decode cX11_contract 124 = .ok (.aload_n 0, 1) := by decide +kernel
theorem dX11_contract_125 : decode cX11_contract 125 = .ok (.getfield 10, 3) := by decide +kernel
theorem dX11_contract_128 : decode cX11_contract 128 = .ok (.aload 8, 2) := by decide +kernel
theorem dX11_contract_130 : decode cX11_contract 130 = .ok (.invokevirtual 89, 3) := by decide +kernel
theorem dX11_contract_133 : decode cX11_contract 133 = .ok (.pop, 1) := by decide +kernel
theorem dX11_contract_134 : decode cX11_contract 134 = .ok (.aload_n 0, 1) := by decide +kernel
theorem dX11_contract_135 : decode cX11_contract 135 = .ok (.getfield 18, 3) := by decide +kernel
theorem dX11_contract_138 : decode cX11_contract 138 = .ok (.iload_n 1, 1) := by decide +kernel
theorem dX11_contract_139 : decode cX11_contract 139 = .ok (.aaload, 1) := by decide +kernel
theorem dX11_contract_140 : decode cX11_contract 140 = .ok (.getfield 93, 3) := by decide +kernel
theorem dX11_contract_143 : decode cX11_contract 143 = .ok (.aload 8, 2) := by decide +kernel
theorem dX11_contract_145 : decode cX11_contract 145 = .ok (.invokevirtual 89, 3) := by decide +kernel
theorem dX11_contract_148 : decode cX11_contract 148 = .ok (.pop, 1) := by decide +kernel
theorem dX11_contract_149 : decode cX11_contract 149 = .ok (.aload_n 0, 1) := by decide +kernel
theorem dX11_contract_150 : decode cX11_contract 150 = .ok (.getfield 18, 3) := by decide +kernel
theorem dX11_contract_153 : decode cX11_contract 153 = .ok (.iload_n 1, 1) := by decide +kernel
theorem dX11_contract_154 : decode cX11_contract 154 = .ok (.aaload, 1) := by decide +kernel
theorem dX11_contract_155 : decode cX11_contract 155 = .ok (.getfield 94, 3) := by decide +kernel
theorem dX11_contract_158 : decode cX11_contract 158 = .ok (.iconst 1, 1) := by decide +kernel
theorem dX11_contract_159 : decode cX11_contract 159 = .ok (.putfield 98, 3) := by decide +kernel
theorem dX11_contract_162 : decode cX11_contract 162 = .ok (.aload_n 0, 1) := by decide +kernel
theorem dX11_contract_163 : decode cX11_contract 163 = .ok (.getfield 10, 3) := by decide +kernel
theorem dX11_contract_166 : decode cX11_contract 166 = .ok (.invokevirtual 67, 3) := by decide +kernel
theorem dX11_contract_169 : decode cX11_contract 169 = .ok (.iconst 1, 1) := by decide +kernel
theorem dX11_contract_170 : decode cX11_contract 170 = .ok (.isub, 1) := by decide +kernel
theorem dX11_contract_171 : decode cX11_contract 171 = .ok (.ireturn, 1) := by decide +kernel
theorem dX11_shift_0 : decode cX11_shift 0 = .ok (.aload_n 0, 1) := by decide +kernel
theorem dX11_shift_1 : decode cX11_shift 1 = .ok (.iload_n 1, 1) := by decide +kernel
theorem dX11_shift_2 : decode cX11_shift 2 = .ok (.invokevirtual 104, 3) := by decide +kernel
theorem dX11_shift_5 : decode cX11_shift 5 = .ok (.ifCond .eq 25, 3) := by decide +kernel
theorem dX11_shift_8 : decode cX11_shift 8 = .ok (.aload_n 0, 1) := by decide +kernel
theorem dX11_shift_9 : decode cX11_shift 9 = .ok (.getfield 10, 3) := by decide +kernel
theorem dX11_shift_12 : decode cX11_shift 12 = .ok (.iload_n 1, 1) := by decide +kernel
theorem dX11_shift_13 : decode cX11_shift 13 = .ok (.invokevirtual 107, 3) := by decide +kernel
theorem dX11_shift_16 : decode cX11_shift 16 = .ok (.checkcast 74, 3) := by decide +kernel
theorem dX11_shift_19 : decode cX11_shift 19 = .ok (.iload_n 2, 1) := by decide +kernel
theorem dX11_shift_20 : decode cX11_shift 20 = .ok (.invokevirtual 119, 3) := by decide +kernel
theorem dX11_shift_23 : decode cX11_shift 23 = .ok (.ifCond .eq 7, 3) := by decide +kernel
theorem dX11_shift_26 : decode cX11_shift 26 = .ok (.iconst 1, 1) := by decide +kernel
theorem dX11_shift_27 : decode cX11_shift 27 = .ok (.goto 4, 3) := by decide +kernel
theorem dX11_shift_30 : decode cX11_shift 30 = .ok (.iconst 0, 1) := by decide +kernel
theorem dX11_shift_31 : decode cX11_shift 31 = .ok (.invokestatic 55, 3) := by decide +kernel
theorem dX11_shift_34 : decode cX11_shift 34 = .ok (.iload_n 3, 1) := by decide +kernel
theorem dX11_shift_35 : decode cX11_shift 35 = .ok (.iconst 0, 1) := by decide +kernel
theorem dX11_shift_36 : decode cX11_shift 36 = .ok (.sipush 1439, 3) := by decide +kernel
theorem dX11_shift_39 : decode cX11_shift 39 = .ok (.invokestatic 59, 3) := by decide +kernel
theorem dX11_shift_42 : decode cX11_shift 42 = .ok (.ifCond .eq 19, 3) := by decide +kernel
theorem dX11_shift_45 : decode cX11_shift 45 = .ok (.iload 4, 2) := by decide +kernel
theorem dX11_shift_47 : decode cX11_shift 47 = .ok (.iconst 1, 1) := by decide +kernel
theorem dX11_shift_48 : decode cX11_shift 48 = .ok (.sipush 1440, 3) := by decide +kernel
theorem dX11_shift_51 : decode cX11_shift 51 = .ok (.invokestatic 59, 3) := by decide +kernel
theorem dX11_shift_54 : decode cX11_shift 54 = .ok (.ifCond .eq 7, 3) := by decide +kernel
theorem dX11_shift_57 : decode cX11_shift 57 = .ok (.iconst 1, 1) := by decide +kernel
theorem dX11_shift_58 : decode cX11_shift 58 = .ok (.goto 4, 3) := by decide +kernel
theorem dX11_shift_61 : decode cX11_shift 61 = .ok (.iconst 0, 1) := by decide +kernel
theorem dX11_shift_62 : decode cX11_shift 62 = .ok (.invokestatic 64, 3) := by decide +kernel
theorem dX11_shift_65 : decode cX11_shift 65 = .ok (.aload_n 0, 1) := by decide +kernel
theorem dX11_shift_66 : decode cX11_shift 66 = .ok (.getfield 10, 3) := by decide +kernel
theorem dX11_shift_69 : decode cX11_shift 69 = .ok (.iload_n 1, 1) := by decide +kernel
theorem dX11_shift_70 : decode cX11_shift 70 = .ok (.invokevirtual 107, 3) := by decide +kernel
theorem dX11_shift_73 : decode cX11_shift 73 = .ok (.checkcast 74, 3) := by decide +kernel
theorem dX11_shift_76 : decode cX11_shift 76 = .ok (.astore 5, 2) := by decide +kernel
theorem dX11_shift_78 : decode cX11_shift 78 = .ok (.iload_n 2, 1) := by decide +kernel
theorem dX11_shift_79 : decode cX11_shift 79 = .ok (.sipush 1440, 3) := by decide +kernel
theorem dX11_shift_82 : decode cX11_shift 82 = .ok (.imul, 1) := by decide +kernel
theorem dX11_shift_83 : decode cX11_shift 83 = .ok (.iload_n 3, 1) := by decide +kernel
theorem dX11_shift_84 : decode cX11_shift 84 = .ok (.iadd, 1) := by decide +kernel
theorem dX11_shift_85 : decode cX11_shift 85 = .ok (.istore 6, 2) := by decide +kernel
theorem dX11_shift_87 : decode cX11_shift 87 = .ok (.aload_n 0, 1) := by decide +kernel
theorem dX11_shift_88 : decode cX11_shift 88 = .ok (.getfield 122, 3) := by decide +kernel
theorem dX11_shift_91 : decode cX11_shift 91 = .ok (.bipush 40, 2) := by decide +kernel
theorem dX11_shift_93 : decode cX11_shift 93 = .ok (.if_icmp .ge 22, 3) := by decide +kernel
theorem dX11_shift_96 : decode cX11_shift 96 = .ok (.aload 5, 2) := by decide +kernel
theorem dX11_shift_98 : decode cX11_shift 98 = .ok (.iload 6, 2) := by decide +kernel
theorem dX11_shift_100 : decode cX11_shift 100 = .ok (.iload 6, 2) := by decide +kernel
theorem dX11_shift_102 : decode cX11_shift 102 = .ok (.iload 4, 2) := by decide +kernel
theorem dX11_shift_104 : decode cX11_shift 104 = .ok (.iadd, 1) := by decide +kernel
theorem dX11_shift_105 : decode cX11_shift 105 = .ok (.invokevirtual 125, 3) := by decide +kernel
theorem dX11_shift_108 : decode cX11_shift 108 = .ok (.ifCond .eq 7, 3) := by decide +kernel
theorem dX11_shift_111 : decode cX11_shift 111 = .ok (.iconst 1, 1) := by decide +kernel
theorem dX11_shift_112 : decode cX11_shift 112 = .ok (.goto 4, 3) := by decide +kernel
theorem dX11_shift_115 : decode cX11_shift 115 = .ok (.iconst 0, 1) := by decide +kernel
theorem dX11_shift_116 : decode cX11_shift 116 = .ok (.invokestatic 71, 3) := by decide +kernel
theorem dX11_shift_119 : decode cX11_shift 119 = .ok (.aload 5, 2) := by decide +kernel
theorem dX11_shift_121 : decode cX11_shift 121 = .ok (.iload_n 2, 1) := by decide +kernel
theorem dX11_shift_122 : decode cX11_shift 122 = .ok (.iload_n 3, 1) := by decide +kernel
theorem dX11_shift_123 : decode cX11_shift 123 = .ok (.iload 4, 2) := by decide +kernel
theorem dX11_shift_125 : decode cX11_shift 125 = .ok (.invokevirtual 129, 3) := by decide +kernel
theorem dX11_shift_128 : decode cX11_shift 128 = .ok (.aload_n 0, 1) := by decide +kernel
theorem dX11_shift_129 : decode cX11_shift 129 = .ok (.getfield 18, 3) := by decide +kernel
theorem dX11_shift_132 : decode cX11_shift 132 = .ok (.aload 5, 2) := by decide +kernel
theorem dX11_shift_134 : decode cX11_shift 134 = .ok (.getfield 115, 3) := by decide +kernel
theorem dX11_shift_137 : decode cX11_shift 137 = .ok (.aaload, 1) := by decide +kernel
theorem dX11_shift_138 : decode cX11_shift 138 = .ok (.getfield 94, 3) := by decide +kernel
theorem dX11_shift_141 : decode cX11_shift 141 = .ok (.iconst 1, 1) := by decide +kernel
theorem dX11_shift_142 : decode cX11_shift 142 = .ok (.putfield 98, 3) := by decide +kernel
theorem dX11_shift_145 : decode cX11_shift 145 = .ok (.aload_n 0, 1) := by decide +kernel
theorem dX11_shift_146 : decode cX11_shift 146 = .ok (.dup, 1) := by decide +kernel
theorem dX11_shift_147 : decode cX11_shift 147 = .ok (.getfield 122, 3) := by decide +kernel
theorem dX11_shift_150 : decode cX11_shift 150 = .ok (.iconst 1, 1) := by decide +kernel
theorem dX11_shift_151 : decode cX11_shift 151 = .ok (.iadd, 1) := by decide +kernel
theorem dX11_shift_152 : decode cX11_shift 152 = .ok (.putfield 122, 3) := by decide +kernel
theorem dX11_shift_155 : decode cX11_shift 155 = .ok (.aload_n 0, 1) := by decide +kernel
theorem dX11_shift_156 : decode cX11_shift 156 = .ok (.getfield 122, 3) := by decide +kernel
theorem dX11_shift_159 : decode cX11_shift 159 = .ok (.ireturn, 1) := by decide +kernel
theorem dX11_leaveRule_0 : decode cX11_leaveRule 0 = .ok (.iload_n 1, 1) := by decide +kernel
theorem dX11_leaveRule_1 : decode cX11_leaveRule 1 = .ok (.iconst 0, 1) := by decide +kernel
theorem dX11_leaveRule_2 : decode cX11_leaveRule 2 = .ok (.bipush 50, 2) := by decide +kernel
theorem dX11_leaveRule_4 : decode cX11_leaveRule 4 = .ok (.invokestatic 59, 3) := by decide +kernel
theorem dX11_leaveRule_7 : decode cX11_leaveRule 7 = .ok (.ifCond .eq 28, 3) := by decide +kernel
theorem dX11_leaveRule_10 : decode cX11_leaveRule 10 = .ok (.iload_n 2, 1) := by decide +kernel
theorem dX11_leaveRule_11 : decode cX11_leaveRule 11 = .ok (.iconst 0, 1) := by decide +kernel
theorem dX11_leaveRule_12 : decode cX11_leaveRule 12 = .ok (.sipush 500, 3) := by decide +kernel
theorem dX11_leaveRule_15 : decode cX11_leaveRule 15 = .ok (.invokestatic 59, 3) := by decide +kernel
theorem dX11_leaveRule_18 : decode cX11_leaveRule 18 = .ok (.ifCond .eq 17, 3) := by decide +kernel
theorem dX11_leaveRule_21 : decode cX11_leaveRule 21 = .ok (.iload_n 3, 1) := by decide +kernel
theorem dX11_leaveRule_22 : decode cX11_leaveRule 22 = .ok (.iconst 1, 1) := by decide +kernel
theorem dX11_leaveRule_23 : decode cX11_leaveRule 23 = .ok (.bipush 12, 2) := by decide +kernel
theorem dX11_leaveRule_25 : decode cX11_leaveRule 25 = .ok (.invokestatic 59, 3) := by decide +kernel
theorem dX11_leaveRule_28 : decode cX11_leaveRule 28 = .ok (.ifCond .eq 7, 3) := by decide +kernel
theorem dX11_leaveRule_31 : decode cX11_leaveRule 31 = .ok (.iconst 1, 1) := by decide +kernel
theorem dX11_leaveRule_32 : decode cX11_leaveRule 32 = .ok (.goto 4, 3) := by decide +kernel
theorem dX11_leaveRule_35 : decode cX11_leaveRule 35 = .ok (.iconst 0, 1) := by decide +kernel
theorem dX11_leaveRule_36 : decode cX11_leaveRule 36 = .ok (.invokestatic 64, 3) := by decide +kernel
theorem dX11_leaveRule_39 : decode cX11_leaveRule 39 = .ok (.aload_n 0, 1) := by decide +kernel
theorem dX11_leaveRule_40 : decode cX11_leaveRule 40 = .ok (.iload_n 1, 1) := by decide +kernel
theorem dX11_leaveRule_41 : decode cX11_leaveRule 41 = .ok (.putfield 152, 3) := by decide +kernel
theorem dX11_leaveRule_44 : decode cX11_leaveRule 44 = .ok (.aload_n 0, 1) := by decide +kernel
theorem dX11_leaveRule_45 : decode cX11_leaveRule 45 = .ok (.iload_n 2, 1) := by decide +kernel
theorem dX11_leaveRule_46 : decode cX11_leaveRule 46 = .ok (.putfield 155, 3) := by decide +kernel
theorem dX11_leaveRule_49 : decode cX11_leaveRule 49 = .ok (.aload_n 0, 1) := by decide +kernel
theorem dX11_leaveRule_50 : decode cX11_leaveRule 50 = .ok (.iload_n 3, 1) := by decide +kernel
theorem dX11_leaveRule_51 : decode cX11_leaveRule 51 = .ok (.putfield 158, 3) := by decide +kernel
theorem dX11_leaveRule_54 : decode cX11_leaveRule 54 = .ok (.aload_n 0, 1) := by decide +kernel
theorem dX11_leaveRule_55 : decode cX11_leaveRule 55 = .ok (.invokevirtual 161, 3) := by decide +kernel
theorem dX11_leaveRule_58 : decode cX11_leaveRule 58 = .ok (.return_, 1) := by decide +kernel
theorem dX11_leave_0 : decode cX11_leave 0 = .ok (.aload_n 0, 1) := by decide +kernel
theorem dX11_leave_1 : decode cX11_leave 1 = .ok (.iload_n 1, 1) := by decide +kernel
theorem dX11_leave_2 : decode cX11_leave 2 = .ok (.invokevirtual 104, 3) := by decide +kernel
theorem dX11_leave_5 : decode cX11_leave 5 = .ok (.ifCond .eq 25, 3) := by decide +kernel
theorem dX11_leave_8 : decode cX11_leave 8 = .ok (.aload_n 0, 1) := by decide +kernel
theorem dX11_leave_9 : decode cX11_leave 9 = .ok (.getfield 10, 3) := by decide +kernel
theorem dX11_leave_12 : decode cX11_leave 12 = .ok (.iload_n 1, 1) := by decide +kernel
theorem dX11_leave_13 : decode cX11_leave 13 = .ok (.invokevirtual 107, 3) := by decide +kernel
theorem dX11_leave_16 : decode cX11_leave 16 = .ok (.checkcast 74, 3) := by decide +kernel
theorem dX11_leave_19 : decode cX11_leave 19 = .ok (.iload_n 2, 1) := by decide +kernel
theorem dX11_leave_20 : decode cX11_leave 20 = .ok (.invokevirtual 119, 3) := by decide +kernel
theorem dX11_leave_23 : decode cX11_leave 23 = .ok (.ifCond .eq 7, 3) := by decide +kernel
theorem dX11_leave_26 : decode cX11_leave 26 = .ok (.iconst 1, 1) := by decide +kernel
theorem dX11_leave_27 : decode cX11_leave 27 = .ok (.goto 4, 3) := by decide +kernel
theorem dX11_leave_30 : decode cX11_leave 30 = .ok (.iconst 0, 1) := by decide +kernel
theorem dX11_leave_31 : decode cX11_leave 31 = .ok (.invokestatic 55, 3) := by decide +kernel
theorem dX11_leave_34 : decode cX11_leave 34 = .ok (.aload_n 0, 1) := by decide +kernel
theorem dX11_leave_35 : decode cX11_leave 35 = .ok (.getfield 164, 3) := by decide +kernel
theorem dX11_leave_38 : decode cX11_leave 38 = .ok (.bipush 30, 2) := by decide +kernel
theorem dX11_leave_40 : decode cX11_leave 40 = .ok (.if_icmp .ge 7, 3) := by decide +kernel
theorem dX11_leave_43 : decode cX11_leave 43 = .ok (.iconst 1, 1) := by decide +kernel
theorem dX11_leave_44 : decode cX11_leave 44 = .ok (.goto 4, 3) := by decide +kernel
theorem dX11_leave_47 : decode cX11_leave 47 = .ok (.iconst 0, 1) := by decide +kernel
theorem dX11_leave_48 : decode cX11_leave 48 = .ok (.invokestatic 71, 3) := by decide +kernel
theorem dX11_leave_51 : decode cX11_leave 51 = .ok (.aload_n 0, 1) := by decide +kernel
theorem dX11_leave_52 : decode cX11_leave 52 = .ok (.getfield 10, 3) := by decide +kernel
theorem dX11_leave_55 : decode cX11_leave 55 = .ok (.iload_n 1, 1) := by decide +kernel
theorem dX11_leave_56 : decode cX11_leave 56 = .ok (.invokevirtual 107, 3) := by decide +kernel
theorem dX11_leave_59 : decode cX11_leave 59 = .ok (.checkcast 74, 3) := by decide +kernel
theorem dX11_leave_62 : decode cX11_leave 62 = .ok (.astore_n 3, 1) := by decide +kernel
theorem dX11_leave_63 : decode cX11_leave 63 = .ok (.aload_n 0, 1) := by decide +kernel
theorem dX11_leave_64 : decode cX11_leave 64 = .ok (.getfield 18, 3) := by decide +kernel
theorem dX11_leave_67 : decode cX11_leave 67 = .ok (.aload_n 3, 1) := by decide +kernel
theorem dX11_leave_68 : decode cX11_leave 68 = .ok (.getfield 115, 3) := by decide +kernel
theorem dX11_leave_71 : decode cX11_leave 71 = .ok (.aaload, 1) := by decide +kernel
theorem dX11_leave_72 : decode cX11_leave 72 = .ok (.astore 4, 2) := by decide +kernel
theorem dX11_leave_74 : decode cX11_leave 74 = .ok (.new 167, 3) := by decide +kernel
theorem dX11_leave_77 : decode cX11_leave 77 = .ok (.dup, 1) := by decide +kernel
theorem dX11_leave_78 : decode cX11_leave 78 = .ok (.aload_n 3, 1) := by decide +kernel
theorem dX11_leave_79 : decode cX11_leave 79 = .ok (.iload_n 2, 1) := by decide +kernel
theorem dX11_leave_80 : decode cX11_leave 80 = .ok (.invokespecial 169, 3) := by decide +kernel
theorem dX11_leave_83 : decode cX11_leave 83 = .ok (.astore 5, 2) := by decide +kernel
theorem dX11_leave_85 : decode cX11_leave 85 = .ok (.aload 4, 2) := by decide +kernel
theorem dX11_leave_87 : decode cX11_leave 87 = .ok (.aload 5, 2) := by decide +kernel
theorem dX11_leave_89 : decode cX11_leave 89 = .ok (.invokevirtual 172, 3) := by decide +kernel
theorem dX11_leave_92 : decode cX11_leave 92 = .ok (.aload 4, 2) := by decide +kernel
theorem dX11_leave_94 : decode cX11_leave 94 = .ok (.sipush 720, 3) := by decide +kernel
theorem dX11_leave_97 : decode cX11_leave 97 = .ok (.aload_n 0, 1) := by decide +kernel
theorem dX11_leave_98 : decode cX11_leave 98 = .ok (.getfield 152, 3) := by decide +kernel
theorem dX11_leave_101 : decode cX11_leave 101 = .ok (.aload_n 0, 1) := by decide +kernel
theorem dX11_leave_102 : decode cX11_leave 102 = .ok (.getfield 155, 3) := by decide +kernel
theorem dX11_leave_105 : decode cX11_leave 105 = .ok (.aload_n 0, 1) := by decide +kernel
theorem dX11_leave_106 : decode cX11_leave 106 = .ok (.getfield 158, 3) := by decide +kernel
theorem dX11_leave_109 : decode cX11_leave 109 = .ok (.invokevirtual 176, 3) := by decide +kernel
theorem dX11_leave_112 : decode cX11_leave 112 = .ok (.pop, 1) := by decide +kernel
theorem dX11_leave_113 : decode cX11_leave 113 = .ok (.aload 4, 2) := by decide +kernel
theorem dX11_leave_115 : decode cX11_leave 115 = .ok (.getfield 94, 3) := by decide +kernel
theorem dX11_leave_118 : decode cX11_leave 118 = .ok (.iconst 1, 1) := by decide +kernel
theorem dX11_leave_119 : decode cX11_leave 119 = .ok (.putfield 98, 3) := by decide +kernel
theorem dX11_leave_122 : decode cX11_leave 122 = .ok (.aload_n 0, 1) := by decide +kernel
theorem dX11_leave_123 : decode cX11_leave 123 = .ok (.dup, 1) := by decide +kernel
theorem dX11_leave_124 : decode cX11_leave 124 = .ok (.getfield 164, 3) := by decide +kernel
theorem dX11_leave_127 : decode cX11_leave 127 = .ok (.iconst 1, 1) := by decide +kernel
theorem dX11_leave_128 : decode cX11_leave 128 = .ok (.iadd, 1) := by decide +kernel
theorem dX11_leave_129 : decode cX11_leave 129 = .ok (.putfield 164, 3) := by decide +kernel
theorem dX11_leave_132 : decode cX11_leave 132 = .ok (.aload 5, 2) := by decide +kernel
theorem dX11_leave_134 : decode cX11_leave 134 = .ok (.getfield 180, 3) := by decide +kernel
theorem dX11_leave_137 : decode cX11_leave 137 = .ok (.ireturn, 1) := by decide +kernel
theorem dX11_leaveLeft_0 : decode cX11_leaveLeft 0 = .ok (.iload_n 1, 1) := by decide +kernel
theorem dX11_leaveLeft_1 : decode cX11_leaveLeft 1 = .ok (.invokestatic 45, 3) := by decide +kernel
theorem dX11_leaveLeft_4 : decode cX11_leaveLeft 4 = .ok (.ifCond .eq 14, 3) := by decide +kernel
theorem dX11_leaveLeft_7 : decode cX11_leaveLeft 7 = .ok (.iload_n 2, 1) := by decide +kernel
theorem dX11_leaveLeft_8 : decode cX11_leaveLeft 8 = .ok (.invokestatic 52, 3) := by decide +kernel
theorem dX11_leaveLeft_11 : decode cX11_leaveLeft 11 = .ok (.ifCond .eq 7, 3) := by decide +kernel
theorem dX11_leaveLeft_14 : decode cX11_leaveLeft 14 = .ok (.iconst 1, 1) := by decide +kernel
theorem dX11_leaveLeft_15 : decode cX11_leaveLeft 15 = .ok (.goto 4, 3) := by decide +kernel
theorem dX11_leaveLeft_18 : decode cX11_leaveLeft 18 = .ok (.iconst 0, 1) := by decide +kernel
theorem dX11_leaveLeft_19 : decode cX11_leaveLeft 19 = .ok (.invokestatic 55, 3) := by decide +kernel
theorem dX11_leaveLeft_22 : decode cX11_leaveLeft 22 = .ok (.aload_n 0, 1) := by decide +kernel
theorem dX11_leaveLeft_23 : decode cX11_leaveLeft 23 = .ok (.getfield 18, 3) := by decide +kernel
theorem dX11_leaveLeft_26 : decode cX11_leaveLeft 26 = .ok (.iload_n 1, 1) := by decide +kernel
theorem dX11_leaveLeft_27 : decode cX11_leaveLeft 27 = .ok (.aaload, 1) := by decide +kernel
theorem dX11_leaveLeft_28 : decode cX11_leaveLeft 28 = .ok (.iload_n 2, 1) := by decide +kernel
theorem dX11_leaveLeft_29 : decode cX11_leaveLeft 29 = .ok (.aload_n 0, 1) := by decide +kernel
theorem dX11_leaveLeft_30 : decode cX11_leaveLeft 30 = .ok (.getfield 152, 3) := by decide +kernel
theorem dX11_leaveLeft_33 : decode cX11_leaveLeft 33 = .ok (.aload_n 0, 1) := by decide +kernel
theorem dX11_leaveLeft_34 : decode cX11_leaveLeft 34 = .ok (.getfield 155, 3) := by decide +kernel
theorem dX11_leaveLeft_37 : decode cX11_leaveLeft 37 = .ok (.aload_n 0, 1) := by decide +kernel
theorem dX11_leaveLeft_38 : decode cX11_leaveLeft 38 = .ok (.getfield 158, 3) := by decide +kernel
theorem dX11_leaveLeft_41 : decode cX11_leaveLeft 41 = .ok (.invokevirtual 176, 3) := by decide +kernel
theorem dX11_leaveLeft_44 : decode cX11_leaveLeft 44 = .ok (.ireturn, 1) := by decide +kernel
theorem dX11_word_0 : decode cX11_word 0 = .ok (.iload_n 1, 1) := by decide +kernel
theorem dX11_word_1 : decode cX11_word 1 = .ok (.iconst 0, 1) := by decide +kernel
theorem dX11_word_2 : decode cX11_word 2 = .ok (.bipush 9, 2) := by decide +kernel
theorem dX11_word_4 : decode cX11_word 4 = .ok (.invokestatic 59, 3) := by decide +kernel
theorem dX11_word_7 : decode cX11_word 7 = .ok (.invokestatic 64, 3) := by decide +kernel
theorem dX11_word_10 : decode cX11_word 10 = .ok (.iload_n 1, 1) := by decide +kernel
theorem dX11_word_11 : decode cX11_word 11 = .ok (.iconst 2, 1) := by decide +kernel
theorem dX11_word_12 : decode cX11_word 12 = .ok (.if_icmp .ne 12, 3) := by decide +kernel
theorem dX11_word_15 : decode cX11_word 15 = .ok (.iload_n 2, 1) := by decide +kernel
theorem dX11_word_16 : decode cX11_word 16 = .ok (.iconst 0, 1) := by decide +kernel
theorem dX11_word_17 : decode cX11_word 17 = .ok (.iconst 5, 1) := by decide +kernel
theorem dX11_word_18 : decode cX11_word 18 = .ok (.invokestatic 59, 3) := by decide +kernel
theorem dX11_word_21 : decode cX11_word 21 = .ok (.ifCond .eq 7, 3) := by decide +kernel
theorem dX11_word_24 : decode cX11_word 24 = .ok (.iconst 1, 1) := by decide +kernel
theorem dX11_word_25 : decode cX11_word 25 = .ok (.goto 4, 3) := by decide +kernel
theorem dX11_word_28 : decode cX11_word 28 = .ok (.iconst 0, 1) := by decide +kernel
theorem dX11_word_29 : decode cX11_word 29 = .ok (.invokestatic 64, 3) := by decide +kernel
theorem dX11_word_32 : decode cX11_word 32 = .ok (.iload_n 1, 1) := by decide +kernel
theorem dX11_word_33 : decode cX11_word 33 = .ok (.iconst 3, 1) := by decide +kernel
theorem dX11_word_34 : decode cX11_word 34 = .ok (.if_icmp .ne 14, 3) := by decide +kernel
theorem dX11_word_37 : decode cX11_word 37 = .ok (.iload_n 2, 1) := by decide +kernel
theorem dX11_word_38 : decode cX11_word 38 = .ok (.ldc 183, 2) := by decide +kernel
theorem dX11_word_40 : decode cX11_word 40 = .ok (.ldc 63, 2) := by decide +kernel
theorem dX11_word_42 : decode cX11_word 42 = .ok (.invokestatic 59, 3) := by decide +kernel
theorem dX11_word_45 : decode cX11_word 45 = .ok (.ifCond .eq 7, 3) := by decide +kernel
theorem dX11_word_48 : decode cX11_word 48 = .ok (.iconst 1, 1) := by decide +kernel
theorem dX11_word_49 : decode cX11_word 49 = .ok (.goto 4, 3) := by decide +kernel
theorem dX11_word_52 : decode cX11_word 52 = .ok (.iconst 0, 1) := by decide +kernel
theorem dX11_word_53 : decode cX11_word 53 = .ok (.invokestatic 64, 3) := by decide +kernel
theorem dX11_word_56 : decode cX11_word 56 = .ok (.aload_n 0, 1) := by decide +kernel
theorem dX11_word_57 : decode cX11_word 57 = .ok (.getfield 31, 3) := by decide +kernel
theorem dX11_word_60 : decode cX11_word 60 = .ok (.iload_n 1, 1) := by decide +kernel
theorem dX11_word_61 : decode cX11_word 61 = .ok (.invokevirtual 184, 3) := by decide +kernel
theorem dX11_word_64 : decode cX11_word 64 = .ok (.invokestatic 71, 3) := by decide +kernel
theorem dX11_word_67 : decode cX11_word 67 = .ok (.aload_n 0, 1) := by decide +kernel
theorem dX11_word_68 : decode cX11_word 68 = .ok (.getfield 31, 3) := by decide +kernel
theorem dX11_word_71 : decode cX11_word 71 = .ok (.iload_n 1, 1) := by decide +kernel
theorem dX11_word_72 : decode cX11_word 72 = .ok (.iload_n 2, 1) := by decide +kernel
theorem dX11_word_73 : decode cX11_word 73 = .ok (.invokevirtual 187, 3) := by decide +kernel
theorem dX11_word_76 : decode cX11_word 76 = .ok (.ireturn, 1) := by decide +kernel
theorem dX11_element_0 : decode cX11_element 0 = .ok (.iload_n 1, 1) := by decide +kernel
theorem dX11_element_1 : decode cX11_element 1 = .ok (.iconst 0, 1) := by decide +kernel
theorem dX11_element_2 : decode cX11_element 2 = .ok (.aload_n 0, 1) := by decide +kernel
theorem dX11_element_3 : decode cX11_element 3 = .ok (.getfield 31, 3) := by decide +kernel
theorem dX11_element_6 : decode cX11_element 6 = .ok (.getfield 190, 3) := by decide +kernel
theorem dX11_element_9 : decode cX11_element 9 = .ok (.iconst 5, 1) := by decide +kernel
theorem dX11_element_10 : decode cX11_element 10 = .ok (.invokestatic 193, 3) := by decide +kernel
theorem dX11_element_13 : decode cX11_element 13 = .ok (.invokestatic 59, 3) := by decide +kernel
theorem dX11_element_16 : decode cX11_element 16 = .ok (.invokestatic 55, 3) := by decide +kernel
theorem dX11_element_19 : decode cX11_element 19 = .ok (.iload_n 2, 1) := by decide +kernel
theorem dX11_element_20 : decode cX11_element 20 = .ok (.iconst 0, 1) := by decide +kernel
theorem dX11_element_21 : decode cX11_element 21 = .ok (.bipush 63, 2) := by decide +kernel
theorem dX11_element_23 : decode cX11_element 23 = .ok (.invokestatic 59, 3) := by decide +kernel
theorem dX11_element_26 : decode cX11_element 26 = .ok (.invokestatic 64, 3) := by decide +kernel
theorem dX11_element_29 : decode cX11_element 29 = .ok (.aload_n 0, 1) := by decide +kernel
theorem dX11_element_30 : decode cX11_element 30 = .ok (.getfield 31, 3) := by decide +kernel
theorem dX11_element_33 : decode cX11_element 33 = .ok (.getfield 198, 3) := by decide +kernel
theorem dX11_element_36 : decode cX11_element 36 = .ok (.iconst 1, 1) := by decide +kernel
theorem dX11_element_37 : decode cX11_element 37 = .ok (.if_icmp .ne 18, 3) := by decide +kernel
theorem dX11_element_40 : decode cX11_element 40 = .ok (.aload_n 0, 1) := by decide +kernel
theorem dX11_element_41 : decode cX11_element 41 = .ok (.getfield 31, 3) := by decide +kernel
theorem dX11_element_44 : decode cX11_element 44 = .ok (.iload_n 1, 1) := by decide +kernel
theorem dX11_element_45 : decode cX11_element 45 = .ok (.invokevirtual 201, 3) := by decide +kernel
theorem dX11_element_48 : decode cX11_element 48 = .ok (.ifCond .ne 7, 3) := by decide +kernel
theorem dX11_element_51 : decode cX11_element 51 = .ok (.iconst 1, 1) := by decide +kernel
theorem dX11_element_52 : decode cX11_element 52 = .ok (.goto 4, 3) := by decide +kernel
theorem dX11_element_55 : decode cX11_element 55 = .ok (.iconst 0, 1) := by decide +kernel
theorem dX11_element_56 : decode cX11_element 56 = .ok (.invokestatic 71, 3) := by decide +kernel
theorem dX11_element_59 : decode cX11_element 59 = .ok (.aload_n 0, 1) := by decide +kernel
theorem dX11_element_60 : decode cX11_element 60 = .ok (.getfield 31, 3) := by decide +kernel
theorem dX11_element_63 : decode cX11_element 63 = .ok (.iload_n 1, 1) := by decide +kernel
theorem dX11_element_64 : decode cX11_element 64 = .ok (.iload_n 2, 1) := by decide +kernel
theorem dX11_element_65 : decode cX11_element 65 = .ok (.invokevirtual 204, 3) := by decide +kernel
theorem dX11_element_68 : decode cX11_element 68 = .ok (.aload_n 0, 1) := by decide +kernel
theorem dX11_element_69 : decode cX11_element 69 = .ok (.invokevirtual 161, 3) := by decide +kernel
theorem dX11_element_72 : decode cX11_element 72 = .ok (.aload_n 0, 1) := by decide +kernel
theorem dX11_element_73 : decode cX11_element 73 = .ok (.getfield 31, 3) := by decide +kernel
theorem dX11_element_76 : decode cX11_element 76 = .ok (.getfield 190, 3) := by decide +kernel
theorem dX11_element_79 : decode cX11_element 79 = .ok (.ireturn, 1) := by decide +kernel
theorem dX11_bonus_0 : decode cX11_bonus 0 = .ok (.iload_n 1, 1) := by decide +kernel
theorem dX11_bonus_1 : decode cX11_bonus 1 = .ok (.invokestatic 45, 3) := by decide +kernel
theorem dX11_bonus_4 : decode cX11_bonus 4 = .ok (.ifCond .eq 21, 3) := by decide +kernel
theorem dX11_bonus_7 : decode cX11_bonus 7 = .ok (.iload_n 2, 1) := by decide +kernel
theorem dX11_bonus_8 : decode cX11_bonus 8 = .ok (.invokestatic 141, 3) := by decide +kernel
theorem dX11_bonus_11 : decode cX11_bonus 11 = .ok (.ifCond .eq 14, 3) := by decide +kernel
theorem dX11_bonus_14 : decode cX11_bonus 14 = .ok (.iload_n 3, 1) := by decide +kernel
theorem dX11_bonus_15 : decode cX11_bonus 15 = .ok (.invokestatic 49, 3) := by decide +kernel
theorem dX11_bonus_18 : decode cX11_bonus 18 = .ok (.ifCond .eq 7, 3) := by decide +kernel
theorem dX11_bonus_21 : decode cX11_bonus 21 = .ok (.iconst 1, 1) := by decide +kernel
theorem dX11_bonus_22 : decode cX11_bonus 22 = .ok (.goto 4, 3) := by decide +kernel
theorem dX11_bonus_25 : decode cX11_bonus 25 = .ok (.iconst 0, 1) := by decide +kernel
theorem dX11_bonus_26 : decode cX11_bonus 26 = .ok (.invokestatic 55, 3) := by decide +kernel
theorem dX11_bonus_29 : decode cX11_bonus 29 = .ok (.iload 4, 2) := by decide +kernel
theorem dX11_bonus_31 : decode cX11_bonus 31 = .ok (.ldc 213, 2) := by decide +kernel
theorem dX11_bonus_33 : decode cX11_bonus 33 = .ok (.ldc 214, 2) := by decide +kernel
theorem dX11_bonus_35 : decode cX11_bonus 35 = .ok (.invokestatic 59, 3) := by decide +kernel
theorem dX11_bonus_38 : decode cX11_bonus 38 = .ok (.invokestatic 64, 3) := by decide +kernel
theorem dX11_bonus_41 : decode cX11_bonus 41 = .ok (.aload_n 0, 1) := by decide +kernel
theorem dX11_bonus_42 : decode cX11_bonus 42 = .ok (.getfield 18, 3) := by decide +kernel
theorem dX11_bonus_45 : decode cX11_bonus 45 = .ok (.iload_n 1, 1) := by decide +kernel
theorem dX11_bonus_46 : decode cX11_bonus 46 = .ok (.aaload, 1) := by decide +kernel
theorem dX11_bonus_47 : decode cX11_bonus 47 = .ok (.getfield 215, 3) := by decide +kernel
theorem dX11_bonus_50 : decode cX11_bonus 50 = .ok (.iload_n 3, 1) := by decide +kernel
theorem dX11_bonus_51 : decode cX11_bonus 51 = .ok (.aaload, 1) := by decide +kernel
theorem dX11_bonus_52 : decode cX11_bonus 52 = .ok (.astore 5, 2) := by decide +kernel
theorem dX11_bonus_54 : decode cX11_bonus 54 = .ok (.aload 5, 2) := by decide +kernel
theorem dX11_bonus_56 : decode cX11_bonus 56 = .ok (.iload_n 2, 1) := by decide +kernel
theorem dX11_bonus_57 : decode cX11_bonus 57 = .ok (.iaload, 1) := by decide +kernel
theorem dX11_bonus_58 : decode cX11_bonus 58 = .ok (.istore 6, 2) := by decide +kernel
theorem dX11_bonus_60 : decode cX11_bonus 60 = .ok (.aload 5, 2) := by decide +kernel
theorem dX11_bonus_62 : decode cX11_bonus 62 = .ok (.iload_n 2, 1) := by decide +kernel
theorem dX11_bonus_63 : decode cX11_bonus 63 = .ok (.iload 4, 2) := by decide +kernel
theorem dX11_bonus_65 : decode cX11_bonus 65 = .ok (.iastore, 1) := by decide +kernel
theorem dX11_bonus_66 : decode cX11_bonus 66 = .ok (.aload_n 0, 1) := by decide +kernel
theorem dX11_bonus_67 : decode cX11_bonus 67 = .ok (.getfield 18, 3) := by decide +kernel
theorem dX11_bonus_70 : decode cX11_bonus 70 = .ok (.iload_n 1, 1) := by decide +kernel
theorem dX11_bonus_71 : decode cX11_bonus 71 = .ok (.aaload, 1) := by decide +kernel
theorem dX11_bonus_72 : decode cX11_bonus 72 = .ok (.getfield 94, 3) := by decide +kernel
theorem dX11_bonus_75 : decode cX11_bonus 75 = .ok (.iconst 1, 1) := by decide +kernel
theorem dX11_bonus_76 : decode cX11_bonus 76 = .ok (.putfield 98, 3) := by decide +kernel
theorem dX11_bonus_79 : decode cX11_bonus 79 = .ok (.iload 6, 2) := by decide +kernel
theorem dX11_bonus_81 : decode cX11_bonus 81 = .ok (.ireturn, 1) := by decide +kernel
theorem dX11_contribution_0 : decode cX11_contribution 0 = .ok (.iload_n 1, 1) := by decide +kernel
theorem dX11_contribution_1 : decode cX11_contribution 1 = .ok (.invokestatic 49, 3) := by decide +kernel
theorem dX11_contribution_4 : decode cX11_contribution 4 = .ok (.ifCond .eq 14, 3) := by decide +kernel
theorem dX11_contribution_7 : decode cX11_contribution 7 = .ok (.iload_n 2, 1) := by decide +kernel
theorem dX11_contribution_8 : decode cX11_contribution 8 = .ok (.invokestatic 141, 3) := by decide +kernel
theorem dX11_contribution_11 : decode cX11_contribution 11 = .ok (.ifCond .eq 7, 3) := by decide +kernel
theorem dX11_contribution_14 : decode cX11_contribution 14 = .ok (.iconst 1, 1) := by decide +kernel
theorem dX11_contribution_15 : decode cX11_contribution 15 = .ok (.goto 4, 3) := by decide +kernel
theorem dX11_contribution_18 : decode cX11_contribution 18 = .ok (.iconst 0, 1) := by decide +kernel
theorem dX11_contribution_19 : decode cX11_contribution 19 = .ok (.invokestatic 55, 3) := by decide +kernel
theorem dX11_contribution_22 : decode cX11_contribution 22 = .ok (.iload_n 3, 1) := by decide +kernel
theorem dX11_contribution_23 : decode cX11_contribution 23 = .ok (.iconst 0, 1) := by decide +kernel
theorem dX11_contribution_24 : decode cX11_contribution 24 = .ok (.sipush 500, 3) := by decide +kernel
theorem dX11_contribution_27 : decode cX11_contribution 27 = .ok (.invokestatic 59, 3) := by decide +kernel
theorem dX11_contribution_30 : decode cX11_contribution 30 = .ok (.ifCond .eq 18, 3) := by decide +kernel
theorem dX11_contribution_33 : decode cX11_contribution 33 = .ok (.iload 4, 2) := by decide +kernel
theorem dX11_contribution_35 : decode cX11_contribution 35 = .ok (.iconst 0, 1) := by decide +kernel
theorem dX11_contribution_36 : decode cX11_contribution 36 = .ok (.ldc 219, 2) := by decide +kernel
theorem dX11_contribution_38 : decode cX11_contribution 38 = .ok (.invokestatic 59, 3) := by decide +kernel
theorem dX11_contribution_41 : decode cX11_contribution 41 = .ok (.ifCond .eq 7, 3) := by decide +kernel
theorem dX11_contribution_44 : decode cX11_contribution 44 = .ok (.iconst 1, 1) := by decide +kernel
theorem dX11_contribution_45 : decode cX11_contribution 45 = .ok (.goto 4, 3) := by decide +kernel
theorem dX11_contribution_48 : decode cX11_contribution 48 = .ok (.iconst 0, 1) := by decide +kernel
theorem dX11_contribution_49 : decode cX11_contribution 49 = .ok (.invokestatic 64, 3) := by decide +kernel
theorem dX11_contribution_52 : decode cX11_contribution 52 = .ok (.aload_n 0, 1) := by decide +kernel
theorem dX11_contribution_53 : decode cX11_contribution 53 = .ok (.getfield 24, 3) := by decide +kernel
theorem dX11_contribution_56 : decode cX11_contribution 56 = .ok (.iload_n 1, 1) := by decide +kernel
theorem dX11_contribution_57 : decode cX11_contribution 57 = .ok (.aaload, 1) := by decide +kernel
theorem dX11_contribution_58 : decode cX11_contribution 58 = .ok (.getfield 220, 3) := by decide +kernel
theorem dX11_contribution_61 : decode cX11_contribution 61 = .ok (.iload_n 2, 1) := by decide +kernel
theorem dX11_contribution_62 : decode cX11_contribution 62 = .ok (.iload_n 3, 1) := by decide +kernel
theorem dX11_contribution_63 : decode cX11_contribution 63 = .ok (.invokevirtual 83, 3) := by decide +kernel
theorem dX11_contribution_66 : decode cX11_contribution 66 = .ok (.aload_n 0, 1) := by decide +kernel
theorem dX11_contribution_67 : decode cX11_contribution 67 = .ok (.getfield 24, 3) := by decide +kernel
theorem dX11_contribution_70 : decode cX11_contribution 70 = .ok (.iload_n 1, 1) := by decide +kernel
theorem dX11_contribution_71 : decode cX11_contribution 71 = .ok (.aaload, 1) := by decide +kernel
theorem dX11_contribution_72 : decode cX11_contribution 72 = .ok (.getfield 223, 3) := by decide +kernel
theorem dX11_contribution_75 : decode cX11_contribution 75 = .ok (.iload_n 2, 1) := by decide +kernel
theorem dX11_contribution_76 : decode cX11_contribution 76 = .ok (.iload 4, 2) := by decide +kernel
theorem dX11_contribution_78 : decode cX11_contribution 78 = .ok (.invokevirtual 83, 3) := by decide +kernel
theorem dX11_contribution_81 : decode cX11_contribution 81 = .ok (.aload_n 0, 1) := by decide +kernel
theorem dX11_contribution_82 : decode cX11_contribution 82 = .ok (.invokevirtual 161, 3) := by decide +kernel
theorem dX11_contribution_85 : decode cX11_contribution 85 = .ok (.return_, 1) := by decide +kernel
theorem dX11_bracket_0 : decode cX11_bracket 0 = .ok (.iload_n 1, 1) := by decide +kernel
theorem dX11_bracket_1 : decode cX11_bracket 1 = .ok (.invokestatic 49, 3) := by decide +kernel
theorem dX11_bracket_4 : decode cX11_bracket 4 = .ok (.ifCond .eq 14, 3) := by decide +kernel
theorem dX11_bracket_7 : decode cX11_bracket 7 = .ok (.iload_n 3, 1) := by decide +kernel
theorem dX11_bracket_8 : decode cX11_bracket 8 = .ok (.invokestatic 141, 3) := by decide +kernel
theorem dX11_bracket_11 : decode cX11_bracket 11 = .ok (.ifCond .eq 7, 3) := by decide +kernel
theorem dX11_bracket_14 : decode cX11_bracket 14 = .ok (.iconst 1, 1) := by decide +kernel
theorem dX11_bracket_15 : decode cX11_bracket 15 = .ok (.goto 4, 3) := by decide +kernel
theorem dX11_bracket_18 : decode cX11_bracket 18 = .ok (.iconst 0, 1) := by decide +kernel
theorem dX11_bracket_19 : decode cX11_bracket 19 = .ok (.invokestatic 55, 3) := by decide +kernel
theorem dX11_bracket_22 : decode cX11_bracket 22 = .ok (.iload_n 2, 1) := by decide +kernel
theorem dX11_bracket_23 : decode cX11_bracket 23 = .ok (.invokestatic 226, 3) := by decide +kernel
theorem dX11_bracket_26 : decode cX11_bracket 26 = .ok (.ifCond .eq 30, 3) := by decide +kernel
theorem dX11_bracket_29 : decode cX11_bracket 29 = .ok (.iload 4, 2) := by decide +kernel
theorem dX11_bracket_31 : decode cX11_bracket 31 = .ok (.iconst 1, 1) := by decide +kernel
theorem dX11_bracket_32 : decode cX11_bracket 32 = .ok (.ldc 229, 2) := by decide +kernel
theorem dX11_bracket_34 : decode cX11_bracket 34 = .ok (.invokestatic 59, 3) := by decide +kernel
theorem dX11_bracket_37 : decode cX11_bracket 37 = .ok (.ifCond .eq 19, 3) := by decide +kernel
theorem dX11_bracket_40 : decode cX11_bracket 40 = .ok (.iload 5, 2) := by decide +kernel
theorem dX11_bracket_42 : decode cX11_bracket 42 = .ok (.iconst 0, 1) := by decide +kernel
theorem dX11_bracket_43 : decode cX11_bracket 43 = .ok (.sipush 900, 3) := by decide +kernel
theorem dX11_bracket_46 : decode cX11_bracket 46 = .ok (.invokestatic 59, 3) := by decide +kernel
theorem dX11_bracket_49 : decode cX11_bracket 49 = .ok (.ifCond .eq 7, 3) := by decide +kernel
theorem dX11_bracket_52 : decode cX11_bracket 52 = .ok (.iconst 1, 1) := by decide +kernel
theorem dX11_bracket_53 : decode cX11_bracket 53 = .ok (.goto 4, 3) := by decide +kernel
theorem dX11_bracket_56 : decode cX11_bracket 56 = .ok (.iconst 0, 1) := by decide +kernel
theorem dX11_bracket_57 : decode cX11_bracket 57 = .ok (.invokestatic 64, 3) := by decide +kernel
theorem dX11_bracket_60 : decode cX11_bracket 60 = .ok (.aload_n 0, 1) := by decide +kernel
theorem dX11_bracket_61 : decode cX11_bracket 61 = .ok (.getfield 24, 3) := by decide +kernel
theorem dX11_bracket_64 : decode cX11_bracket 64 = .ok (.iload_n 1, 1) := by decide +kernel
theorem dX11_bracket_65 : decode cX11_bracket 65 = .ok (.aaload, 1) := by decide +kernel
theorem dX11_bracket_66 : decode cX11_bracket 66 = .ok (.getfield 230, 3) := by decide +kernel
theorem dX11_bracket_69 : decode cX11_bracket 69 = .ok (.iload_n 2, 1) := by decide +kernel
theorem dX11_bracket_70 : decode cX11_bracket 70 = .ok (.aaload, 1) := by decide +kernel
theorem dX11_bracket_71 : decode cX11_bracket 71 = .ok (.astore 6, 2) := by decide +kernel
theorem dX11_bracket_73 : decode cX11_bracket 73 = .ok (.aload 6, 2) := by decide +kernel
theorem dX11_bracket_75 : decode cX11_bracket 75 = .ok (.iload_n 3, 1) := by decide +kernel
theorem dX11_bracket_76 : decode cX11_bracket 76 = .ok (.iload 4, 2) := by decide +kernel
theorem dX11_bracket_78 : decode cX11_bracket 78 = .ok (.invokevirtual 234, 3) := by decide +kernel
theorem dX11_bracket_81 : decode cX11_bracket 81 = .ok (.invokestatic 71, 3) := by decide +kernel
theorem dX11_bracket_84 : decode cX11_bracket 84 = .ok (.aload 6, 2) := by decide +kernel
theorem dX11_bracket_86 : decode cX11_bracket 86 = .ok (.iload_n 3, 1) := by decide +kernel
theorem dX11_bracket_87 : decode cX11_bracket 87 = .ok (.iload 4, 2) := by decide +kernel
theorem dX11_bracket_89 : decode cX11_bracket 89 = .ok (.iload 5, 2) := by decide +kernel
theorem dX11_bracket_91 : decode cX11_bracket 91 = .ok (.invokevirtual 239, 3) := by decide +kernel
theorem dX11_bracket_94 : decode cX11_bracket 94 = .ok (.aload_n 0, 1) := by decide +kernel
theorem dX11_bracket_95 : decode cX11_bracket 95 = .ok (.invokevirtual 161, 3) := by decide +kernel
theorem dX11_bracket_98 : decode cX11_bracket 98 = .ok (.aload 6, 2) := by decide +kernel
theorem dX11_bracket_100 : decode cX11_bracket 100 = .ok (.getfield 241, 3) := by decide +kernel
theorem dX11_bracket_103 : decode cX11_bracket 103 = .ok (.iload_n 3, 1) := by decide +kernel
theorem dX11_bracket_104 : decode cX11_bracket 104 = .ok (.iaload, 1) := by decide +kernel
theorem dX11_bracket_105 : decode cX11_bracket 105 = .ok (.ireturn, 1) := by decide +kernel
theorem dX11_state_0 : decode cX11_state 0 = .ok (.iload_n 1, 1) := by decide +kernel
theorem dX11_state_1 : decode cX11_state 1 = .ok (.invokestatic 45, 3) := by decide +kernel
theorem dX11_state_4 : decode cX11_state 4 = .ok (.ifCond .eq 14, 3) := by decide +kernel
theorem dX11_state_7 : decode cX11_state 7 = .ok (.iload_n 2, 1) := by decide +kernel
theorem dX11_state_8 : decode cX11_state 8 = .ok (.invokestatic 141, 3) := by decide +kernel
theorem dX11_state_11 : decode cX11_state 11 = .ok (.ifCond .eq 7, 3) := by decide +kernel
theorem dX11_state_14 : decode cX11_state 14 = .ok (.iconst 1, 1) := by decide +kernel
theorem dX11_state_15 : decode cX11_state 15 = .ok (.goto 4, 3) := by decide +kernel
theorem dX11_state_18 : decode cX11_state 18 = .ok (.iconst 0, 1) := by decide +kernel
theorem dX11_state_19 : decode cX11_state 19 = .ok (.invokestatic 55, 3) := by decide +kernel
theorem dX11_state_22 : decode cX11_state 22 = .ok (.iload_n 3, 1) := by decide +kernel
theorem dX11_state_23 : decode cX11_state 23 = .ok (.invokestatic 226, 3) := by decide +kernel
theorem dX11_state_26 : decode cX11_state 26 = .ok (.invokestatic 64, 3) := by decide +kernel
theorem dX11_state_29 : decode cX11_state 29 = .ok (.aload_n 0, 1) := by decide +kernel
theorem dX11_state_30 : decode cX11_state 30 = .ok (.getfield 18, 3) := by decide +kernel
theorem dX11_state_33 : decode cX11_state 33 = .ok (.iload_n 1, 1) := by decide +kernel
theorem dX11_state_34 : decode cX11_state 34 = .ok (.aaload, 1) := by decide +kernel
theorem dX11_state_35 : decode cX11_state 35 = .ok (.getfield 244, 3) := by decide +kernel
theorem dX11_state_38 : decode cX11_state 38 = .ok (.iload_n 2, 1) := by decide +kernel
theorem dX11_state_39 : decode cX11_state 39 = .ok (.iload_n 3, 1) := by decide +kernel
theorem dX11_state_40 : decode cX11_state 40 = .ok (.invokevirtual 83, 3) := by decide +kernel
theorem dX11_state_43 : decode cX11_state 43 = .ok (.aload_n 0, 1) := by decide +kernel
theorem dX11_state_44 : decode cX11_state 44 = .ok (.getfield 18, 3) := by decide +kernel
theorem dX11_state_47 : decode cX11_state 47 = .ok (.iload_n 1, 1) := by decide +kernel
theorem dX11_state_48 : decode cX11_state 48 = .ok (.aaload, 1) := by decide +kernel
theorem dX11_state_49 : decode cX11_state 49 = .ok (.getfield 94, 3) := by decide +kernel
theorem dX11_state_52 : decode cX11_state 52 = .ok (.iconst 1, 1) := by decide +kernel
theorem dX11_state_53 : decode cX11_state 53 = .ok (.putfield 98, 3) := by decide +kernel
theorem dX11_state_56 : decode cX11_state 56 = .ok (.return_, 1) := by decide +kernel
theorem dX11_pension_0 : decode cX11_pension 0 = .ok (.iload_n 1, 1) := by decide +kernel
theorem dX11_pension_1 : decode cX11_pension 1 = .ok (.invokestatic 45, 3) := by decide +kernel
theorem dX11_pension_4 : decode cX11_pension 4 = .ok (.ifCond .eq 14, 3) := by decide +kernel
theorem dX11_pension_7 : decode cX11_pension 7 = .ok (.iload_n 2, 1) := by decide +kernel
theorem dX11_pension_8 : decode cX11_pension 8 = .ok (.invokestatic 141, 3) := by decide +kernel
theorem dX11_pension_11 : decode cX11_pension 11 = .ok (.ifCond .eq 7, 3) := by decide +kernel
theorem dX11_pension_14 : decode cX11_pension 14 = .ok (.iconst 1, 1) := by decide +kernel
theorem dX11_pension_15 : decode cX11_pension 15 = .ok (.goto 4, 3) := by decide +kernel
theorem dX11_pension_18 : decode cX11_pension 18 = .ok (.iconst 0, 1) := by decide +kernel
theorem dX11_pension_19 : decode cX11_pension 19 = .ok (.invokestatic 55, 3) := by decide +kernel
theorem dX11_pension_22 : decode cX11_pension 22 = .ok (.iload_n 3, 1) := by decide +kernel
theorem dX11_pension_23 : decode cX11_pension 23 = .ok (.iconst 0, 1) := by decide +kernel
theorem dX11_pension_24 : decode cX11_pension 24 = .ok (.sipush 200, 3) := by decide +kernel
theorem dX11_pension_27 : decode cX11_pension 27 = .ok (.invokestatic 59, 3) := by decide +kernel
theorem dX11_pension_30 : decode cX11_pension 30 = .ok (.invokestatic 64, 3) := by decide +kernel
theorem dX11_pension_33 : decode cX11_pension 33 = .ok (.aload_n 0, 1) := by decide +kernel
theorem dX11_pension_34 : decode cX11_pension 34 = .ok (.getfield 18, 3) := by decide +kernel
theorem dX11_pension_37 : decode cX11_pension 37 = .ok (.iload_n 1, 1) := by decide +kernel
theorem dX11_pension_38 : decode cX11_pension 38 = .ok (.aaload, 1) := by decide +kernel
theorem dX11_pension_39 : decode cX11_pension 39 = .ok (.getfield 247, 3) := by decide +kernel
theorem dX11_pension_42 : decode cX11_pension 42 = .ok (.iload_n 2, 1) := by decide +kernel
theorem dX11_pension_43 : decode cX11_pension 43 = .ok (.iload_n 3, 1) := by decide +kernel
theorem dX11_pension_44 : decode cX11_pension 44 = .ok (.invokevirtual 83, 3) := by decide +kernel
theorem dX11_pension_47 : decode cX11_pension 47 = .ok (.aload_n 0, 1) := by decide +kernel
theorem dX11_pension_48 : decode cX11_pension 48 = .ok (.getfield 18, 3) := by decide +kernel
theorem dX11_pension_51 : decode cX11_pension 51 = .ok (.iload_n 1, 1) := by decide +kernel
theorem dX11_pension_52 : decode cX11_pension 52 = .ok (.aaload, 1) := by decide +kernel
theorem dX11_pension_53 : decode cX11_pension 53 = .ok (.getfield 94, 3) := by decide +kernel
theorem dX11_pension_56 : decode cX11_pension 56 = .ok (.iconst 1, 1) := by decide +kernel
theorem dX11_pension_57 : decode cX11_pension 57 = .ok (.putfield 98, 3) := by decide +kernel
theorem dX11_pension_60 : decode cX11_pension 60 = .ok (.return_, 1) := by decide +kernel
theorem dX11_yearTax_0 : decode cX11_yearTax 0 = .ok (.iload_n 1, 1) := by decide +kernel
theorem dX11_yearTax_1 : decode cX11_yearTax 1 = .ok (.invokestatic 49, 3) := by decide +kernel
theorem dX11_yearTax_4 : decode cX11_yearTax 4 = .ok (.ifCond .eq 14, 3) := by decide +kernel
theorem dX11_yearTax_7 : decode cX11_yearTax 7 = .ok (.iload_n 3, 1) := by decide +kernel
theorem dX11_yearTax_8 : decode cX11_yearTax 8 = .ok (.invokestatic 141, 3) := by decide +kernel
theorem dX11_yearTax_11 : decode cX11_yearTax 11 = .ok (.ifCond .eq 7, 3) := by decide +kernel
theorem dX11_yearTax_14 : decode cX11_yearTax 14 = .ok (.iconst 1, 1) := by decide +kernel
theorem dX11_yearTax_15 : decode cX11_yearTax 15 = .ok (.goto 4, 3) := by decide +kernel
theorem dX11_yearTax_18 : decode cX11_yearTax 18 = .ok (.iconst 0, 1) := by decide +kernel
theorem dX11_yearTax_19 : decode cX11_yearTax 19 = .ok (.invokestatic 55, 3) := by decide +kernel
theorem dX11_yearTax_22 : decode cX11_yearTax 22 = .ok (.iload_n 2, 1) := by decide +kernel
theorem dX11_yearTax_23 : decode cX11_yearTax 23 = .ok (.invokestatic 226, 3) := by decide +kernel
theorem dX11_yearTax_26 : decode cX11_yearTax 26 = .ok (.ifCond .eq 23, 3) := by decide +kernel
theorem dX11_yearTax_29 : decode cX11_yearTax 29 = .ok (.lload 4, 2) := by decide +kernel
theorem dX11_yearTax_31 : decode cX11_yearTax 31 = .ok (.lconst 0, 1) := by decide +kernel
theorem dX11_yearTax_32 : decode cX11_yearTax 32 = .ok (.lcmp, 1) := by decide +kernel
theorem dX11_yearTax_33 : decode cX11_yearTax 33 = .ok (.ifCond .lt 16, 3) := by decide +kernel
theorem dX11_yearTax_36 : decode cX11_yearTax 36 = .ok (.lload 4, 2) := by decide +kernel
theorem dX11_yearTax_38 : decode cX11_yearTax 38 = .ok (.ldc2_w 250, 3) := by decide +kernel
theorem dX11_yearTax_41 : decode cX11_yearTax 41 = .ok (.lcmp, 1) := by decide +kernel
theorem dX11_yearTax_42 : decode cX11_yearTax 42 = .ok (.ifCond .gt 7, 3) := by decide +kernel
theorem dX11_yearTax_45 : decode cX11_yearTax 45 = .ok (.iconst 1, 1) := by decide +kernel
theorem dX11_yearTax_46 : decode cX11_yearTax 46 = .ok (.goto 4, 3) := by decide +kernel
theorem dX11_yearTax_49 : decode cX11_yearTax 49 = .ok (.iconst 0, 1) := by decide +kernel
theorem dX11_yearTax_50 : decode cX11_yearTax 50 = .ok (.invokestatic 64, 3) := by decide +kernel
theorem dX11_yearTax_53 : decode cX11_yearTax 53 = .ok (.aload_n 0, 1) := by decide +kernel
theorem dX11_yearTax_54 : decode cX11_yearTax 54 = .ok (.getfield 24, 3) := by decide +kernel
theorem dX11_yearTax_57 : decode cX11_yearTax 57 = .ok (.iload_n 1, 1) := by decide +kernel
theorem dX11_yearTax_58 : decode cX11_yearTax 58 = .ok (.aaload, 1) := by decide +kernel
theorem dX11_yearTax_59 : decode cX11_yearTax 59 = .ok (.getfield 230, 3) := by decide +kernel
theorem dX11_yearTax_62 : decode cX11_yearTax 62 = .ok (.iload_n 2, 1) := by decide +kernel
theorem dX11_yearTax_63 : decode cX11_yearTax 63 = .ok (.aaload, 1) := by decide +kernel
theorem dX11_yearTax_64 : decode cX11_yearTax 64 = .ok (.lload 4, 2) := by decide +kernel
theorem dX11_yearTax_66 : decode cX11_yearTax 66 = .ok (.iload_n 3, 1) := by decide +kernel
theorem dX11_yearTax_67 : decode cX11_yearTax 67 = .ok (.invokevirtual 252, 3) := by decide +kernel
theorem dX11_yearTax_70 : decode cX11_yearTax 70 = .ok (.lreturn, 1) := by decide +kernel
theorem dX11_slip_0 : decode cX11_slip 0 = .ok (.iload_n 1, 1) := by decide +kernel
theorem dX11_slip_1 : decode cX11_slip 1 = .ok (.invokestatic 45, 3) := by decide +kernel
theorem dX11_slip_4 : decode cX11_slip 4 = .ok (.ifCond .eq 14, 3) := by decide +kernel
theorem dX11_slip_7 : decode cX11_slip 7 = .ok (.iload_n 2, 1) := by decide +kernel
theorem dX11_slip_8 : decode cX11_slip 8 = .ok (.invokestatic 141, 3) := by decide +kernel
theorem dX11_slip_11 : decode cX11_slip 11 = .ok (.ifCond .eq 7, 3) := by decide +kernel
theorem dX11_slip_14 : decode cX11_slip 14 = .ok (.iconst 1, 1) := by decide +kernel
theorem dX11_slip_15 : decode cX11_slip 15 = .ok (.goto 4, 3) := by decide +kernel
theorem dX11_slip_18 : decode cX11_slip 18 = .ok (.iconst 0, 1) := by decide +kernel
theorem dX11_slip_19 : decode cX11_slip 19 = .ok (.invokestatic 55, 3) := by decide +kernel
theorem dX11_slip_22 : decode cX11_slip 22 = .ok (.iload_n 3, 1) := by decide +kernel
theorem dX11_slip_23 : decode cX11_slip 23 = .ok (.iconst 0, 1) := by decide +kernel
theorem dX11_slip_24 : decode cX11_slip 24 = .ok (.bipush 7, 2) := by decide +kernel
theorem dX11_slip_26 : decode cX11_slip 26 = .ok (.invokestatic 59, 3) := by decide +kernel
theorem dX11_slip_29 : decode cX11_slip 29 = .ok (.invokestatic 64, 3) := by decide +kernel
theorem dX11_slip_32 : decode cX11_slip 32 = .ok (.aload_n 0, 1) := by decide +kernel
theorem dX11_slip_33 : decode cX11_slip 33 = .ok (.iload_n 1, 1) := by decide +kernel
theorem dX11_slip_34 : decode cX11_slip 34 = .ok (.invokevirtual 144, 3) := by decide +kernel
theorem dX11_slip_37 : decode cX11_slip 37 = .ok (.iload_n 2, 1) := by decide +kernel
theorem dX11_slip_38 : decode cX11_slip 38 = .ok (.iload_n 3, 1) := by decide +kernel
theorem dX11_slip_39 : decode cX11_slip 39 = .ok (.invokevirtual 256, 3) := by decide +kernel
theorem dX11_slip_42 : decode cX11_slip 42 = .ok (.lreturn, 1) := by decide +kernel
theorem dX11_slipIn_0 : decode cX11_slipIn 0 = .ok (.iload_n 1, 1) := by decide +kernel
theorem dX11_slipIn_1 : decode cX11_slipIn 1 = .ok (.invokestatic 45, 3) := by decide +kernel
theorem dX11_slipIn_4 : decode cX11_slipIn 4 = .ok (.ifCond .eq 21, 3) := by decide +kernel
theorem dX11_slipIn_7 : decode cX11_slipIn 7 = .ok (.iload_n 2, 1) := by decide +kernel
theorem dX11_slipIn_8 : decode cX11_slipIn 8 = .ok (.invokestatic 141, 3) := by decide +kernel
theorem dX11_slipIn_11 : decode cX11_slipIn 11 = .ok (.ifCond .eq 14, 3) := by decide +kernel
theorem dX11_slipIn_14 : decode cX11_slipIn 14 = .ok (.iload_n 3, 1) := by decide +kernel
theorem dX11_slipIn_15 : decode cX11_slipIn 15 = .ok (.invokestatic 49, 3) := by decide +kernel
theorem dX11_slipIn_18 : decode cX11_slipIn 18 = .ok (.ifCond .eq 7, 3) := by decide +kernel
theorem dX11_slipIn_21 : decode cX11_slipIn 21 = .ok (.iconst 1, 1) := by decide +kernel
theorem dX11_slipIn_22 : decode cX11_slipIn 22 = .ok (.goto 4, 3) := by decide +kernel
theorem dX11_slipIn_25 : decode cX11_slipIn 25 = .ok (.iconst 0, 1) := by decide +kernel
theorem dX11_slipIn_26 : decode cX11_slipIn 26 = .ok (.invokestatic 55, 3) := by decide +kernel
theorem dX11_slipIn_29 : decode cX11_slipIn 29 = .ok (.iload 4, 2) := by decide +kernel
theorem dX11_slipIn_31 : decode cX11_slipIn 31 = .ok (.ifCond .eq 15, 3) := by decide +kernel
theorem dX11_slipIn_34 : decode cX11_slipIn 34 = .ok (.iload 4, 2) := by decide +kernel
theorem dX11_slipIn_36 : decode cX11_slipIn 36 = .ok (.iconst 1, 1) := by decide +kernel
theorem dX11_slipIn_37 : decode cX11_slipIn 37 = .ok (.if_icmp .eq 9, 3) := by decide +kernel
theorem dX11_slipIn_40 : decode cX11_slipIn 40 = .ok (.iload 4, 2) := by decide +kernel
theorem dX11_slipIn_42 : decode cX11_slipIn 42 = .ok (.iconst 3, 1) := by decide +kernel
theorem dX11_slipIn_43 : decode cX11_slipIn 43 = .ok (.if_icmp .ne 7, 3) := by decide +kernel
theorem dX11_slipIn_46 : decode cX11_slipIn 46 = .ok (.iconst 1, 1) := by decide +kernel
theorem dX11_slipIn_47 : decode cX11_slipIn 47 = .ok (.goto 4, 3) := by decide +kernel
theorem dX11_slipIn_50 : decode cX11_slipIn 50 = .ok (.iconst 0, 1) := by decide +kernel
theorem dX11_slipIn_51 : decode cX11_slipIn 51 = .ok (.invokestatic 64, 3) := by decide +kernel
theorem dX11_slipIn_54 : decode cX11_slipIn 54 = .ok (.aload_n 0, 1) := by decide +kernel
theorem dX11_slipIn_55 : decode cX11_slipIn 55 = .ok (.iload_n 1, 1) := by decide +kernel
theorem dX11_slipIn_56 : decode cX11_slipIn 56 = .ok (.invokevirtual 144, 3) := by decide +kernel
theorem dX11_slipIn_59 : decode cX11_slipIn 59 = .ok (.iload_n 2, 1) := by decide +kernel
theorem dX11_slipIn_60 : decode cX11_slipIn 60 = .ok (.iload_n 3, 1) := by decide +kernel
theorem dX11_slipIn_61 : decode cX11_slipIn 61 = .ok (.iload 4, 2) := by decide +kernel
theorem dX11_slipIn_63 : decode cX11_slipIn 63 = .ok (.invokevirtual 260, 3) := by decide +kernel
theorem dX11_slipIn_66 : decode cX11_slipIn 66 = .ok (.lreturn, 1) := by decide +kernel
theorem dX11_garnish_0 : decode cX11_garnish 0 = .ok (.iload_n 1, 1) := by decide +kernel
theorem dX11_garnish_1 : decode cX11_garnish 1 = .ok (.invokestatic 45, 3) := by decide +kernel
theorem dX11_garnish_4 : decode cX11_garnish 4 = .ok (.ifCond .eq 14, 3) := by decide +kernel
theorem dX11_garnish_7 : decode cX11_garnish 7 = .ok (.iload_n 2, 1) := by decide +kernel
theorem dX11_garnish_8 : decode cX11_garnish 8 = .ok (.invokestatic 141, 3) := by decide +kernel
theorem dX11_garnish_11 : decode cX11_garnish 11 = .ok (.ifCond .eq 7, 3) := by decide +kernel
theorem dX11_garnish_14 : decode cX11_garnish 14 = .ok (.iconst 1, 1) := by decide +kernel
theorem dX11_garnish_15 : decode cX11_garnish 15 = .ok (.goto 4, 3) := by decide +kernel
theorem dX11_garnish_18 : decode cX11_garnish 18 = .ok (.iconst 0, 1) := by decide +kernel
theorem dX11_garnish_19 : decode cX11_garnish 19 = .ok (.invokestatic 55, 3) := by decide +kernel
theorem dX11_garnish_22 : decode cX11_garnish 22 = .ok (.iload_n 3, 1) := by decide +kernel
theorem dX11_garnish_23 : decode cX11_garnish 23 = .ok (.iconst 0, 1) := by decide +kernel
theorem dX11_garnish_24 : decode cX11_garnish 24 = .ok (.bipush 9, 2) := by decide +kernel
theorem dX11_garnish_26 : decode cX11_garnish 26 = .ok (.invokestatic 59, 3) := by decide +kernel
theorem dX11_garnish_29 : decode cX11_garnish 29 = .ok (.ifCond .eq 18, 3) := by decide +kernel
theorem dX11_garnish_32 : decode cX11_garnish 32 = .ok (.iload 4, 2) := by decide +kernel
theorem dX11_garnish_34 : decode cX11_garnish 34 = .ok (.iconst 1, 1) := by decide +kernel
theorem dX11_garnish_35 : decode cX11_garnish 35 = .ok (.ldc 219, 2) := by decide +kernel
theorem dX11_garnish_37 : decode cX11_garnish 37 = .ok (.invokestatic 59, 3) := by decide +kernel
theorem dX11_garnish_40 : decode cX11_garnish 40 = .ok (.ifCond .eq 7, 3) := by decide +kernel
theorem dX11_garnish_43 : decode cX11_garnish 43 = .ok (.iconst 1, 1) := by decide +kernel
theorem dX11_garnish_44 : decode cX11_garnish 44 = .ok (.goto 4, 3) := by decide +kernel
theorem dX11_garnish_47 : decode cX11_garnish 47 = .ok (.iconst 0, 1) := by decide +kernel
theorem dX11_garnish_48 : decode cX11_garnish 48 = .ok (.invokestatic 64, 3) := by decide +kernel
theorem dX11_garnish_51 : decode cX11_garnish 51 = .ok (.iload 5, 2) := by decide +kernel
theorem dX11_garnish_53 : decode cX11_garnish 53 = .ok (.iconst 1, 1) := by decide +kernel
theorem dX11_garnish_54 : decode cX11_garnish 54 = .ok (.sipush 1000, 3) := by decide +kernel
theorem dX11_garnish_57 : decode cX11_garnish 57 = .ok (.invokestatic 59, 3) := by decide +kernel
theorem dX11_garnish_60 : decode cX11_garnish 60 = .ok (.ifCond .eq 18, 3) := by decide +kernel
theorem dX11_garnish_63 : decode cX11_garnish 63 = .ok (.iload 6, 2) := by decide +kernel
theorem dX11_garnish_65 : decode cX11_garnish 65 = .ok (.iconst 0, 1) := by decide +kernel
theorem dX11_garnish_66 : decode cX11_garnish 66 = .ok (.ldc 219, 2) := by decide +kernel
theorem dX11_garnish_68 : decode cX11_garnish 68 = .ok (.invokestatic 59, 3) := by decide +kernel
theorem dX11_garnish_71 : decode cX11_garnish 71 = .ok (.ifCond .eq 7, 3) := by decide +kernel
theorem dX11_garnish_74 : decode cX11_garnish 74 = .ok (.iconst 1, 1) := by decide +kernel
theorem dX11_garnish_75 : decode cX11_garnish 75 = .ok (.goto 4, 3) := by decide +kernel
theorem dX11_garnish_78 : decode cX11_garnish 78 = .ok (.iconst 0, 1) := by decide +kernel
theorem dX11_garnish_79 : decode cX11_garnish 79 = .ok (.invokestatic 64, 3) := by decide +kernel
theorem dX11_garnish_82 : decode cX11_garnish 82 = .ok (.aload_n 0, 1) := by decide +kernel
theorem dX11_garnish_83 : decode cX11_garnish 83 = .ok (.getfield 35, 3) := by decide +kernel
theorem dX11_garnish_86 : decode cX11_garnish 86 = .ok (.invokevirtual 67, 3) := by decide +kernel
theorem dX11_garnish_89 : decode cX11_garnish 89 = .ok (.bipush 6, 2) := by decide +kernel
theorem dX11_garnish_91 : decode cX11_garnish 91 = .ok (.if_icmp .ge 7, 3) := by decide +kernel
theorem dX11_garnish_94 : decode cX11_garnish 94 = .ok (.iconst 1, 1) := by decide +kernel
theorem dX11_garnish_95 : decode cX11_garnish 95 = .ok (.goto 4, 3) := by decide +kernel
theorem dX11_garnish_98 : decode cX11_garnish 98 = .ok (.iconst 0, 1) := by decide +kernel
theorem dX11_garnish_99 : decode cX11_garnish 99 = .ok (.invokestatic 71, 3) := by decide +kernel
theorem dX11_garnish_102 : decode cX11_garnish 102 = .ok (.new 282, 3) := by decide +kernel
theorem dX11_garnish_105 : decode cX11_garnish 105 = .ok (.dup, 1) := by decide +kernel
theorem dX11_garnish_106 : decode cX11_garnish 106 = .ok (.iload_n 1, 1) := by decide +kernel
theorem dX11_garnish_107 : decode cX11_garnish 107 = .ok (.iload_n 2, 1) := by decide +kernel
theorem dX11_garnish_108 : decode cX11_garnish 108 = .ok (.iload_n 3, 1) := by decide +kernel
theorem dX11_garnish_109 : decode cX11_garnish 109 = .ok (.iload 4, 2) := by decide +kernel
theorem dX11_garnish_111 : decode cX11_garnish 111 = .ok (.iload 5, 2) := by decide +kernel
theorem dX11_garnish_113 : decode cX11_garnish 113 = .ok (.iload 6, 2) := by decide +kernel
theorem dX11_garnish_115 : decode cX11_garnish 115 = .ok (.invokespecial 284, 3) := by decide +kernel
theorem dX11_garnish_118 : decode cX11_garnish 118 = .ok (.astore 7, 2) := by decide +kernel
theorem dX11_garnish_120 : decode cX11_garnish 120 = .ok (.aload_n 0, 1) := by decide +kernel
theorem dX11_garnish_121 : decode cX11_garnish 121 = .ok (.getfield 35, 3) := by decide +kernel
theorem dX11_garnish_124 : decode cX11_garnish 124 = .ok (.aload 7, 2) := by decide +kernel
theorem dX11_garnish_126 : decode cX11_garnish 126 = .ok (.invokevirtual 89, 3) := by decide +kernel
theorem dX11_garnish_129 : decode cX11_garnish 129 = .ok (.pop, 1) := by decide +kernel
theorem dX11_garnish_130 : decode cX11_garnish 130 = .ok (.aload_n 0, 1) := by decide +kernel
theorem dX11_garnish_131 : decode cX11_garnish 131 = .ok (.getfield 18, 3) := by decide +kernel
theorem dX11_garnish_134 : decode cX11_garnish 134 = .ok (.iload_n 1, 1) := by decide +kernel
theorem dX11_garnish_135 : decode cX11_garnish 135 = .ok (.aaload, 1) := by decide +kernel
theorem dX11_garnish_136 : decode cX11_garnish 136 = .ok (.aload 7, 2) := by decide +kernel
theorem dX11_garnish_138 : decode cX11_garnish 138 = .ok (.invokevirtual 287, 3) := by decide +kernel
theorem dX11_garnish_141 : decode cX11_garnish 141 = .ok (.aload_n 0, 1) := by decide +kernel
theorem dX11_garnish_142 : decode cX11_garnish 142 = .ok (.getfield 18, 3) := by decide +kernel
theorem dX11_garnish_145 : decode cX11_garnish 145 = .ok (.iload_n 1, 1) := by decide +kernel
theorem dX11_garnish_146 : decode cX11_garnish 146 = .ok (.aaload, 1) := by decide +kernel
theorem dX11_garnish_147 : decode cX11_garnish 147 = .ok (.getfield 94, 3) := by decide +kernel
theorem dX11_garnish_150 : decode cX11_garnish 150 = .ok (.iconst 1, 1) := by decide +kernel
theorem dX11_garnish_151 : decode cX11_garnish 151 = .ok (.putfield 98, 3) := by decide +kernel
theorem dX11_garnish_154 : decode cX11_garnish 154 = .ok (.aload_n 0, 1) := by decide +kernel
theorem dX11_garnish_155 : decode cX11_garnish 155 = .ok (.getfield 35, 3) := by decide +kernel
theorem dX11_garnish_158 : decode cX11_garnish 158 = .ok (.invokevirtual 67, 3) := by decide +kernel
theorem dX11_garnish_161 : decode cX11_garnish 161 = .ok (.iconst 1, 1) := by decide +kernel
theorem dX11_garnish_162 : decode cX11_garnish 162 = .ok (.isub, 1) := by decide +kernel
theorem dX11_garnish_163 : decode cX11_garnish 163 = .ok (.ireturn, 1) := by decide +kernel
theorem dX11_takenBy_0 : decode cX11_takenBy 0 = .ok (.iload_n 1, 1) := by decide +kernel
theorem dX11_takenBy_1 : decode cX11_takenBy 1 = .ok (.iconst 0, 1) := by decide +kernel
theorem dX11_takenBy_2 : decode cX11_takenBy 2 = .ok (.aload_n 0, 1) := by decide +kernel
theorem dX11_takenBy_3 : decode cX11_takenBy 3 = .ok (.getfield 35, 3) := by decide +kernel
