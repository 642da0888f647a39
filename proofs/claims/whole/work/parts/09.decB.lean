theorem dX10_within_0 : decode cX10_within 0 = .ok (.lload_n 0, 1) := by decide +kernel
theorem dX10_within_1 : decode cX10_within 1 = .ok (.lload_n 2, 1) := by decide +kernel
theorem dX10_within_2 : decode cX10_within 2 = .ok (.lcmp, 1) := by decide +kernel
theorem dX10_within_3 : decode cX10_within 3 = .ok (.ifCond .lt 14, 3) := by decide +kernel
theorem dX10_within_6 : decode cX10_within 6 = .ok (.lload_n 0, 1) := by decide +kernel
theorem dX10_within_7 : decode cX10_within 7 = .ok (.lload 4, 2) := by decide +kernel
theorem dX10_within_9 : decode cX10_within 9 = .ok (.lcmp, 1) := by decide +kernel
theorem dX10_within_10 : decode cX10_within 10 = .ok (.ifCond .gt 7, 3) := by decide +kernel
theorem dX10_within_13 : decode cX10_within 13 = .ok (.iconst 1, 1) := by decide +kernel
theorem dX10_within_14 : decode cX10_within 14 = .ok (.goto 4, 3) := by decide +kernel
theorem dX10_within_17 : decode cX10_within 17 = .ok (.iconst 0, 1) := by decide +kernel
theorem dX10_within_18 : decode cX10_within 18 = .ok (.ireturn, 1) := by decide +kernel
theorem dX10_init_0 : decode cX10_init 0 = .ok (.aload_n 0, 1) := by decide +kernel
theorem dX10_init_1 : decode cX10_init 1 = .ok (.invokespecial 3, 3) := by decide +kernel
theorem dX10_init_4 : decode cX10_init 4 = .ok (.aload_n 0, 1) := by decide +kernel
theorem dX10_init_5 : decode cX10_init 5 = .ok (.bipush 22, 2) := by decide +kernel
theorem dX10_init_7 : decode cX10_init 7 = .ok (.newarray .int, 2) := by decide +kernel
theorem dX10_init_9 : decode cX10_init 9 = .ok (.putfield 9, 3) := by decide +kernel
theorem dX10_init_12 : decode cX10_init 12 = .ok (.aload_n 0, 1) := by decide +kernel
theorem dX10_init_13 : decode cX10_init 13 = .ok (.bipush 40, 2) := by decide +kernel
theorem dX10_init_15 : decode cX10_init 15 = .ok (.newarray .int, 2) := by decide +kernel
theorem dX10_init_17 : decode cX10_init 17 = .ok (.putfield 13, 3) := by decide +kernel
theorem dX10_init_20 : decode cX10_init 20 = .ok (.aload_n 0, 1) := by decide +kernel
theorem dX10_init_21 : decode cX10_init 21 = .ok (.bipush 40, 2) := by decide +kernel
theorem dX10_init_23 : decode cX10_init 23 = .ok (.newarray .int, 2) := by decide +kernel
theorem dX10_init_25 : decode cX10_init 25 = .ok (.putfield 16, 3) := by decide +kernel
theorem dX10_init_28 : decode cX10_init 28 = .ok (.aload_n 0, 1) := by decide +kernel
theorem dX10_init_29 : decode cX10_init 29 = .ok (.bipush 40, 2) := by decide +kernel
theorem dX10_init_31 : decode cX10_init 31 = .ok (.newarray .int, 2) := by decide +kernel
theorem dX10_init_33 : decode cX10_init 33 = .ok (.putfield 19, 3) := by decide +kernel
theorem dX10_init_36 : decode cX10_init 36 = .ok (.aload_n 0, 1) := by decide +kernel
theorem dX10_init_37 : decode cX10_init 37 = .ok (.bipush 100, 2) := by decide +kernel
theorem dX10_init_39 : decode cX10_init 39 = .ok (.newarray .int, 2) := by decide +kernel
theorem dX10_init_41 : decode cX10_init 41 = .ok (.putfield 22, 3) := by decide +kernel
theorem dX10_init_44 : decode cX10_init 44 = .ok (.aload_n 0, 1) := by decide +kernel
theorem dX10_init_45 : decode cX10_init 45 = .ok (.bipush 120, 2) := by decide +kernel
theorem dX10_init_47 : decode cX10_init 47 = .ok (.newarray .int, 2) := by decide +kernel
theorem dX10_init_49 : decode cX10_init 49 = .ok (.putfield 25, 3) := by decide +kernel
theorem dX10_init_52 : decode cX10_init 52 = .ok (.aload_n 0, 1) := by decide +kernel
theorem dX10_init_53 : decode cX10_init 53 = .ok (.bipush 120, 2) := by decide +kernel
theorem dX10_init_55 : decode cX10_init 55 = .ok (.newarray .int, 2) := by decide +kernel
theorem dX10_init_57 : decode cX10_init 57 = .ok (.putfield 28, 3) := by decide +kernel
theorem dX10_init_60 : decode cX10_init 60 = .ok (.aload_n 0, 1) := by decide +kernel
theorem dX10_init_61 : decode cX10_init 61 = .ok (.bipush 6, 2) := by decide +kernel
theorem dX10_init_63 : decode cX10_init 63 = .ok (.newarray .int, 2) := by decide +kernel
theorem dX10_init_65 : decode cX10_init 65 = .ok (.putfield 31, 3) := by decide +kernel
theorem dX10_init_68 : decode cX10_init 68 = .ok (.aload_n 0, 1) := by decide +kernel
theorem dX10_init_69 : decode cX10_init 69 = .ok (.bipush 90, 2) := by decide +kernel
theorem dX10_init_71 : decode cX10_init 71 = .ok (.newarray .int, 2) := by decide +kernel
theorem dX10_init_73 : decode cX10_init 73 = .ok (.putfield 34, 3) := by decide +kernel
theorem dX10_init_76 : decode cX10_init 76 = .ok (.aload_n 0, 1) := by decide +kernel
theorem dX10_init_77 : decode cX10_init 77 = .ok (.bipush 8, 2) := by decide +kernel
theorem dX10_init_79 : decode cX10_init 79 = .ok (.newarray .int, 2) := by decide +kernel
theorem dX10_init_81 : decode cX10_init 81 = .ok (.putfield 37, 3) := by decide +kernel
theorem dX10_init_84 : decode cX10_init 84 = .ok (.aload_n 0, 1) := by decide +kernel
theorem dX10_init_85 : decode cX10_init 85 = .ok (.sipush 384, 3) := by decide +kernel
theorem dX10_init_88 : decode cX10_init 88 = .ok (.newarray .int, 2) := by decide +kernel
theorem dX10_init_90 : decode cX10_init 90 = .ok (.putfield 40, 3) := by decide +kernel
theorem dX10_init_93 : decode cX10_init 93 = .ok (.aload_n 0, 1) := by decide +kernel
theorem dX10_init_94 : decode cX10_init 94 = .ok (.sipush 384, 3) := by decide +kernel
theorem dX10_init_97 : decode cX10_init 97 = .ok (.newarray .int, 2) := by decide +kernel
theorem dX10_init_99 : decode cX10_init 99 = .ok (.putfield 43, 3) := by decide +kernel
theorem dX10_init_102 : decode cX10_init 102 = .ok (.aload_n 0, 1) := by decide +kernel
theorem dX10_init_103 : decode cX10_init 103 = .ok (.bipush 48, 2) := by decide +kernel
theorem dX10_init_105 : decode cX10_init 105 = .ok (.newarray .boolean, 2) := by decide +kernel
theorem dX10_init_107 : decode cX10_init 107 = .ok (.putfield 46, 3) := by decide +kernel
theorem dX10_init_110 : decode cX10_init 110 = .ok (.aload_n 0, 1) := by decide +kernel
theorem dX10_init_111 : decode cX10_init 111 = .ok (.sipush 256, 3) := by decide +kernel
theorem dX10_init_114 : decode cX10_init 114 = .ok (.newarray .int, 2) := by decide +kernel
theorem dX10_init_116 : decode cX10_init 116 = .ok (.putfield 50, 3) := by decide +kernel
theorem dX10_init_119 : decode cX10_init 119 = .ok (.aload_n 0, 1) := by decide +kernel
theorem dX10_init_120 : decode cX10_init 120 = .ok (.sipush 256, 3) := by decide +kernel
theorem dX10_init_123 : decode cX10_init 123 = .ok (.newarray .int, 2) := by decide +kernel
theorem dX10_init_125 : decode cX10_init 125 = .ok (.putfield 53, 3) := by decide +kernel
theorem dX10_init_128 : decode cX10_init 128 = .ok (.aload_n 0, 1) := by decide +kernel
theorem dX10_init_129 : decode cX10_init 129 = .ok (.bipush 100, 2) := by decide +kernel
theorem dX10_init_131 : decode cX10_init 131 = .ok (.newarray .int, 2) := by decide +kernel
theorem dX10_init_133 : decode cX10_init 133 = .ok (.putfield 56, 3) := by decide +kernel
theorem dX10_init_136 : decode cX10_init 136 = .ok (.aload_n 0, 1) := by decide +kernel
theorem dX10_init_137 : decode cX10_init 137 = .ok (.bipush 90, 2) := by decide +kernel
theorem dX10_init_139 : decode cX10_init 139 = .ok (.newarray .int, 2) := by decide +kernel
theorem dX10_init_141 : decode cX10_init 141 = .ok (.putfield 59, 3) := by decide +kernel
theorem dX10_init_144 : decode cX10_init 144 = .ok (.aload_n 0, 1) := by decide +kernel
theorem dX10_init_145 : decode cX10_init 145 = .ok (.bipush 8, 2) := by decide +kernel
theorem dX10_init_147 : decode cX10_init 147 = .ok (.newarray .int, 2) := by decide +kernel
theorem dX10_init_149 : decode cX10_init 149 = .ok (.putfield 62, 3) := by decide +kernel
theorem dX10_init_152 : decode cX10_init 152 = .ok (.aload_n 0, 1) := by decide +kernel
theorem dX10_init_153 : decode cX10_init 153 = .ok (.sipush 384, 3) := by decide +kernel
theorem dX10_init_156 : decode cX10_init 156 = .ok (.newarray .int, 2) := by decide +kernel
theorem dX10_init_158 : decode cX10_init 158 = .ok (.putfield 65, 3) := by decide +kernel
theorem dX10_init_161 : decode cX10_init 161 = .ok (.aload_n 0, 1) := by decide +kernel
theorem dX10_init_162 : decode cX10_init 162 = .ok (.sipush 384, 3) := by decide +kernel
theorem dX10_init_165 : decode cX10_init 165 = .ok (.newarray .int, 2) := by decide +kernel
theorem dX10_init_167 : decode cX10_init 167 = .ok (.putfield 68, 3) := by decide +kernel
theorem dX10_init_170 : decode cX10_init 170 = .ok (.aload_n 0, 1) := by decide +kernel
theorem dX10_init_171 : decode cX10_init 171 = .ok (.bipush 50, 2) := by decide +kernel
theorem dX10_init_173 : decode cX10_init 173 = .ok (.newarray .int, 2) := by decide +kernel
theorem dX10_init_175 : decode cX10_init 175 = .ok (.putfield 71, 3) := by decide +kernel
theorem dX10_init_178 : decode cX10_init 178 = .ok (.aload_n 0, 1) := by decide +kernel
theorem dX10_init_179 : decode cX10_init 179 = .ok (.bipush 24, 2) := by decide +kernel
theorem dX10_init_181 : decode cX10_init 181 = .ok (.newarray .int, 2) := by decide +kernel
theorem dX10_init_183 : decode cX10_init 183 = .ok (.putfield 74, 3) := by decide +kernel
theorem dX10_init_186 : decode cX10_init 186 = .ok (.aload_n 0, 1) := by decide +kernel
theorem dX10_init_187 : decode cX10_init 187 = .ok (.bipush 6, 2) := by decide +kernel
theorem dX10_init_189 : decode cX10_init 189 = .ok (.newarray .int, 2) := by decide +kernel
theorem dX10_init_191 : decode cX10_init 191 = .ok (.putfield 77, 3) := by decide +kernel
theorem dX10_init_194 : decode cX10_init 194 = .ok (.aload_n 0, 1) := by decide +kernel
theorem dX10_init_195 : decode cX10_init 195 = .ok (.bipush 6, 2) := by decide +kernel
theorem dX10_init_197 : decode cX10_init 197 = .ok (.newarray .int, 2) := by decide +kernel
theorem dX10_init_199 : decode cX10_init 199 = .ok (.putfield 80, 3) := by decide +kernel
theorem dX10_init_202 : decode cX10_init 202 = .ok (.aload_n 0, 1) := by decide +kernel
theorem dX10_init_203 : decode cX10_init 203 = .ok (.sipush 360, 3) := by decide +kernel
theorem dX10_init_206 : decode cX10_init 206 = .ok (.newarray .long, 2) := by decide +kernel
theorem dX10_init_208 : decode cX10_init 208 = .ok (.putfield 83, 3) := by decide +kernel
theorem dX10_init_211 : decode cX10_init 211 = .ok (.aload_n 0, 1) := by decide +kernel
theorem dX10_init_212 : decode cX10_init 212 = .ok (.bipush 60, 2) := by decide +kernel
theorem dX10_init_214 : decode cX10_init 214 = .ok (.newarray .long, 2) := by decide +kernel
theorem dX10_init_216 : decode cX10_init 216 = .ok (.putfield 87, 3) := by decide +kernel
theorem dX10_init_219 : decode cX10_init 219 = .ok (.iconst 0, 1) := by decide +kernel
theorem dX10_init_220 : decode cX10_init 220 = .ok (.istore_n 1, 1) := by decide +kernel
theorem dX10_init_221 : decode cX10_init 221 = .ok (.iload_n 1, 1) := by decide +kernel
theorem dX10_init_222 : decode cX10_init 222 = .ok (.bipush 6, 2) := by decide +kernel
theorem dX10_init_224 : decode cX10_init 224 = .ok (.if_icmp .ge 16, 3) := by decide +kernel
theorem dX10_init_227 : decode cX10_init 227 = .ok (.aload_n 0, 1) := by decide +kernel
theorem dX10_init_228 : decode cX10_init 228 = .ok (.getfield 77, 3) := by decide +kernel
theorem dX10_init_231 : decode cX10_init 231 = .ok (.iload_n 1, 1) := by decide +kernel
theorem dX10_init_232 : decode cX10_init 232 = .ok (.iconst (-1), 1) := by decide +kernel
theorem dX10_init_233 : decode cX10_init 233 = .ok (.iastore, 1) := by decide +kernel
theorem dX10_init_234 : decode cX10_init 234 = .ok (.iinc 1 1, 3) := by decide +kernel
theorem dX10_init_237 : decode cX10_init 237 = .ok (.goto (-16), 3) := by decide +kernel
theorem dX10_init_240 : decode cX10_init 240 = .ok (.aload_n 0, 1) := by decide +kernel
theorem dX10_init_241 : decode cX10_init 241 = .ok (.iconst (-1), 1) := by decide +kernel
theorem dX10_init_242 : decode cX10_init 242 = .ok (.putfield 90, 3) := by decide +kernel
theorem dX10_init_245 : decode cX10_init 245 = .ok (.iconst 0, 1) := by decide +kernel
theorem dX10_init_246 : decode cX10_init 246 = .ok (.istore_n 1, 1) := by decide +kernel
theorem dX10_init_247 : decode cX10_init 247 = .ok (.iload_n 1, 1) := by decide +kernel
theorem dX10_init_248 : decode cX10_init 248 = .ok (.bipush 12, 2) := by decide +kernel
theorem dX10_init_250 : decode cX10_init 250 = .ok (.if_icmp .ge 16, 3) := by decide +kernel
theorem dX10_init_253 : decode cX10_init 253 = .ok (.aload_n 0, 1) := by decide +kernel
theorem dX10_init_254 : decode cX10_init 254 = .ok (.getfield 9, 3) := by decide +kernel
theorem dX10_init_257 : decode cX10_init 257 = .ok (.iload_n 1, 1) := by decide +kernel
theorem dX10_init_258 : decode cX10_init 258 = .ok (.iconst 5, 1) := by decide +kernel
theorem dX10_init_259 : decode cX10_init 259 = .ok (.iastore, 1) := by decide +kernel
theorem dX10_init_260 : decode cX10_init 260 = .ok (.iinc 1 1, 3) := by decide +kernel
theorem dX10_init_263 : decode cX10_init 263 = .ok (.goto (-16), 3) := by decide +kernel
theorem dX10_init_266 : decode cX10_init 266 = .ok (.aload_n 0, 1) := by decide +kernel
theorem dX10_init_267 : decode cX10_init 267 = .ok (.getfield 9, 3) := by decide +kernel
theorem dX10_init_270 : decode cX10_init 270 = .ok (.bipush 21, 2) := by decide +kernel
theorem dX10_init_272 : decode cX10_init 272 = .ok (.iconst 1, 1) := by decide +kernel
theorem dX10_init_273 : decode cX10_init 273 = .ok (.iastore, 1) := by decide +kernel
theorem dX10_init_274 : decode cX10_init 274 = .ok (.return_, 1) := by decide +kernel
theorem dX10_becomes_0 : decode cX10_becomes 0 = .ok (.aload_n 0, 1) := by decide +kernel
theorem dX10_becomes_1 : decode cX10_becomes 1 = .ok (.getfield 9, 3) := by decide +kernel
theorem dX10_becomes_4 : decode cX10_becomes 4 = .ok (.iload_n 1, 1) := by decide +kernel
theorem dX10_becomes_5 : decode cX10_becomes 5 = .ok (.iaload, 1) := by decide +kernel
theorem dX10_becomes_6 : decode cX10_becomes 6 = .ok (.istore_n 3, 1) := by decide +kernel
theorem dX10_becomes_7 : decode cX10_becomes 7 = .ok (.iload_n 3, 1) := by decide +kernel
theorem dX10_becomes_8 : decode cX10_becomes 8 = .ok (.iload_n 2, 1) := by decide +kernel
theorem dX10_becomes_9 : decode cX10_becomes 9 = .ok (.if_icmp .ne 5, 3) := by decide +kernel
theorem dX10_becomes_12 : decode cX10_becomes 12 = .ok (.iload_n 3, 1) := by decide +kernel
theorem dX10_becomes_13 : decode cX10_becomes 13 = .ok (.ireturn, 1) := by decide +kernel
theorem dX10_becomes_14 : decode cX10_becomes 14 = .ok (.aload_n 0, 1) := by decide +kernel
theorem dX10_becomes_15 : decode cX10_becomes 15 = .ok (.getfield 94, 3) := by decide +kernel
theorem dX10_becomes_18 : decode cX10_becomes 18 = .ok (.bipush 40, 2) := by decide +kernel
theorem dX10_becomes_20 : decode cX10_becomes 20 = .ok (.if_icmp .ne 77, 3) := by decide +kernel
theorem dX10_becomes_23 : decode cX10_becomes 23 = .ok (.iconst 1, 1) := by decide +kernel
theorem dX10_becomes_24 : decode cX10_becomes 24 = .ok (.istore 4, 2) := by decide +kernel
theorem dX10_becomes_26 : decode cX10_becomes 26 = .ok (.iload 4, 2) := by decide +kernel
theorem dX10_becomes_28 : decode cX10_becomes 28 = .ok (.bipush 40, 2) := by decide +kernel
theorem dX10_becomes_30 : decode cX10_becomes 30 = .ok (.if_icmp .ge 57, 3) := by decide +kernel
theorem dX10_becomes_33 : decode cX10_becomes 33 = .ok (.aload_n 0, 1) := by decide +kernel
theorem dX10_becomes_34 : decode cX10_becomes 34 = .ok (.getfield 13, 3) := by decide +kernel
theorem dX10_becomes_37 : decode cX10_becomes 37 = .ok (.iload 4, 2) := by decide +kernel
theorem dX10_becomes_39 : decode cX10_becomes 39 = .ok (.iconst 1, 1) := by decide +kernel
theorem dX10_becomes_40 : decode cX10_becomes 40 = .ok (.isub, 1) := by decide +kernel
theorem dX10_becomes_41 : decode cX10_becomes 41 = .ok (.aload_n 0, 1) := by decide +kernel
theorem dX10_becomes_42 : decode cX10_becomes 42 = .ok (.getfield 13, 3) := by decide +kernel
theorem dX10_becomes_45 : decode cX10_becomes 45 = .ok (.iload 4, 2) := by decide +kernel
theorem dX10_becomes_47 : decode cX10_becomes 47 = .ok (.iaload, 1) := by decide +kernel
theorem dX10_becomes_48 : decode cX10_becomes 48 = .ok (.iastore, 1) := by decide +kernel
theorem dX10_becomes_49 : decode cX10_becomes 49 = .ok (.aload_n 0, 1) := by decide +kernel
theorem dX10_becomes_50 : decode cX10_becomes 50 = .ok (.getfield 16, 3) := by decide +kernel
theorem dX10_becomes_53 : decode cX10_becomes 53 = .ok (.iload 4, 2) := by decide +kernel
theorem dX10_becomes_55 : decode cX10_becomes 55 = .ok (.iconst 1, 1) := by decide +kernel
theorem dX10_becomes_56 : decode cX10_becomes 56 = .ok (.isub, 1) := by decide +kernel
theorem dX10_becomes_57 : decode cX10_becomes 57 = .ok (.aload_n 0, 1) := by decide +kernel
theorem dX10_becomes_58 : decode cX10_becomes 58 = .ok (.getfield 16, 3) := by decide +kernel
theorem dX10_becomes_61 : decode cX10_becomes 61 = .ok (.iload 4, 2) := by decide +kernel
theorem dX10_becomes_63 : decode cX10_becomes 63 = .ok (.iaload, 1) := by decide +kernel
theorem dX10_becomes_64 : decode cX10_becomes 64 = .ok (.iastore, 1) := by decide +kernel
theorem dX10_becomes_65 : decode cX10_becomes 65 = .ok (.aload_n 0, 1) := by decide +kernel
theorem dX10_becomes_66 : decode cX10_becomes 66 = .ok (.getfield 19, 3) := by decide +kernel
theorem dX10_becomes_69 : decode cX10_becomes 69 = .ok (.iload 4, 2) := by decide +kernel
theorem dX10_becomes_71 : decode cX10_becomes 71 = .ok (.iconst 1, 1) := by decide +kernel
theorem dX10_becomes_72 : decode cX10_becomes 72 = .ok (.isub, 1) := by decide +kernel
theorem dX10_becomes_73 : decode cX10_becomes 73 = .ok (.aload_n 0, 1) := by decide +kernel
theorem dX10_becomes_74 : decode cX10_becomes 74 = .ok (.getfield 19, 3) := by decide +kernel
theorem dX10_becomes_77 : decode cX10_becomes 77 = .ok (.iload 4, 2) := by decide +kernel
theorem dX10_becomes_79 : decode cX10_becomes 79 = .ok (.iaload, 1) := by decide +kernel
theorem dX10_becomes_80 : decode cX10_becomes 80 = .ok (.iastore, 1) := by decide +kernel
theorem dX10_becomes_81 : decode cX10_becomes 81 = .ok (.iinc 4 1, 3) := by decide +kernel
theorem dX10_becomes_84 : decode cX10_becomes 84 = .ok (.goto (-58), 3) := by decide +kernel
theorem dX10_becomes_87 : decode cX10_becomes 87 = .ok (.aload_n 0, 1) := by decide +kernel
theorem dX10_becomes_88 : decode cX10_becomes 88 = .ok (.dup, 1) := by decide +kernel
theorem dX10_becomes_89 : decode cX10_becomes 89 = .ok (.getfield 94, 3) := by decide +kernel
theorem dX10_becomes_92 : decode cX10_becomes 92 = .ok (.iconst 1, 1) := by decide +kernel
theorem dX10_becomes_93 : decode cX10_becomes 93 = .ok (.isub, 1) := by decide +kernel
theorem dX10_becomes_94 : decode cX10_becomes 94 = .ok (.putfield 94, 3) := by decide +kernel
theorem dX10_becomes_97 : decode cX10_becomes 97 = .ok (.aload_n 0, 1) := by decide +kernel
theorem dX10_becomes_98 : decode cX10_becomes 98 = .ok (.getfield 13, 3) := by decide +kernel
theorem dX10_becomes_101 : decode cX10_becomes 101 = .ok (.aload_n 0, 1) := by decide +kernel
theorem dX10_becomes_102 : decode cX10_becomes 102 = .ok (.getfield 94, 3) := by decide +kernel
theorem dX10_becomes_105 : decode cX10_becomes 105 = .ok (.iload_n 1, 1) := by decide +kernel
theorem dX10_becomes_106 : decode cX10_becomes 106 = .ok (.iastore, 1) := by decide +kernel
theorem dX10_becomes_107 : decode cX10_becomes 107 = .ok (.aload_n 0, 1) := by decide +kernel
theorem dX10_becomes_108 : decode cX10_becomes 108 = .ok (.getfield 16, 3) := by decide +kernel
theorem dX10_becomes_111 : decode cX10_becomes 111 = .ok (.aload_n 0, 1) := by decide +kernel
theorem dX10_becomes_112 : decode cX10_becomes 112 = .ok (.getfield 94, 3) := by decide +kernel
theorem dX10_becomes_115 : decode cX10_becomes 115 = .ok (.iload_n 3, 1) := by decide +kernel
theorem dX10_becomes_116 : decode cX10_becomes 116 = .ok (.iastore, 1) := by decide +kernel
theorem dX10_becomes_117 : decode cX10_becomes 117 = .ok (.aload_n 0, 1) := by decide +kernel
theorem dX10_becomes_118 : decode cX10_becomes 118 = .ok (.getfield 19, 3) := by decide +kernel
theorem dX10_becomes_121 : decode cX10_becomes 121 = .ok (.aload_n 0, 1) := by decide +kernel
theorem dX10_becomes_122 : decode cX10_becomes 122 = .ok (.getfield 94, 3) := by decide +kernel
theorem dX10_becomes_125 : decode cX10_becomes 125 = .ok (.iload_n 2, 1) := by decide +kernel
theorem dX10_becomes_126 : decode cX10_becomes 126 = .ok (.iastore, 1) := by decide +kernel
theorem dX10_becomes_127 : decode cX10_becomes 127 = .ok (.aload_n 0, 1) := by decide +kernel
theorem dX10_becomes_128 : decode cX10_becomes 128 = .ok (.dup, 1) := by decide +kernel
theorem dX10_becomes_129 : decode cX10_becomes 129 = .ok (.getfield 94, 3) := by decide +kernel
theorem dX10_becomes_132 : decode cX10_becomes 132 = .ok (.iconst 1, 1) := by decide +kernel
theorem dX10_becomes_133 : decode cX10_becomes 133 = .ok (.iadd, 1) := by decide +kernel
theorem dX10_becomes_134 : decode cX10_becomes 134 = .ok (.putfield 94, 3) := by decide +kernel
theorem dX10_becomes_137 : decode cX10_becomes 137 = .ok (.aload_n 0, 1) := by decide +kernel
theorem dX10_becomes_138 : decode cX10_becomes 138 = .ok (.aload_n 0, 1) := by decide +kernel
theorem dX10_becomes_139 : decode cX10_becomes 139 = .ok (.getfield 94, 3) := by decide +kernel
theorem dX10_becomes_142 : decode cX10_becomes 142 = .ok (.putfield 97, 3) := by decide +kernel
theorem dX10_becomes_145 : decode cX10_becomes 145 = .ok (.aload_n 0, 1) := by decide +kernel
theorem dX10_becomes_146 : decode cX10_becomes 146 = .ok (.getfield 9, 3) := by decide +kernel
theorem dX10_becomes_149 : decode cX10_becomes 149 = .ok (.iload_n 1, 1) := by decide +kernel
theorem dX10_becomes_150 : decode cX10_becomes 150 = .ok (.iload_n 2, 1) := by decide +kernel
theorem dX10_becomes_151 : decode cX10_becomes 151 = .ok (.iastore, 1) := by decide +kernel
theorem dX10_becomes_152 : decode cX10_becomes 152 = .ok (.iload_n 3, 1) := by decide +kernel
theorem dX10_becomes_153 : decode cX10_becomes 153 = .ok (.ireturn, 1) := by decide +kernel
theorem dX10_undo_0 : decode cX10_undo 0 = .ok (.aload_n 0, 1) := by decide +kernel
theorem dX10_undo_1 : decode cX10_undo 1 = .ok (.getfield 94, 3) := by decide +kernel
theorem dX10_undo_4 : decode cX10_undo 4 = .ok (.ifCond .ne 6, 3) := by decide +kernel
theorem dX10_undo_7 : decode cX10_undo 7 = .ok (.bipush (-5), 2) := by decide +kernel
theorem dX10_undo_9 : decode cX10_undo 9 = .ok (.ireturn, 1) := by decide +kernel
theorem dX10_undo_10 : decode cX10_undo 10 = .ok (.aload_n 0, 1) := by decide +kernel
theorem dX10_undo_11 : decode cX10_undo 11 = .ok (.dup, 1) := by decide +kernel
theorem dX10_undo_12 : decode cX10_undo 12 = .ok (.getfield 94, 3) := by decide +kernel
theorem dX10_undo_15 : decode cX10_undo 15 = .ok (.iconst 1, 1) := by decide +kernel
theorem dX10_undo_16 : decode cX10_undo 16 = .ok (.isub, 1) := by decide +kernel
theorem dX10_undo_17 : decode cX10_undo 17 = .ok (.putfield 94, 3) := by decide +kernel
theorem dX10_undo_20 : decode cX10_undo 20 = .ok (.aload_n 0, 1) := by decide +kernel
theorem dX10_undo_21 : decode cX10_undo 21 = .ok (.getfield 9, 3) := by decide +kernel
theorem dX10_undo_24 : decode cX10_undo 24 = .ok (.aload_n 0, 1) := by decide +kernel
theorem dX10_undo_25 : decode cX10_undo 25 = .ok (.getfield 13, 3) := by decide +kernel
theorem dX10_undo_28 : decode cX10_undo 28 = .ok (.aload_n 0, 1) := by decide +kernel
theorem dX10_undo_29 : decode cX10_undo 29 = .ok (.getfield 94, 3) := by decide +kernel
theorem dX10_undo_32 : decode cX10_undo 32 = .ok (.iaload, 1) := by decide +kernel
theorem dX10_undo_33 : decode cX10_undo 33 = .ok (.aload_n 0, 1) := by decide +kernel
theorem dX10_undo_34 : decode cX10_undo 34 = .ok (.getfield 16, 3) := by decide +kernel
theorem dX10_undo_37 : decode cX10_undo 37 = .ok (.aload_n 0, 1) := by decide +kernel
theorem dX10_undo_38 : decode cX10_undo 38 = .ok (.getfield 94, 3) := by decide +kernel
theorem dX10_undo_41 : decode cX10_undo 41 = .ok (.iaload, 1) := by decide +kernel
theorem dX10_undo_42 : decode cX10_undo 42 = .ok (.iastore, 1) := by decide +kernel
theorem dX10_undo_43 : decode cX10_undo 43 = .ok (.aload_n 0, 1) := by decide +kernel
theorem dX10_undo_44 : decode cX10_undo 44 = .ok (.getfield 94, 3) := by decide +kernel
theorem dX10_undo_47 : decode cX10_undo 47 = .ok (.ireturn, 1) := by decide +kernel
theorem dX10_redo_0 : decode cX10_redo 0 = .ok (.aload_n 0, 1) := by decide +kernel
theorem dX10_redo_1 : decode cX10_redo 1 = .ok (.getfield 94, 3) := by decide +kernel
theorem dX10_redo_4 : decode cX10_redo 4 = .ok (.aload_n 0, 1) := by decide +kernel
theorem dX10_redo_5 : decode cX10_redo 5 = .ok (.getfield 97, 3) := by decide +kernel
theorem dX10_redo_8 : decode cX10_redo 8 = .ok (.if_icmp .ne 6, 3) := by decide +kernel
theorem dX10_redo_11 : decode cX10_redo 11 = .ok (.bipush (-5), 2) := by decide +kernel
theorem dX10_redo_13 : decode cX10_redo 13 = .ok (.ireturn, 1) := by decide +kernel
theorem dX10_redo_14 : decode cX10_redo 14 = .ok (.aload_n 0, 1) := by decide +kernel
theorem dX10_redo_15 : decode cX10_redo 15 = .ok (.getfield 9, 3) := by decide +kernel
theorem dX10_redo_18 : decode cX10_redo 18 = .ok (.aload_n 0, 1) := by decide +kernel
theorem dX10_redo_19 : decode cX10_redo 19 = .ok (.getfield 13, 3) := by decide +kernel
theorem dX10_redo_22 : decode cX10_redo 22 = .ok (.aload_n 0, 1) := by decide +kernel
theorem dX10_redo_23 : decode cX10_redo 23 = .ok (.getfield 94, 3) := by decide +kernel
theorem dX10_redo_26 : decode cX10_redo 26 = .ok (.iaload, 1) := by decide +kernel
theorem dX10_redo_27 : decode cX10_redo 27 = .ok (.aload_n 0, 1) := by decide +kernel
theorem dX10_redo_28 : decode cX10_redo 28 = .ok (.getfield 19, 3) := by decide +kernel
theorem dX10_redo_31 : decode cX10_redo 31 = .ok (.aload_n 0, 1) := by decide +kernel
theorem dX10_redo_32 : decode cX10_redo 32 = .ok (.getfield 94, 3) := by decide +kernel
theorem dX10_redo_35 : decode cX10_redo 35 = .ok (.iaload, 1) := by decide +kernel
theorem dX10_redo_36 : decode cX10_redo 36 = .ok (.iastore, 1) := by decide +kernel
theorem dX10_redo_37 : decode cX10_redo 37 = .ok (.aload_n 0, 1) := by decide +kernel
theorem dX10_redo_38 : decode cX10_redo 38 = .ok (.dup, 1) := by decide +kernel
theorem dX10_redo_39 : decode cX10_redo 39 = .ok (.getfield 94, 3) := by decide +kernel
theorem dX10_redo_42 : decode cX10_redo 42 = .ok (.iconst 1, 1) := by decide +kernel
theorem dX10_redo_43 : decode cX10_redo 43 = .ok (.iadd, 1) := by decide +kernel
theorem dX10_redo_44 : decode cX10_redo 44 = .ok (.putfield 94, 3) := by decide +kernel
theorem dX10_redo_47 : decode cX10_redo 47 = .ok (.aload_n 0, 1) := by decide +kernel
theorem dX10_redo_48 : decode cX10_redo 48 = .ok (.getfield 97, 3) := by decide +kernel
theorem dX10_redo_51 : decode cX10_redo 51 = .ok (.aload_n 0, 1) := by decide +kernel
theorem dX10_redo_52 : decode cX10_redo 52 = .ok (.getfield 94, 3) := by decide +kernel
theorem dX10_redo_55 : decode cX10_redo 55 = .ok (.isub, 1) := by decide +kernel
theorem dX10_redo_56 : decode cX10_redo 56 = .ok (.ireturn, 1) := by decide +kernel
theorem dX10_isPerson_0 : decode cX10_isPerson 0 = .ok (.iload_n 1, 1) := by decide +kernel
theorem dX10_isPerson_1 : decode cX10_isPerson 1 = .ok (.i2l, 1) := by decide +kernel
theorem dX10_isPerson_2 : decode cX10_isPerson 2 = .ok (.lconst 0, 1) := by decide +kernel
theorem dX10_isPerson_3 : decode cX10_isPerson 3 = .ok (.aload_n 0, 1) := by decide +kernel
theorem dX10_isPerson_4 : decode cX10_isPerson 4 = .ok (.getfield 100, 3) := by decide +kernel
theorem dX10_isPerson_7 : decode cX10_isPerson 7 = .ok (.iconst 1, 1) := by decide +kernel
theorem dX10_isPerson_8 : decode cX10_isPerson 8 = .ok (.isub, 1) := by decide +kernel
theorem dX10_isPerson_9 : decode cX10_isPerson 9 = .ok (.i2l, 1) := by decide +kernel
theorem dX10_isPerson_10 : decode cX10_isPerson 10 = .ok (.invokestatic 103, 3) := by decide +kernel
theorem dX10_isPerson_13 : decode cX10_isPerson 13 = .ok (.ireturn, 1) := by decide +kernel
theorem dX10_isPq_0 : decode cX10_isPq 0 = .ok (.iload_n 1, 1) := by decide +kernel
theorem dX10_isPq_1 : decode cX10_isPq 1 = .ok (.ifCond .lt 40, 3) := by decide +kernel
theorem dX10_isPq_4 : decode cX10_isPq 4 = .ok (.aload_n 0, 1) := by decide +kernel
theorem dX10_isPq_5 : decode cX10_isPq 5 = .ok (.iload_n 1, 1) := by decide +kernel
theorem dX10_isPq_6 : decode cX10_isPq 6 = .ok (.bipush 10, 2) := by decide +kernel
theorem dX10_isPq_8 : decode cX10_isPq 8 = .ok (.idiv, 1) := by decide +kernel
theorem dX10_isPq_9 : decode cX10_isPq 9 = .ok (.invokevirtual 107, 3) := by decide +kernel
theorem dX10_isPq_12 : decode cX10_isPq 12 = .ok (.ifCond .eq 29, 3) := by decide +kernel
theorem dX10_isPq_15 : decode cX10_isPq 15 = .ok (.aload_n 0, 1) := by decide +kernel
theorem dX10_isPq_16 : decode cX10_isPq 16 = .ok (.iload_n 1, 1) := by decide +kernel
theorem dX10_isPq_17 : decode cX10_isPq 17 = .ok (.bipush 10, 2) := by decide +kernel
theorem dX10_isPq_19 : decode cX10_isPq 19 = .ok (.irem, 1) := by decide +kernel
theorem dX10_isPq_20 : decode cX10_isPq 20 = .ok (.invokevirtual 107, 3) := by decide +kernel
theorem dX10_isPq_23 : decode cX10_isPq 23 = .ok (.ifCond .eq 18, 3) := by decide +kernel
theorem dX10_isPq_26 : decode cX10_isPq 26 = .ok (.iload_n 1, 1) := by decide +kernel
theorem dX10_isPq_27 : decode cX10_isPq 27 = .ok (.bipush 10, 2) := by decide +kernel
theorem dX10_isPq_29 : decode cX10_isPq 29 = .ok (.idiv, 1) := by decide +kernel
theorem dX10_isPq_30 : decode cX10_isPq 30 = .ok (.iload_n 1, 1) := by decide +kernel
theorem dX10_isPq_31 : decode cX10_isPq 31 = .ok (.bipush 10, 2) := by decide +kernel
theorem dX10_isPq_33 : decode cX10_isPq 33 = .ok (.irem, 1) := by decide +kernel
theorem dX10_isPq_34 : decode cX10_isPq 34 = .ok (.if_icmp .eq 7, 3) := by decide +kernel
theorem dX10_isPq_37 : decode cX10_isPq 37 = .ok (.iconst 1, 1) := by decide +kernel
theorem dX10_isPq_38 : decode cX10_isPq 38 = .ok (.goto 4, 3) := by decide +kernel
theorem dX10_isPq_41 : decode cX10_isPq 41 = .ok (.iconst 0, 1) := by decide +kernel
theorem dX10_isPq_42 : decode cX10_isPq 42 = .ok (.ireturn, 1) := by decide +kernel
theorem dX10_isDebt_0 : decode cX10_isDebt 0 = .ok (.iload_n 1, 1) := by decide +kernel
theorem dX10_isDebt_1 : decode cX10_isDebt 1 = .ok (.i2l, 1) := by decide +kernel
theorem dX10_isDebt_2 : decode cX10_isDebt 2 = .ok (.lconst 0, 1) := by decide +kernel
theorem dX10_isDebt_3 : decode cX10_isDebt 3 = .ok (.aload_n 0, 1) := by decide +kernel
theorem dX10_isDebt_4 : decode cX10_isDebt 4 = .ok (.getfield 111, 3) := by decide +kernel
theorem dX10_isDebt_7 : decode cX10_isDebt 7 = .ok (.iconst 1, 1) := by decide +kernel
theorem dX10_isDebt_8 : decode cX10_isDebt 8 = .ok (.isub, 1) := by decide +kernel
theorem dX10_isDebt_9 : decode cX10_isDebt 9 = .ok (.i2l, 1) := by decide +kernel
theorem dX10_isDebt_10 : decode cX10_isDebt 10 = .ok (.invokestatic 103, 3) := by decide +kernel
theorem dX10_isDebt_13 : decode cX10_isDebt 13 = .ok (.ireturn, 1) := by decide +kernel
theorem dX10_isDay_0 : decode cX10_isDay 0 = .ok (.iload_n 0, 1) := by decide +kernel
theorem dX10_isDay_1 : decode cX10_isDay 1 = .ok (.i2l, 1) := by decide +kernel
theorem dX10_isDay_2 : decode cX10_isDay 2 = .ok (.lconst 0, 1) := by decide +kernel
theorem dX10_isDay_3 : decode cX10_isDay 3 = .ok (.ldc2_w 114, 3) := by decide +kernel
theorem dX10_isDay_6 : decode cX10_isDay 6 = .ok (.invokestatic 103, 3) := by decide +kernel
theorem dX10_isDay_9 : decode cX10_isDay 9 = .ok (.ireturn, 1) := by decide +kernel
theorem dX10_isHoly_0 : decode cX10_isHoly 0 = .ok (.iload_n 0, 1) := by decide +kernel
theorem dX10_isHoly_1 : decode cX10_isHoly 1 = .ok (.iconst 4, 1) := by decide +kernel
theorem dX10_isHoly_2 : decode cX10_isHoly 2 = .ok (.irem, 1) := by decide +kernel
theorem dX10_isHoly_3 : decode cX10_isHoly 3 = .ok (.iconst 3, 1) := by decide +kernel
theorem dX10_isHoly_4 : decode cX10_isHoly 4 = .ok (.if_icmp .ne 7, 3) := by decide +kernel
theorem dX10_isHoly_7 : decode cX10_isHoly 7 = .ok (.iconst 1, 1) := by decide +kernel
theorem dX10_isHoly_8 : decode cX10_isHoly 8 = .ok (.goto 4, 3) := by decide +kernel
theorem dX10_isHoly_11 : decode cX10_isHoly 11 = .ok (.iconst 0, 1) := by decide +kernel
theorem dX10_isHoly_12 : decode cX10_isHoly 12 = .ok (.ireturn, 1) := by decide +kernel
theorem dX10_isOpen_0 : decode cX10_isOpen 0 = .ok (.aload_n 0, 1) := by decide +kernel
theorem dX10_isOpen_1 : decode cX10_isOpen 1 = .ok (.getfield 22, 3) := by decide +kernel
theorem dX10_isOpen_4 : decode cX10_isOpen 4 = .ok (.iconst 5, 1) := by decide +kernel
theorem dX10_isOpen_5 : decode cX10_isOpen 5 = .ok (.iload_n 1, 1) := by decide +kernel
theorem dX10_isOpen_6 : decode cX10_isOpen 6 = .ok (.imul, 1) := by decide +kernel
theorem dX10_isOpen_7 : decode cX10_isOpen 7 = .ok (.iconst 2, 1) := by decide +kernel
theorem dX10_isOpen_8 : decode cX10_isOpen 8 = .ok (.iadd, 1) := by decide +kernel
theorem dX10_isOpen_9 : decode cX10_isOpen 9 = .ok (.iaload, 1) := by decide +kernel
theorem dX10_isOpen_10 : decode cX10_isOpen 10 = .ok (.ifCond .le 7, 3) := by decide +kernel
theorem dX10_isOpen_13 : decode cX10_isOpen 13 = .ok (.iconst 1, 1) := by decide +kernel
theorem dX10_isOpen_14 : decode cX10_isOpen 14 = .ok (.goto 4, 3) := by decide +kernel
theorem dX10_isOpen_17 : decode cX10_isOpen 17 = .ok (.iconst 0, 1) := by decide +kernel
theorem dX10_isOpen_18 : decode cX10_isOpen 18 = .ok (.ireturn, 1) := by decide +kernel
theorem dX10_person_0 : decode cX10_person 0 = .ok (.iload_n 1, 1) := by decide +kernel
theorem dX10_person_1 : decode cX10_person 1 = .ok (.i2l, 1) := by decide +kernel
theorem dX10_person_2 : decode cX10_person 2 = .ok (.lconst 1, 1) := by decide +kernel
theorem dX10_person_3 : decode cX10_person 3 = .ok (.ldc2_w 116, 3) := by decide +kernel
theorem dX10_person_6 : decode cX10_person 6 = .ok (.invokestatic 103, 3) := by decide +kernel
theorem dX10_person_9 : decode cX10_person 9 = .ok (.ifCond .ne 5, 3) := by decide +kernel
theorem dX10_person_12 : decode cX10_person 12 = .ok (.iconst (-1), 1) := by decide +kernel
theorem dX10_person_13 : decode cX10_person 13 = .ok (.ireturn, 1) := by decide +kernel
theorem dX10_person_14 : decode cX10_person 14 = .ok (.aload_n 0, 1) := by decide +kernel
theorem dX10_person_15 : decode cX10_person 15 = .ok (.getfield 100, 3) := by decide +kernel
theorem dX10_person_18 : decode cX10_person 18 = .ok (.bipush 8, 2) := by decide +kernel
theorem dX10_person_20 : decode cX10_person 20 = .ok (.if_icmp .ne 6, 3) := by decide +kernel
theorem dX10_person_23 : decode cX10_person 23 = .ok (.bipush (-3), 2) := by decide +kernel
theorem dX10_person_25 : decode cX10_person 25 = .ok (.ireturn, 1) := by decide +kernel
theorem dX10_person_26 : decode cX10_person 26 = .ok (.aload_n 0, 1) := by decide +kernel
theorem dX10_person_27 : decode cX10_person 27 = .ok (.getfield 9, 3) := by decide +kernel
theorem dX10_person_30 : decode cX10_person 30 = .ok (.bipush 12, 2) := by decide +kernel
theorem dX10_person_32 : decode cX10_person 32 = .ok (.aload_n 0, 1) := by decide +kernel
theorem dX10_person_33 : decode cX10_person 33 = .ok (.getfield 100, 3) := by decide +kernel
theorem dX10_person_36 : decode cX10_person 36 = .ok (.iadd, 1) := by decide +kernel
theorem dX10_person_37 : decode cX10_person 37 = .ok (.iload_n 1, 1) := by decide +kernel
theorem dX10_person_38 : decode cX10_person 38 = .ok (.iastore, 1) := by decide +kernel
theorem dX10_person_39 : decode cX10_person 39 = .ok (.aload_n 0, 1) := by decide +kernel
theorem dX10_person_40 : decode cX10_person 40 = .ok (.dup, 1) := by decide +kernel
theorem dX10_person_41 : decode cX10_person 41 = .ok (.getfield 100, 3) := by decide +kernel
theorem dX10_person_44 : decode cX10_person 44 = .ok (.iconst 1, 1) := by decide +kernel
theorem dX10_person_45 : decode cX10_person 45 = .ok (.iadd, 1) := by decide +kernel
theorem dX10_person_46 : decode cX10_person 46 = .ok (.putfield 100, 3) := by decide +kernel
theorem dX10_person_49 : decode cX10_person 49 = .ok (.aload_n 0, 1) := by decide +kernel
theorem dX10_person_50 : decode cX10_person 50 = .ok (.getfield 100, 3) := by decide +kernel
theorem dX10_person_53 : decode cX10_person 53 = .ok (.iconst 1, 1) := by decide +kernel
theorem dX10_person_54 : decode cX10_person 54 = .ok (.isub, 1) := by decide +kernel
theorem dX10_person_55 : decode cX10_person 55 = .ok (.ireturn, 1) := by decide +kernel
theorem dX10_isOne_0 : decode cX10_isOne 0 = .ok (.lload_n 1, 1) := by decide +kernel
theorem dX10_isOne_1 : decode cX10_isOne 1 = .ok (.lconst 0, 1) := by decide +kernel
theorem dX10_isOne_2 : decode cX10_isOne 2 = .ok (.aload_n 0, 1) := by decide +kernel
theorem dX10_isOne_3 : decode cX10_isOne 3 = .ok (.getfield 100, 3) := by decide +kernel
theorem dX10_isOne_6 : decode cX10_isOne 6 = .ok (.iconst 1, 1) := by decide +kernel
theorem dX10_isOne_7 : decode cX10_isOne 7 = .ok (.isub, 1) := by decide +kernel
theorem dX10_isOne_8 : decode cX10_isOne 8 = .ok (.i2l, 1) := by decide +kernel
theorem dX10_isOne_9 : decode cX10_isOne 9 = .ok (.invokestatic 103, 3) := by decide +kernel
theorem dX10_isOne_12 : decode cX10_isOne 12 = .ok (.ifCond .eq 52, 3) := by decide +kernel
theorem dX10_isOne_15 : decode cX10_isOne 15 = .ok (.lload_n 3, 1) := by decide +kernel
theorem dX10_isOne_16 : decode cX10_isOne 16 = .ok (.lconst 0, 1) := by decide +kernel
theorem dX10_isOne_17 : decode cX10_isOne 17 = .ok (.aload_n 0, 1) := by decide +kernel
theorem dX10_isOne_18 : decode cX10_isOne 18 = .ok (.getfield 100, 3) := by decide +kernel
theorem dX10_isOne_21 : decode cX10_isOne 21 = .ok (.iconst 1, 1) := by decide +kernel
theorem dX10_isOne_22 : decode cX10_isOne 22 = .ok (.isub, 1) := by decide +kernel
theorem dX10_isOne_23 : decode cX10_isOne 23 = .ok (.i2l, 1) := by decide +kernel
theorem dX10_isOne_24 : decode cX10_isOne 24 = .ok (.invokestatic 103, 3) := by decide +kernel
theorem dX10_isOne_27 : decode cX10_isOne 27 = .ok (.ifCond .eq 37, 3) := by decide +kernel
theorem dX10_isOne_30 : decode cX10_isOne 30 = .ok (.lload_n 1, 1) := by decide +kernel
theorem dX10_isOne_31 : decode cX10_isOne 31 = .ok (.lload_n 3, 1) := by decide +kernel
theorem dX10_isOne_32 : decode cX10_isOne 32 = .ok (.lcmp, 1) := by decide +kernel
theorem dX10_isOne_33 : decode cX10_isOne 33 = .ok (.ifCond .eq 31, 3) := by decide +kernel
theorem dX10_isOne_36 : decode cX10_isOne 36 = .ok (.lload 5, 2) := by decide +kernel
theorem dX10_isOne_38 : decode cX10_isOne 38 = .ok (.lconst 1, 1) := by decide +kernel
theorem dX10_isOne_39 : decode cX10_isOne 39 = .ok (.ldc2_w 116, 3) := by decide +kernel
theorem dX10_isOne_42 : decode cX10_isOne 42 = .ok (.invokestatic 103, 3) := by decide +kernel
theorem dX10_isOne_45 : decode cX10_isOne 45 = .ok (.ifCond .eq 19, 3) := by decide +kernel
theorem dX10_isOne_48 : decode cX10_isOne 48 = .ok (.lload 7, 2) := by decide +kernel
theorem dX10_isOne_50 : decode cX10_isOne 50 = .ok (.lconst 0, 1) := by decide +kernel
theorem dX10_isOne_51 : decode cX10_isOne 51 = .ok (.ldc2_w 118, 3) := by decide +kernel
theorem dX10_isOne_54 : decode cX10_isOne 54 = .ok (.invokestatic 103, 3) := by decide +kernel
theorem dX10_isOne_57 : decode cX10_isOne 57 = .ok (.ifCond .eq 7, 3) := by decide +kernel
theorem dX10_isOne_60 : decode cX10_isOne 60 = .ok (.iconst 1, 1) := by decide +kernel
theorem dX10_isOne_61 : decode cX10_isOne 61 = .ok (.goto 4, 3) := by decide +kernel
theorem dX10_isOne_64 : decode cX10_isOne 64 = .ok (.iconst 0, 1) := by decide +kernel
theorem dX10_isOne_65 : decode cX10_isOne 65 = .ok (.ireturn, 1) := by decide +kernel
theorem dX10_adds_0 : decode cX10_adds 0 = .ok (.aload_n 0, 1) := by decide +kernel
theorem dX10_adds_1 : decode cX10_adds 1 = .ok (.getfield 22, 3) := by decide +kernel
theorem dX10_adds_4 : decode cX10_adds 4 = .ok (.iconst 5, 1) := by decide +kernel
theorem dX10_adds_5 : decode cX10_adds 5 = .ok (.aload_n 0, 1) := by decide +kernel
theorem dX10_adds_6 : decode cX10_adds 6 = .ok (.getfield 111, 3) := by decide +kernel
theorem dX10_adds_9 : decode cX10_adds 9 = .ok (.imul, 1) := by decide +kernel
theorem dX10_adds_10 : decode cX10_adds 10 = .ok (.iload_n 1, 1) := by decide +kernel
theorem dX10_adds_11 : decode cX10_adds 11 = .ok (.iastore, 1) := by decide +kernel
theorem dX10_adds_12 : decode cX10_adds 12 = .ok (.aload_n 0, 1) := by decide +kernel
theorem dX10_adds_13 : decode cX10_adds 13 = .ok (.getfield 22, 3) := by decide +kernel
theorem dX10_adds_16 : decode cX10_adds 16 = .ok (.iconst 5, 1) := by decide +kernel
theorem dX10_adds_17 : decode cX10_adds 17 = .ok (.aload_n 0, 1) := by decide +kernel
theorem dX10_adds_18 : decode cX10_adds 18 = .ok (.getfield 111, 3) := by decide +kernel
theorem dX10_adds_21 : decode cX10_adds 21 = .ok (.imul, 1) := by decide +kernel
theorem dX10_adds_22 : decode cX10_adds 22 = .ok (.iconst 1, 1) := by decide +kernel
theorem dX10_adds_23 : decode cX10_adds 23 = .ok (.iadd, 1) := by decide +kernel
theorem dX10_adds_24 : decode cX10_adds 24 = .ok (.iload_n 2, 1) := by decide +kernel
theorem dX10_adds_25 : decode cX10_adds 25 = .ok (.iastore, 1) := by decide +kernel
theorem dX10_adds_26 : decode cX10_adds 26 = .ok (.aload_n 0, 1) := by decide +kernel
theorem dX10_adds_27 : decode cX10_adds 27 = .ok (.getfield 22, 3) := by decide +kernel
theorem dX10_adds_30 : decode cX10_adds 30 = .ok (.iconst 5, 1) := by decide +kernel
theorem dX10_adds_31 : decode cX10_adds 31 = .ok (.aload_n 0, 1) := by decide +kernel
theorem dX10_adds_32 : decode cX10_adds 32 = .ok (.getfield 111, 3) := by decide +kernel
theorem dX10_adds_35 : decode cX10_adds 35 = .ok (.imul, 1) := by decide +kernel
theorem dX10_adds_36 : decode cX10_adds 36 = .ok (.iconst 2, 1) := by decide +kernel
theorem dX10_adds_37 : decode cX10_adds 37 = .ok (.iadd, 1) := by decide +kernel
theorem dX10_adds_38 : decode cX10_adds 38 = .ok (.iload_n 3, 1) := by decide +kernel
theorem dX10_adds_39 : decode cX10_adds 39 = .ok (.iastore, 1) := by decide +kernel
theorem dX10_adds_40 : decode cX10_adds 40 = .ok (.aload_n 0, 1) := by decide +kernel
theorem dX10_adds_41 : decode cX10_adds 41 = .ok (.getfield 22, 3) := by decide +kernel
theorem dX10_adds_44 : decode cX10_adds 44 = .ok (.iconst 5, 1) := by decide +kernel
theorem dX10_adds_45 : decode cX10_adds 45 = .ok (.aload_n 0, 1) := by decide +kernel
theorem dX10_adds_46 : decode cX10_adds 46 = .ok (.getfield 111, 3) := by decide +kernel
theorem dX10_adds_49 : decode cX10_adds 49 = .ok (.imul, 1) := by decide +kernel
theorem dX10_adds_50 : decode cX10_adds 50 = .ok (.iconst 3, 1) := by decide +kernel
theorem dX10_adds_51 : decode cX10_adds 51 = .ok (.iadd, 1) := by decide +kernel
theorem dX10_adds_52 : decode cX10_adds 52 = .ok (.iload 4, 2) := by decide +kernel
theorem dX10_adds_54 : decode cX10_adds 54 = .ok (.iastore, 1) := by decide +kernel
theorem dX10_adds_55 : decode cX10_adds 55 = .ok (.aload_n 0, 1) := by decide +kernel
theorem dX10_adds_56 : decode cX10_adds 56 = .ok (.getfield 22, 3) := by decide +kernel
theorem dX10_adds_59 : decode cX10_adds 59 = .ok (.iconst 5, 1) := by decide +kernel
theorem dX10_adds_60 : decode cX10_adds 60 = .ok (.aload_n 0, 1) := by decide +kernel
theorem dX10_adds_61 : decode cX10_adds 61 = .ok (.getfield 111, 3) := by decide +kernel
theorem dX10_adds_64 : decode cX10_adds 64 = .ok (.imul, 1) := by decide +kernel
theorem dX10_adds_65 : decode cX10_adds 65 = .ok (.iconst 4, 1) := by decide +kernel
theorem dX10_adds_66 : decode cX10_adds 66 = .ok (.iadd, 1) := by decide +kernel
theorem dX10_adds_67 : decode cX10_adds 67 = .ok (.iconst 0, 1) := by decide +kernel
theorem dX10_adds_68 : decode cX10_adds 68 = .ok (.iastore, 1) := by decide +kernel
theorem dX10_adds_69 : decode cX10_adds 69 = .ok (.aload_n 0, 1) := by decide +kernel
theorem dX10_adds_70 : decode cX10_adds 70 = .ok (.dup, 1) := by decide +kernel
theorem dX10_adds_71 : decode cX10_adds 71 = .ok (.getfield 111, 3) := by decide +kernel
theorem dX10_adds_74 : decode cX10_adds 74 = .ok (.iconst 1, 1) := by decide +kernel
theorem dX10_adds_75 : decode cX10_adds 75 = .ok (.iadd, 1) := by decide +kernel
theorem dX10_adds_76 : decode cX10_adds 76 = .ok (.putfield 111, 3) := by decide +kernel
theorem dX10_adds_79 : decode cX10_adds 79 = .ok (.return_, 1) := by decide +kernel
theorem dX10_debt_0 : decode cX10_debt 0 = .ok (.iload_n 1, 1) := by decide +kernel
theorem dX10_debt_1 : decode cX10_debt 1 = .ok (.ifCond .lt 34, 3) := by decide +kernel
theorem dX10_debt_4 : decode cX10_debt 4 = .ok (.iload_n 2, 1) := by decide +kernel
theorem dX10_debt_5 : decode cX10_debt 5 = .ok (.ifCond .lt 30, 3) := by decide +kernel
theorem dX10_debt_8 : decode cX10_debt 8 = .ok (.aload_n 0, 1) := by decide +kernel
theorem dX10_debt_9 : decode cX10_debt 9 = .ok (.iload_n 1, 1) := by decide +kernel
theorem dX10_debt_10 : decode cX10_debt 10 = .ok (.bipush 10, 2) := by decide +kernel
theorem dX10_debt_12 : decode cX10_debt 12 = .ok (.idiv, 1) := by decide +kernel
theorem dX10_debt_13 : decode cX10_debt 13 = .ok (.i2l, 1) := by decide +kernel
theorem dX10_debt_14 : decode cX10_debt 14 = .ok (.iload_n 1, 1) := by decide +kernel
theorem dX10_debt_15 : decode cX10_debt 15 = .ok (.bipush 10, 2) := by decide +kernel
theorem dX10_debt_17 : decode cX10_debt 17 = .ok (.irem, 1) := by decide +kernel
theorem dX10_debt_18 : decode cX10_debt 18 = .ok (.i2l, 1) := by decide +kernel
theorem dX10_debt_19 : decode cX10_debt 19 = .ok (.iload_n 2, 1) := by decide +kernel
theorem dX10_debt_20 : decode cX10_debt 20 = .ok (.bipush 100, 2) := by decide +kernel
theorem dX10_debt_22 : decode cX10_debt 22 = .ok (.idiv, 1) := by decide +kernel
theorem dX10_debt_23 : decode cX10_debt 23 = .ok (.i2l, 1) := by decide +kernel
theorem dX10_debt_24 : decode cX10_debt 24 = .ok (.iload_n 2, 1) := by decide +kernel
theorem dX10_debt_25 : decode cX10_debt 25 = .ok (.bipush 100, 2) := by decide +kernel
theorem dX10_debt_27 : decode cX10_debt 27 = .ok (.irem, 1) := by decide +kernel
theorem dX10_debt_28 : decode cX10_debt 28 = .ok (.i2l, 1) := by decide +kernel
theorem dX10_debt_29 : decode cX10_debt 29 = .ok (.invokevirtual 120, 3) := by decide +kernel
theorem dX10_debt_32 : decode cX10_debt 32 = .ok (.ifCond .ne 5, 3) := by decide +kernel
theorem dX10_debt_35 : decode cX10_debt 35 = .ok (.iconst (-1), 1) := by decide +kernel
theorem dX10_debt_36 : decode cX10_debt 36 = .ok (.ireturn, 1) := by decide +kernel
theorem dX10_debt_37 : decode cX10_debt 37 = .ok (.aload_n 0, 1) := by decide +kernel
theorem dX10_debt_38 : decode cX10_debt 38 = .ok (.getfield 111, 3) := by decide +kernel
theorem dX10_debt_41 : decode cX10_debt 41 = .ok (.bipush 20, 2) := by decide +kernel
theorem dX10_debt_43 : decode cX10_debt 43 = .ok (.if_icmp .ne 6, 3) := by decide +kernel
theorem dX10_debt_46 : decode cX10_debt 46 = .ok (.bipush (-3), 2) := by decide +kernel
theorem dX10_debt_48 : decode cX10_debt 48 = .ok (.ireturn, 1) := by decide +kernel
theorem dX10_debt_49 : decode cX10_debt 49 = .ok (.aload_n 0, 1) := by decide +kernel
theorem dX10_debt_50 : decode cX10_debt 50 = .ok (.iload_n 1, 1) := by decide +kernel
theorem dX10_debt_51 : decode cX10_debt 51 = .ok (.bipush 10, 2) := by decide +kernel
theorem dX10_debt_53 : decode cX10_debt 53 = .ok (.idiv, 1) := by decide +kernel
theorem dX10_debt_54 : decode cX10_debt 54 = .ok (.iload_n 1, 1) := by decide +kernel
theorem dX10_debt_55 : decode cX10_debt 55 = .ok (.bipush 10, 2) := by decide +kernel
theorem dX10_debt_57 : decode cX10_debt 57 = .ok (.irem, 1) := by decide +kernel
theorem dX10_debt_58 : decode cX10_debt 58 = .ok (.iload_n 2, 1) := by decide +kernel
theorem dX10_debt_59 : decode cX10_debt 59 = .ok (.bipush 100, 2) := by decide +kernel
theorem dX10_debt_61 : decode cX10_debt 61 = .ok (.idiv, 1) := by decide +kernel
theorem dX10_debt_62 : decode cX10_debt 62 = .ok (.iload_n 2, 1) := by decide +kernel
theorem dX10_debt_63 : decode cX10_debt 63 = .ok (.bipush 100, 2) := by decide +kernel
theorem dX10_debt_65 : decode cX10_debt 65 = .ok (.irem, 1) := by decide +kernel
theorem dX10_debt_66 : decode cX10_debt 66 = .ok (.invokevirtual 124, 3) := by decide +kernel
theorem dX10_debt_69 : decode cX10_debt 69 = .ok (.aload_n 0, 1) := by decide +kernel
theorem dX10_debt_70 : decode cX10_debt 70 = .ok (.getfield 111, 3) := by decide +kernel
theorem dX10_debt_73 : decode cX10_debt 73 = .ok (.iconst 1, 1) := by decide +kernel
theorem dX10_debt_74 : decode cX10_debt 74 = .ok (.isub, 1) := by decide +kernel
theorem dX10_debt_75 : decode cX10_debt 75 = .ok (.ireturn, 1) := by decide +kernel
theorem dX10_debts_0 : decode cX10_debts 0 = .ok (.iload_n 1, 1) := by decide +kernel
theorem dX10_debts_1 : decode cX10_debts 1 = .ok (.invokestatic 128, 3) := by decide +kernel
theorem dX10_debts_4 : decode cX10_debts 4 = .ok (.ifCond .eq 15, 3) := by decide +kernel
theorem dX10_debts_7 : decode cX10_debts 7 = .ok (.iload_n 3, 1) := by decide +kernel
theorem dX10_debts_8 : decode cX10_debts 8 = .ok (.i2l, 1) := by decide +kernel
theorem dX10_debts_9 : decode cX10_debts 9 = .ok (.lconst 1, 1) := by decide +kernel
theorem dX10_debts_10 : decode cX10_debts 10 = .ok (.ldc2_w 131, 3) := by decide +kernel
theorem dX10_debts_13 : decode cX10_debts 13 = .ok (.invokestatic 103, 3) := by decide +kernel
theorem dX10_debts_16 : decode cX10_debts 16 = .ok (.ifCond .ne 5, 3) := by decide +kernel
theorem dX10_debts_19 : decode cX10_debts 19 = .ok (.iconst (-1), 1) := by decide +kernel
theorem dX10_debts_20 : decode cX10_debts 20 = .ok (.ireturn, 1) := by decide +kernel
theorem dX10_debts_21 : decode cX10_debts 21 = .ok (.aload_n 0, 1) := by decide +kernel
theorem dX10_debts_22 : decode cX10_debts 22 = .ok (.getfield 77, 3) := by decide +kernel
theorem dX10_debts_25 : decode cX10_debts 25 = .ok (.iload_n 1, 1) := by decide +kernel
theorem dX10_debts_26 : decode cX10_debts 26 = .ok (.iaload, 1) := by decide +kernel
theorem dX10_debts_27 : decode cX10_debts 27 = .ok (.ifCond .lt 17, 3) := by decide +kernel
theorem dX10_debts_30 : decode cX10_debts 30 = .ok (.aload_n 0, 1) := by decide +kernel
theorem dX10_debts_31 : decode cX10_debts 31 = .ok (.getfield 77, 3) := by decide +kernel
theorem dX10_debts_34 : decode cX10_debts 34 = .ok (.iload_n 1, 1) := by decide +kernel
theorem dX10_debts_35 : decode cX10_debts 35 = .ok (.iaload, 1) := by decide +kernel
theorem dX10_debts_36 : decode cX10_debts 36 = .ok (.bipush 50, 2) := by decide +kernel
theorem dX10_debts_38 : decode cX10_debts 38 = .ok (.if_icmp .eq 6, 3) := by decide +kernel
theorem dX10_debts_41 : decode cX10_debts 41 = .ok (.bipush (-12), 2) := by decide +kernel
theorem dX10_debts_43 : decode cX10_debts 43 = .ok (.ireturn, 1) := by decide +kernel
theorem dX10_debts_44 : decode cX10_debts 44 = .ok (.iconst 0, 1) := by decide +kernel
theorem dX10_debts_45 : decode cX10_debts 45 = .ok (.istore 4, 2) := by decide +kernel
theorem dX10_debts_47 : decode cX10_debts 47 = .ok (.aload_n 0, 1) := by decide +kernel
theorem dX10_debts_48 : decode cX10_debts 48 = .ok (.getfield 77, 3) := by decide +kernel
theorem dX10_debts_51 : decode cX10_debts 51 = .ok (.iload_n 1, 1) := by decide +kernel
theorem dX10_debts_52 : decode cX10_debts 52 = .ok (.iaload, 1) := by decide +kernel
theorem dX10_debts_53 : decode cX10_debts 53 = .ok (.bipush 50, 2) := by decide +kernel
theorem dX10_debts_55 : decode cX10_debts 55 = .ok (.if_icmp .ne 11, 3) := by decide +kernel
theorem dX10_debts_58 : decode cX10_debts 58 = .ok (.iload_n 2, 1) := by decide +kernel
theorem dX10_debts_59 : decode cX10_debts 59 = .ok (.ifCond .lt 7, 3) := by decide +kernel
theorem dX10_debts_62 : decode cX10_debts 62 = .ok (.iconst 1, 1) := by decide +kernel
theorem dX10_debts_63 : decode cX10_debts 63 = .ok (.goto 4, 3) := by decide +kernel
theorem dX10_debts_66 : decode cX10_debts 66 = .ok (.iconst 0, 1) := by decide +kernel
theorem dX10_debts_67 : decode cX10_debts 67 = .ok (.istore 5, 2) := by decide +kernel
theorem dX10_debts_69 : decode cX10_debts 69 = .ok (.iload 5, 2) := by decide +kernel
theorem dX10_debts_71 : decode cX10_debts 71 = .ok (.ifCond .eq 161, 3) := by decide +kernel
theorem dX10_debts_74 : decode cX10_debts 74 = .ok (.iload 4, 2) := by decide +kernel
theorem dX10_debts_76 : decode cX10_debts 76 = .ok (.iload_n 3, 1) := by decide +kernel
theorem dX10_debts_77 : decode cX10_debts 77 = .ok (.if_icmp .ge 155, 3) := by decide +kernel
theorem dX10_debts_80 : decode cX10_debts 80 = .ok (.iload_n 2, 1) := by decide +kernel
theorem dX10_debts_81 : decode cX10_debts 81 = .ok (.aload_n 0, 1) := by decide +kernel
theorem dX10_debts_82 : decode cX10_debts 82 = .ok (.getfield 80, 3) := by decide +kernel
theorem dX10_debts_85 : decode cX10_debts 85 = .ok (.iload_n 1, 1) := by decide +kernel
theorem dX10_debts_86 : decode cX10_debts 86 = .ok (.iaload, 1) := by decide +kernel
theorem dX10_debts_87 : decode cX10_debts 87 = .ok (.iconst 4, 1) := by decide +kernel
theorem dX10_debts_88 : decode cX10_debts 88 = .ok (.isub, 1) := by decide +kernel
theorem dX10_debts_89 : decode cX10_debts 89 = .ok (.iconst 4, 1) := by decide +kernel
theorem dX10_debts_90 : decode cX10_debts 90 = .ok (.iload 4, 2) := by decide +kernel
theorem dX10_debts_92 : decode cX10_debts 92 = .ok (.imul, 1) := by decide +kernel
theorem dX10_debts_93 : decode cX10_debts 93 = .ok (.isub, 1) := by decide +kernel
theorem dX10_debts_94 : decode cX10_debts 94 = .ok (.if_icmp .gt 16, 3) := by decide +kernel
theorem dX10_debts_97 : decode cX10_debts 97 = .ok (.aload_n 0, 1) := by decide +kernel
theorem dX10_debts_98 : decode cX10_debts 98 = .ok (.getfield 111, 3) := by decide +kernel
theorem dX10_debts_101 : decode cX10_debts 101 = .ok (.bipush 20, 2) := by decide +kernel
theorem dX10_debts_103 : decode cX10_debts 103 = .ok (.if_icmp .ge 7, 3) := by decide +kernel
theorem dX10_debts_106 : decode cX10_debts 106 = .ok (.iconst 1, 1) := by decide +kernel
theorem dX10_debts_107 : decode cX10_debts 107 = .ok (.goto 4, 3) := by decide +kernel
theorem dX10_debts_110 : decode cX10_debts 110 = .ok (.iconst 0, 1) := by decide +kernel
theorem dX10_debts_111 : decode cX10_debts 111 = .ok (.istore 5, 2) := by decide +kernel
theorem dX10_debts_113 : decode cX10_debts 113 = .ok (.bipush 60, 2) := by decide +kernel
theorem dX10_debts_115 : decode cX10_debts 115 = .ok (.iload_n 1, 1) := by decide +kernel
theorem dX10_debts_116 : decode cX10_debts 116 = .ok (.imul, 1) := by decide +kernel
theorem dX10_debts_117 : decode cX10_debts 117 = .ok (.iload_n 2, 1) := by decide +kernel
theorem dX10_debts_118 : decode cX10_debts 118 = .ok (.iadd, 1) := by decide +kernel
theorem dX10_debts_119 : decode cX10_debts 119 = .ok (.iconst 4, 1) := by decide +kernel
theorem dX10_debts_120 : decode cX10_debts 120 = .ok (.iload 4, 2) := by decide +kernel
theorem dX10_debts_122 : decode cX10_debts 122 = .ok (.imul, 1) := by decide +kernel
theorem dX10_debts_123 : decode cX10_debts 123 = .ok (.iadd, 1) := by decide +kernel
theorem dX10_debts_124 : decode cX10_debts 124 = .ok (.istore 6, 2) := by decide +kernel
theorem dX10_debts_126 : decode cX10_debts 126 = .ok (.iload 5, 2) := by decide +kernel
theorem dX10_debts_128 : decode cX10_debts 128 = .ok (.ifCond .eq 48, 3) := by decide +kernel
theorem dX10_debts_131 : decode cX10_debts 131 = .ok (.aload_n 0, 1) := by decide +kernel
theorem dX10_debts_132 : decode cX10_debts 132 = .ok (.aload_n 0, 1) := by decide +kernel
theorem dX10_debts_133 : decode cX10_debts 133 = .ok (.getfield 83, 3) := by decide +kernel
theorem dX10_debts_136 : decode cX10_debts 136 = .ok (.iload 6, 2) := by decide +kernel
theorem dX10_debts_138 : decode cX10_debts 138 = .ok (.laload, 1) := by decide +kernel
theorem dX10_debts_139 : decode cX10_debts 139 = .ok (.aload_n 0, 1) := by decide +kernel
theorem dX10_debts_140 : decode cX10_debts 140 = .ok (.getfield 83, 3) := by decide +kernel
theorem dX10_debts_143 : decode cX10_debts 143 = .ok (.iload 6, 2) := by decide +kernel
theorem dX10_debts_145 : decode cX10_debts 145 = .ok (.iconst 1, 1) := by decide +kernel
theorem dX10_debts_146 : decode cX10_debts 146 = .ok (.iadd, 1) := by decide +kernel
theorem dX10_debts_147 : decode cX10_debts 147 = .ok (.laload, 1) := by decide +kernel
theorem dX10_debts_148 : decode cX10_debts 148 = .ok (.aload_n 0, 1) := by decide +kernel
theorem dX10_debts_149 : decode cX10_debts 149 = .ok (.getfield 83, 3) := by decide +kernel
theorem dX10_debts_152 : decode cX10_debts 152 = .ok (.iload 6, 2) := by decide +kernel
theorem dX10_debts_154 : decode cX10_debts 154 = .ok (.iconst 2, 1) := by decide +kernel
theorem dX10_debts_155 : decode cX10_debts 155 = .ok (.iadd, 1) := by decide +kernel
theorem dX10_debts_156 : decode cX10_debts 156 = .ok (.laload, 1) := by decide +kernel
theorem dX10_debts_157 : decode cX10_debts 157 = .ok (.aload_n 0, 1) := by decide +kernel
theorem dX10_debts_158 : decode cX10_debts 158 = .ok (.getfield 83, 3) := by decide +kernel
theorem dX10_debts_161 : decode cX10_debts 161 = .ok (.iload 6, 2) := by decide +kernel
theorem dX10_debts_163 : decode cX10_debts 163 = .ok (.iconst 3, 1) := by decide +kernel
theorem dX10_debts_164 : decode cX10_debts 164 = .ok (.iadd, 1) := by decide +kernel
theorem dX10_debts_165 : decode cX10_debts 165 = .ok (.laload, 1) := by decide +kernel
theorem dX10_debts_166 : decode cX10_debts 166 = .ok (.invokevirtual 120, 3) := by decide +kernel
theorem dX10_debts_169 : decode cX10_debts 169 = .ok (.ifCond .eq 7, 3) := by decide +kernel
theorem dX10_debts_172 : decode cX10_debts 172 = .ok (.iconst 1, 1) := by decide +kernel
theorem dX10_debts_173 : decode cX10_debts 173 = .ok (.goto 4, 3) := by decide +kernel
theorem dX10_debts_176 : decode cX10_debts 176 = .ok (.iconst 0, 1) := by decide +kernel
theorem dX10_debts_177 : decode cX10_debts 177 = .ok (.istore 5, 2) := by decide +kernel
theorem dX10_debts_179 : decode cX10_debts 179 = .ok (.iload 5, 2) := by decide +kernel
theorem dX10_debts_181 : decode cX10_debts 181 = .ok (.ifCond .eq 48, 3) := by decide +kernel
theorem dX10_debts_184 : decode cX10_debts 184 = .ok (.aload_n 0, 1) := by decide +kernel
theorem dX10_debts_185 : decode cX10_debts 185 = .ok (.aload_n 0, 1) := by decide +kernel
theorem dX10_debts_186 : decode cX10_debts 186 = .ok (.getfield 83, 3) := by decide +kernel
theorem dX10_debts_189 : decode cX10_debts 189 = .ok (.iload 6, 2) := by decide +kernel
theorem dX10_debts_191 : decode cX10_debts 191 = .ok (.laload, 1) := by decide +kernel
theorem dX10_debts_192 : decode cX10_debts 192 = .ok (.l2i, 1) := by decide +kernel
theorem dX10_debts_193 : decode cX10_debts 193 = .ok (.aload_n 0, 1) := by decide +kernel
theorem dX10_debts_194 : decode cX10_debts 194 = .ok (.getfield 83, 3) := by decide +kernel
theorem dX10_debts_197 : decode cX10_debts 197 = .ok (.iload 6, 2) := by decide +kernel
theorem dX10_debts_199 : decode cX10_debts 199 = .ok (.iconst 1, 1) := by decide +kernel
theorem dX10_debts_200 : decode cX10_debts 200 = .ok (.iadd, 1) := by decide +kernel
theorem dX10_debts_201 : decode cX10_debts 201 = .ok (.laload, 1) := by decide +kernel
theorem dX10_debts_202 : decode cX10_debts 202 = .ok (.l2i, 1) := by decide +kernel
theorem dX10_debts_203 : decode cX10_debts 203 = .ok (.aload_n 0, 1) := by decide +kernel
theorem dX10_debts_204 : decode cX10_debts 204 = .ok (.getfield 83, 3) := by decide +kernel
theorem dX10_debts_207 : decode cX10_debts 207 = .ok (.iload 6, 2) := by decide +kernel
theorem dX10_debts_209 : decode cX10_debts 209 = .ok (.iconst 2, 1) := by decide +kernel
theorem dX10_debts_210 : decode cX10_debts 210 = .ok (.iadd, 1) := by decide +kernel
theorem dX10_debts_211 : decode cX10_debts 211 = .ok (.laload, 1) := by decide +kernel
theorem dX10_debts_212 : decode cX10_debts 212 = .ok (.l2i, 1) := by decide +kernel
theorem dX10_debts_213 : decode cX10_debts 213 = .ok (.aload_n 0, 1) := by decide +kernel
theorem dX10_debts_214 : decode cX10_debts 214 = .ok (.getfield 83, 3) := by decide +kernel
theorem dX10_debts_217 : decode cX10_debts 217 = .ok (.iload 6, 2) := by decide +kernel
theorem dX10_debts_219 : decode cX10_debts 219 = .ok (.iconst 3, 1) := by decide +kernel
theorem dX10_debts_220 : decode cX10_debts 220 = .ok (.iadd, 1) := by decide +kernel
theorem dX10_debts_221 : decode cX10_debts 221 = .ok (.laload, 1) := by decide +kernel
theorem dX10_debts_222 : decode cX10_debts 222 = .ok (.l2i, 1) := by decide +kernel
theorem dX10_debts_223 : decode cX10_debts 223 = .ok (.invokevirtual 124, 3) := by decide +kernel
theorem dX10_debts_226 : decode cX10_debts 226 = .ok (.iinc 4 1, 3) := by decide +kernel
theorem dX10_debts_229 : decode cX10_debts 229 = .ok (.goto (-160), 3) := by decide +kernel
theorem dX10_debts_232 : decode cX10_debts 232 = .ok (.iload 4, 2) := by decide +kernel
theorem dX10_debts_234 : decode cX10_debts 234 = .ok (.ireturn, 1) := by decide +kernel
theorem dX10_mend_0 : decode cX10_mend 0 = .ok (.iload_n 2, 1) := by decide +kernel
theorem dX10_mend_1 : decode cX10_mend 1 = .ok (.tableswitch 156 0 3 #[31, 66, 100, 128], 31) := by decide +kernel
theorem dX10_mend_32 : decode cX10_mend 32 = .ok (.iload_n 1, 1) := by decide +kernel
theorem dX10_mend_33 : decode cX10_mend 33 = .ok (.i2l, 1) := by decide +kernel
theorem dX10_mend_34 : decode cX10_mend 34 = .ok (.lconst 0, 1) := by decide +kernel
theorem dX10_mend_35 : decode cX10_mend 35 = .ok (.ldc2_w 133, 3) := by decide +kernel
theorem dX10_mend_38 : decode cX10_mend 38 = .ok (.invokestatic 103, 3) := by decide +kernel
theorem dX10_mend_41 : decode cX10_mend 41 = .ok (.ifCond .eq 24, 3) := by decide +kernel
theorem dX10_mend_44 : decode cX10_mend 44 = .ok (.iload_n 3, 1) := by decide +kernel
theorem dX10_mend_45 : decode cX10_mend 45 = .ok (.i2l, 1) := by decide +kernel
theorem dX10_mend_46 : decode cX10_mend 46 = .ok (.lconst 1, 1) := by decide +kernel
theorem dX10_mend_47 : decode cX10_mend 47 = .ok (.ldc2_w 116, 3) := by decide +kernel
theorem dX10_mend_50 : decode cX10_mend 50 = .ok (.invokestatic 103, 3) := by decide +kernel
theorem dX10_mend_53 : decode cX10_mend 53 = .ok (.ifCond .eq 12, 3) := by decide +kernel
theorem dX10_mend_56 : decode cX10_mend 56 = .ok (.aload_n 0, 1) := by decide +kernel
theorem dX10_mend_57 : decode cX10_mend 57 = .ok (.iload_n 1, 1) := by decide +kernel
theorem dX10_mend_58 : decode cX10_mend 58 = .ok (.iload_n 3, 1) := by decide +kernel
theorem dX10_mend_59 : decode cX10_mend 59 = .ok (.invokevirtual 135, 3) := by decide +kernel
theorem dX10_mend_62 : decode cX10_mend 62 = .ok (.goto 4, 3) := by decide +kernel
theorem dX10_mend_65 : decode cX10_mend 65 = .ok (.iconst (-1), 1) := by decide +kernel
theorem dX10_mend_66 : decode cX10_mend 66 = .ok (.ireturn, 1) := by decide +kernel
theorem dX10_mend_67 : decode cX10_mend 67 = .ok (.aload_n 0, 1) := by decide +kernel
theorem dX10_mend_68 : decode cX10_mend 68 = .ok (.iload_n 1, 1) := by decide +kernel
theorem dX10_mend_69 : decode cX10_mend 69 = .ok (.invokevirtual 107, 3) := by decide +kernel
theorem dX10_mend_72 : decode cX10_mend 72 = .ok (.ifCond .eq 27, 3) := by decide +kernel
theorem dX10_mend_75 : decode cX10_mend 75 = .ok (.iload_n 3, 1) := by decide +kernel
theorem dX10_mend_76 : decode cX10_mend 76 = .ok (.i2l, 1) := by decide +kernel
theorem dX10_mend_77 : decode cX10_mend 77 = .ok (.lconst 1, 1) := by decide +kernel
theorem dX10_mend_78 : decode cX10_mend 78 = .ok (.ldc2_w 116, 3) := by decide +kernel
theorem dX10_mend_81 : decode cX10_mend 81 = .ok (.invokestatic 103, 3) := by decide +kernel
theorem dX10_mend_84 : decode cX10_mend 84 = .ok (.ifCond .eq 15, 3) := by decide +kernel
theorem dX10_mend_87 : decode cX10_mend 87 = .ok (.aload_n 0, 1) := by decide +kernel
theorem dX10_mend_88 : decode cX10_mend 88 = .ok (.bipush 12, 2) := by decide +kernel
theorem dX10_mend_90 : decode cX10_mend 90 = .ok (.iload_n 1, 1) := by decide +kernel
theorem dX10_mend_91 : decode cX10_mend 91 = .ok (.iadd, 1) := by decide +kernel
theorem dX10_mend_92 : decode cX10_mend 92 = .ok (.iload_n 3, 1) := by decide +kernel
theorem dX10_mend_93 : decode cX10_mend 93 = .ok (.invokevirtual 135, 3) := by decide +kernel
theorem dX10_mend_96 : decode cX10_mend 96 = .ok (.goto 4, 3) := by decide +kernel
theorem dX10_mend_99 : decode cX10_mend 99 = .ok (.iconst (-1), 1) := by decide +kernel
theorem dX10_mend_100 : decode cX10_mend 100 = .ok (.ireturn, 1) := by decide +kernel
theorem dX10_mend_101 : decode cX10_mend 101 = .ok (.iload_n 1, 1) := by decide +kernel
theorem dX10_mend_102 : decode cX10_mend 102 = .ok (.ifCond .ne 25, 3) := by decide +kernel
theorem dX10_mend_105 : decode cX10_mend 105 = .ok (.iload_n 3, 1) := by decide +kernel
theorem dX10_mend_106 : decode cX10_mend 106 = .ok (.i2l, 1) := by decide +kernel
theorem dX10_mend_107 : decode cX10_mend 107 = .ok (.lconst 0, 1) := by decide +kernel
theorem dX10_mend_108 : decode cX10_mend 108 = .ok (.ldc2_w 139, 3) := by decide +kernel
theorem dX10_mend_111 : decode cX10_mend 111 = .ok (.invokestatic 103, 3) := by decide +kernel
theorem dX10_mend_114 : decode cX10_mend 114 = .ok (.ifCond .eq 13, 3) := by decide +kernel
theorem dX10_mend_117 : decode cX10_mend 117 = .ok (.aload_n 0, 1) := by decide +kernel
theorem dX10_mend_118 : decode cX10_mend 118 = .ok (.bipush 20, 2) := by decide +kernel
theorem dX10_mend_120 : decode cX10_mend 120 = .ok (.iload_n 3, 1) := by decide +kernel
theorem dX10_mend_121 : decode cX10_mend 121 = .ok (.invokevirtual 135, 3) := by decide +kernel
theorem dX10_mend_124 : decode cX10_mend 124 = .ok (.goto 4, 3) := by decide +kernel
theorem dX10_mend_127 : decode cX10_mend 127 = .ok (.iconst (-1), 1) := by decide +kernel
theorem dX10_mend_128 : decode cX10_mend 128 = .ok (.ireturn, 1) := by decide +kernel
theorem dX10_mend_129 : decode cX10_mend 129 = .ok (.iload_n 1, 1) := by decide +kernel
theorem dX10_mend_130 : decode cX10_mend 130 = .ok (.ifCond .ne 25, 3) := by decide +kernel
theorem dX10_mend_133 : decode cX10_mend 133 = .ok (.iload_n 3, 1) := by decide +kernel
theorem dX10_mend_134 : decode cX10_mend 134 = .ok (.i2l, 1) := by decide +kernel
theorem dX10_mend_135 : decode cX10_mend 135 = .ok (.lconst 0, 1) := by decide +kernel
theorem dX10_mend_136 : decode cX10_mend 136 = .ok (.ldc2_w 118, 3) := by decide +kernel
theorem dX10_mend_139 : decode cX10_mend 139 = .ok (.invokestatic 103, 3) := by decide +kernel
theorem dX10_mend_142 : decode cX10_mend 142 = .ok (.ifCond .eq 13, 3) := by decide +kernel
theorem dX10_mend_145 : decode cX10_mend 145 = .ok (.aload_n 0, 1) := by decide +kernel
theorem dX10_mend_146 : decode cX10_mend 146 = .ok (.bipush 21, 2) := by decide +kernel
theorem dX10_mend_148 : decode cX10_mend 148 = .ok (.iload_n 3, 1) := by decide +kernel
theorem dX10_mend_149 : decode cX10_mend 149 = .ok (.invokevirtual 135, 3) := by decide +kernel
theorem dX10_mend_152 : decode cX10_mend 152 = .ok (.goto 4, 3) := by decide +kernel
theorem dX10_mend_155 : decode cX10_mend 155 = .ok (.iconst (-1), 1) := by decide +kernel
theorem dX10_mend_156 : decode cX10_mend 156 = .ok (.ireturn, 1) := by decide +kernel
theorem dX10_mend_157 : decode cX10_mend 157 = .ok (.iconst (-1), 1) := by decide +kernel
theorem dX10_mend_158 : decode cX10_mend 158 = .ok (.ireturn, 1) := by decide +kernel
theorem dX10_owedBetween_0 : decode cX10_owedBetween 0 = .ok (.iconst 0, 1) := by decide +kernel
theorem dX10_owedBetween_1 : decode cX10_owedBetween 1 = .ok (.istore_n 3, 1) := by decide +kernel
theorem dX10_owedBetween_2 : decode cX10_owedBetween 2 = .ok (.iconst 0, 1) := by decide +kernel
theorem dX10_owedBetween_3 : decode cX10_owedBetween 3 = .ok (.istore 4, 2) := by decide +kernel
theorem dX10_owedBetween_5 : decode cX10_owedBetween 5 = .ok (.iload 4, 2) := by decide +kernel
theorem dX10_owedBetween_7 : decode cX10_owedBetween 7 = .ok (.aload_n 0, 1) := by decide +kernel
theorem dX10_owedBetween_8 : decode cX10_owedBetween 8 = .ok (.getfield 111, 3) := by decide +kernel
theorem dX10_owedBetween_11 : decode cX10_owedBetween 11 = .ok (.if_icmp .ge 55, 3) := by decide +kernel
theorem dX10_owedBetween_14 : decode cX10_owedBetween 14 = .ok (.iload_n 3, 1) := by decide +kernel
theorem dX10_owedBetween_15 : decode cX10_owedBetween 15 = .ok (.aload_n 0, 1) := by decide +kernel
theorem dX10_owedBetween_16 : decode cX10_owedBetween 16 = .ok (.getfield 22, 3) := by decide +kernel
theorem dX10_owedBetween_19 : decode cX10_owedBetween 19 = .ok (.iconst 5, 1) := by decide +kernel
theorem dX10_owedBetween_20 : decode cX10_owedBetween 20 = .ok (.iload 4, 2) := by decide +kernel
theorem dX10_owedBetween_22 : decode cX10_owedBetween 22 = .ok (.imul, 1) := by decide +kernel
theorem dX10_owedBetween_23 : decode cX10_owedBetween 23 = .ok (.iaload, 1) := by decide +kernel
theorem dX10_owedBetween_24 : decode cX10_owedBetween 24 = .ok (.iload_n 1, 1) := by decide +kernel
theorem dX10_owedBetween_25 : decode cX10_owedBetween 25 = .ok (.if_icmp .ne 32, 3) := by decide +kernel
theorem dX10_owedBetween_28 : decode cX10_owedBetween 28 = .ok (.aload_n 0, 1) := by decide +kernel
theorem dX10_owedBetween_29 : decode cX10_owedBetween 29 = .ok (.getfield 22, 3) := by decide +kernel
theorem dX10_owedBetween_32 : decode cX10_owedBetween 32 = .ok (.iconst 5, 1) := by decide +kernel
theorem dX10_owedBetween_33 : decode cX10_owedBetween 33 = .ok (.iload 4, 2) := by decide +kernel
theorem dX10_owedBetween_35 : decode cX10_owedBetween 35 = .ok (.imul, 1) := by decide +kernel
theorem dX10_owedBetween_36 : decode cX10_owedBetween 36 = .ok (.iconst 1, 1) := by decide +kernel
theorem dX10_owedBetween_37 : decode cX10_owedBetween 37 = .ok (.iadd, 1) := by decide +kernel
theorem dX10_owedBetween_38 : decode cX10_owedBetween 38 = .ok (.iaload, 1) := by decide +kernel
theorem dX10_owedBetween_39 : decode cX10_owedBetween 39 = .ok (.iload_n 2, 1) := by decide +kernel
theorem dX10_owedBetween_40 : decode cX10_owedBetween 40 = .ok (.if_icmp .ne 17, 3) := by decide +kernel
theorem dX10_owedBetween_43 : decode cX10_owedBetween 43 = .ok (.aload_n 0, 1) := by decide +kernel
theorem dX10_owedBetween_44 : decode cX10_owedBetween 44 = .ok (.getfield 22, 3) := by decide +kernel
theorem dX10_owedBetween_47 : decode cX10_owedBetween 47 = .ok (.iconst 5, 1) := by decide +kernel
theorem dX10_owedBetween_48 : decode cX10_owedBetween 48 = .ok (.iload 4, 2) := by decide +kernel
theorem dX10_owedBetween_50 : decode cX10_owedBetween 50 = .ok (.imul, 1) := by decide +kernel
theorem dX10_owedBetween_51 : decode cX10_owedBetween 51 = .ok (.iconst 2, 1) := by decide +kernel
theorem dX10_owedBetween_52 : decode cX10_owedBetween 52 = .ok (.iadd, 1) := by decide +kernel
theorem dX10_owedBetween_53 : decode cX10_owedBetween 53 = .ok (.iaload, 1) := by decide +kernel
theorem dX10_owedBetween_54 : decode cX10_owedBetween 54 = .ok (.goto 4, 3) := by decide +kernel
theorem dX10_owedBetween_57 : decode cX10_owedBetween 57 = .ok (.iconst 0, 1) := by decide +kernel
theorem dX10_owedBetween_58 : decode cX10_owedBetween 58 = .ok (.iadd, 1) := by decide +kernel
theorem dX10_owedBetween_59 : decode cX10_owedBetween 59 = .ok (.istore_n 3, 1) := by decide +kernel
theorem dX10_owedBetween_60 : decode cX10_owedBetween 60 = .ok (.iinc 4 1, 3) := by decide +kernel
theorem dX10_owedBetween_63 : decode cX10_owedBetween 63 = .ok (.goto (-58), 3) := by decide +kernel
theorem dX10_owedBetween_66 : decode cX10_owedBetween 66 = .ok (.iload_n 3, 1) := by decide +kernel
theorem dX10_owedBetween_67 : decode cX10_owedBetween 67 = .ok (.ireturn, 1) := by decide +kernel
theorem dX10_sumOf_0 : decode cX10_sumOf 0 = .ok (.iconst 0, 1) := by decide +kernel
theorem dX10_sumOf_1 : decode cX10_sumOf 1 = .ok (.istore_n 3, 1) := by decide +kernel
theorem dX10_sumOf_2 : decode cX10_sumOf 2 = .ok (.iconst 0, 1) := by decide +kernel
theorem dX10_sumOf_3 : decode cX10_sumOf 3 = .ok (.istore 4, 2) := by decide +kernel
theorem dX10_sumOf_5 : decode cX10_sumOf 5 = .ok (.iload 4, 2) := by decide +kernel
theorem dX10_sumOf_7 : decode cX10_sumOf 7 = .ok (.aload_n 0, 1) := by decide +kernel
theorem dX10_sumOf_8 : decode cX10_sumOf 8 = .ok (.getfield 111, 3) := by decide +kernel
theorem dX10_sumOf_11 : decode cX10_sumOf 11 = .ok (.if_icmp .ge 42, 3) := by decide +kernel
theorem dX10_sumOf_14 : decode cX10_sumOf 14 = .ok (.iload_n 3, 1) := by decide +kernel
theorem dX10_sumOf_15 : decode cX10_sumOf 15 = .ok (.aload_n 0, 1) := by decide +kernel
theorem dX10_sumOf_16 : decode cX10_sumOf 16 = .ok (.getfield 22, 3) := by decide +kernel
theorem dX10_sumOf_19 : decode cX10_sumOf 19 = .ok (.iconst 5, 1) := by decide +kernel
theorem dX10_sumOf_20 : decode cX10_sumOf 20 = .ok (.iload 4, 2) := by decide +kernel
theorem dX10_sumOf_22 : decode cX10_sumOf 22 = .ok (.imul, 1) := by decide +kernel
theorem dX10_sumOf_23 : decode cX10_sumOf 23 = .ok (.iload_n 2, 1) := by decide +kernel
theorem dX10_sumOf_24 : decode cX10_sumOf 24 = .ok (.iadd, 1) := by decide +kernel
theorem dX10_sumOf_25 : decode cX10_sumOf 25 = .ok (.iaload, 1) := by decide +kernel
theorem dX10_sumOf_26 : decode cX10_sumOf 26 = .ok (.iload_n 1, 1) := by decide +kernel
theorem dX10_sumOf_27 : decode cX10_sumOf 27 = .ok (.if_icmp .ne 17, 3) := by decide +kernel
theorem dX10_sumOf_30 : decode cX10_sumOf 30 = .ok (.aload_n 0, 1) := by decide +kernel
theorem dX10_sumOf_31 : decode cX10_sumOf 31 = .ok (.getfield 22, 3) := by decide +kernel
theorem dX10_sumOf_34 : decode cX10_sumOf 34 = .ok (.iconst 5, 1) := by decide +kernel
theorem dX10_sumOf_35 : decode cX10_sumOf 35 = .ok (.iload 4, 2) := by decide +kernel
theorem dX10_sumOf_37 : decode cX10_sumOf 37 = .ok (.imul, 1) := by decide +kernel
theorem dX10_sumOf_38 : decode cX10_sumOf 38 = .ok (.iconst 2, 1) := by decide +kernel
theorem dX10_sumOf_39 : decode cX10_sumOf 39 = .ok (.iadd, 1) := by decide +kernel
theorem dX10_sumOf_40 : decode cX10_sumOf 40 = .ok (.iaload, 1) := by decide +kernel
theorem dX10_sumOf_41 : decode cX10_sumOf 41 = .ok (.goto 4, 3) := by decide +kernel
theorem dX10_sumOf_44 : decode cX10_sumOf 44 = .ok (.iconst 0, 1) := by decide +kernel
theorem dX10_sumOf_45 : decode cX10_sumOf 45 = .ok (.iadd, 1) := by decide +kernel
theorem dX10_sumOf_46 : decode cX10_sumOf 46 = .ok (.istore_n 3, 1) := by decide +kernel
theorem dX10_sumOf_47 : decode cX10_sumOf 47 = .ok (.iinc 4 1, 3) := by decide +kernel
theorem dX10_sumOf_50 : decode cX10_sumOf 50 = .ok (.goto (-45), 3) := by decide +kernel
theorem dX10_sumOf_53 : decode cX10_sumOf 53 = .ok (.iload_n 3, 1) := by decide +kernel
theorem dX10_sumOf_54 : decode cX10_sumOf 54 = .ok (.ireturn, 1) := by decide +kernel
theorem dX10_ofPerson_0 : decode cX10_ofPerson 0 = .ok (.iload_n 2, 1) := by decide +kernel
theorem dX10_ofPerson_1 : decode cX10_ofPerson 1 = .ok (.bipush 10, 2) := by decide +kernel
theorem dX10_ofPerson_3 : decode cX10_ofPerson 3 = .ok (.if_icmp .ne 15, 3) := by decide +kernel
theorem dX10_ofPerson_6 : decode cX10_ofPerson 6 = .ok (.aload_n 0, 1) := by decide +kernel
theorem dX10_ofPerson_7 : decode cX10_ofPerson 7 = .ok (.getfield 9, 3) := by decide +kernel
theorem dX10_ofPerson_10 : decode cX10_ofPerson 10 = .ok (.bipush 12, 2) := by decide +kernel
theorem dX10_ofPerson_12 : decode cX10_ofPerson 12 = .ok (.iload_n 1, 1) := by decide +kernel
theorem dX10_ofPerson_13 : decode cX10_ofPerson 13 = .ok (.iadd, 1) := by decide +kernel
theorem dX10_ofPerson_14 : decode cX10_ofPerson 14 = .ok (.iaload, 1) := by decide +kernel
theorem dX10_ofPerson_15 : decode cX10_ofPerson 15 = .ok (.goto 39, 3) := by decide +kernel
theorem dX10_ofPerson_18 : decode cX10_ofPerson 18 = .ok (.iload_n 2, 1) := by decide +kernel
theorem dX10_ofPerson_19 : decode cX10_ofPerson 19 = .ok (.bipush 11, 2) := by decide +kernel
theorem dX10_ofPerson_21 : decode cX10_ofPerson 21 = .ok (.if_icmp .ne 12, 3) := by decide +kernel
theorem dX10_ofPerson_24 : decode cX10_ofPerson 24 = .ok (.aload_n 0, 1) := by decide +kernel
theorem dX10_ofPerson_25 : decode cX10_ofPerson 25 = .ok (.iload_n 1, 1) := by decide +kernel
theorem dX10_ofPerson_26 : decode cX10_ofPerson 26 = .ok (.iconst 0, 1) := by decide +kernel
theorem dX10_ofPerson_27 : decode cX10_ofPerson 27 = .ok (.invokevirtual 141, 3) := by decide +kernel
theorem dX10_ofPerson_30 : decode cX10_ofPerson 30 = .ok (.goto 24, 3) := by decide +kernel
theorem dX10_ofPerson_33 : decode cX10_ofPerson 33 = .ok (.iload_n 2, 1) := by decide +kernel
theorem dX10_ofPerson_34 : decode cX10_ofPerson 34 = .ok (.bipush 12, 2) := by decide +kernel
theorem dX10_ofPerson_36 : decode cX10_ofPerson 36 = .ok (.if_icmp .ne 12, 3) := by decide +kernel
theorem dX10_ofPerson_39 : decode cX10_ofPerson 39 = .ok (.aload_n 0, 1) := by decide +kernel
theorem dX10_ofPerson_40 : decode cX10_ofPerson 40 = .ok (.iload_n 1, 1) := by decide +kernel
theorem dX10_ofPerson_41 : decode cX10_ofPerson 41 = .ok (.iconst 1, 1) := by decide +kernel
theorem dX10_ofPerson_42 : decode cX10_ofPerson 42 = .ok (.invokevirtual 141, 3) := by decide +kernel
theorem dX10_ofPerson_45 : decode cX10_ofPerson 45 = .ok (.goto 9, 3) := by decide +kernel
theorem dX10_ofPerson_48 : decode cX10_ofPerson 48 = .ok (.aload_n 0, 1) := by decide +kernel
theorem dX10_ofPerson_49 : decode cX10_ofPerson 49 = .ok (.getfield 37, 3) := by decide +kernel
theorem dX10_ofPerson_52 : decode cX10_ofPerson 52 = .ok (.iload_n 1, 1) := by decide +kernel
theorem dX10_ofPerson_53 : decode cX10_ofPerson 53 = .ok (.iaload, 1) := by decide +kernel
theorem dX10_ofPerson_54 : decode cX10_ofPerson 54 = .ok (.ireturn, 1) := by decide +kernel
theorem dX10_of_0 : decode cX10_of 0 = .ok (.iload_n 2, 1) := by decide +kernel
theorem dX10_of_1 : decode cX10_of 1 = .ok (.i2l, 1) := by decide +kernel
theorem dX10_of_2 : decode cX10_of 2 = .ok (.lconst 0, 1) := by decide +kernel
theorem dX10_of_3 : decode cX10_of 3 = .ok (.ldc2_w 144, 3) := by decide +kernel
theorem dX10_of_6 : decode cX10_of 6 = .ok (.invokestatic 103, 3) := by decide +kernel
theorem dX10_of_9 : decode cX10_of 9 = .ok (.ifCond .eq 27, 3) := by decide +kernel
theorem dX10_of_12 : decode cX10_of 12 = .ok (.aload_n 0, 1) := by decide +kernel
theorem dX10_of_13 : decode cX10_of 13 = .ok (.iload_n 1, 1) := by decide +kernel
theorem dX10_of_14 : decode cX10_of 14 = .ok (.invokevirtual 146, 3) := by decide +kernel
theorem dX10_of_17 : decode cX10_of 17 = .ok (.ifCond .eq 16, 3) := by decide +kernel
theorem dX10_of_20 : decode cX10_of 20 = .ok (.aload_n 0, 1) := by decide +kernel
theorem dX10_of_21 : decode cX10_of 21 = .ok (.getfield 22, 3) := by decide +kernel
theorem dX10_of_24 : decode cX10_of 24 = .ok (.iconst 5, 1) := by decide +kernel
theorem dX10_of_25 : decode cX10_of 25 = .ok (.iload_n 1, 1) := by decide +kernel
theorem dX10_of_26 : decode cX10_of 26 = .ok (.imul, 1) := by decide +kernel
theorem dX10_of_27 : decode cX10_of 27 = .ok (.iload_n 2, 1) := by decide +kernel
theorem dX10_of_28 : decode cX10_of 28 = .ok (.iadd, 1) := by decide +kernel
theorem dX10_of_29 : decode cX10_of 29 = .ok (.iaload, 1) := by decide +kernel
theorem dX10_of_30 : decode cX10_of 30 = .ok (.goto 5, 3) := by decide +kernel
theorem dX10_of_33 : decode cX10_of 33 = .ok (.ldc 149, 2) := by decide +kernel
theorem dX10_of_35 : decode cX10_of 35 = .ok (.ireturn, 1) := by decide +kernel
theorem dX10_of_36 : decode cX10_of 36 = .ok (.iload_n 2, 1) := by decide +kernel
theorem dX10_of_37 : decode cX10_of 37 = .ok (.i2l, 1) := by decide +kernel
theorem dX10_of_38 : decode cX10_of 38 = .ok (.ldc2_w 150, 3) := by decide +kernel
theorem dX10_of_41 : decode cX10_of 41 = .ok (.ldc2_w 152, 3) := by decide +kernel
theorem dX10_of_44 : decode cX10_of 44 = .ok (.invokestatic 103, 3) := by decide +kernel
theorem dX10_of_47 : decode cX10_of 47 = .ok (.ifCond .eq 23, 3) := by decide +kernel
theorem dX10_of_50 : decode cX10_of 50 = .ok (.aload_n 0, 1) := by decide +kernel
theorem dX10_of_51 : decode cX10_of 51 = .ok (.iload_n 1, 1) := by decide +kernel
theorem dX10_of_52 : decode cX10_of 52 = .ok (.invokevirtual 107, 3) := by decide +kernel
theorem dX10_of_55 : decode cX10_of 55 = .ok (.ifCond .eq 12, 3) := by decide +kernel
theorem dX10_of_58 : decode cX10_of 58 = .ok (.aload_n 0, 1) := by decide +kernel
theorem dX10_of_59 : decode cX10_of 59 = .ok (.iload_n 1, 1) := by decide +kernel
theorem dX10_of_60 : decode cX10_of 60 = .ok (.iload_n 2, 1) := by decide +kernel
theorem dX10_of_61 : decode cX10_of 61 = .ok (.invokevirtual 154, 3) := by decide +kernel
theorem dX10_of_64 : decode cX10_of 64 = .ok (.goto 5, 3) := by decide +kernel
theorem dX10_of_67 : decode cX10_of 67 = .ok (.ldc 149, 2) := by decide +kernel
theorem dX10_of_69 : decode cX10_of 69 = .ok (.ireturn, 1) := by decide +kernel
theorem dX10_of_70 : decode cX10_of 70 = .ok (.iload_n 2, 1) := by decide +kernel
theorem dX10_of_71 : decode cX10_of 71 = .ok (.i2l, 1) := by decide +kernel
theorem dX10_of_72 : decode cX10_of 72 = .ok (.ldc2_w 157, 3) := by decide +kernel
theorem dX10_of_75 : decode cX10_of 75 = .ok (.ldc2_w 159, 3) := by decide +kernel
theorem dX10_of_78 : decode cX10_of 78 = .ok (.invokestatic 103, 3) := by decide +kernel
theorem dX10_of_81 : decode cX10_of 81 = .ok (.ifCond .eq 38, 3) := by decide +kernel
theorem dX10_of_84 : decode cX10_of 84 = .ok (.iload_n 1, 1) := by decide +kernel
theorem dX10_of_85 : decode cX10_of 85 = .ok (.i2l, 1) := by decide +kernel
theorem dX10_of_86 : decode cX10_of 86 = .ok (.lconst 0, 1) := by decide +kernel
theorem dX10_of_87 : decode cX10_of 87 = .ok (.aload_n 0, 1) := by decide +kernel
theorem dX10_of_88 : decode cX10_of 88 = .ok (.getfield 161, 3) := by decide +kernel
theorem dX10_of_91 : decode cX10_of 91 = .ok (.iconst 1, 1) := by decide +kernel
theorem dX10_of_92 : decode cX10_of 92 = .ok (.isub, 1) := by decide +kernel
theorem dX10_of_93 : decode cX10_of 93 = .ok (.i2l, 1) := by decide +kernel
theorem dX10_of_94 : decode cX10_of 94 = .ok (.invokestatic 103, 3) := by decide +kernel
theorem dX10_of_97 : decode cX10_of 97 = .ok (.ifCond .eq 19, 3) := by decide +kernel
theorem dX10_of_100 : decode cX10_of 100 = .ok (.aload_n 0, 1) := by decide +kernel
theorem dX10_of_101 : decode cX10_of 101 = .ok (.getfield 34, 3) := by decide +kernel
theorem dX10_of_104 : decode cX10_of 104 = .ok (.iconst 3, 1) := by decide +kernel
theorem dX10_of_105 : decode cX10_of 105 = .ok (.iload_n 1, 1) := by decide +kernel
theorem dX10_of_106 : decode cX10_of 106 = .ok (.imul, 1) := by decide +kernel
theorem dX10_of_107 : decode cX10_of 107 = .ok (.iload_n 2, 1) := by decide +kernel
theorem dX10_of_108 : decode cX10_of 108 = .ok (.iadd, 1) := by decide +kernel
theorem dX10_of_109 : decode cX10_of 109 = .ok (.bipush 40, 2) := by decide +kernel
theorem dX10_of_111 : decode cX10_of 111 = .ok (.isub, 1) := by decide +kernel
theorem dX10_of_112 : decode cX10_of 112 = .ok (.iaload, 1) := by decide +kernel
theorem dX10_of_113 : decode cX10_of 113 = .ok (.goto 5, 3) := by decide +kernel
theorem dX10_of_116 : decode cX10_of 116 = .ok (.ldc 149, 2) := by decide +kernel
theorem dX10_of_118 : decode cX10_of 118 = .ok (.ireturn, 1) := by decide +kernel
theorem dX10_of_119 : decode cX10_of 119 = .ok (.iload_n 2, 1) := by decide +kernel
theorem dX10_of_120 : decode cX10_of 120 = .ok (.lookupswitch 116 #[(20, 44), (30, 68), (50, 94), (51, 94)], 44) := by decide +kernel
theorem dX10_of_164 : decode cX10_of 164 = .ok (.iload_n 1, 1) := by decide +kernel
theorem dX10_of_165 : decode cX10_of 165 = .ok (.i2l, 1) := by decide +kernel
theorem dX10_of_166 : decode cX10_of 166 = .ok (.lconst 0, 1) := by decide +kernel
theorem dX10_of_167 : decode cX10_of 167 = .ok (.ldc2_w 133, 3) := by decide +kernel
theorem dX10_of_170 : decode cX10_of 170 = .ok (.invokestatic 103, 3) := by decide +kernel
theorem dX10_of_173 : decode cX10_of 173 = .ok (.ifCond .eq 12, 3) := by decide +kernel
theorem dX10_of_176 : decode cX10_of 176 = .ok (.aload_n 0, 1) := by decide +kernel
theorem dX10_of_177 : decode cX10_of 177 = .ok (.getfield 9, 3) := by decide +kernel
theorem dX10_of_180 : decode cX10_of 180 = .ok (.iload_n 1, 1) := by decide +kernel
theorem dX10_of_181 : decode cX10_of 181 = .ok (.iaload, 1) := by decide +kernel
theorem dX10_of_182 : decode cX10_of 182 = .ok (.goto 5, 3) := by decide +kernel
theorem dX10_of_185 : decode cX10_of 185 = .ok (.ldc 149, 2) := by decide +kernel
theorem dX10_of_187 : decode cX10_of 187 = .ok (.ireturn, 1) := by decide +kernel
theorem dX10_of_188 : decode cX10_of 188 = .ok (.aload_n 0, 1) := by decide +kernel
theorem dX10_of_189 : decode cX10_of 189 = .ok (.iload_n 1, 1) := by decide +kernel
theorem dX10_of_190 : decode cX10_of 190 = .ok (.invokevirtual 164, 3) := by decide +kernel
theorem dX10_of_193 : decode cX10_of 193 = .ok (.ifCond .eq 18, 3) := by decide +kernel
theorem dX10_of_196 : decode cX10_of 196 = .ok (.aload_n 0, 1) := by decide +kernel
theorem dX10_of_197 : decode cX10_of 197 = .ok (.iload_n 1, 1) := by decide +kernel
theorem dX10_of_198 : decode cX10_of 198 = .ok (.bipush 10, 2) := by decide +kernel
theorem dX10_of_200 : decode cX10_of 200 = .ok (.idiv, 1) := by decide +kernel
theorem dX10_of_201 : decode cX10_of 201 = .ok (.iload_n 1, 1) := by decide +kernel
theorem dX10_of_202 : decode cX10_of 202 = .ok (.bipush 10, 2) := by decide +kernel
theorem dX10_of_204 : decode cX10_of 204 = .ok (.irem, 1) := by decide +kernel
theorem dX10_of_205 : decode cX10_of 205 = .ok (.invokevirtual 167, 3) := by decide +kernel
theorem dX10_of_208 : decode cX10_of 208 = .ok (.goto 5, 3) := by decide +kernel
theorem dX10_of_211 : decode cX10_of 211 = .ok (.ldc 149, 2) := by decide +kernel
theorem dX10_of_213 : decode cX10_of 213 = .ok (.ireturn, 1) := by decide +kernel
theorem dX10_of_214 : decode cX10_of 214 = .ok (.iload_n 1, 1) := by decide +kernel
theorem dX10_of_215 : decode cX10_of 215 = .ok (.ifCond .ne 18, 3) := by decide +kernel
theorem dX10_of_218 : decode cX10_of 218 = .ok (.aload_n 0, 1) := by decide +kernel
theorem dX10_of_219 : decode cX10_of 219 = .ok (.getfield 9, 3) := by decide +kernel
theorem dX10_of_222 : decode cX10_of 222 = .ok (.bipush 20, 2) := by decide +kernel
theorem dX10_of_224 : decode cX10_of 224 = .ok (.iload_n 2, 1) := by decide +kernel
theorem dX10_of_225 : decode cX10_of 225 = .ok (.iadd, 1) := by decide +kernel
theorem dX10_of_226 : decode cX10_of 226 = .ok (.bipush 50, 2) := by decide +kernel
theorem dX10_of_228 : decode cX10_of 228 = .ok (.isub, 1) := by decide +kernel
theorem dX10_of_229 : decode cX10_of 229 = .ok (.iaload, 1) := by decide +kernel
theorem dX10_of_230 : decode cX10_of 230 = .ok (.goto 5, 3) := by decide +kernel
theorem dX10_of_233 : decode cX10_of 233 = .ok (.ldc 149, 2) := by decide +kernel
theorem dX10_of_235 : decode cX10_of 235 = .ok (.ireturn, 1) := by decide +kernel
theorem dX10_of_236 : decode cX10_of 236 = .ok (.ldc 149, 2) := by decide +kernel
theorem dX10_of_238 : decode cX10_of 238 = .ok (.ireturn, 1) := by decide +kernel
theorem dX10_feed_0 : decode cX10_feed 0 = .ok (.iload_n 1, 1) := by decide +kernel
theorem dX10_feed_1 : decode cX10_feed 1 = .ok (.i2l, 1) := by decide +kernel
theorem dX10_feed_2 : decode cX10_feed 2 = .ok (.lconst 0, 1) := by decide +kernel
theorem dX10_feed_3 : decode cX10_feed 3 = .ok (.ldc2_w 170, 3) := by decide +kernel
theorem dX10_feed_6 : decode cX10_feed 6 = .ok (.invokestatic 103, 3) := by decide +kernel
theorem dX10_feed_9 : decode cX10_feed 9 = .ok (.ifCond .ne 5, 3) := by decide +kernel
theorem dX10_feed_12 : decode cX10_feed 12 = .ok (.iconst (-1), 1) := by decide +kernel
theorem dX10_feed_13 : decode cX10_feed 13 = .ok (.ireturn, 1) := by decide +kernel
theorem dX10_feed_14 : decode cX10_feed 14 = .ok (.aload_n 0, 1) := by decide +kernel
theorem dX10_feed_15 : decode cX10_feed 15 = .ok (.getfield 172, 3) := by decide +kernel
theorem dX10_feed_18 : decode cX10_feed 18 = .ok (.bipush 120, 2) := by decide +kernel
theorem dX10_feed_20 : decode cX10_feed 20 = .ok (.if_icmp .ne 6, 3) := by decide +kernel
theorem dX10_feed_23 : decode cX10_feed 23 = .ok (.bipush (-3), 2) := by decide +kernel
theorem dX10_feed_25 : decode cX10_feed 25 = .ok (.ireturn, 1) := by decide +kernel
theorem dX10_feed_26 : decode cX10_feed 26 = .ok (.aload_n 0, 1) := by decide +kernel
theorem dX10_feed_27 : decode cX10_feed 27 = .ok (.getfield 25, 3) := by decide +kernel
theorem dX10_feed_30 : decode cX10_feed 30 = .ok (.aload_n 0, 1) := by decide +kernel
theorem dX10_feed_31 : decode cX10_feed 31 = .ok (.getfield 172, 3) := by decide +kernel
theorem dX10_feed_34 : decode cX10_feed 34 = .ok (.iload_n 1, 1) := by decide +kernel
theorem dX10_feed_35 : decode cX10_feed 35 = .ok (.iastore, 1) := by decide +kernel
theorem dX10_feed_36 : decode cX10_feed 36 = .ok (.aload_n 0, 1) := by decide +kernel
theorem dX10_feed_37 : decode cX10_feed 37 = .ok (.dup, 1) := by decide +kernel
theorem dX10_feed_38 : decode cX10_feed 38 = .ok (.getfield 172, 3) := by decide +kernel
theorem dX10_feed_41 : decode cX10_feed 41 = .ok (.iconst 1, 1) := by decide +kernel
theorem dX10_feed_42 : decode cX10_feed 42 = .ok (.iadd, 1) := by decide +kernel
theorem dX10_feed_43 : decode cX10_feed 43 = .ok (.putfield 172, 3) := by decide +kernel
theorem dX10_feed_46 : decode cX10_feed 46 = .ok (.aload_n 0, 1) := by decide +kernel
theorem dX10_feed_47 : decode cX10_feed 47 = .ok (.getfield 172, 3) := by decide +kernel
theorem dX10_feed_50 : decode cX10_feed 50 = .ok (.ireturn, 1) := by decide +kernel
theorem dX10_byteAt_0 : decode cX10_byteAt 0 = .ok (.aload_n 0, 1) := by decide +kernel
theorem dX10_byteAt_1 : decode cX10_byteAt 1 = .ok (.getfield 175, 3) := by decide +kernel
theorem dX10_byteAt_4 : decode cX10_byteAt 4 = .ok (.aload_n 0, 1) := by decide +kernel
theorem dX10_byteAt_5 : decode cX10_byteAt 5 = .ok (.getfield 178, 3) := by decide +kernel
theorem dX10_byteAt_8 : decode cX10_byteAt 8 = .ok (.if_icmp .ge 39, 3) := by decide +kernel
theorem dX10_byteAt_11 : decode cX10_byteAt 11 = .ok (.aload_n 0, 1) := by decide +kernel
theorem dX10_byteAt_12 : decode cX10_byteAt 12 = .ok (.getfield 181, 3) := by decide +kernel
theorem dX10_byteAt_15 : decode cX10_byteAt 15 = .ok (.ifCond .ge 15, 3) := by decide +kernel
theorem dX10_byteAt_18 : decode cX10_byteAt 18 = .ok (.aload_n 0, 1) := by decide +kernel
theorem dX10_byteAt_19 : decode cX10_byteAt 19 = .ok (.getfield 25, 3) := by decide +kernel
theorem dX10_byteAt_22 : decode cX10_byteAt 22 = .ok (.aload_n 0, 1) := by decide +kernel
theorem dX10_byteAt_23 : decode cX10_byteAt 23 = .ok (.getfield 175, 3) := by decide +kernel
theorem dX10_byteAt_26 : decode cX10_byteAt 26 = .ok (.iaload, 1) := by decide +kernel
theorem dX10_byteAt_27 : decode cX10_byteAt 27 = .ok (.goto 21, 3) := by decide +kernel
theorem dX10_byteAt_30 : decode cX10_byteAt 30 = .ok (.aload_n 0, 1) := by decide +kernel
theorem dX10_byteAt_31 : decode cX10_byteAt 31 = .ok (.getfield 28, 3) := by decide +kernel
theorem dX10_byteAt_34 : decode cX10_byteAt 34 = .ok (.aload_n 0, 1) := by decide +kernel
theorem dX10_byteAt_35 : decode cX10_byteAt 35 = .ok (.getfield 181, 3) := by decide +kernel
theorem dX10_byteAt_38 : decode cX10_byteAt 38 = .ok (.aload_n 0, 1) := by decide +kernel
theorem dX10_byteAt_39 : decode cX10_byteAt 39 = .ok (.getfield 175, 3) := by decide +kernel
theorem dX10_byteAt_42 : decode cX10_byteAt 42 = .ok (.iadd, 1) := by decide +kernel
theorem dX10_byteAt_43 : decode cX10_byteAt 43 = .ok (.iaload, 1) := by decide +kernel
theorem dX10_byteAt_44 : decode cX10_byteAt 44 = .ok (.goto 4, 3) := by decide +kernel
theorem dX10_byteAt_47 : decode cX10_byteAt 47 = .ok (.iconst 0, 1) := by decide +kernel
theorem dX10_byteAt_48 : decode cX10_byteAt 48 = .ok (.ireturn, 1) := by decide +kernel
theorem dX10_wrong_0 : decode cX10_wrong 0 = .ok (.aload_n 0, 1) := by decide +kernel
theorem dX10_wrong_1 : decode cX10_wrong 1 = .ok (.aload_n 0, 1) := by decide +kernel
theorem dX10_wrong_2 : decode cX10_wrong 2 = .ok (.getfield 184, 3) := by decide +kernel
theorem dX10_wrong_5 : decode cX10_wrong 5 = .ok (.ifCond .ge 10, 3) := by decide +kernel
theorem dX10_wrong_8 : decode cX10_wrong 8 = .ok (.aload_n 0, 1) := by decide +kernel
theorem dX10_wrong_9 : decode cX10_wrong 9 = .ok (.getfield 175, 3) := by decide +kernel
theorem dX10_wrong_12 : decode cX10_wrong 12 = .ok (.goto 7, 3) := by decide +kernel
theorem dX10_wrong_15 : decode cX10_wrong 15 = .ok (.aload_n 0, 1) := by decide +kernel
theorem dX10_wrong_16 : decode cX10_wrong 16 = .ok (.getfield 184, 3) := by decide +kernel
theorem dX10_wrong_19 : decode cX10_wrong 19 = .ok (.putfield 184, 3) := by decide +kernel
theorem dX10_wrong_22 : decode cX10_wrong 22 = .ok (.iconst 0, 1) := by decide +kernel
theorem dX10_wrong_23 : decode cX10_wrong 23 = .ok (.ireturn, 1) := by decide +kernel
theorem dX10_takes_0 : decode cX10_takes 0 = .ok (.aload_n 0, 1) := by decide +kernel
theorem dX10_takes_1 : decode cX10_takes 1 = .ok (.getfield 184, 3) := by decide +kernel
theorem dX10_takes_4 : decode cX10_takes 4 = .ok (.ifCond .ge 11, 3) := by decide +kernel
theorem dX10_takes_7 : decode cX10_takes 7 = .ok (.aload_n 0, 1) := by decide +kernel
theorem dX10_takes_8 : decode cX10_takes 8 = .ok (.invokevirtual 187, 3) := by decide +kernel
theorem dX10_takes_11 : decode cX10_takes 11 = .ok (.iload_n 1, 1) := by decide +kernel
theorem dX10_takes_12 : decode cX10_takes 12 = .ok (.if_icmp .eq 5, 3) := by decide +kernel
theorem dX10_takes_15 : decode cX10_takes 15 = .ok (.iconst 0, 1) := by decide +kernel
theorem dX10_takes_16 : decode cX10_takes 16 = .ok (.ireturn, 1) := by decide +kernel
theorem dX10_takes_17 : decode cX10_takes 17 = .ok (.aload_n 0, 1) := by decide +kernel
theorem dX10_takes_18 : decode cX10_takes 18 = .ok (.dup, 1) := by decide +kernel
theorem dX10_takes_19 : decode cX10_takes 19 = .ok (.getfield 175, 3) := by decide +kernel
theorem dX10_takes_22 : decode cX10_takes 22 = .ok (.iconst 1, 1) := by decide +kernel
theorem dX10_takes_23 : decode cX10_takes 23 = .ok (.iadd, 1) := by decide +kernel
theorem dX10_takes_24 : decode cX10_takes 24 = .ok (.putfield 175, 3) := by decide +kernel
theorem dX10_takes_27 : decode cX10_takes 27 = .ok (.iconst 1, 1) := by decide +kernel
theorem dX10_takes_28 : decode cX10_takes 28 = .ok (.ireturn, 1) := by decide +kernel
theorem dX10_either_0 : decode cX10_either 0 = .ok (.aload_n 0, 1) := by decide +kernel
theorem dX10_either_1 : decode cX10_either 1 = .ok (.invokevirtual 191, 3) := by decide +kernel
theorem dX10_either_4 : decode cX10_either 4 = .ok (.istore_n 1, 1) := by decide +kernel
theorem dX10_either_5 : decode cX10_either 5 = .ok (.aload_n 0, 1) := by decide +kernel
theorem dX10_either_6 : decode cX10_either 6 = .ok (.bipush 124, 2) := by decide +kernel
theorem dX10_either_8 : decode cX10_either 8 = .ok (.invokevirtual 194, 3) := by decide +kernel
theorem dX10_either_11 : decode cX10_either 11 = .ok (.ifCond .eq 25, 3) := by decide +kernel
theorem dX10_either_14 : decode cX10_either 14 = .ok (.aload_n 0, 1) := by decide +kernel
theorem dX10_either_15 : decode cX10_either 15 = .ok (.invokevirtual 191, 3) := by decide +kernel
theorem dX10_either_18 : decode cX10_either 18 = .ok (.istore_n 2, 1) := by decide +kernel
theorem dX10_either_19 : decode cX10_either 19 = .ok (.iload_n 1, 1) := by decide +kernel
theorem dX10_either_20 : decode cX10_either 20 = .ok (.ifCond .ne 7, 3) := by decide +kernel
theorem dX10_either_23 : decode cX10_either 23 = .ok (.iload_n 2, 1) := by decide +kernel
theorem dX10_either_24 : decode cX10_either 24 = .ok (.ifCond .eq 7, 3) := by decide +kernel
theorem dX10_either_27 : decode cX10_either 27 = .ok (.iconst 1, 1) := by decide +kernel
theorem dX10_either_28 : decode cX10_either 28 = .ok (.goto 4, 3) := by decide +kernel
theorem dX10_either_31 : decode cX10_either 31 = .ok (.iconst 0, 1) := by decide +kernel
theorem dX10_either_32 : decode cX10_either 32 = .ok (.istore_n 1, 1) := by decide +kernel
theorem dX10_either_33 : decode cX10_either 33 = .ok (.goto (-28), 3) := by decide +kernel
theorem dX10_either_36 : decode cX10_either 36 = .ok (.iload_n 1, 1) := by decide +kernel
theorem dX10_either_37 : decode cX10_either 37 = .ok (.ireturn, 1) := by decide +kernel
theorem dX10_both_0 : decode cX10_both 0 = .ok (.aload_n 0, 1) := by decide +kernel
theorem dX10_both_1 : decode cX10_both 1 = .ok (.invokevirtual 197, 3) := by decide +kernel
theorem dX10_both_4 : decode cX10_both 4 = .ok (.istore_n 1, 1) := by decide +kernel
theorem dX10_both_5 : decode cX10_both 5 = .ok (.aload_n 0, 1) := by decide +kernel
theorem dX10_both_6 : decode cX10_both 6 = .ok (.bipush 38, 2) := by decide +kernel
theorem dX10_both_8 : decode cX10_both 8 = .ok (.invokevirtual 194, 3) := by decide +kernel
theorem dX10_both_11 : decode cX10_both 11 = .ok (.ifCond .eq 25, 3) := by decide +kernel
theorem dX10_both_14 : decode cX10_both 14 = .ok (.aload_n 0, 1) := by decide +kernel
theorem dX10_both_15 : decode cX10_both 15 = .ok (.invokevirtual 197, 3) := by decide +kernel
theorem dX10_both_18 : decode cX10_both 18 = .ok (.istore_n 2, 1) := by decide +kernel
theorem dX10_both_19 : decode cX10_both 19 = .ok (.iload_n 1, 1) := by decide +kernel
theorem dX10_both_20 : decode cX10_both 20 = .ok (.ifCond .eq 11, 3) := by decide +kernel
theorem dX10_both_23 : decode cX10_both 23 = .ok (.iload_n 2, 1) := by decide +kernel
theorem dX10_both_24 : decode cX10_both 24 = .ok (.ifCond .eq 7, 3) := by decide +kernel
theorem dX10_both_27 : decode cX10_both 27 = .ok (.iconst 1, 1) := by decide +kernel
theorem dX10_both_28 : decode cX10_both 28 = .ok (.goto 4, 3) := by decide +kernel
theorem dX10_both_31 : decode cX10_both 31 = .ok (.iconst 0, 1) := by decide +kernel
theorem dX10_both_32 : decode cX10_both 32 = .ok (.istore_n 1, 1) := by decide +kernel
theorem dX10_both_33 : decode cX10_both 33 = .ok (.goto (-28), 3) := by decide +kernel
theorem dX10_both_36 : decode cX10_both 36 = .ok (.iload_n 1, 1) := by decide +kernel
theorem dX10_both_37 : decode cX10_both 37 = .ok (.ireturn, 1) := by decide +kernel
theorem dX10_compared_0 : decode cX10_compared 0 = .ok (.aload_n 0, 1) := by decide +kernel
theorem dX10_compared_1 : decode cX10_compared 1 = .ok (.invokevirtual 200, 3) := by decide +kernel
theorem dX10_compared_4 : decode cX10_compared 4 = .ok (.istore_n 1, 1) := by decide +kernel
theorem dX10_compared_5 : decode cX10_compared 5 = .ok (.aload_n 0, 1) := by decide +kernel
theorem dX10_compared_6 : decode cX10_compared 6 = .ok (.invokevirtual 187, 3) := by decide +kernel
theorem dX10_compared_9 : decode cX10_compared 9 = .ok (.istore_n 2, 1) := by decide +kernel
theorem dX10_compared_10 : decode cX10_compared 10 = .ok (.aload_n 0, 1) := by decide +kernel
theorem dX10_compared_11 : decode cX10_compared 11 = .ok (.getfield 184, 3) := by decide +kernel
theorem dX10_compared_14 : decode cX10_compared 14 = .ok (.ifCond .ge 21, 3) := by decide +kernel
theorem dX10_compared_17 : decode cX10_compared 17 = .ok (.iload_n 2, 1) := by decide +kernel
theorem dX10_compared_18 : decode cX10_compared 18 = .ok (.bipush 60, 2) := by decide +kernel
theorem dX10_compared_20 : decode cX10_compared 20 = .ok (.if_icmp .eq 17, 3) := by decide +kernel
theorem dX10_compared_23 : decode cX10_compared 23 = .ok (.iload_n 2, 1) := by decide +kernel
theorem dX10_compared_24 : decode cX10_compared 24 = .ok (.bipush 61, 2) := by decide +kernel
theorem dX10_compared_26 : decode cX10_compared 26 = .ok (.if_icmp .eq 11, 3) := by decide +kernel
theorem dX10_compared_29 : decode cX10_compared 29 = .ok (.iload_n 2, 1) := by decide +kernel
theorem dX10_compared_30 : decode cX10_compared 30 = .ok (.bipush 62, 2) := by decide +kernel
theorem dX10_compared_32 : decode cX10_compared 32 = .ok (.if_icmp .eq 5, 3) := by decide +kernel
theorem dX10_compared_35 : decode cX10_compared 35 = .ok (.iload_n 1, 1) := by decide +kernel
theorem dX10_compared_36 : decode cX10_compared 36 = .ok (.ireturn, 1) := by decide +kernel
theorem dX10_compared_37 : decode cX10_compared 37 = .ok (.aload_n 0, 1) := by decide +kernel
theorem dX10_compared_38 : decode cX10_compared 38 = .ok (.dup, 1) := by decide +kernel
theorem dX10_compared_39 : decode cX10_compared 39 = .ok (.getfield 175, 3) := by decide +kernel
theorem dX10_compared_42 : decode cX10_compared 42 = .ok (.iconst 1, 1) := by decide +kernel
theorem dX10_compared_43 : decode cX10_compared 43 = .ok (.iadd, 1) := by decide +kernel
theorem dX10_compared_44 : decode cX10_compared 44 = .ok (.putfield 175, 3) := by decide +kernel
theorem dX10_compared_47 : decode cX10_compared 47 = .ok (.aload_n 0, 1) := by decide +kernel
theorem dX10_compared_48 : decode cX10_compared 48 = .ok (.invokevirtual 200, 3) := by decide +kernel
theorem dX10_compared_51 : decode cX10_compared 51 = .ok (.istore_n 3, 1) := by decide +kernel
theorem dX10_compared_52 : decode cX10_compared 52 = .ok (.iload_n 2, 1) := by decide +kernel
theorem dX10_compared_53 : decode cX10_compared 53 = .ok (.bipush 60, 2) := by decide +kernel
theorem dX10_compared_55 : decode cX10_compared 55 = .ok (.if_icmp .ne 11, 3) := by decide +kernel
theorem dX10_compared_58 : decode cX10_compared 58 = .ok (.iload_n 1, 1) := by decide +kernel
theorem dX10_compared_59 : decode cX10_compared 59 = .ok (.iload_n 3, 1) := by decide +kernel
theorem dX10_compared_60 : decode cX10_compared 60 = .ok (.if_icmp .ge 29, 3) := by decide +kernel
theorem dX10_compared_63 : decode cX10_compared 63 = .ok (.goto 22, 3) := by decide +kernel
theorem dX10_compared_66 : decode cX10_compared 66 = .ok (.iload_n 2, 1) := by decide +kernel
theorem dX10_compared_67 : decode cX10_compared 67 = .ok (.bipush 61, 2) := by decide +kernel
theorem dX10_compared_69 : decode cX10_compared 69 = .ok (.if_icmp .ne 11, 3) := by decide +kernel
theorem dX10_compared_72 : decode cX10_compared 72 = .ok (.iload_n 1, 1) := by decide +kernel
theorem dX10_compared_73 : decode cX10_compared 73 = .ok (.iload_n 3, 1) := by decide +kernel
theorem dX10_compared_74 : decode cX10_compared 74 = .ok (.if_icmp .ne 15, 3) := by decide +kernel
theorem dX10_compared_77 : decode cX10_compared 77 = .ok (.goto 8, 3) := by decide +kernel
theorem dX10_compared_80 : decode cX10_compared 80 = .ok (.iload_n 1, 1) := by decide +kernel
theorem dX10_compared_81 : decode cX10_compared 81 = .ok (.iload_n 3, 1) := by decide +kernel
theorem dX10_compared_82 : decode cX10_compared 82 = .ok (.if_icmp .le 7, 3) := by decide +kernel
theorem dX10_compared_85 : decode cX10_compared 85 = .ok (.iconst 1, 1) := by decide +kernel
theorem dX10_compared_86 : decode cX10_compared 86 = .ok (.goto 4, 3) := by decide +kernel
theorem dX10_compared_89 : decode cX10_compared 89 = .ok (.iconst 0, 1) := by decide +kernel
theorem dX10_compared_90 : decode cX10_compared 90 = .ok (.ireturn, 1) := by decide +kernel
theorem dX10_sums_0 : decode cX10_sums 0 = .ok (.aload_n 0, 1) := by decide +kernel
theorem dX10_sums_1 : decode cX10_sums 1 = .ok (.invokevirtual 202, 3) := by decide +kernel
theorem dX10_sums_4 : decode cX10_sums 4 = .ok (.istore_n 1, 1) := by decide +kernel
theorem dX10_sums_5 : decode cX10_sums 5 = .ok (.aload_n 0, 1) := by decide +kernel
theorem dX10_sums_6 : decode cX10_sums 6 = .ok (.getfield 184, 3) := by decide +kernel
theorem dX10_sums_9 : decode cX10_sums 9 = .ok (.ifCond .ge 68, 3) := by decide +kernel
theorem dX10_sums_12 : decode cX10_sums 12 = .ok (.aload_n 0, 1) := by decide +kernel
theorem dX10_sums_13 : decode cX10_sums 13 = .ok (.invokevirtual 187, 3) := by decide +kernel
theorem dX10_sums_16 : decode cX10_sums 16 = .ok (.bipush 43, 2) := by decide +kernel
theorem dX10_sums_18 : decode cX10_sums 18 = .ok (.if_icmp .eq 12, 3) := by decide +kernel
theorem dX10_sums_21 : decode cX10_sums 21 = .ok (.aload_n 0, 1) := by decide +kernel
theorem dX10_sums_22 : decode cX10_sums 22 = .ok (.invokevirtual 187, 3) := by decide +kernel
theorem dX10_sums_25 : decode cX10_sums 25 = .ok (.bipush 45, 2) := by decide +kernel
theorem dX10_sums_27 : decode cX10_sums 27 = .ok (.if_icmp .ne 50, 3) := by decide +kernel
theorem dX10_sums_30 : decode cX10_sums 30 = .ok (.aload_n 0, 1) := by decide +kernel
theorem dX10_sums_31 : decode cX10_sums 31 = .ok (.invokevirtual 187, 3) := by decide +kernel
theorem dX10_sums_34 : decode cX10_sums 34 = .ok (.bipush 43, 2) := by decide +kernel
theorem dX10_sums_36 : decode cX10_sums 36 = .ok (.if_icmp .ne 7, 3) := by decide +kernel
theorem dX10_sums_39 : decode cX10_sums 39 = .ok (.iconst 1, 1) := by decide +kernel
theorem dX10_sums_40 : decode cX10_sums 40 = .ok (.goto 4, 3) := by decide +kernel
theorem dX10_sums_43 : decode cX10_sums 43 = .ok (.iconst 0, 1) := by decide +kernel
theorem dX10_sums_44 : decode cX10_sums 44 = .ok (.istore_n 2, 1) := by decide +kernel
theorem dX10_sums_45 : decode cX10_sums 45 = .ok (.aload_n 0, 1) := by decide +kernel
theorem dX10_sums_46 : decode cX10_sums 46 = .ok (.dup, 1) := by decide +kernel
theorem dX10_sums_47 : decode cX10_sums 47 = .ok (.getfield 175, 3) := by decide +kernel
theorem dX10_sums_50 : decode cX10_sums 50 = .ok (.iconst 1, 1) := by decide +kernel
theorem dX10_sums_51 : decode cX10_sums 51 = .ok (.iadd, 1) := by decide +kernel
theorem dX10_sums_52 : decode cX10_sums 52 = .ok (.putfield 175, 3) := by decide +kernel
theorem dX10_sums_55 : decode cX10_sums 55 = .ok (.aload_n 0, 1) := by decide +kernel
theorem dX10_sums_56 : decode cX10_sums 56 = .ok (.invokevirtual 202, 3) := by decide +kernel
theorem dX10_sums_59 : decode cX10_sums 59 = .ok (.istore_n 3, 1) := by decide +kernel
theorem dX10_sums_60 : decode cX10_sums 60 = .ok (.iload_n 2, 1) := by decide +kernel
theorem dX10_sums_61 : decode cX10_sums 61 = .ok (.ifCond .eq 9, 3) := by decide +kernel
theorem dX10_sums_64 : decode cX10_sums 64 = .ok (.iload_n 1, 1) := by decide +kernel
theorem dX10_sums_65 : decode cX10_sums 65 = .ok (.iload_n 3, 1) := by decide +kernel
theorem dX10_sums_66 : decode cX10_sums 66 = .ok (.iadd, 1) := by decide +kernel
theorem dX10_sums_67 : decode cX10_sums 67 = .ok (.goto 6, 3) := by decide +kernel
theorem dX10_sums_70 : decode cX10_sums 70 = .ok (.iload_n 1, 1) := by decide +kernel
theorem dX10_sums_71 : decode cX10_sums 71 = .ok (.iload_n 3, 1) := by decide +kernel
theorem dX10_sums_72 : decode cX10_sums 72 = .ok (.isub, 1) := by decide +kernel
theorem dX10_sums_73 : decode cX10_sums 73 = .ok (.istore_n 1, 1) := by decide +kernel
theorem dX10_sums_74 : decode cX10_sums 74 = .ok (.goto (-69), 3) := by decide +kernel
theorem dX10_sums_77 : decode cX10_sums 77 = .ok (.iload_n 1, 1) := by decide +kernel
theorem dX10_sums_78 : decode cX10_sums 78 = .ok (.ireturn, 1) := by decide +kernel
theorem dX10_product_0 : decode cX10_product 0 = .ok (.aload_n 0, 1) := by decide +kernel
theorem dX10_product_1 : decode cX10_product 1 = .ok (.invokevirtual 205, 3) := by decide +kernel
theorem dX10_product_4 : decode cX10_product 4 = .ok (.istore_n 1, 1) := by decide +kernel
theorem dX10_product_5 : decode cX10_product 5 = .ok (.aload_n 0, 1) := by decide +kernel
theorem dX10_product_6 : decode cX10_product 6 = .ok (.invokevirtual 187, 3) := by decide +kernel
theorem dX10_product_9 : decode cX10_product 9 = .ok (.istore_n 2, 1) := by decide +kernel
theorem dX10_product_10 : decode cX10_product 10 = .ok (.aload_n 0, 1) := by decide +kernel
theorem dX10_product_11 : decode cX10_product 11 = .ok (.getfield 184, 3) := by decide +kernel
theorem dX10_product_14 : decode cX10_product 14 = .ok (.ifCond .ge 80, 3) := by decide +kernel
theorem dX10_product_17 : decode cX10_product 17 = .ok (.iload_n 2, 1) := by decide +kernel
theorem dX10_product_18 : decode cX10_product 18 = .ok (.bipush 42, 2) := by decide +kernel
theorem dX10_product_20 : decode cX10_product 20 = .ok (.if_icmp .eq 15, 3) := by decide +kernel
theorem dX10_product_23 : decode cX10_product 23 = .ok (.iload_n 2, 1) := by decide +kernel
theorem dX10_product_24 : decode cX10_product 24 = .ok (.bipush 47, 2) := by decide +kernel
theorem dX10_product_26 : decode cX10_product 26 = .ok (.if_icmp .eq 9, 3) := by decide +kernel
theorem dX10_product_29 : decode cX10_product 29 = .ok (.iload_n 2, 1) := by decide +kernel
theorem dX10_product_30 : decode cX10_product 30 = .ok (.bipush 37, 2) := by decide +kernel
theorem dX10_product_32 : decode cX10_product 32 = .ok (.if_icmp .ne 62, 3) := by decide +kernel
theorem dX10_product_35 : decode cX10_product 35 = .ok (.aload_n 0, 1) := by decide +kernel
theorem dX10_product_36 : decode cX10_product 36 = .ok (.dup, 1) := by decide +kernel
theorem dX10_product_37 : decode cX10_product 37 = .ok (.getfield 175, 3) := by decide +kernel
theorem dX10_product_40 : decode cX10_product 40 = .ok (.iconst 1, 1) := by decide +kernel
theorem dX10_product_41 : decode cX10_product 41 = .ok (.iadd, 1) := by decide +kernel
theorem dX10_product_42 : decode cX10_product 42 = .ok (.putfield 175, 3) := by decide +kernel
theorem dX10_product_45 : decode cX10_product 45 = .ok (.aload_n 0, 1) := by decide +kernel
theorem dX10_product_46 : decode cX10_product 46 = .ok (.invokevirtual 205, 3) := by decide +kernel
theorem dX10_product_49 : decode cX10_product 49 = .ok (.istore_n 3, 1) := by decide +kernel
theorem dX10_product_50 : decode cX10_product 50 = .ok (.iload_n 2, 1) := by decide +kernel
theorem dX10_product_51 : decode cX10_product 51 = .ok (.bipush 42, 2) := by decide +kernel
theorem dX10_product_53 : decode cX10_product 53 = .ok (.if_icmp .ne 9, 3) := by decide +kernel
theorem dX10_product_56 : decode cX10_product 56 = .ok (.iload_n 1, 1) := by decide +kernel
theorem dX10_product_57 : decode cX10_product 57 = .ok (.iload_n 3, 1) := by decide +kernel
theorem dX10_product_58 : decode cX10_product 58 = .ok (.imul, 1) := by decide +kernel
theorem dX10_product_59 : decode cX10_product 59 = .ok (.goto 26, 3) := by decide +kernel
theorem dX10_product_62 : decode cX10_product 62 = .ok (.iload_n 3, 1) := by decide +kernel
theorem dX10_product_63 : decode cX10_product 63 = .ok (.ifCond .ne 7, 3) := by decide +kernel
theorem dX10_product_66 : decode cX10_product 66 = .ok (.iconst 0, 1) := by decide +kernel
theorem dX10_product_67 : decode cX10_product 67 = .ok (.goto 18, 3) := by decide +kernel
theorem dX10_product_70 : decode cX10_product 70 = .ok (.iload_n 2, 1) := by decide +kernel
theorem dX10_product_71 : decode cX10_product 71 = .ok (.bipush 47, 2) := by decide +kernel
theorem dX10_product_73 : decode cX10_product 73 = .ok (.if_icmp .ne 9, 3) := by decide +kernel
theorem dX10_product_76 : decode cX10_product 76 = .ok (.iload_n 1, 1) := by decide +kernel
theorem dX10_product_77 : decode cX10_product 77 = .ok (.iload_n 3, 1) := by decide +kernel
theorem dX10_product_78 : decode cX10_product 78 = .ok (.idiv, 1) := by decide +kernel
theorem dX10_product_79 : decode cX10_product 79 = .ok (.goto 6, 3) := by decide +kernel
theorem dX10_product_82 : decode cX10_product 82 = .ok (.iload_n 1, 1) := by decide +kernel
theorem dX10_product_83 : decode cX10_product 83 = .ok (.iload_n 3, 1) := by decide +kernel
theorem dX10_product_84 : decode cX10_product 84 = .ok (.irem, 1) := by decide +kernel
theorem dX10_product_85 : decode cX10_product 85 = .ok (.istore_n 1, 1) := by decide +kernel
theorem dX10_product_86 : decode cX10_product 86 = .ok (.aload_n 0, 1) := by decide +kernel
theorem dX10_product_87 : decode cX10_product 87 = .ok (.invokevirtual 187, 3) := by decide +kernel
theorem dX10_product_90 : decode cX10_product 90 = .ok (.istore_n 2, 1) := by decide +kernel
theorem dX10_product_91 : decode cX10_product 91 = .ok (.goto (-81), 3) := by decide +kernel
theorem dX10_product_94 : decode cX10_product 94 = .ok (.iload_n 1, 1) := by decide +kernel
theorem dX10_product_95 : decode cX10_product 95 = .ok (.ireturn, 1) := by decide +kernel
theorem dX10_nameOf_0 : decode cX10_nameOf 0 = .ok (.iload_n 0, 1) := by decide +kernel
theorem dX10_nameOf_1 : decode cX10_nameOf 1 = .ok (.tableswitch 91 100 115 #[79, 91, 91, 91, 91, 91, 91, 91, 83, 81, 91, 91, 87, 89, 91, 85], 79) := by decide +kernel
theorem dX10_nameOf_80 : decode cX10_nameOf 80 = .ok (.iconst 0, 1) := by decide +kernel
theorem dX10_nameOf_81 : decode cX10_nameOf 81 = .ok (.ireturn, 1) := by decide +kernel
theorem dX10_nameOf_82 : decode cX10_nameOf 82 = .ok (.iconst 1, 1) := by decide +kernel
theorem dX10_nameOf_83 : decode cX10_nameOf 83 = .ok (.ireturn, 1) := by decide +kernel
theorem dX10_nameOf_84 : decode cX10_nameOf 84 = .ok (.iconst 2, 1) := by decide +kernel
theorem dX10_nameOf_85 : decode cX10_nameOf 85 = .ok (.ireturn, 1) := by decide +kernel
theorem dX10_nameOf_86 : decode cX10_nameOf 86 = .ok (.iconst 3, 1) := by decide +kernel
theorem dX10_nameOf_87 : decode cX10_nameOf 87 = .ok (.ireturn, 1) := by decide +kernel
theorem dX10_nameOf_88 : decode cX10_nameOf 88 = .ok (.iconst 4, 1) := by decide +kernel
theorem dX10_nameOf_89 : decode cX10_nameOf 89 = .ok (.ireturn, 1) := by decide +kernel
theorem dX10_nameOf_90 : decode cX10_nameOf 90 = .ok (.iconst 5, 1) := by decide +kernel
theorem dX10_nameOf_91 : decode cX10_nameOf 91 = .ok (.ireturn, 1) := by decide +kernel
theorem dX10_nameOf_92 : decode cX10_nameOf 92 = .ok (.iconst (-1), 1) := by decide +kernel
theorem dX10_nameOf_93 : decode cX10_nameOf 93 = .ok (.ireturn, 1) := by decide +kernel
theorem dX10_one_0 : decode cX10_one 0 = .ok (.aload_n 0, 1) := by decide +kernel
theorem dX10_one_1 : decode cX10_one 1 = .ok (.getfield 184, 3) := by decide +kernel
theorem dX10_one_4 : decode cX10_one 4 = .ok (.ifCond .lt 5, 3) := by decide +kernel
theorem dX10_one_7 : decode cX10_one 7 = .ok (.iconst 0, 1) := by decide +kernel
theorem dX10_one_8 : decode cX10_one 8 = .ok (.ireturn, 1) := by decide +kernel
theorem dX10_one_9 : decode cX10_one 9 = .ok (.aload_n 0, 1) := by decide +kernel
theorem dX10_one_10 : decode cX10_one 10 = .ok (.invokevirtual 187, 3) := by decide +kernel
theorem dX10_one_13 : decode cX10_one 13 = .ok (.istore_n 1, 1) := by decide +kernel
theorem dX10_one_14 : decode cX10_one 14 = .ok (.iload_n 1, 1) := by decide +kernel
theorem dX10_one_15 : decode cX10_one 15 = .ok (.bipush 33, 2) := by decide +kernel
theorem dX10_one_17 : decode cX10_one 17 = .ok (.if_icmp .eq 15, 3) := by decide +kernel
theorem dX10_one_20 : decode cX10_one 20 = .ok (.iload_n 1, 1) := by decide +kernel
theorem dX10_one_21 : decode cX10_one 21 = .ok (.bipush 45, 2) := by decide +kernel
theorem dX10_one_23 : decode cX10_one 23 = .ok (.if_icmp .eq 9, 3) := by decide +kernel
theorem dX10_one_26 : decode cX10_one 26 = .ok (.iload_n 1, 1) := by decide +kernel
theorem dX10_one_27 : decode cX10_one 27 = .ok (.bipush 40, 2) := by decide +kernel
theorem dX10_one_29 : decode cX10_one 29 = .ok (.if_icmp .ne 116, 3) := by decide +kernel
theorem dX10_one_32 : decode cX10_one 32 = .ok (.aload_n 0, 1) := by decide +kernel
theorem dX10_one_33 : decode cX10_one 33 = .ok (.getfield 208, 3) := by decide +kernel
theorem dX10_one_36 : decode cX10_one 36 = .ok (.bipush 6, 2) := by decide +kernel
theorem dX10_one_38 : decode cX10_one 38 = .ok (.if_icmp .ne 8, 3) := by decide +kernel
theorem dX10_one_41 : decode cX10_one 41 = .ok (.aload_n 0, 1) := by decide +kernel
theorem dX10_one_42 : decode cX10_one 42 = .ok (.invokevirtual 211, 3) := by decide +kernel
theorem dX10_one_45 : decode cX10_one 45 = .ok (.ireturn, 1) := by decide +kernel
theorem dX10_one_46 : decode cX10_one 46 = .ok (.aload_n 0, 1) := by decide +kernel
theorem dX10_one_47 : decode cX10_one 47 = .ok (.dup, 1) := by decide +kernel
theorem dX10_one_48 : decode cX10_one 48 = .ok (.getfield 208, 3) := by decide +kernel
theorem dX10_one_51 : decode cX10_one 51 = .ok (.iconst 1, 1) := by decide +kernel
theorem dX10_one_52 : decode cX10_one 52 = .ok (.iadd, 1) := by decide +kernel
theorem dX10_one_53 : decode cX10_one 53 = .ok (.putfield 208, 3) := by decide +kernel
theorem dX10_one_56 : decode cX10_one 56 = .ok (.aload_n 0, 1) := by decide +kernel
theorem dX10_one_57 : decode cX10_one 57 = .ok (.dup, 1) := by decide +kernel
theorem dX10_one_58 : decode cX10_one 58 = .ok (.getfield 175, 3) := by decide +kernel
theorem dX10_one_61 : decode cX10_one 61 = .ok (.iconst 1, 1) := by decide +kernel
theorem dX10_one_62 : decode cX10_one 62 = .ok (.iadd, 1) := by decide +kernel
theorem dX10_one_63 : decode cX10_one 63 = .ok (.putfield 175, 3) := by decide +kernel
theorem dX10_one_66 : decode cX10_one 66 = .ok (.iload_n 1, 1) := by decide +kernel
theorem dX10_one_67 : decode cX10_one 67 = .ok (.bipush 40, 2) := by decide +kernel
theorem dX10_one_69 : decode cX10_one 69 = .ok (.if_icmp .ne 10, 3) := by decide +kernel
theorem dX10_one_72 : decode cX10_one 72 = .ok (.aload_n 0, 1) := by decide +kernel
theorem dX10_one_73 : decode cX10_one 73 = .ok (.invokevirtual 214, 3) := by decide +kernel
theorem dX10_one_76 : decode cX10_one 76 = .ok (.goto 7, 3) := by decide +kernel
theorem dX10_one_79 : decode cX10_one 79 = .ok (.aload_n 0, 1) := by decide +kernel
theorem dX10_one_80 : decode cX10_one 80 = .ok (.invokevirtual 205, 3) := by decide +kernel
theorem dX10_one_83 : decode cX10_one 83 = .ok (.istore_n 2, 1) := by decide +kernel
theorem dX10_one_84 : decode cX10_one 84 = .ok (.iload_n 1, 1) := by decide +kernel
theorem dX10_one_85 : decode cX10_one 85 = .ok (.bipush 40, 2) := by decide +kernel
theorem dX10_one_87 : decode cX10_one 87 = .ok (.if_icmp .ne 17, 3) := by decide +kernel
theorem dX10_one_90 : decode cX10_one 90 = .ok (.aload_n 0, 1) := by decide +kernel
theorem dX10_one_91 : decode cX10_one 91 = .ok (.bipush 41, 2) := by decide +kernel
theorem dX10_one_93 : decode cX10_one 93 = .ok (.invokevirtual 194, 3) := by decide +kernel
theorem dX10_one_96 : decode cX10_one 96 = .ok (.ifCond .ne 8, 3) := by decide +kernel
theorem dX10_one_99 : decode cX10_one 99 = .ok (.aload_n 0, 1) := by decide +kernel
theorem dX10_one_100 : decode cX10_one 100 = .ok (.invokevirtual 211, 3) := by decide +kernel
theorem dX10_one_103 : decode cX10_one 103 = .ok (.ireturn, 1) := by decide +kernel
theorem dX10_one_104 : decode cX10_one 104 = .ok (.aload_n 0, 1) := by decide +kernel
theorem dX10_one_105 : decode cX10_one 105 = .ok (.dup, 1) := by decide +kernel
theorem dX10_one_106 : decode cX10_one 106 = .ok (.getfield 208, 3) := by decide +kernel
theorem dX10_one_109 : decode cX10_one 109 = .ok (.iconst 1, 1) := by decide +kernel
theorem dX10_one_110 : decode cX10_one 110 = .ok (.isub, 1) := by decide +kernel
theorem dX10_one_111 : decode cX10_one 111 = .ok (.putfield 208, 3) := by decide +kernel
theorem dX10_one_114 : decode cX10_one 114 = .ok (.iload_n 1, 1) := by decide +kernel
theorem dX10_one_115 : decode cX10_one 115 = .ok (.bipush 40, 2) := by decide +kernel
theorem dX10_one_117 : decode cX10_one 117 = .ok (.if_icmp .ne 7, 3) := by decide +kernel
theorem dX10_one_120 : decode cX10_one 120 = .ok (.iload_n 2, 1) := by decide +kernel
theorem dX10_one_121 : decode cX10_one 121 = .ok (.goto 23, 3) := by decide +kernel
theorem dX10_one_124 : decode cX10_one 124 = .ok (.iload_n 1, 1) := by decide +kernel
theorem dX10_one_125 : decode cX10_one 125 = .ok (.bipush 45, 2) := by decide +kernel
theorem dX10_one_127 : decode cX10_one 127 = .ok (.if_icmp .ne 8, 3) := by decide +kernel
theorem dX10_one_130 : decode cX10_one 130 = .ok (.iload_n 2, 1) := by decide +kernel
theorem dX10_one_131 : decode cX10_one 131 = .ok (.ineg, 1) := by decide +kernel
theorem dX10_one_132 : decode cX10_one 132 = .ok (.goto 12, 3) := by decide +kernel
theorem dX10_one_135 : decode cX10_one 135 = .ok (.iload_n 2, 1) := by decide +kernel
theorem dX10_one_136 : decode cX10_one 136 = .ok (.ifCond .ne 7, 3) := by decide +kernel
theorem dX10_one_139 : decode cX10_one 139 = .ok (.iconst 1, 1) := by decide +kernel
theorem dX10_one_140 : decode cX10_one 140 = .ok (.goto 4, 3) := by decide +kernel
theorem dX10_one_143 : decode cX10_one 143 = .ok (.iconst 0, 1) := by decide +kernel
theorem dX10_one_144 : decode cX10_one 144 = .ok (.ireturn, 1) := by decide +kernel
theorem dX10_one_145 : decode cX10_one 145 = .ok (.iload_n 1, 1) := by decide +kernel
theorem dX10_one_146 : decode cX10_one 146 = .ok (.invokestatic 217, 3) := by decide +kernel
theorem dX10_one_149 : decode cX10_one 149 = .ok (.istore_n 2, 1) := by decide +kernel
theorem dX10_one_150 : decode cX10_one 150 = .ok (.iload_n 2, 1) := by decide +kernel
theorem dX10_one_151 : decode cX10_one 151 = .ok (.ifCond .lt 20, 3) := by decide +kernel
theorem dX10_one_154 : decode cX10_one 154 = .ok (.aload_n 0, 1) := by decide +kernel
theorem dX10_one_155 : decode cX10_one 155 = .ok (.dup, 1) := by decide +kernel
theorem dX10_one_156 : decode cX10_one 156 = .ok (.getfield 175, 3) := by decide +kernel
theorem dX10_one_159 : decode cX10_one 159 = .ok (.iconst 1, 1) := by decide +kernel
theorem dX10_one_160 : decode cX10_one 160 = .ok (.iadd, 1) := by decide +kernel
theorem dX10_one_161 : decode cX10_one 161 = .ok (.putfield 175, 3) := by decide +kernel
theorem dX10_one_164 : decode cX10_one 164 = .ok (.aload_n 0, 1) := by decide +kernel
theorem dX10_one_165 : decode cX10_one 165 = .ok (.getfield 31, 3) := by decide +kernel
theorem dX10_one_168 : decode cX10_one 168 = .ok (.iload_n 2, 1) := by decide +kernel
theorem dX10_one_169 : decode cX10_one 169 = .ok (.iaload, 1) := by decide +kernel
theorem dX10_one_170 : decode cX10_one 170 = .ok (.ireturn, 1) := by decide +kernel
theorem dX10_one_171 : decode cX10_one 171 = .ok (.iconst 0, 1) := by decide +kernel
theorem dX10_one_172 : decode cX10_one 172 = .ok (.istore_n 3, 1) := by decide +kernel
theorem dX10_one_173 : decode cX10_one 173 = .ok (.iconst 0, 1) := by decide +kernel
theorem dX10_one_174 : decode cX10_one 174 = .ok (.istore 4, 2) := by decide +kernel
theorem dX10_one_176 : decode cX10_one 176 = .ok (.iload 4, 2) := by decide +kernel
theorem dX10_one_178 : decode cX10_one 178 = .ok (.iconst 4, 1) := by decide +kernel
theorem dX10_one_179 : decode cX10_one 179 = .ok (.if_icmp .ge 50, 3) := by decide +kernel
theorem dX10_one_182 : decode cX10_one 182 = .ok (.aload_n 0, 1) := by decide +kernel
theorem dX10_one_183 : decode cX10_one 183 = .ok (.invokevirtual 187, 3) := by decide +kernel
theorem dX10_one_186 : decode cX10_one 186 = .ok (.bipush 48, 2) := by decide +kernel
theorem dX10_one_188 : decode cX10_one 188 = .ok (.if_icmp .lt 41, 3) := by decide +kernel
theorem dX10_one_191 : decode cX10_one 191 = .ok (.aload_n 0, 1) := by decide +kernel
theorem dX10_one_192 : decode cX10_one 192 = .ok (.invokevirtual 187, 3) := by decide +kernel
theorem dX10_one_195 : decode cX10_one 195 = .ok (.bipush 57, 2) := by decide +kernel
theorem dX10_one_197 : decode cX10_one 197 = .ok (.if_icmp .gt 32, 3) := by decide +kernel
theorem dX10_one_200 : decode cX10_one 200 = .ok (.bipush 10, 2) := by decide +kernel
theorem dX10_one_202 : decode cX10_one 202 = .ok (.iload_n 3, 1) := by decide +kernel
theorem dX10_one_203 : decode cX10_one 203 = .ok (.imul, 1) := by decide +kernel
theorem dX10_one_204 : decode cX10_one 204 = .ok (.aload_n 0, 1) := by decide +kernel
theorem dX10_one_205 : decode cX10_one 205 = .ok (.invokevirtual 187, 3) := by decide +kernel
theorem dX10_one_208 : decode cX10_one 208 = .ok (.iadd, 1) := by decide +kernel
theorem dX10_one_209 : decode cX10_one 209 = .ok (.bipush 48, 2) := by decide +kernel
theorem dX10_one_211 : decode cX10_one 211 = .ok (.isub, 1) := by decide +kernel
theorem dX10_one_212 : decode cX10_one 212 = .ok (.istore_n 3, 1) := by decide +kernel
theorem dX10_one_213 : decode cX10_one 213 = .ok (.iinc 4 1, 3) := by decide +kernel
theorem dX10_one_216 : decode cX10_one 216 = .ok (.aload_n 0, 1) := by decide +kernel
theorem dX10_one_217 : decode cX10_one 217 = .ok (.dup, 1) := by decide +kernel
theorem dX10_one_218 : decode cX10_one 218 = .ok (.getfield 175, 3) := by decide +kernel
theorem dX10_one_221 : decode cX10_one 221 = .ok (.iconst 1, 1) := by decide +kernel
theorem dX10_one_222 : decode cX10_one 222 = .ok (.iadd, 1) := by decide +kernel
theorem dX10_one_223 : decode cX10_one 223 = .ok (.putfield 175, 3) := by decide +kernel
theorem dX10_one_226 : decode cX10_one 226 = .ok (.goto (-50), 3) := by decide +kernel
theorem dX10_one_229 : decode cX10_one 229 = .ok (.iload 4, 2) := by decide +kernel
theorem dX10_one_231 : decode cX10_one 231 = .ok (.ifCond .ne 10, 3) := by decide +kernel
theorem dX10_one_234 : decode cX10_one 234 = .ok (.aload_n 0, 1) := by decide +kernel
theorem dX10_one_235 : decode cX10_one 235 = .ok (.invokevirtual 211, 3) := by decide +kernel
theorem dX10_one_238 : decode cX10_one 238 = .ok (.goto 4, 3) := by decide +kernel
theorem dX10_one_241 : decode cX10_one 241 = .ok (.iload_n 3, 1) := by decide +kernel
theorem dX10_one_242 : decode cX10_one 242 = .ok (.ireturn, 1) := by decide +kernel
theorem dX10_workOut_0 : decode cX10_workOut 0 = .ok (.aload_n 0, 1) := by decide +kernel
theorem dX10_workOut_1 : decode cX10_workOut 1 = .ok (.iload_n 1, 1) := by decide +kernel
theorem dX10_workOut_2 : decode cX10_workOut 2 = .ok (.putfield 181, 3) := by decide +kernel
theorem dX10_workOut_5 : decode cX10_workOut 5 = .ok (.aload_n 0, 1) := by decide +kernel
theorem dX10_workOut_6 : decode cX10_workOut 6 = .ok (.iconst 0, 1) := by decide +kernel
theorem dX10_workOut_7 : decode cX10_workOut 7 = .ok (.putfield 175, 3) := by decide +kernel
theorem dX10_workOut_10 : decode cX10_workOut 10 = .ok (.aload_n 0, 1) := by decide +kernel
theorem dX10_workOut_11 : decode cX10_workOut 11 = .ok (.iload_n 2, 1) := by decide +kernel
theorem dX10_workOut_12 : decode cX10_workOut 12 = .ok (.putfield 178, 3) := by decide +kernel
theorem dX10_workOut_15 : decode cX10_workOut 15 = .ok (.aload_n 0, 1) := by decide +kernel
theorem dX10_workOut_16 : decode cX10_workOut 16 = .ok (.iconst (-1), 1) := by decide +kernel
theorem dX10_workOut_17 : decode cX10_workOut 17 = .ok (.putfield 184, 3) := by decide +kernel
theorem dX10_workOut_20 : decode cX10_workOut 20 = .ok (.aload_n 0, 1) := by decide +kernel
theorem dX10_workOut_21 : decode cX10_workOut 21 = .ok (.iconst 0, 1) := by decide +kernel
theorem dX10_workOut_22 : decode cX10_workOut 22 = .ok (.putfield 208, 3) := by decide +kernel
theorem dX10_workOut_25 : decode cX10_workOut 25 = .ok (.iconst 0, 1) := by decide +kernel
theorem dX10_workOut_26 : decode cX10_workOut 26 = .ok (.istore_n 3, 1) := by decide +kernel
theorem dX10_workOut_27 : decode cX10_workOut 27 = .ok (.iconst 0, 1) := by decide +kernel
theorem dX10_workOut_28 : decode cX10_workOut 28 = .ok (.istore 4, 2) := by decide +kernel
theorem dX10_workOut_30 : decode cX10_workOut 30 = .ok (.iconst 1, 1) := by decide +kernel
theorem dX10_workOut_31 : decode cX10_workOut 31 = .ok (.istore 5, 2) := by decide +kernel
theorem dX10_workOut_33 : decode cX10_workOut 33 = .ok (.iload 5, 2) := by decide +kernel
theorem dX10_workOut_35 : decode cX10_workOut 35 = .ok (.ifCond .eq 72, 3) := by decide +kernel
theorem dX10_workOut_38 : decode cX10_workOut 38 = .ok (.aload_n 0, 1) := by decide +kernel
theorem dX10_workOut_39 : decode cX10_workOut 39 = .ok (.invokevirtual 214, 3) := by decide +kernel
theorem dX10_workOut_42 : decode cX10_workOut 42 = .ok (.istore 6, 2) := by decide +kernel
theorem dX10_workOut_44 : decode cX10_workOut 44 = .ok (.iconst 1, 1) := by decide +kernel
theorem dX10_workOut_45 : decode cX10_workOut 45 = .ok (.istore 7, 2) := by decide +kernel
theorem dX10_workOut_47 : decode cX10_workOut 47 = .ok (.aload_n 0, 1) := by decide +kernel
theorem dX10_workOut_48 : decode cX10_workOut 48 = .ok (.bipush 63, 2) := by decide +kernel
theorem dX10_workOut_50 : decode cX10_workOut 50 = .ok (.invokevirtual 194, 3) := by decide +kernel
theorem dX10_workOut_53 : decode cX10_workOut 53 = .ok (.ifCond .eq 21, 3) := by decide +kernel
theorem dX10_workOut_56 : decode cX10_workOut 56 = .ok (.iload 6, 2) := by decide +kernel
theorem dX10_workOut_58 : decode cX10_workOut 58 = .ok (.ifCond .eq 7, 3) := by decide +kernel
theorem dX10_workOut_61 : decode cX10_workOut 61 = .ok (.iconst 1, 1) := by decide +kernel
theorem dX10_workOut_62 : decode cX10_workOut 62 = .ok (.goto 4, 3) := by decide +kernel
theorem dX10_workOut_65 : decode cX10_workOut 65 = .ok (.iconst 0, 1) := by decide +kernel
theorem dX10_workOut_66 : decode cX10_workOut 66 = .ok (.istore 7, 2) := by decide +kernel
theorem dX10_workOut_68 : decode cX10_workOut 68 = .ok (.aload_n 0, 1) := by decide +kernel
theorem dX10_workOut_69 : decode cX10_workOut 69 = .ok (.invokevirtual 214, 3) := by decide +kernel
theorem dX10_workOut_72 : decode cX10_workOut 72 = .ok (.istore 6, 2) := by decide +kernel
theorem dX10_workOut_74 : decode cX10_workOut 74 = .ok (.aload_n 0, 1) := by decide +kernel
theorem dX10_workOut_75 : decode cX10_workOut 75 = .ok (.getfield 184, 3) := by decide +kernel
theorem dX10_workOut_78 : decode cX10_workOut 78 = .ok (.ifCond .ge 18, 3) := by decide +kernel
theorem dX10_workOut_81 : decode cX10_workOut 81 = .ok (.iload 7, 2) := by decide +kernel
theorem dX10_workOut_83 : decode cX10_workOut 83 = .ok (.ifCond .eq 13, 3) := by decide +kernel
theorem dX10_workOut_86 : decode cX10_workOut 86 = .ok (.iload_n 3, 1) := by decide +kernel
theorem dX10_workOut_87 : decode cX10_workOut 87 = .ok (.ifCond .ne 9, 3) := by decide +kernel
theorem dX10_workOut_90 : decode cX10_workOut 90 = .ok (.iconst 1, 1) := by decide +kernel
theorem dX10_workOut_91 : decode cX10_workOut 91 = .ok (.istore_n 3, 1) := by decide +kernel
theorem dX10_workOut_92 : decode cX10_workOut 92 = .ok (.iload 6, 2) := by decide +kernel
theorem dX10_workOut_94 : decode cX10_workOut 94 = .ok (.istore 4, 2) := by decide +kernel
theorem dX10_workOut_96 : decode cX10_workOut 96 = .ok (.aload_n 0, 1) := by decide +kernel
theorem dX10_workOut_97 : decode cX10_workOut 97 = .ok (.bipush 59, 2) := by decide +kernel
theorem dX10_workOut_99 : decode cX10_workOut 99 = .ok (.invokevirtual 194, 3) := by decide +kernel
theorem dX10_workOut_102 : decode cX10_workOut 102 = .ok (.istore 5, 2) := by decide +kernel
theorem dX10_workOut_104 : decode cX10_workOut 104 = .ok (.goto (-71), 3) := by decide +kernel
theorem dX10_workOut_107 : decode cX10_workOut 107 = .ok (.aload_n 0, 1) := by decide +kernel
theorem dX10_workOut_108 : decode cX10_workOut 108 = .ok (.getfield 184, 3) := by decide +kernel
theorem dX10_workOut_111 : decode cX10_workOut 111 = .ok (.ifCond .ge 19, 3) := by decide +kernel
theorem dX10_workOut_114 : decode cX10_workOut 114 = .ok (.aload_n 0, 1) := by decide +kernel
theorem dX10_workOut_115 : decode cX10_workOut 115 = .ok (.getfield 175, 3) := by decide +kernel
theorem dX10_workOut_118 : decode cX10_workOut 118 = .ok (.aload_n 0, 1) := by decide +kernel
theorem dX10_workOut_119 : decode cX10_workOut 119 = .ok (.getfield 178, 3) := by decide +kernel
theorem dX10_workOut_122 : decode cX10_workOut 122 = .ok (.if_icmp .ge 8, 3) := by decide +kernel
theorem dX10_workOut_125 : decode cX10_workOut 125 = .ok (.aload_n 0, 1) := by decide +kernel
theorem dX10_workOut_126 : decode cX10_workOut 126 = .ok (.invokevirtual 211, 3) := by decide +kernel
theorem dX10_workOut_129 : decode cX10_workOut 129 = .ok (.ireturn, 1) := by decide +kernel
theorem dX10_workOut_130 : decode cX10_workOut 130 = .ok (.iload 4, 2) := by decide +kernel
theorem dX10_workOut_132 : decode cX10_workOut 132 = .ok (.ireturn, 1) := by decide +kernel
theorem dX10_law_0 : decode cX10_law 0 = .ok (.aload_n 0, 1) := by decide +kernel
theorem dX10_law_1 : decode cX10_law 1 = .ok (.iconst (-1), 1) := by decide +kernel
theorem dX10_law_2 : decode cX10_law 2 = .ok (.aload_n 0, 1) := by decide +kernel
theorem dX10_law_3 : decode cX10_law 3 = .ok (.getfield 172, 3) := by decide +kernel
theorem dX10_law_6 : decode cX10_law 6 = .ok (.invokevirtual 221, 3) := by decide +kernel
theorem dX10_law_9 : decode cX10_law 9 = .ok (.istore_n 1, 1) := by decide +kernel
theorem dX10_law_10 : decode cX10_law 10 = .ok (.aload_n 0, 1) := by decide +kernel
theorem dX10_law_11 : decode cX10_law 11 = .ok (.getfield 172, 3) := by decide +kernel
theorem dX10_law_14 : decode cX10_law 14 = .ok (.istore_n 2, 1) := by decide +kernel
theorem dX10_law_15 : decode cX10_law 15 = .ok (.aload_n 0, 1) := by decide +kernel
theorem dX10_law_16 : decode cX10_law 16 = .ok (.iconst 0, 1) := by decide +kernel
theorem dX10_law_17 : decode cX10_law 17 = .ok (.putfield 172, 3) := by decide +kernel
theorem dX10_law_20 : decode cX10_law 20 = .ok (.aload_n 0, 1) := by decide +kernel
theorem dX10_law_21 : decode cX10_law 21 = .ok (.getfield 184, 3) := by decide +kernel
theorem dX10_law_24 : decode cX10_law 24 = .ok (.ifCond .lt 11, 3) := by decide +kernel
theorem dX10_law_27 : decode cX10_law 27 = .ok (.bipush (-100), 2) := by decide +kernel
theorem dX10_law_29 : decode cX10_law 29 = .ok (.aload_n 0, 1) := by decide +kernel
theorem dX10_law_30 : decode cX10_law 30 = .ok (.getfield 184, 3) := by decide +kernel
theorem dX10_law_33 : decode cX10_law 33 = .ok (.isub, 1) := by decide +kernel
theorem dX10_law_34 : decode cX10_law 34 = .ok (.ireturn, 1) := by decide +kernel
theorem dX10_law_35 : decode cX10_law 35 = .ok (.iconst 0, 1) := by decide +kernel
theorem dX10_law_36 : decode cX10_law 36 = .ok (.istore_n 3, 1) := by decide +kernel
theorem dX10_law_37 : decode cX10_law 37 = .ok (.iload_n 3, 1) := by decide +kernel
theorem dX10_law_38 : decode cX10_law 38 = .ok (.iload_n 2, 1) := by decide +kernel
theorem dX10_law_39 : decode cX10_law 39 = .ok (.if_icmp .ge 21, 3) := by decide +kernel
theorem dX10_law_42 : decode cX10_law 42 = .ok (.aload_n 0, 1) := by decide +kernel
theorem dX10_law_43 : decode cX10_law 43 = .ok (.getfield 28, 3) := by decide +kernel
theorem dX10_law_46 : decode cX10_law 46 = .ok (.iload_n 3, 1) := by decide +kernel
theorem dX10_law_47 : decode cX10_law 47 = .ok (.aload_n 0, 1) := by decide +kernel
theorem dX10_law_48 : decode cX10_law 48 = .ok (.getfield 25, 3) := by decide +kernel
theorem dX10_law_51 : decode cX10_law 51 = .ok (.iload_n 3, 1) := by decide +kernel
theorem dX10_law_52 : decode cX10_law 52 = .ok (.iaload, 1) := by decide +kernel
theorem dX10_law_53 : decode cX10_law 53 = .ok (.iastore, 1) := by decide +kernel
theorem dX10_law_54 : decode cX10_law 54 = .ok (.iinc 3 1, 3) := by decide +kernel
theorem dX10_law_57 : decode cX10_law 57 = .ok (.goto (-20), 3) := by decide +kernel
theorem dX10_law_60 : decode cX10_law 60 = .ok (.aload_n 0, 1) := by decide +kernel
theorem dX10_law_61 : decode cX10_law 61 = .ok (.iload_n 2, 1) := by decide +kernel
theorem dX10_law_62 : decode cX10_law 62 = .ok (.putfield 90, 3) := by decide +kernel
theorem dX10_law_65 : decode cX10_law 65 = .ok (.iconst 1, 1) := by decide +kernel
theorem dX10_law_66 : decode cX10_law 66 = .ok (.ireturn, 1) := by decide +kernel
theorem dX10_worthOf_0 : decode cX10_worthOf 0 = .ok (.aload_n 0, 1) := by decide +kernel
theorem dX10_worthOf_1 : decode cX10_worthOf 1 = .ok (.getfield 9, 3) := by decide +kernel
theorem dX10_worthOf_4 : decode cX10_worthOf 4 = .ok (.iload_n 3, 1) := by decide +kernel
theorem dX10_worthOf_5 : decode cX10_worthOf 5 = .ok (.iconst 4, 1) := by decide +kernel
theorem dX10_worthOf_6 : decode cX10_worthOf 6 = .ok (.idiv, 1) := by decide +kernel
theorem dX10_worthOf_7 : decode cX10_worthOf 7 = .ok (.iaload, 1) := by decide +kernel
theorem dX10_worthOf_8 : decode cX10_worthOf 8 = .ok (.istore 4, 2) := by decide +kernel
theorem dX10_worthOf_10 : decode cX10_worthOf 10 = .ok (.iload 4, 2) := by decide +kernel
theorem dX10_worthOf_12 : decode cX10_worthOf 12 = .ok (.aload_n 0, 1) := by decide +kernel
theorem dX10_worthOf_13 : decode cX10_worthOf 13 = .ok (.getfield 9, 3) := by decide +kernel
theorem dX10_worthOf_16 : decode cX10_worthOf 16 = .ok (.bipush 12, 2) := by decide +kernel
theorem dX10_worthOf_18 : decode cX10_worthOf 18 = .ok (.iload_n 1, 1) := by decide +kernel
theorem dX10_worthOf_19 : decode cX10_worthOf 19 = .ok (.iadd, 1) := by decide +kernel
theorem dX10_worthOf_20 : decode cX10_worthOf 20 = .ok (.iaload, 1) := by decide +kernel
theorem dX10_worthOf_21 : decode cX10_worthOf 21 = .ok (.imul, 1) := by decide +kernel
theorem dX10_worthOf_22 : decode cX10_worthOf 22 = .ok (.istore 5, 2) := by decide +kernel
theorem dX10_worthOf_24 : decode cX10_worthOf 24 = .ok (.aload_n 0, 1) := by decide +kernel
theorem dX10_worthOf_25 : decode cX10_worthOf 25 = .ok (.getfield 90, 3) := by decide +kernel
theorem dX10_worthOf_28 : decode cX10_worthOf 28 = .ok (.ifCond .lt 67, 3) := by decide +kernel
theorem dX10_worthOf_31 : decode cX10_worthOf 31 = .ok (.aload_n 0, 1) := by decide +kernel
theorem dX10_worthOf_32 : decode cX10_worthOf 32 = .ok (.getfield 31, 3) := by decide +kernel
theorem dX10_worthOf_35 : decode cX10_worthOf 35 = .ok (.iconst 0, 1) := by decide +kernel
theorem dX10_worthOf_36 : decode cX10_worthOf 36 = .ok (.iload_n 3, 1) := by decide +kernel
theorem dX10_worthOf_37 : decode cX10_worthOf 37 = .ok (.iastore, 1) := by decide +kernel
theorem dX10_worthOf_38 : decode cX10_worthOf 38 = .ok (.aload_n 0, 1) := by decide +kernel
theorem dX10_worthOf_39 : decode cX10_worthOf 39 = .ok (.getfield 31, 3) := by decide +kernel
theorem dX10_worthOf_42 : decode cX10_worthOf 42 = .ok (.iconst 1, 1) := by decide +kernel
theorem dX10_worthOf_43 : decode cX10_worthOf 43 = .ok (.iload_n 3, 1) := by decide +kernel
theorem dX10_worthOf_44 : decode cX10_worthOf 44 = .ok (.iconst 4, 1) := by decide +kernel
theorem dX10_worthOf_45 : decode cX10_worthOf 45 = .ok (.idiv, 1) := by decide +kernel
theorem dX10_worthOf_46 : decode cX10_worthOf 46 = .ok (.iastore, 1) := by decide +kernel
theorem dX10_worthOf_47 : decode cX10_worthOf 47 = .ok (.aload_n 0, 1) := by decide +kernel
theorem dX10_worthOf_48 : decode cX10_worthOf 48 = .ok (.getfield 31, 3) := by decide +kernel
theorem dX10_worthOf_51 : decode cX10_worthOf 51 = .ok (.iconst 2, 1) := by decide +kernel
theorem dX10_worthOf_52 : decode cX10_worthOf 52 = .ok (.iload 4, 2) := by decide +kernel
theorem dX10_worthOf_54 : decode cX10_worthOf 54 = .ok (.iastore, 1) := by decide +kernel
theorem dX10_worthOf_55 : decode cX10_worthOf 55 = .ok (.aload_n 0, 1) := by decide +kernel
theorem dX10_worthOf_56 : decode cX10_worthOf 56 = .ok (.getfield 31, 3) := by decide +kernel
theorem dX10_worthOf_59 : decode cX10_worthOf 59 = .ok (.iconst 3, 1) := by decide +kernel
theorem dX10_worthOf_60 : decode cX10_worthOf 60 = .ok (.aload_n 0, 1) := by decide +kernel
theorem dX10_worthOf_61 : decode cX10_worthOf 61 = .ok (.getfield 9, 3) := by decide +kernel
theorem dX10_worthOf_64 : decode cX10_worthOf 64 = .ok (.bipush 12, 2) := by decide +kernel
theorem dX10_worthOf_66 : decode cX10_worthOf 66 = .ok (.iload_n 1, 1) := by decide +kernel
theorem dX10_worthOf_67 : decode cX10_worthOf 67 = .ok (.iadd, 1) := by decide +kernel
theorem dX10_worthOf_68 : decode cX10_worthOf 68 = .ok (.iaload, 1) := by decide +kernel
theorem dX10_worthOf_69 : decode cX10_worthOf 69 = .ok (.iastore, 1) := by decide +kernel
theorem dX10_worthOf_70 : decode cX10_worthOf 70 = .ok (.aload_n 0, 1) := by decide +kernel
theorem dX10_worthOf_71 : decode cX10_worthOf 71 = .ok (.getfield 31, 3) := by decide +kernel
theorem dX10_worthOf_74 : decode cX10_worthOf 74 = .ok (.iconst 4, 1) := by decide +kernel
theorem dX10_worthOf_75 : decode cX10_worthOf 75 = .ok (.iload_n 1, 1) := by decide +kernel
theorem dX10_worthOf_76 : decode cX10_worthOf 76 = .ok (.iastore, 1) := by decide +kernel
theorem dX10_worthOf_77 : decode cX10_worthOf 77 = .ok (.aload_n 0, 1) := by decide +kernel
theorem dX10_worthOf_78 : decode cX10_worthOf 78 = .ok (.getfield 31, 3) := by decide +kernel
theorem dX10_worthOf_81 : decode cX10_worthOf 81 = .ok (.iconst 5, 1) := by decide +kernel
theorem dX10_worthOf_82 : decode cX10_worthOf 82 = .ok (.iload_n 2, 1) := by decide +kernel
theorem dX10_worthOf_83 : decode cX10_worthOf 83 = .ok (.iastore, 1) := by decide +kernel
theorem dX10_worthOf_84 : decode cX10_worthOf 84 = .ok (.aload_n 0, 1) := by decide +kernel
theorem dX10_worthOf_85 : decode cX10_worthOf 85 = .ok (.iconst 0, 1) := by decide +kernel
theorem dX10_worthOf_86 : decode cX10_worthOf 86 = .ok (.aload_n 0, 1) := by decide +kernel
theorem dX10_worthOf_87 : decode cX10_worthOf 87 = .ok (.getfield 90, 3) := by decide +kernel
theorem dX10_worthOf_90 : decode cX10_worthOf 90 = .ok (.invokevirtual 221, 3) := by decide +kernel
theorem dX10_worthOf_93 : decode cX10_worthOf 93 = .ok (.istore 5, 2) := by decide +kernel
theorem dX10_worthOf_95 : decode cX10_worthOf 95 = .ok (.iload 5, 2) := by decide +kernel
theorem dX10_worthOf_97 : decode cX10_worthOf 97 = .ok (.ifCond .ge 7, 3) := by decide +kernel
theorem dX10_worthOf_100 : decode cX10_worthOf 100 = .ok (.iconst 0, 1) := by decide +kernel
theorem dX10_worthOf_101 : decode cX10_worthOf 101 = .ok (.goto 17, 3) := by decide +kernel
theorem dX10_worthOf_104 : decode cX10_worthOf 104 = .ok (.iload 5, 2) := by decide +kernel
theorem dX10_worthOf_106 : decode cX10_worthOf 106 = .ok (.bipush 99, 2) := by decide +kernel
theorem dX10_worthOf_108 : decode cX10_worthOf 108 = .ok (.if_icmp .le 8, 3) := by decide +kernel
theorem dX10_worthOf_111 : decode cX10_worthOf 111 = .ok (.bipush 99, 2) := by decide +kernel
theorem dX10_worthOf_113 : decode cX10_worthOf 113 = .ok (.goto 5, 3) := by decide +kernel
theorem dX10_worthOf_116 : decode cX10_worthOf 116 = .ok (.iload 5, 2) := by decide +kernel
theorem dX10_worthOf_118 : decode cX10_worthOf 118 = .ok (.ireturn, 1) := by decide +kernel
theorem dX10_worth_0 : decode cX10_worth 0 = .ok (.aload_n 0, 1) := by decide +kernel
theorem dX10_worth_1 : decode cX10_worth 1 = .ok (.iload_n 1, 1) := by decide +kernel
theorem dX10_worth_2 : decode cX10_worth 2 = .ok (.invokevirtual 164, 3) := by decide +kernel
theorem dX10_worth_5 : decode cX10_worth 5 = .ok (.ifCond .eq 26, 3) := by decide +kernel
theorem dX10_worth_8 : decode cX10_worth 8 = .ok (.iload_n 2, 1) := by decide +kernel
theorem dX10_worth_9 : decode cX10_worth 9 = .ok (.invokestatic 224, 3) := by decide +kernel
theorem dX10_worth_12 : decode cX10_worth 12 = .ok (.ifCond .eq 19, 3) := by decide +kernel
theorem dX10_worth_15 : decode cX10_worth 15 = .ok (.aload_n 0, 1) := by decide +kernel
theorem dX10_worth_16 : decode cX10_worth 16 = .ok (.iload_n 1, 1) := by decide +kernel
theorem dX10_worth_17 : decode cX10_worth 17 = .ok (.bipush 10, 2) := by decide +kernel
theorem dX10_worth_19 : decode cX10_worth 19 = .ok (.idiv, 1) := by decide +kernel
theorem dX10_worth_20 : decode cX10_worth 20 = .ok (.iload_n 1, 1) := by decide +kernel
theorem dX10_worth_21 : decode cX10_worth 21 = .ok (.bipush 10, 2) := by decide +kernel
theorem dX10_worth_23 : decode cX10_worth 23 = .ok (.irem, 1) := by decide +kernel
theorem dX10_worth_24 : decode cX10_worth 24 = .ok (.iload_n 2, 1) := by decide +kernel
theorem dX10_worth_25 : decode cX10_worth 25 = .ok (.invokevirtual 227, 3) := by decide +kernel
theorem dX10_worth_28 : decode cX10_worth 28 = .ok (.goto 4, 3) := by decide +kernel
theorem dX10_worth_31 : decode cX10_worth 31 = .ok (.iconst (-1), 1) := by decide +kernel
theorem dX10_worth_32 : decode cX10_worth 32 = .ok (.ireturn, 1) := by decide +kernel
theorem dX10_mayAsk_0 : decode cX10_mayAsk 0 = .ok (.iload_n 1, 1) := by decide +kernel
theorem dX10_mayAsk_1 : decode cX10_mayAsk 1 = .ok (.i2l, 1) := by decide +kernel
theorem dX10_mayAsk_2 : decode cX10_mayAsk 2 = .ok (.aload_n 0, 1) := by decide +kernel
theorem dX10_mayAsk_3 : decode cX10_mayAsk 3 = .ok (.getfield 231, 3) := by decide +kernel
theorem dX10_mayAsk_6 : decode cX10_mayAsk 6 = .ok (.iconst 3, 1) := by decide +kernel
theorem dX10_mayAsk_7 : decode cX10_mayAsk 7 = .ok (.iadd, 1) := by decide +kernel
theorem dX10_mayAsk_8 : decode cX10_mayAsk 8 = .ok (.i2l, 1) := by decide +kernel
theorem dX10_mayAsk_9 : decode cX10_mayAsk 9 = .ok (.ldc2_w 114, 3) := by decide +kernel
theorem dX10_mayAsk_12 : decode cX10_mayAsk 12 = .ok (.invokestatic 103, 3) := by decide +kernel
theorem dX10_mayAsk_15 : decode cX10_mayAsk 15 = .ok (.ifCond .eq 14, 3) := by decide +kernel
theorem dX10_mayAsk_18 : decode cX10_mayAsk 18 = .ok (.iload_n 1, 1) := by decide +kernel
theorem dX10_mayAsk_19 : decode cX10_mayAsk 19 = .ok (.invokestatic 234, 3) := by decide +kernel
theorem dX10_mayAsk_22 : decode cX10_mayAsk 22 = .ok (.ifCond .ne 7, 3) := by decide +kernel
theorem dX10_mayAsk_25 : decode cX10_mayAsk 25 = .ok (.iconst 1, 1) := by decide +kernel
theorem dX10_mayAsk_26 : decode cX10_mayAsk 26 = .ok (.goto 4, 3) := by decide +kernel
theorem dX10_mayAsk_29 : decode cX10_mayAsk 29 = .ok (.iconst 0, 1) := by decide +kernel
theorem dX10_mayAsk_30 : decode cX10_mayAsk 30 = .ok (.ireturn, 1) := by decide +kernel
theorem dX10_ask_0 : decode cX10_ask 0 = .ok (.aload_n 0, 1) := by decide +kernel
theorem dX10_ask_1 : decode cX10_ask 1 = .ok (.iload_n 1, 1) := by decide +kernel
theorem dX10_ask_2 : decode cX10_ask 2 = .ok (.invokevirtual 146, 3) := by decide +kernel
theorem dX10_ask_5 : decode cX10_ask 5 = .ok (.ifCond .eq 11, 3) := by decide +kernel
theorem dX10_ask_8 : decode cX10_ask 8 = .ok (.aload_n 0, 1) := by decide +kernel
theorem dX10_ask_9 : decode cX10_ask 9 = .ok (.iload_n 2, 1) := by decide +kernel
theorem dX10_ask_10 : decode cX10_ask 10 = .ok (.invokevirtual 237, 3) := by decide +kernel
theorem dX10_ask_13 : decode cX10_ask 13 = .ok (.ifCond .ne 5, 3) := by decide +kernel
theorem dX10_ask_16 : decode cX10_ask 16 = .ok (.iconst (-1), 1) := by decide +kernel
theorem dX10_ask_17 : decode cX10_ask 17 = .ok (.ireturn, 1) := by decide +kernel
theorem dX10_ask_18 : decode cX10_ask 18 = .ok (.aload_n 0, 1) := by decide +kernel
theorem dX10_ask_19 : decode cX10_ask 19 = .ok (.iload_n 1, 1) := by decide +kernel
theorem dX10_ask_20 : decode cX10_ask 20 = .ok (.invokevirtual 240, 3) := by decide +kernel
theorem dX10_ask_23 : decode cX10_ask 23 = .ok (.ifCond .ne 6, 3) := by decide +kernel
theorem dX10_ask_26 : decode cX10_ask 26 = .ok (.bipush (-5), 2) := by decide +kernel
theorem dX10_ask_28 : decode cX10_ask 28 = .ok (.ireturn, 1) := by decide +kernel
theorem dX10_ask_29 : decode cX10_ask 29 = .ok (.aload_n 0, 1) := by decide +kernel
theorem dX10_ask_30 : decode cX10_ask 30 = .ok (.getfield 161, 3) := by decide +kernel
theorem dX10_ask_33 : decode cX10_ask 33 = .ok (.bipush 30, 2) := by decide +kernel
theorem dX10_ask_35 : decode cX10_ask 35 = .ok (.if_icmp .ne 6, 3) := by decide +kernel
theorem dX10_ask_38 : decode cX10_ask 38 = .ok (.bipush (-3), 2) := by decide +kernel
theorem dX10_ask_40 : decode cX10_ask 40 = .ok (.ireturn, 1) := by decide +kernel
theorem dX10_ask_41 : decode cX10_ask 41 = .ok (.aload_n 0, 1) := by decide +kernel
theorem dX10_ask_42 : decode cX10_ask 42 = .ok (.getfield 34, 3) := by decide +kernel
theorem dX10_ask_45 : decode cX10_ask 45 = .ok (.iconst 3, 1) := by decide +kernel
theorem dX10_ask_46 : decode cX10_ask 46 = .ok (.aload_n 0, 1) := by decide +kernel
theorem dX10_ask_47 : decode cX10_ask 47 = .ok (.getfield 161, 3) := by decide +kernel
theorem dX10_ask_50 : decode cX10_ask 50 = .ok (.imul, 1) := by decide +kernel
theorem dX10_ask_51 : decode cX10_ask 51 = .ok (.iload_n 1, 1) := by decide +kernel
theorem dX10_ask_52 : decode cX10_ask 52 = .ok (.iastore, 1) := by decide +kernel
theorem dX10_ask_53 : decode cX10_ask 53 = .ok (.aload_n 0, 1) := by decide +kernel
theorem dX10_ask_54 : decode cX10_ask 54 = .ok (.getfield 34, 3) := by decide +kernel
theorem dX10_ask_57 : decode cX10_ask 57 = .ok (.iconst 3, 1) := by decide +kernel
theorem dX10_ask_58 : decode cX10_ask 58 = .ok (.aload_n 0, 1) := by decide +kernel
theorem dX10_ask_59 : decode cX10_ask 59 = .ok (.getfield 161, 3) := by decide +kernel
theorem dX10_ask_62 : decode cX10_ask 62 = .ok (.imul, 1) := by decide +kernel
theorem dX10_ask_63 : decode cX10_ask 63 = .ok (.iconst 1, 1) := by decide +kernel
theorem dX10_ask_64 : decode cX10_ask 64 = .ok (.iadd, 1) := by decide +kernel
theorem dX10_ask_65 : decode cX10_ask 65 = .ok (.iload_n 2, 1) := by decide +kernel
theorem dX10_ask_66 : decode cX10_ask 66 = .ok (.iastore, 1) := by decide +kernel
theorem dX10_ask_67 : decode cX10_ask 67 = .ok (.aload_n 0, 1) := by decide +kernel
theorem dX10_ask_68 : decode cX10_ask 68 = .ok (.getfield 34, 3) := by decide +kernel
theorem dX10_ask_71 : decode cX10_ask 71 = .ok (.iconst 3, 1) := by decide +kernel
theorem dX10_ask_72 : decode cX10_ask 72 = .ok (.aload_n 0, 1) := by decide +kernel
theorem dX10_ask_73 : decode cX10_ask 73 = .ok (.getfield 161, 3) := by decide +kernel
theorem dX10_ask_76 : decode cX10_ask 76 = .ok (.imul, 1) := by decide +kernel
theorem dX10_ask_77 : decode cX10_ask 77 = .ok (.iconst 2, 1) := by decide +kernel
theorem dX10_ask_78 : decode cX10_ask 78 = .ok (.iadd, 1) := by decide +kernel
theorem dX10_ask_79 : decode cX10_ask 79 = .ok (.iconst 0, 1) := by decide +kernel
theorem dX10_ask_80 : decode cX10_ask 80 = .ok (.iastore, 1) := by decide +kernel
theorem dX10_ask_81 : decode cX10_ask 81 = .ok (.aload_n 0, 1) := by decide +kernel
theorem dX10_ask_82 : decode cX10_ask 82 = .ok (.dup, 1) := by decide +kernel
theorem dX10_ask_83 : decode cX10_ask 83 = .ok (.getfield 161, 3) := by decide +kernel
theorem dX10_ask_86 : decode cX10_ask 86 = .ok (.iconst 1, 1) := by decide +kernel
theorem dX10_ask_87 : decode cX10_ask 87 = .ok (.iadd, 1) := by decide +kernel
theorem dX10_ask_88 : decode cX10_ask 88 = .ok (.putfield 161, 3) := by decide +kernel
theorem dX10_ask_91 : decode cX10_ask 91 = .ok (.aload_n 0, 1) := by decide +kernel
theorem dX10_ask_92 : decode cX10_ask 92 = .ok (.getfield 161, 3) := by decide +kernel
theorem dX10_ask_95 : decode cX10_ask 95 = .ok (.iconst 1, 1) := by decide +kernel
theorem dX10_ask_96 : decode cX10_ask 96 = .ok (.isub, 1) := by decide +kernel
theorem dX10_ask_97 : decode cX10_ask 97 = .ok (.ireturn, 1) := by decide +kernel
theorem dX10_weightOf_0 : decode cX10_weightOf 0 = .ok (.aload_n 0, 1) := by decide +kernel
theorem dX10_weightOf_1 : decode cX10_weightOf 1 = .ok (.getfield 34, 3) := by decide +kernel
theorem dX10_weightOf_4 : decode cX10_weightOf 4 = .ok (.iconst 3, 1) := by decide +kernel
theorem dX10_weightOf_5 : decode cX10_weightOf 5 = .ok (.iload_n 1, 1) := by decide +kernel
theorem dX10_weightOf_6 : decode cX10_weightOf 6 = .ok (.imul, 1) := by decide +kernel
theorem dX10_weightOf_7 : decode cX10_weightOf 7 = .ok (.iaload, 1) := by decide +kernel
theorem dX10_weightOf_8 : decode cX10_weightOf 8 = .ok (.istore_n 2, 1) := by decide +kernel
theorem dX10_weightOf_9 : decode cX10_weightOf 9 = .ok (.aload_n 0, 1) := by decide +kernel
theorem dX10_weightOf_10 : decode cX10_weightOf 10 = .ok (.getfield 22, 3) := by decide +kernel
theorem dX10_weightOf_13 : decode cX10_weightOf 13 = .ok (.iconst 5, 1) := by decide +kernel
theorem dX10_weightOf_14 : decode cX10_weightOf 14 = .ok (.iload_n 2, 1) := by decide +kernel
theorem dX10_weightOf_15 : decode cX10_weightOf 15 = .ok (.imul, 1) := by decide +kernel
theorem dX10_weightOf_16 : decode cX10_weightOf 16 = .ok (.iaload, 1) := by decide +kernel
theorem dX10_weightOf_17 : decode cX10_weightOf 17 = .ok (.istore_n 3, 1) := by decide +kernel
theorem dX10_weightOf_18 : decode cX10_weightOf 18 = .ok (.aload_n 0, 1) := by decide +kernel
theorem dX10_weightOf_19 : decode cX10_weightOf 19 = .ok (.getfield 22, 3) := by decide +kernel
theorem dX10_weightOf_22 : decode cX10_weightOf 22 = .ok (.iconst 5, 1) := by decide +kernel
theorem dX10_weightOf_23 : decode cX10_weightOf 23 = .ok (.iload_n 2, 1) := by decide +kernel
theorem dX10_weightOf_24 : decode cX10_weightOf 24 = .ok (.imul, 1) := by decide +kernel
theorem dX10_weightOf_25 : decode cX10_weightOf 25 = .ok (.iconst 1, 1) := by decide +kernel
theorem dX10_weightOf_26 : decode cX10_weightOf 26 = .ok (.iadd, 1) := by decide +kernel
theorem dX10_weightOf_27 : decode cX10_weightOf 27 = .ok (.iaload, 1) := by decide +kernel
theorem dX10_weightOf_28 : decode cX10_weightOf 28 = .ok (.istore 4, 2) := by decide +kernel
theorem dX10_weightOf_30 : decode cX10_weightOf 30 = .ok (.aload_n 0, 1) := by decide +kernel
theorem dX10_weightOf_31 : decode cX10_weightOf 31 = .ok (.getfield 9, 3) := by decide +kernel
theorem dX10_weightOf_34 : decode cX10_weightOf 34 = .ok (.bipush 20, 2) := by decide +kernel
theorem dX10_weightOf_36 : decode cX10_weightOf 36 = .ok (.iaload, 1) := by decide +kernel
theorem dX10_weightOf_37 : decode cX10_weightOf 37 = .ok (.ifCond .ne 7, 3) := by decide +kernel
theorem dX10_weightOf_40 : decode cX10_weightOf 40 = .ok (.iconst 0, 1) := by decide +kernel
theorem dX10_weightOf_41 : decode cX10_weightOf 41 = .ok (.goto 41, 3) := by decide +kernel
theorem dX10_weightOf_44 : decode cX10_weightOf 44 = .ok (.aload_n 0, 1) := by decide +kernel
theorem dX10_weightOf_45 : decode cX10_weightOf 45 = .ok (.getfield 9, 3) := by decide +kernel
theorem dX10_weightOf_48 : decode cX10_weightOf 48 = .ok (.bipush 20, 2) := by decide +kernel
theorem dX10_weightOf_50 : decode cX10_weightOf 50 = .ok (.iaload, 1) := by decide +kernel
theorem dX10_weightOf_51 : decode cX10_weightOf 51 = .ok (.iconst 1, 1) := by decide +kernel
theorem dX10_weightOf_52 : decode cX10_weightOf 52 = .ok (.if_icmp .ne 13, 3) := by decide +kernel
theorem dX10_weightOf_55 : decode cX10_weightOf 55 = .ok (.aload_n 0, 1) := by decide +kernel
theorem dX10_weightOf_56 : decode cX10_weightOf 56 = .ok (.iload_n 3, 1) := by decide +kernel
theorem dX10_weightOf_57 : decode cX10_weightOf 57 = .ok (.iload 4, 2) := by decide +kernel
theorem dX10_weightOf_59 : decode cX10_weightOf 59 = .ok (.invokevirtual 167, 3) := by decide +kernel
theorem dX10_weightOf_62 : decode cX10_weightOf 62 = .ok (.goto 20, 3) := by decide +kernel
theorem dX10_weightOf_65 : decode cX10_weightOf 65 = .ok (.aload_n 0, 1) := by decide +kernel
theorem dX10_weightOf_66 : decode cX10_weightOf 66 = .ok (.iload_n 3, 1) := by decide +kernel
theorem dX10_weightOf_67 : decode cX10_weightOf 67 = .ok (.iload 4, 2) := by decide +kernel
theorem dX10_weightOf_69 : decode cX10_weightOf 69 = .ok (.aload_n 0, 1) := by decide +kernel
theorem dX10_weightOf_70 : decode cX10_weightOf 70 = .ok (.getfield 34, 3) := by decide +kernel
theorem dX10_weightOf_73 : decode cX10_weightOf 73 = .ok (.iconst 3, 1) := by decide +kernel
theorem dX10_weightOf_74 : decode cX10_weightOf 74 = .ok (.iload_n 1, 1) := by decide +kernel
theorem dX10_weightOf_75 : decode cX10_weightOf 75 = .ok (.imul, 1) := by decide +kernel
theorem dX10_weightOf_76 : decode cX10_weightOf 76 = .ok (.iconst 1, 1) := by decide +kernel
theorem dX10_weightOf_77 : decode cX10_weightOf 77 = .ok (.iadd, 1) := by decide +kernel
theorem dX10_weightOf_78 : decode cX10_weightOf 78 = .ok (.iaload, 1) := by decide +kernel
theorem dX10_weightOf_79 : decode cX10_weightOf 79 = .ok (.invokevirtual 227, 3) := by decide +kernel
theorem dX10_weightOf_82 : decode cX10_weightOf 82 = .ok (.ireturn, 1) := by decide +kernel
theorem dX10_askFor_0 : decode cX10_askFor 0 = .ok (.iconst (-1), 1) := by decide +kernel
theorem dX10_askFor_1 : decode cX10_askFor 1 = .ok (.istore_n 3, 1) := by decide +kernel
theorem dX10_askFor_2 : decode cX10_askFor 2 = .ok (.iconst 0, 1) := by decide +kernel
theorem dX10_askFor_3 : decode cX10_askFor 3 = .ok (.istore 4, 2) := by decide +kernel
theorem dX10_askFor_5 : decode cX10_askFor 5 = .ok (.iconst 0, 1) := by decide +kernel
theorem dX10_askFor_6 : decode cX10_askFor 6 = .ok (.istore 5, 2) := by decide +kernel
theorem dX10_askFor_8 : decode cX10_askFor 8 = .ok (.iload 5, 2) := by decide +kernel
theorem dX10_askFor_10 : decode cX10_askFor 10 = .ok (.aload_n 0, 1) := by decide +kernel
theorem dX10_askFor_11 : decode cX10_askFor 11 = .ok (.getfield 161, 3) := by decide +kernel
theorem dX10_askFor_14 : decode cX10_askFor 14 = .ok (.if_icmp .ge 121, 3) := by decide +kernel
theorem dX10_askFor_17 : decode cX10_askFor 17 = .ok (.aload_n 0, 1) := by decide +kernel
theorem dX10_askFor_18 : decode cX10_askFor 18 = .ok (.getfield 34, 3) := by decide +kernel
theorem dX10_askFor_21 : decode cX10_askFor 21 = .ok (.iconst 3, 1) := by decide +kernel
theorem dX10_askFor_22 : decode cX10_askFor 22 = .ok (.iload 5, 2) := by decide +kernel
theorem dX10_askFor_24 : decode cX10_askFor 24 = .ok (.imul, 1) := by decide +kernel
theorem dX10_askFor_25 : decode cX10_askFor 25 = .ok (.iconst 1, 1) := by decide +kernel
theorem dX10_askFor_26 : decode cX10_askFor 26 = .ok (.iadd, 1) := by decide +kernel
theorem dX10_askFor_27 : decode cX10_askFor 27 = .ok (.iaload, 1) := by decide +kernel
theorem dX10_askFor_28 : decode cX10_askFor 28 = .ok (.iload_n 2, 1) := by decide +kernel
theorem dX10_askFor_29 : decode cX10_askFor 29 = .ok (.if_icmp .ne 57, 3) := by decide +kernel
theorem dX10_askFor_32 : decode cX10_askFor 32 = .ok (.aload_n 0, 1) := by decide +kernel
theorem dX10_askFor_33 : decode cX10_askFor 33 = .ok (.getfield 34, 3) := by decide +kernel
theorem dX10_askFor_36 : decode cX10_askFor 36 = .ok (.iconst 3, 1) := by decide +kernel
theorem dX10_askFor_37 : decode cX10_askFor 37 = .ok (.iload 5, 2) := by decide +kernel
theorem dX10_askFor_39 : decode cX10_askFor 39 = .ok (.imul, 1) := by decide +kernel
theorem dX10_askFor_40 : decode cX10_askFor 40 = .ok (.iconst 2, 1) := by decide +kernel
theorem dX10_askFor_41 : decode cX10_askFor 41 = .ok (.iadd, 1) := by decide +kernel
theorem dX10_askFor_42 : decode cX10_askFor 42 = .ok (.iaload, 1) := by decide +kernel
theorem dX10_askFor_43 : decode cX10_askFor 43 = .ok (.ifCond .ne 43, 3) := by decide +kernel
theorem dX10_askFor_46 : decode cX10_askFor 46 = .ok (.aload_n 0, 1) := by decide +kernel
theorem dX10_askFor_47 : decode cX10_askFor 47 = .ok (.aload_n 0, 1) := by decide +kernel
theorem dX10_askFor_48 : decode cX10_askFor 48 = .ok (.getfield 34, 3) := by decide +kernel
theorem dX10_askFor_51 : decode cX10_askFor 51 = .ok (.iconst 3, 1) := by decide +kernel
theorem dX10_askFor_52 : decode cX10_askFor 52 = .ok (.iload 5, 2) := by decide +kernel
theorem dX10_askFor_54 : decode cX10_askFor 54 = .ok (.imul, 1) := by decide +kernel
theorem dX10_askFor_55 : decode cX10_askFor 55 = .ok (.iaload, 1) := by decide +kernel
theorem dX10_askFor_56 : decode cX10_askFor 56 = .ok (.invokevirtual 240, 3) := by decide +kernel
theorem dX10_askFor_59 : decode cX10_askFor 59 = .ok (.ifCond .eq 27, 3) := by decide +kernel
theorem dX10_askFor_62 : decode cX10_askFor 62 = .ok (.aload_n 0, 1) := by decide +kernel
theorem dX10_askFor_63 : decode cX10_askFor 63 = .ok (.getfield 22, 3) := by decide +kernel
theorem dX10_askFor_66 : decode cX10_askFor 66 = .ok (.iconst 5, 1) := by decide +kernel
theorem dX10_askFor_67 : decode cX10_askFor 67 = .ok (.aload_n 0, 1) := by decide +kernel
theorem dX10_askFor_68 : decode cX10_askFor 68 = .ok (.getfield 34, 3) := by decide +kernel
theorem dX10_askFor_71 : decode cX10_askFor 71 = .ok (.iconst 3, 1) := by decide +kernel
theorem dX10_askFor_72 : decode cX10_askFor 72 = .ok (.iload 5, 2) := by decide +kernel
theorem dX10_askFor_74 : decode cX10_askFor 74 = .ok (.imul, 1) := by decide +kernel
theorem dX10_askFor_75 : decode cX10_askFor 75 = .ok (.iaload, 1) := by decide +kernel
theorem dX10_askFor_76 : decode cX10_askFor 76 = .ok (.imul, 1) := by decide +kernel
theorem dX10_askFor_77 : decode cX10_askFor 77 = .ok (.iaload, 1) := by decide +kernel
theorem dX10_askFor_78 : decode cX10_askFor 78 = .ok (.iload_n 1, 1) := by decide +kernel
theorem dX10_askFor_79 : decode cX10_askFor 79 = .ok (.if_icmp .ne 7, 3) := by decide +kernel
theorem dX10_askFor_82 : decode cX10_askFor 82 = .ok (.iconst 1, 1) := by decide +kernel
theorem dX10_askFor_83 : decode cX10_askFor 83 = .ok (.goto 4, 3) := by decide +kernel
theorem dX10_askFor_86 : decode cX10_askFor 86 = .ok (.iconst 0, 1) := by decide +kernel
theorem dX10_askFor_87 : decode cX10_askFor 87 = .ok (.istore 6, 2) := by decide +kernel
theorem dX10_askFor_89 : decode cX10_askFor 89 = .ok (.iload 6, 2) := by decide +kernel
theorem dX10_askFor_91 : decode cX10_askFor 91 = .ok (.ifCond .eq 12, 3) := by decide +kernel
theorem dX10_askFor_94 : decode cX10_askFor 94 = .ok (.aload_n 0, 1) := by decide +kernel
theorem dX10_askFor_95 : decode cX10_askFor 95 = .ok (.iload 5, 2) := by decide +kernel
theorem dX10_askFor_97 : decode cX10_askFor 97 = .ok (.invokevirtual 243, 3) := by decide +kernel
theorem dX10_askFor_100 : decode cX10_askFor 100 = .ok (.goto 4, 3) := by decide +kernel
theorem dX10_askFor_103 : decode cX10_askFor 103 = .ok (.iconst 0, 1) := by decide +kernel
theorem dX10_askFor_104 : decode cX10_askFor 104 = .ok (.istore 7, 2) := by decide +kernel
theorem dX10_askFor_106 : decode cX10_askFor 106 = .ok (.iload 6, 2) := by decide +kernel
theorem dX10_askFor_108 : decode cX10_askFor 108 = .ok (.ifCond .eq 21, 3) := by decide +kernel
theorem dX10_askFor_111 : decode cX10_askFor 111 = .ok (.iload_n 3, 1) := by decide +kernel
theorem dX10_askFor_112 : decode cX10_askFor 112 = .ok (.ifCond .lt 10, 3) := by decide +kernel
theorem dX10_askFor_115 : decode cX10_askFor 115 = .ok (.iload 7, 2) := by decide +kernel
theorem dX10_askFor_117 : decode cX10_askFor 117 = .ok (.iload 4, 2) := by decide +kernel
theorem dX10_askFor_119 : decode cX10_askFor 119 = .ok (.if_icmp .le 10, 3) := by decide +kernel
theorem dX10_askFor_122 : decode cX10_askFor 122 = .ok (.iload 5, 2) := by decide +kernel
theorem dX10_askFor_124 : decode cX10_askFor 124 = .ok (.istore_n 3, 1) := by decide +kernel
theorem dX10_askFor_125 : decode cX10_askFor 125 = .ok (.iload 7, 2) := by decide +kernel
theorem dX10_askFor_127 : decode cX10_askFor 127 = .ok (.istore 4, 2) := by decide +kernel
theorem dX10_askFor_129 : decode cX10_askFor 129 = .ok (.iinc 5 1, 3) := by decide +kernel
theorem dX10_askFor_132 : decode cX10_askFor 132 = .ok (.goto (-124), 3) := by decide +kernel
theorem dX10_askFor_135 : decode cX10_askFor 135 = .ok (.iload_n 3, 1) := by decide +kernel
theorem dX10_askFor_136 : decode cX10_askFor 136 = .ok (.ireturn, 1) := by decide +kernel
theorem dX10_has_0 : decode cX10_has 0 = .ok (.aload_n 0, 1) := by decide +kernel
theorem dX10_has_1 : decode cX10_has 1 = .ok (.iload_n 1, 1) := by decide +kernel
theorem dX10_has_2 : decode cX10_has 2 = .ok (.invokevirtual 107, 3) := by decide +kernel
theorem dX10_has_5 : decode cX10_has 5 = .ok (.ifCond .eq 19, 3) := by decide +kernel
theorem dX10_has_8 : decode cX10_has 8 = .ok (.iload_n 2, 1) := by decide +kernel
theorem dX10_has_9 : decode cX10_has 9 = .ok (.i2l, 1) := by decide +kernel
theorem dX10_has_10 : decode cX10_has 10 = .ok (.aload_n 0, 1) := by decide +kernel
theorem dX10_has_11 : decode cX10_has 11 = .ok (.getfield 231, 3) := by decide +kernel
theorem dX10_has_14 : decode cX10_has 14 = .ok (.i2l, 1) := by decide +kernel
theorem dX10_has_15 : decode cX10_has 15 = .ok (.ldc2_w 114, 3) := by decide +kernel
theorem dX10_has_18 : decode cX10_has 18 = .ok (.invokestatic 103, 3) := by decide +kernel
theorem dX10_has_21 : decode cX10_has 21 = .ok (.ifCond .ne 5, 3) := by decide +kernel
theorem dX10_has_24 : decode cX10_has 24 = .ok (.iconst (-1), 1) := by decide +kernel
theorem dX10_has_25 : decode cX10_has 25 = .ok (.ireturn, 1) := by decide +kernel
theorem dX10_has_26 : decode cX10_has 26 = .ok (.aload_n 0, 1) := by decide +kernel
theorem dX10_has_27 : decode cX10_has 27 = .ok (.iload_n 1, 1) := by decide +kernel
theorem dX10_has_28 : decode cX10_has 28 = .ok (.iload_n 2, 1) := by decide +kernel
theorem dX10_has_29 : decode cX10_has 29 = .ok (.invokevirtual 246, 3) := by decide +kernel
theorem dX10_has_32 : decode cX10_has 32 = .ok (.istore_n 3, 1) := by decide +kernel
theorem dX10_has_33 : decode cX10_has 33 = .ok (.iload_n 3, 1) := by decide +kernel
theorem dX10_has_34 : decode cX10_has 34 = .ok (.ifCond .ge 8, 3) := by decide +kernel
theorem dX10_has_37 : decode cX10_has 37 = .ok (.bipush (-2), 2) := by decide +kernel
theorem dX10_has_39 : decode cX10_has 39 = .ok (.goto 20, 3) := by decide +kernel
theorem dX10_has_42 : decode cX10_has 42 = .ok (.aload_n 0, 1) := by decide +kernel
theorem dX10_has_43 : decode cX10_has 43 = .ok (.getfield 22, 3) := by decide +kernel
theorem dX10_has_46 : decode cX10_has 46 = .ok (.iconst 5, 1) := by decide +kernel
theorem dX10_has_47 : decode cX10_has 47 = .ok (.aload_n 0, 1) := by decide +kernel
theorem dX10_has_48 : decode cX10_has 48 = .ok (.getfield 34, 3) := by decide +kernel
theorem dX10_has_51 : decode cX10_has 51 = .ok (.iconst 3, 1) := by decide +kernel
theorem dX10_has_52 : decode cX10_has 52 = .ok (.iload_n 3, 1) := by decide +kernel
theorem dX10_has_53 : decode cX10_has 53 = .ok (.imul, 1) := by decide +kernel
theorem dX10_has_54 : decode cX10_has 54 = .ok (.iaload, 1) := by decide +kernel
theorem dX10_has_55 : decode cX10_has 55 = .ok (.imul, 1) := by decide +kernel
theorem dX10_has_56 : decode cX10_has 56 = .ok (.iconst 1, 1) := by decide +kernel
theorem dX10_has_57 : decode cX10_has 57 = .ok (.iadd, 1) := by decide +kernel
theorem dX10_has_58 : decode cX10_has 58 = .ok (.iaload, 1) := by decide +kernel
theorem dX10_has_59 : decode cX10_has 59 = .ok (.ireturn, 1) := by decide +kernel
theorem dX10_waits_0 : decode cX10_waits 0 = .ok (.iconst 0, 1) := by decide +kernel
theorem dX10_waits_1 : decode cX10_waits 1 = .ok (.istore_n 1, 1) := by decide +kernel
theorem dX10_waits_2 : decode cX10_waits 2 = .ok (.iconst 0, 1) := by decide +kernel
theorem dX10_waits_3 : decode cX10_waits 3 = .ok (.istore_n 2, 1) := by decide +kernel
theorem dX10_waits_4 : decode cX10_waits 4 = .ok (.iload_n 2, 1) := by decide +kernel
theorem dX10_waits_5 : decode cX10_waits 5 = .ok (.aload_n 0, 1) := by decide +kernel
theorem dX10_waits_6 : decode cX10_waits 6 = .ok (.getfield 161, 3) := by decide +kernel
theorem dX10_waits_9 : decode cX10_waits 9 = .ok (.if_icmp .ge 30, 3) := by decide +kernel
theorem dX10_waits_12 : decode cX10_waits 12 = .ok (.iload_n 1, 1) := by decide +kernel
theorem dX10_waits_13 : decode cX10_waits 13 = .ok (.aload_n 0, 1) := by decide +kernel
theorem dX10_waits_14 : decode cX10_waits 14 = .ok (.getfield 34, 3) := by decide +kernel
theorem dX10_waits_17 : decode cX10_waits 17 = .ok (.iconst 3, 1) := by decide +kernel
theorem dX10_waits_18 : decode cX10_waits 18 = .ok (.iload_n 2, 1) := by decide +kernel
theorem dX10_waits_19 : decode cX10_waits 19 = .ok (.imul, 1) := by decide +kernel
theorem dX10_waits_20 : decode cX10_waits 20 = .ok (.iconst 2, 1) := by decide +kernel
theorem dX10_waits_21 : decode cX10_waits 21 = .ok (.iadd, 1) := by decide +kernel
theorem dX10_waits_22 : decode cX10_waits 22 = .ok (.iaload, 1) := by decide +kernel
theorem dX10_waits_23 : decode cX10_waits 23 = .ok (.ifCond .ne 7, 3) := by decide +kernel
theorem dX10_waits_26 : decode cX10_waits 26 = .ok (.iconst 1, 1) := by decide +kernel
theorem dX10_waits_27 : decode cX10_waits 27 = .ok (.goto 4, 3) := by decide +kernel
theorem dX10_waits_30 : decode cX10_waits 30 = .ok (.iconst 0, 1) := by decide +kernel
theorem dX10_waits_31 : decode cX10_waits 31 = .ok (.iadd, 1) := by decide +kernel
theorem dX10_waits_32 : decode cX10_waits 32 = .ok (.istore_n 1, 1) := by decide +kernel
theorem dX10_waits_33 : decode cX10_waits 33 = .ok (.iinc 2 1, 3) := by decide +kernel
theorem dX10_waits_36 : decode cX10_waits 36 = .ok (.goto (-32), 3) := by decide +kernel
theorem dX10_waits_39 : decode cX10_waits 39 = .ok (.iload_n 1, 1) := by decide +kernel
theorem dX10_waits_40 : decode cX10_waits 40 = .ok (.ireturn, 1) := by decide +kernel
theorem dX10_loses_0 : decode cX10_loses 0 = .ok (.aload_n 0, 1) := by decide +kernel
theorem dX10_loses_1 : decode cX10_loses 1 = .ok (.getfield 22, 3) := by decide +kernel
theorem dX10_loses_4 : decode cX10_loses 4 = .ok (.iconst 5, 1) := by decide +kernel
theorem dX10_loses_5 : decode cX10_loses 5 = .ok (.iload_n 1, 1) := by decide +kernel
theorem dX10_loses_6 : decode cX10_loses 6 = .ok (.imul, 1) := by decide +kernel
theorem dX10_loses_7 : decode cX10_loses 7 = .ok (.iconst 2, 1) := by decide +kernel
theorem dX10_loses_8 : decode cX10_loses 8 = .ok (.iadd, 1) := by decide +kernel
theorem dX10_loses_9 : decode cX10_loses 9 = .ok (.dup2, 1) := by decide +kernel
theorem dX10_loses_10 : decode cX10_loses 10 = .ok (.iaload, 1) := by decide +kernel
theorem dX10_loses_11 : decode cX10_loses 11 = .ok (.iload_n 2, 1) := by decide +kernel
theorem dX10_loses_12 : decode cX10_loses 12 = .ok (.isub, 1) := by decide +kernel
theorem dX10_loses_13 : decode cX10_loses 13 = .ok (.iastore, 1) := by decide +kernel
theorem dX10_loses_14 : decode cX10_loses 14 = .ok (.aload_n 0, 1) := by decide +kernel
theorem dX10_loses_15 : decode cX10_loses 15 = .ok (.getfield 22, 3) := by decide +kernel
theorem dX10_loses_18 : decode cX10_loses 18 = .ok (.iconst 5, 1) := by decide +kernel
theorem dX10_loses_19 : decode cX10_loses 19 = .ok (.iload_n 1, 1) := by decide +kernel
theorem dX10_loses_20 : decode cX10_loses 20 = .ok (.imul, 1) := by decide +kernel
theorem dX10_loses_21 : decode cX10_loses 21 = .ok (.iconst 4, 1) := by decide +kernel
theorem dX10_loses_22 : decode cX10_loses 22 = .ok (.iadd, 1) := by decide +kernel
theorem dX10_loses_23 : decode cX10_loses 23 = .ok (.aload_n 0, 1) := by decide +kernel
theorem dX10_loses_24 : decode cX10_loses 24 = .ok (.getfield 22, 3) := by decide +kernel
theorem dX10_loses_27 : decode cX10_loses 27 = .ok (.iconst 5, 1) := by decide +kernel
theorem dX10_loses_28 : decode cX10_loses 28 = .ok (.iload_n 1, 1) := by decide +kernel
theorem dX10_loses_29 : decode cX10_loses 29 = .ok (.imul, 1) := by decide +kernel
theorem dX10_loses_30 : decode cX10_loses 30 = .ok (.iconst 2, 1) := by decide +kernel
theorem dX10_loses_31 : decode cX10_loses 31 = .ok (.iadd, 1) := by decide +kernel
theorem dX10_loses_32 : decode cX10_loses 32 = .ok (.iaload, 1) := by decide +kernel
theorem dX10_loses_33 : decode cX10_loses 33 = .ok (.ifCond .ne 7, 3) := by decide +kernel
theorem dX10_loses_36 : decode cX10_loses 36 = .ok (.iconst 0, 1) := by decide +kernel
theorem dX10_loses_37 : decode cX10_loses 37 = .ok (.goto 13, 3) := by decide +kernel
theorem dX10_loses_40 : decode cX10_loses 40 = .ok (.aload_n 0, 1) := by decide +kernel
theorem dX10_loses_41 : decode cX10_loses 41 = .ok (.getfield 22, 3) := by decide +kernel
theorem dX10_loses_44 : decode cX10_loses 44 = .ok (.iconst 5, 1) := by decide +kernel
theorem dX10_loses_45 : decode cX10_loses 45 = .ok (.iload_n 1, 1) := by decide +kernel
theorem dX10_loses_46 : decode cX10_loses 46 = .ok (.imul, 1) := by decide +kernel
theorem dX10_loses_47 : decode cX10_loses 47 = .ok (.iconst 4, 1) := by decide +kernel
theorem dX10_loses_48 : decode cX10_loses 48 = .ok (.iadd, 1) := by decide +kernel
theorem dX10_loses_49 : decode cX10_loses 49 = .ok (.iaload, 1) := by decide +kernel
theorem dX10_loses_50 : decode cX10_loses 50 = .ok (.iastore, 1) := by decide +kernel
theorem dX10_loses_51 : decode cX10_loses 51 = .ok (.return_, 1) := by decide +kernel
theorem dX10_worksOff_0 : decode cX10_worksOff 0 = .ok (.aload_n 0, 1) := by decide +kernel
theorem dX10_worksOff_1 : decode cX10_worksOff 1 = .ok (.getfield 22, 3) := by decide +kernel
theorem dX10_worksOff_4 : decode cX10_worksOff 4 = .ok (.iconst 5, 1) := by decide +kernel
theorem dX10_worksOff_5 : decode cX10_worksOff 5 = .ok (.iload_n 1, 1) := by decide +kernel
theorem dX10_worksOff_6 : decode cX10_worksOff 6 = .ok (.imul, 1) := by decide +kernel
theorem dX10_worksOff_7 : decode cX10_worksOff 7 = .ok (.iconst 3, 1) := by decide +kernel
theorem dX10_worksOff_8 : decode cX10_worksOff 8 = .ok (.iadd, 1) := by decide +kernel
theorem dX10_worksOff_9 : decode cX10_worksOff 9 = .ok (.iaload, 1) := by decide +kernel
theorem dX10_worksOff_10 : decode cX10_worksOff 10 = .ok (.istore_n 3, 1) := by decide +kernel
theorem dX10_worksOff_11 : decode cX10_worksOff 11 = .ok (.iload_n 3, 1) := by decide +kernel
theorem dX10_worksOff_12 : decode cX10_worksOff 12 = .ok (.bipush 12, 2) := by decide +kernel
theorem dX10_worksOff_14 : decode cX10_worksOff 14 = .ok (.if_icmp .eq 20, 3) := by decide +kernel
theorem dX10_worksOff_17 : decode cX10_worksOff 17 = .ok (.aload_n 0, 1) := by decide +kernel
theorem dX10_worksOff_18 : decode cX10_worksOff 18 = .ok (.getfield 9, 3) := by decide +kernel
theorem dX10_worksOff_21 : decode cX10_worksOff 21 = .ok (.iload_n 3, 1) := by decide +kernel
theorem dX10_worksOff_22 : decode cX10_worksOff 22 = .ok (.iaload, 1) := by decide +kernel
theorem dX10_worksOff_23 : decode cX10_worksOff 23 = .ok (.aload_n 0, 1) := by decide +kernel
theorem dX10_worksOff_24 : decode cX10_worksOff 24 = .ok (.getfield 9, 3) := by decide +kernel
theorem dX10_worksOff_27 : decode cX10_worksOff 27 = .ok (.iload_n 2, 1) := by decide +kernel
theorem dX10_worksOff_28 : decode cX10_worksOff 28 = .ok (.iconst 4, 1) := by decide +kernel
theorem dX10_worksOff_29 : decode cX10_worksOff 29 = .ok (.idiv, 1) := by decide +kernel
theorem dX10_worksOff_30 : decode cX10_worksOff 30 = .ok (.iaload, 1) := by decide +kernel
theorem dX10_worksOff_31 : decode cX10_worksOff 31 = .ok (.if_icmp .gt 12, 3) := by decide +kernel
theorem dX10_worksOff_34 : decode cX10_worksOff 34 = .ok (.aload_n 0, 1) := by decide +kernel
theorem dX10_worksOff_35 : decode cX10_worksOff 35 = .ok (.iload_n 1, 1) := by decide +kernel
theorem dX10_worksOff_36 : decode cX10_worksOff 36 = .ok (.iconst 1, 1) := by decide +kernel
theorem dX10_worksOff_37 : decode cX10_worksOff 37 = .ok (.invokevirtual 249, 3) := by decide +kernel
theorem dX10_worksOff_40 : decode cX10_worksOff 40 = .ok (.goto 48, 3) := by decide +kernel
theorem dX10_worksOff_43 : decode cX10_worksOff 43 = .ok (.aload_n 0, 1) := by decide +kernel
theorem dX10_worksOff_44 : decode cX10_worksOff 44 = .ok (.getfield 22, 3) := by decide +kernel
theorem dX10_worksOff_47 : decode cX10_worksOff 47 = .ok (.iconst 5, 1) := by decide +kernel
theorem dX10_worksOff_48 : decode cX10_worksOff 48 = .ok (.iload_n 1, 1) := by decide +kernel
theorem dX10_worksOff_49 : decode cX10_worksOff 49 = .ok (.imul, 1) := by decide +kernel
theorem dX10_worksOff_50 : decode cX10_worksOff 50 = .ok (.iconst 4, 1) := by decide +kernel
theorem dX10_worksOff_51 : decode cX10_worksOff 51 = .ok (.iadd, 1) := by decide +kernel
theorem dX10_worksOff_52 : decode cX10_worksOff 52 = .ok (.iaload, 1) := by decide +kernel
theorem dX10_worksOff_53 : decode cX10_worksOff 53 = .ok (.iconst 1, 1) := by decide +kernel
theorem dX10_worksOff_54 : decode cX10_worksOff 54 = .ok (.if_icmp .ne 23, 3) := by decide +kernel
theorem dX10_worksOff_57 : decode cX10_worksOff 57 = .ok (.aload_n 0, 1) := by decide +kernel
theorem dX10_worksOff_58 : decode cX10_worksOff 58 = .ok (.getfield 22, 3) := by decide +kernel
theorem dX10_worksOff_61 : decode cX10_worksOff 61 = .ok (.iconst 5, 1) := by decide +kernel
theorem dX10_worksOff_62 : decode cX10_worksOff 62 = .ok (.iload_n 1, 1) := by decide +kernel
theorem dX10_worksOff_63 : decode cX10_worksOff 63 = .ok (.imul, 1) := by decide +kernel
theorem dX10_worksOff_64 : decode cX10_worksOff 64 = .ok (.iconst 4, 1) := by decide +kernel
theorem dX10_worksOff_65 : decode cX10_worksOff 65 = .ok (.iadd, 1) := by decide +kernel
theorem dX10_worksOff_66 : decode cX10_worksOff 66 = .ok (.iconst 0, 1) := by decide +kernel
theorem dX10_worksOff_67 : decode cX10_worksOff 67 = .ok (.iastore, 1) := by decide +kernel
theorem dX10_worksOff_68 : decode cX10_worksOff 68 = .ok (.aload_n 0, 1) := by decide +kernel
theorem dX10_worksOff_69 : decode cX10_worksOff 69 = .ok (.iload_n 1, 1) := by decide +kernel
theorem dX10_worksOff_70 : decode cX10_worksOff 70 = .ok (.iconst 1, 1) := by decide +kernel
theorem dX10_worksOff_71 : decode cX10_worksOff 71 = .ok (.invokevirtual 249, 3) := by decide +kernel
theorem dX10_worksOff_74 : decode cX10_worksOff 74 = .ok (.goto 14, 3) := by decide +kernel
theorem dX10_worksOff_77 : decode cX10_worksOff 77 = .ok (.aload_n 0, 1) := by decide +kernel
theorem dX10_worksOff_78 : decode cX10_worksOff 78 = .ok (.getfield 22, 3) := by decide +kernel
theorem dX10_worksOff_81 : decode cX10_worksOff 81 = .ok (.iconst 5, 1) := by decide +kernel
theorem dX10_worksOff_82 : decode cX10_worksOff 82 = .ok (.iload_n 1, 1) := by decide +kernel
theorem dX10_worksOff_83 : decode cX10_worksOff 83 = .ok (.imul, 1) := by decide +kernel
theorem dX10_worksOff_84 : decode cX10_worksOff 84 = .ok (.iconst 4, 1) := by decide +kernel
theorem dX10_worksOff_85 : decode cX10_worksOff 85 = .ok (.iadd, 1) := by decide +kernel
theorem dX10_worksOff_86 : decode cX10_worksOff 86 = .ok (.iconst 1, 1) := by decide +kernel
theorem dX10_worksOff_87 : decode cX10_worksOff 87 = .ok (.iastore, 1) := by decide +kernel
theorem dX10_worksOff_88 : decode cX10_worksOff 88 = .ok (.return_, 1) := by decide +kernel
theorem dX10_dayGoes_0 : decode cX10_dayGoes 0 = .ok (.iconst 0, 1) := by decide +kernel
theorem dX10_dayGoes_1 : decode cX10_dayGoes 1 = .ok (.istore_n 1, 1) := by decide +kernel
theorem dX10_dayGoes_2 : decode cX10_dayGoes 2 = .ok (.iconst 0, 1) := by decide +kernel
theorem dX10_dayGoes_3 : decode cX10_dayGoes 3 = .ok (.istore_n 2, 1) := by decide +kernel
theorem dX10_dayGoes_4 : decode cX10_dayGoes 4 = .ok (.iload_n 2, 1) := by decide +kernel
theorem dX10_dayGoes_5 : decode cX10_dayGoes 5 = .ok (.aload_n 0, 1) := by decide +kernel
theorem dX10_dayGoes_6 : decode cX10_dayGoes 6 = .ok (.getfield 100, 3) := by decide +kernel
theorem dX10_dayGoes_9 : decode cX10_dayGoes 9 = .ok (.if_icmp .ge 190, 3) := by decide +kernel
theorem dX10_dayGoes_12 : decode cX10_dayGoes 12 = .ok (.aload_n 0, 1) := by decide +kernel
theorem dX10_dayGoes_13 : decode cX10_dayGoes 13 = .ok (.aload_n 0, 1) := by decide +kernel
theorem dX10_dayGoes_14 : decode cX10_dayGoes 14 = .ok (.getfield 253, 3) := by decide +kernel
theorem dX10_dayGoes_17 : decode cX10_dayGoes 17 = .ok (.ldc_w 256, 3) := by decide +kernel
theorem dX10_dayGoes_20 : decode cX10_dayGoes 20 = .ok (.imul, 1) := by decide +kernel
theorem dX10_dayGoes_21 : decode cX10_dayGoes 21 = .ok (.sipush 12345, 3) := by decide +kernel
theorem dX10_dayGoes_24 : decode cX10_dayGoes 24 = .ok (.iadd, 1) := by decide +kernel
theorem dX10_dayGoes_25 : decode cX10_dayGoes 25 = .ok (.putfield 253, 3) := by decide +kernel
theorem dX10_dayGoes_28 : decode cX10_dayGoes 28 = .ok (.aload_n 0, 1) := by decide +kernel
theorem dX10_dayGoes_29 : decode cX10_dayGoes 29 = .ok (.getfield 231, 3) := by decide +kernel
theorem dX10_dayGoes_32 : decode cX10_dayGoes 32 = .ok (.invokestatic 234, 3) := by decide +kernel
theorem dX10_dayGoes_35 : decode cX10_dayGoes 35 = .ok (.ifCond .ne 27, 3) := by decide +kernel
theorem dX10_dayGoes_38 : decode cX10_dayGoes 38 = .ok (.aload_n 0, 1) := by decide +kernel
theorem dX10_dayGoes_39 : decode cX10_dayGoes 39 = .ok (.getfield 253, 3) := by decide +kernel
theorem dX10_dayGoes_42 : decode cX10_dayGoes 42 = .ok (.bipush 8, 2) := by decide +kernel
theorem dX10_dayGoes_44 : decode cX10_dayGoes 44 = .ok (.iushr, 1) := by decide +kernel
theorem dX10_dayGoes_45 : decode cX10_dayGoes 45 = .ok (.bipush 12, 2) := by decide +kernel
theorem dX10_dayGoes_47 : decode cX10_dayGoes 47 = .ok (.irem, 1) := by decide +kernel
theorem dX10_dayGoes_48 : decode cX10_dayGoes 48 = .ok (.aload_n 0, 1) := by decide +kernel
theorem dX10_dayGoes_49 : decode cX10_dayGoes 49 = .ok (.getfield 9, 3) := by decide +kernel
theorem dX10_dayGoes_52 : decode cX10_dayGoes 52 = .ok (.bipush 21, 2) := by decide +kernel
theorem dX10_dayGoes_54 : decode cX10_dayGoes 54 = .ok (.iaload, 1) := by decide +kernel
theorem dX10_dayGoes_55 : decode cX10_dayGoes 55 = .ok (.if_icmp .ge 7, 3) := by decide +kernel
theorem dX10_dayGoes_58 : decode cX10_dayGoes 58 = .ok (.iconst 1, 1) := by decide +kernel
theorem dX10_dayGoes_59 : decode cX10_dayGoes 59 = .ok (.goto 4, 3) := by decide +kernel
theorem dX10_dayGoes_62 : decode cX10_dayGoes 62 = .ok (.iconst 0, 1) := by decide +kernel
theorem dX10_dayGoes_63 : decode cX10_dayGoes 63 = .ok (.istore_n 3, 1) := by decide +kernel
theorem dX10_dayGoes_64 : decode cX10_dayGoes 64 = .ok (.iload_n 3, 1) := by decide +kernel
theorem dX10_dayGoes_65 : decode cX10_dayGoes 65 = .ok (.ifCond .eq 7, 3) := by decide +kernel
theorem dX10_dayGoes_68 : decode cX10_dayGoes 68 = .ok (.iconst (-1), 1) := by decide +kernel
theorem dX10_dayGoes_69 : decode cX10_dayGoes 69 = .ok (.goto 12, 3) := by decide +kernel
theorem dX10_dayGoes_72 : decode cX10_dayGoes 72 = .ok (.aload_n 0, 1) := by decide +kernel
theorem dX10_dayGoes_73 : decode cX10_dayGoes 73 = .ok (.iload_n 2, 1) := by decide +kernel
theorem dX10_dayGoes_74 : decode cX10_dayGoes 74 = .ok (.aload_n 0, 1) := by decide +kernel
theorem dX10_dayGoes_75 : decode cX10_dayGoes 75 = .ok (.getfield 231, 3) := by decide +kernel
theorem dX10_dayGoes_78 : decode cX10_dayGoes 78 = .ok (.invokevirtual 246, 3) := by decide +kernel
theorem dX10_dayGoes_81 : decode cX10_dayGoes 81 = .ok (.istore 4, 2) := by decide +kernel
theorem dX10_dayGoes_83 : decode cX10_dayGoes 83 = .ok (.bipush 8, 2) := by decide +kernel
theorem dX10_dayGoes_85 : decode cX10_dayGoes 85 = .ok (.aload_n 0, 1) := by decide +kernel
theorem dX10_dayGoes_86 : decode cX10_dayGoes 86 = .ok (.getfield 231, 3) := by decide +kernel
theorem dX10_dayGoes_89 : decode cX10_dayGoes 89 = .ok (.imul, 1) := by decide +kernel
theorem dX10_dayGoes_90 : decode cX10_dayGoes 90 = .ok (.iload_n 2, 1) := by decide +kernel
theorem dX10_dayGoes_91 : decode cX10_dayGoes 91 = .ok (.iadd, 1) := by decide +kernel
theorem dX10_dayGoes_92 : decode cX10_dayGoes 92 = .ok (.istore 5, 2) := by decide +kernel
theorem dX10_dayGoes_94 : decode cX10_dayGoes 94 = .ok (.aload_n 0, 1) := by decide +kernel
theorem dX10_dayGoes_95 : decode cX10_dayGoes 95 = .ok (.getfield 40, 3) := by decide +kernel
theorem dX10_dayGoes_98 : decode cX10_dayGoes 98 = .ok (.iload 5, 2) := by decide +kernel
theorem dX10_dayGoes_100 : decode cX10_dayGoes 100 = .ok (.bipush (-2), 2) := by decide +kernel
theorem dX10_dayGoes_102 : decode cX10_dayGoes 102 = .ok (.iastore, 1) := by decide +kernel
theorem dX10_dayGoes_103 : decode cX10_dayGoes 103 = .ok (.aload_n 0, 1) := by decide +kernel
theorem dX10_dayGoes_104 : decode cX10_dayGoes 104 = .ok (.getfield 43, 3) := by decide +kernel
theorem dX10_dayGoes_107 : decode cX10_dayGoes 107 = .ok (.iload 5, 2) := by decide +kernel
theorem dX10_dayGoes_109 : decode cX10_dayGoes 109 = .ok (.bipush (-2), 2) := by decide +kernel
theorem dX10_dayGoes_111 : decode cX10_dayGoes 111 = .ok (.iastore, 1) := by decide +kernel
theorem dX10_dayGoes_112 : decode cX10_dayGoes 112 = .ok (.iload 4, 2) := by decide +kernel
theorem dX10_dayGoes_114 : decode cX10_dayGoes 114 = .ok (.ifCond .lt 79, 3) := by decide +kernel
theorem dX10_dayGoes_117 : decode cX10_dayGoes 117 = .ok (.aload_n 0, 1) := by decide +kernel
theorem dX10_dayGoes_118 : decode cX10_dayGoes 118 = .ok (.getfield 34, 3) := by decide +kernel
theorem dX10_dayGoes_121 : decode cX10_dayGoes 121 = .ok (.iconst 3, 1) := by decide +kernel
theorem dX10_dayGoes_122 : decode cX10_dayGoes 122 = .ok (.iload 4, 2) := by decide +kernel
theorem dX10_dayGoes_124 : decode cX10_dayGoes 124 = .ok (.imul, 1) := by decide +kernel
theorem dX10_dayGoes_125 : decode cX10_dayGoes 125 = .ok (.iaload, 1) := by decide +kernel
theorem dX10_dayGoes_126 : decode cX10_dayGoes 126 = .ok (.istore 6, 2) := by decide +kernel
theorem dX10_dayGoes_128 : decode cX10_dayGoes 128 = .ok (.aload_n 0, 1) := by decide +kernel
theorem dX10_dayGoes_129 : decode cX10_dayGoes 129 = .ok (.getfield 22, 3) := by decide +kernel
theorem dX10_dayGoes_132 : decode cX10_dayGoes 132 = .ok (.iconst 5, 1) := by decide +kernel
theorem dX10_dayGoes_133 : decode cX10_dayGoes 133 = .ok (.iload 6, 2) := by decide +kernel
theorem dX10_dayGoes_135 : decode cX10_dayGoes 135 = .ok (.imul, 1) := by decide +kernel
theorem dX10_dayGoes_136 : decode cX10_dayGoes 136 = .ok (.iconst 1, 1) := by decide +kernel
theorem dX10_dayGoes_137 : decode cX10_dayGoes 137 = .ok (.iadd, 1) := by decide +kernel
theorem dX10_dayGoes_138 : decode cX10_dayGoes 138 = .ok (.iaload, 1) := by decide +kernel
theorem dX10_dayGoes_139 : decode cX10_dayGoes 139 = .ok (.istore 7, 2) := by decide +kernel
theorem dX10_dayGoes_141 : decode cX10_dayGoes 141 = .ok (.aload_n 0, 1) := by decide +kernel
theorem dX10_dayGoes_142 : decode cX10_dayGoes 142 = .ok (.getfield 37, 3) := by decide +kernel
theorem dX10_dayGoes_145 : decode cX10_dayGoes 145 = .ok (.iload 7, 2) := by decide +kernel
theorem dX10_dayGoes_147 : decode cX10_dayGoes 147 = .ok (.dup2, 1) := by decide +kernel
theorem dX10_dayGoes_148 : decode cX10_dayGoes 148 = .ok (.iaload, 1) := by decide +kernel
theorem dX10_dayGoes_149 : decode cX10_dayGoes 149 = .ok (.aload_n 0, 1) := by decide +kernel
theorem dX10_dayGoes_150 : decode cX10_dayGoes 150 = .ok (.iload_n 2, 1) := by decide +kernel
theorem dX10_dayGoes_151 : decode cX10_dayGoes 151 = .ok (.iload 7, 2) := by decide +kernel
theorem dX10_dayGoes_153 : decode cX10_dayGoes 153 = .ok (.aload_n 0, 1) := by decide +kernel
theorem dX10_dayGoes_154 : decode cX10_dayGoes 154 = .ok (.getfield 231, 3) := by decide +kernel
theorem dX10_dayGoes_157 : decode cX10_dayGoes 157 = .ok (.invokevirtual 227, 3) := by decide +kernel
theorem dX10_dayGoes_160 : decode cX10_dayGoes 160 = .ok (.iadd, 1) := by decide +kernel
theorem dX10_dayGoes_161 : decode cX10_dayGoes 161 = .ok (.iastore, 1) := by decide +kernel
theorem dX10_dayGoes_162 : decode cX10_dayGoes 162 = .ok (.aload_n 0, 1) := by decide +kernel
theorem dX10_dayGoes_163 : decode cX10_dayGoes 163 = .ok (.iload 6, 2) := by decide +kernel
theorem dX10_dayGoes_165 : decode cX10_dayGoes 165 = .ok (.aload_n 0, 1) := by decide +kernel
theorem dX10_dayGoes_166 : decode cX10_dayGoes 166 = .ok (.getfield 231, 3) := by decide +kernel
theorem dX10_dayGoes_169 : decode cX10_dayGoes 169 = .ok (.invokevirtual 257, 3) := by decide +kernel
theorem dX10_dayGoes_172 : decode cX10_dayGoes 172 = .ok (.aload_n 0, 1) := by decide +kernel
theorem dX10_dayGoes_173 : decode cX10_dayGoes 173 = .ok (.getfield 40, 3) := by decide +kernel
theorem dX10_dayGoes_176 : decode cX10_dayGoes 176 = .ok (.iload 5, 2) := by decide +kernel
theorem dX10_dayGoes_178 : decode cX10_dayGoes 178 = .ok (.iload 7, 2) := by decide +kernel
theorem dX10_dayGoes_180 : decode cX10_dayGoes 180 = .ok (.iastore, 1) := by decide +kernel
theorem dX10_dayGoes_181 : decode cX10_dayGoes 181 = .ok (.aload_n 0, 1) := by decide +kernel
theorem dX10_dayGoes_182 : decode cX10_dayGoes 182 = .ok (.getfield 43, 3) := by decide +kernel
theorem dX10_dayGoes_185 : decode cX10_dayGoes 185 = .ok (.iload 5, 2) := by decide +kernel
theorem dX10_dayGoes_187 : decode cX10_dayGoes 187 = .ok (.iload 6, 2) := by decide +kernel
theorem dX10_dayGoes_189 : decode cX10_dayGoes 189 = .ok (.iastore, 1) := by decide +kernel
theorem dX10_dayGoes_190 : decode cX10_dayGoes 190 = .ok (.iinc 1 1, 3) := by decide +kernel
theorem dX10_dayGoes_193 : decode cX10_dayGoes 193 = .ok (.iinc 2 1, 3) := by decide +kernel
theorem dX10_dayGoes_196 : decode cX10_dayGoes 196 = .ok (.goto (-192), 3) := by decide +kernel
theorem dX10_dayGoes_199 : decode cX10_dayGoes 199 = .ok (.aload_n 0, 1) := by decide +kernel
theorem dX10_dayGoes_200 : decode cX10_dayGoes 200 = .ok (.getfield 100, 3) := by decide +kernel
theorem dX10_dayGoes_203 : decode cX10_dayGoes 203 = .ok (.istore_n 2, 1) := by decide +kernel
theorem dX10_dayGoes_204 : decode cX10_dayGoes 204 = .ok (.iload_n 2, 1) := by decide +kernel
theorem dX10_dayGoes_205 : decode cX10_dayGoes 205 = .ok (.bipush 8, 2) := by decide +kernel
theorem dX10_dayGoes_207 : decode cX10_dayGoes 207 = .ok (.if_icmp .ge 41, 3) := by decide +kernel
theorem dX10_dayGoes_210 : decode cX10_dayGoes 210 = .ok (.aload_n 0, 1) := by decide +kernel
theorem dX10_dayGoes_211 : decode cX10_dayGoes 211 = .ok (.getfield 40, 3) := by decide +kernel
theorem dX10_dayGoes_214 : decode cX10_dayGoes 214 = .ok (.bipush 8, 2) := by decide +kernel
theorem dX10_dayGoes_216 : decode cX10_dayGoes 216 = .ok (.aload_n 0, 1) := by decide +kernel
theorem dX10_dayGoes_217 : decode cX10_dayGoes 217 = .ok (.getfield 231, 3) := by decide +kernel
theorem dX10_dayGoes_220 : decode cX10_dayGoes 220 = .ok (.imul, 1) := by decide +kernel
theorem dX10_dayGoes_221 : decode cX10_dayGoes 221 = .ok (.iload_n 2, 1) := by decide +kernel
theorem dX10_dayGoes_222 : decode cX10_dayGoes 222 = .ok (.iadd, 1) := by decide +kernel
theorem dX10_dayGoes_223 : decode cX10_dayGoes 223 = .ok (.bipush (-2), 2) := by decide +kernel
theorem dX10_dayGoes_225 : decode cX10_dayGoes 225 = .ok (.iastore, 1) := by decide +kernel
theorem dX10_dayGoes_226 : decode cX10_dayGoes 226 = .ok (.aload_n 0, 1) := by decide +kernel
theorem dX10_dayGoes_227 : decode cX10_dayGoes 227 = .ok (.getfield 43, 3) := by decide +kernel
theorem dX10_dayGoes_230 : decode cX10_dayGoes 230 = .ok (.bipush 8, 2) := by decide +kernel
theorem dX10_dayGoes_232 : decode cX10_dayGoes 232 = .ok (.aload_n 0, 1) := by decide +kernel
theorem dX10_dayGoes_233 : decode cX10_dayGoes 233 = .ok (.getfield 231, 3) := by decide +kernel
theorem dX10_dayGoes_236 : decode cX10_dayGoes 236 = .ok (.imul, 1) := by decide +kernel
theorem dX10_dayGoes_237 : decode cX10_dayGoes 237 = .ok (.iload_n 2, 1) := by decide +kernel
theorem dX10_dayGoes_238 : decode cX10_dayGoes 238 = .ok (.iadd, 1) := by decide +kernel
theorem dX10_dayGoes_239 : decode cX10_dayGoes 239 = .ok (.bipush (-2), 2) := by decide +kernel
theorem dX10_dayGoes_241 : decode cX10_dayGoes 241 = .ok (.iastore, 1) := by decide +kernel
theorem dX10_dayGoes_242 : decode cX10_dayGoes 242 = .ok (.iinc 2 1, 3) := by decide +kernel
theorem dX10_dayGoes_245 : decode cX10_dayGoes 245 = .ok (.goto (-41), 3) := by decide +kernel
theorem dX10_dayGoes_248 : decode cX10_dayGoes 248 = .ok (.iconst 0, 1) := by decide +kernel
theorem dX10_dayGoes_249 : decode cX10_dayGoes 249 = .ok (.istore_n 2, 1) := by decide +kernel
theorem dX10_dayGoes_250 : decode cX10_dayGoes 250 = .ok (.iload_n 2, 1) := by decide +kernel
theorem dX10_dayGoes_251 : decode cX10_dayGoes 251 = .ok (.aload_n 0, 1) := by decide +kernel
theorem dX10_dayGoes_252 : decode cX10_dayGoes 252 = .ok (.getfield 161, 3) := by decide +kernel
theorem dX10_dayGoes_255 : decode cX10_dayGoes 255 = .ok (.if_icmp .ge 50, 3) := by decide +kernel
theorem dX10_dayGoes_258 : decode cX10_dayGoes 258 = .ok (.aload_n 0, 1) := by decide +kernel
theorem dX10_dayGoes_259 : decode cX10_dayGoes 259 = .ok (.getfield 34, 3) := by decide +kernel
theorem dX10_dayGoes_262 : decode cX10_dayGoes 262 = .ok (.iconst 3, 1) := by decide +kernel
theorem dX10_dayGoes_263 : decode cX10_dayGoes 263 = .ok (.iload_n 2, 1) := by decide +kernel
theorem dX10_dayGoes_264 : decode cX10_dayGoes 264 = .ok (.imul, 1) := by decide +kernel
theorem dX10_dayGoes_265 : decode cX10_dayGoes 265 = .ok (.iconst 2, 1) := by decide +kernel
theorem dX10_dayGoes_266 : decode cX10_dayGoes 266 = .ok (.iadd, 1) := by decide +kernel
theorem dX10_dayGoes_267 : decode cX10_dayGoes 267 = .ok (.aload_n 0, 1) := by decide +kernel
theorem dX10_dayGoes_268 : decode cX10_dayGoes 268 = .ok (.getfield 34, 3) := by decide +kernel
theorem dX10_dayGoes_271 : decode cX10_dayGoes 271 = .ok (.iconst 3, 1) := by decide +kernel
theorem dX10_dayGoes_272 : decode cX10_dayGoes 272 = .ok (.iload_n 2, 1) := by decide +kernel
theorem dX10_dayGoes_273 : decode cX10_dayGoes 273 = .ok (.imul, 1) := by decide +kernel
theorem dX10_dayGoes_274 : decode cX10_dayGoes 274 = .ok (.iconst 1, 1) := by decide +kernel
theorem dX10_dayGoes_275 : decode cX10_dayGoes 275 = .ok (.iadd, 1) := by decide +kernel
theorem dX10_dayGoes_276 : decode cX10_dayGoes 276 = .ok (.iaload, 1) := by decide +kernel
theorem dX10_dayGoes_277 : decode cX10_dayGoes 277 = .ok (.aload_n 0, 1) := by decide +kernel
theorem dX10_dayGoes_278 : decode cX10_dayGoes 278 = .ok (.getfield 231, 3) := by decide +kernel
theorem dX10_dayGoes_281 : decode cX10_dayGoes 281 = .ok (.if_icmp .ne 7, 3) := by decide +kernel
theorem dX10_dayGoes_284 : decode cX10_dayGoes 284 = .ok (.iconst 1, 1) := by decide +kernel
theorem dX10_dayGoes_285 : decode cX10_dayGoes 285 = .ok (.goto 13, 3) := by decide +kernel
theorem dX10_dayGoes_288 : decode cX10_dayGoes 288 = .ok (.aload_n 0, 1) := by decide +kernel
theorem dX10_dayGoes_289 : decode cX10_dayGoes 289 = .ok (.getfield 34, 3) := by decide +kernel
theorem dX10_dayGoes_292 : decode cX10_dayGoes 292 = .ok (.iconst 3, 1) := by decide +kernel
theorem dX10_dayGoes_293 : decode cX10_dayGoes 293 = .ok (.iload_n 2, 1) := by decide +kernel
theorem dX10_dayGoes_294 : decode cX10_dayGoes 294 = .ok (.imul, 1) := by decide +kernel
theorem dX10_dayGoes_295 : decode cX10_dayGoes 295 = .ok (.iconst 2, 1) := by decide +kernel
theorem dX10_dayGoes_296 : decode cX10_dayGoes 296 = .ok (.iadd, 1) := by decide +kernel
theorem dX10_dayGoes_297 : decode cX10_dayGoes 297 = .ok (.iaload, 1) := by decide +kernel
theorem dX10_dayGoes_298 : decode cX10_dayGoes 298 = .ok (.iastore, 1) := by decide +kernel
theorem dX10_dayGoes_299 : decode cX10_dayGoes 299 = .ok (.iinc 2 1, 3) := by decide +kernel
theorem dX10_dayGoes_302 : decode cX10_dayGoes 302 = .ok (.goto (-52), 3) := by decide +kernel
theorem dX10_dayGoes_305 : decode cX10_dayGoes 305 = .ok (.aload_n 0, 1) := by decide +kernel
theorem dX10_dayGoes_306 : decode cX10_dayGoes 306 = .ok (.dup, 1) := by decide +kernel
theorem dX10_dayGoes_307 : decode cX10_dayGoes 307 = .ok (.getfield 231, 3) := by decide +kernel
theorem dX10_dayGoes_310 : decode cX10_dayGoes 310 = .ok (.iconst 1, 1) := by decide +kernel
theorem dX10_dayGoes_311 : decode cX10_dayGoes 311 = .ok (.iadd, 1) := by decide +kernel
theorem dX10_dayGoes_312 : decode cX10_dayGoes 312 = .ok (.putfield 231, 3) := by decide +kernel
theorem dX10_dayGoes_315 : decode cX10_dayGoes 315 = .ok (.iload_n 1, 1) := by decide +kernel
theorem dX10_dayGoes_316 : decode cX10_dayGoes 316 = .ok (.ireturn, 1) := by decide +kernel
theorem dX10_go_0 : decode cX10_go 0 = .ok (.iload_n 2, 1) := by decide +kernel
theorem dX10_go_1 : decode cX10_go 1 = .ok (.i2l, 1) := by decide +kernel
theorem dX10_go_2 : decode cX10_go 2 = .ok (.lconst 1, 1) := by decide +kernel
theorem dX10_go_3 : decode cX10_go 3 = .ok (.ldc2_w 260, 3) := by decide +kernel
theorem dX10_go_6 : decode cX10_go 6 = .ok (.invokestatic 103, 3) := by decide +kernel
theorem dX10_go_9 : decode cX10_go 9 = .ok (.ifCond .ne 5, 3) := by decide +kernel
theorem dX10_go_12 : decode cX10_go 12 = .ok (.iconst (-1), 1) := by decide +kernel
theorem dX10_go_13 : decode cX10_go 13 = .ok (.ireturn, 1) := by decide +kernel
theorem dX10_go_14 : decode cX10_go 14 = .ok (.aload_n 0, 1) := by decide +kernel
theorem dX10_go_15 : decode cX10_go 15 = .ok (.getfield 231, 3) := by decide +kernel
theorem dX10_go_18 : decode cX10_go 18 = .ok (.iload_n 2, 1) := by decide +kernel
theorem dX10_go_19 : decode cX10_go 19 = .ok (.iadd, 1) := by decide +kernel
theorem dX10_go_20 : decode cX10_go 20 = .ok (.bipush 48, 2) := by decide +kernel
theorem dX10_go_22 : decode cX10_go 22 = .ok (.if_icmp .le 6, 3) := by decide +kernel
theorem dX10_go_25 : decode cX10_go 25 = .ok (.bipush (-5), 2) := by decide +kernel
theorem dX10_go_27 : decode cX10_go 27 = .ok (.ireturn, 1) := by decide +kernel
theorem dX10_go_28 : decode cX10_go 28 = .ok (.aload_n 0, 1) := by decide +kernel
theorem dX10_go_29 : decode cX10_go 29 = .ok (.iload_n 1, 1) := by decide +kernel
theorem dX10_go_30 : decode cX10_go 30 = .ok (.putfield 253, 3) := by decide +kernel
theorem dX10_go_33 : decode cX10_go 33 = .ok (.iconst 0, 1) := by decide +kernel
theorem dX10_go_34 : decode cX10_go 34 = .ok (.istore_n 3, 1) := by decide +kernel
theorem dX10_go_35 : decode cX10_go 35 = .ok (.iconst 0, 1) := by decide +kernel
theorem dX10_go_36 : decode cX10_go 36 = .ok (.istore 4, 2) := by decide +kernel
theorem dX10_go_38 : decode cX10_go 38 = .ok (.iload 4, 2) := by decide +kernel
theorem dX10_go_40 : decode cX10_go 40 = .ok (.iload_n 2, 1) := by decide +kernel
theorem dX10_go_41 : decode cX10_go 41 = .ok (.if_icmp .ge 16, 3) := by decide +kernel
theorem dX10_go_44 : decode cX10_go 44 = .ok (.iload_n 3, 1) := by decide +kernel
theorem dX10_go_45 : decode cX10_go 45 = .ok (.aload_n 0, 1) := by decide +kernel
theorem dX10_go_46 : decode cX10_go 46 = .ok (.invokevirtual 262, 3) := by decide +kernel
theorem dX10_go_49 : decode cX10_go 49 = .ok (.iadd, 1) := by decide +kernel
theorem dX10_go_50 : decode cX10_go 50 = .ok (.istore_n 3, 1) := by decide +kernel
theorem dX10_go_51 : decode cX10_go 51 = .ok (.iinc 4 1, 3) := by decide +kernel
theorem dX10_go_54 : decode cX10_go 54 = .ok (.goto (-16), 3) := by decide +kernel
theorem dX10_go_57 : decode cX10_go 57 = .ok (.iload_n 3, 1) := by decide +kernel
theorem dX10_go_58 : decode cX10_go 58 = .ok (.ireturn, 1) := by decide +kernel
theorem dX10_led_0 : decode cX10_led 0 = .ok (.iload_n 1, 1) := by decide +kernel
theorem dX10_led_1 : decode cX10_led 1 = .ok (.ifCond .lt 35, 3) := by decide +kernel
theorem dX10_led_4 : decode cX10_led 4 = .ok (.iload_n 1, 1) := by decide +kernel
theorem dX10_led_5 : decode cX10_led 5 = .ok (.bipush 10, 2) := by decide +kernel
theorem dX10_led_7 : decode cX10_led 7 = .ok (.idiv, 1) := by decide +kernel
theorem dX10_led_8 : decode cX10_led 8 = .ok (.aload_n 0, 1) := by decide +kernel
theorem dX10_led_9 : decode cX10_led 9 = .ok (.getfield 231, 3) := by decide +kernel
theorem dX10_led_12 : decode cX10_led 12 = .ok (.if_icmp .ge 24, 3) := by decide +kernel
theorem dX10_led_15 : decode cX10_led 15 = .ok (.aload_n 0, 1) := by decide +kernel
theorem dX10_led_16 : decode cX10_led 16 = .ok (.iload_n 1, 1) := by decide +kernel
theorem dX10_led_17 : decode cX10_led 17 = .ok (.bipush 10, 2) := by decide +kernel
theorem dX10_led_19 : decode cX10_led 19 = .ok (.irem, 1) := by decide +kernel
theorem dX10_led_20 : decode cX10_led 20 = .ok (.invokevirtual 107, 3) := by decide +kernel
theorem dX10_led_23 : decode cX10_led 23 = .ok (.ifCond .eq 13, 3) := by decide +kernel
theorem dX10_led_26 : decode cX10_led 26 = .ok (.iload_n 2, 1) := by decide +kernel
theorem dX10_led_27 : decode cX10_led 27 = .ok (.i2l, 1) := by decide +kernel
theorem dX10_led_28 : decode cX10_led 28 = .ok (.lconst 0, 1) := by decide +kernel
theorem dX10_led_29 : decode cX10_led 29 = .ok (.lconst 1, 1) := by decide +kernel
theorem dX10_led_30 : decode cX10_led 30 = .ok (.invokestatic 103, 3) := by decide +kernel
theorem dX10_led_33 : decode cX10_led 33 = .ok (.ifCond .ne 5, 3) := by decide +kernel
theorem dX10_led_36 : decode cX10_led 36 = .ok (.iconst (-1), 1) := by decide +kernel
theorem dX10_led_37 : decode cX10_led 37 = .ok (.ireturn, 1) := by decide +kernel
theorem dX10_led_38 : decode cX10_led 38 = .ok (.bipush 8, 2) := by decide +kernel
theorem dX10_led_40 : decode cX10_led 40 = .ok (.iload_n 1, 1) := by decide +kernel
theorem dX10_led_41 : decode cX10_led 41 = .ok (.bipush 10, 2) := by decide +kernel
theorem dX10_led_43 : decode cX10_led 43 = .ok (.idiv, 1) := by decide +kernel
theorem dX10_led_44 : decode cX10_led 44 = .ok (.imul, 1) := by decide +kernel
theorem dX10_led_45 : decode cX10_led 45 = .ok (.iload_n 1, 1) := by decide +kernel
theorem dX10_led_46 : decode cX10_led 46 = .ok (.bipush 10, 2) := by decide +kernel
theorem dX10_led_48 : decode cX10_led 48 = .ok (.irem, 1) := by decide +kernel
theorem dX10_led_49 : decode cX10_led 49 = .ok (.iadd, 1) := by decide +kernel
theorem dX10_led_50 : decode cX10_led 50 = .ok (.istore_n 3, 1) := by decide +kernel
theorem dX10_led_51 : decode cX10_led 51 = .ok (.iload_n 2, 1) := by decide +kernel
theorem dX10_led_52 : decode cX10_led 52 = .ok (.ifCond .ne 12, 3) := by decide +kernel
theorem dX10_led_55 : decode cX10_led 55 = .ok (.aload_n 0, 1) := by decide +kernel
theorem dX10_led_56 : decode cX10_led 56 = .ok (.getfield 40, 3) := by decide +kernel
theorem dX10_led_59 : decode cX10_led 59 = .ok (.iload_n 3, 1) := by decide +kernel
theorem dX10_led_60 : decode cX10_led 60 = .ok (.iaload, 1) := by decide +kernel
theorem dX10_led_61 : decode cX10_led 61 = .ok (.goto 9, 3) := by decide +kernel
theorem dX10_led_64 : decode cX10_led 64 = .ok (.aload_n 0, 1) := by decide +kernel
theorem dX10_led_65 : decode cX10_led 65 = .ok (.getfield 43, 3) := by decide +kernel
theorem dX10_led_68 : decode cX10_led 68 = .ok (.iload_n 3, 1) := by decide +kernel
theorem dX10_led_69 : decode cX10_led 69 = .ok (.iaload, 1) := by decide +kernel
theorem dX10_led_70 : decode cX10_led 70 = .ok (.ireturn, 1) := by decide +kernel
theorem dX10_bestDay_0 : decode cX10_bestDay 0 = .ok (.aload_n 0, 1) := by decide +kernel
theorem dX10_bestDay_1 : decode cX10_bestDay 1 = .ok (.iload_n 1, 1) := by decide +kernel
theorem dX10_bestDay_2 : decode cX10_bestDay 2 = .ok (.invokevirtual 146, 3) := by decide +kernel
theorem dX10_bestDay_5 : decode cX10_bestDay 5 = .ok (.ifCond .eq 13, 3) := by decide +kernel
theorem dX10_bestDay_8 : decode cX10_bestDay 8 = .ok (.iload_n 2, 1) := by decide +kernel
theorem dX10_bestDay_9 : decode cX10_bestDay 9 = .ok (.i2l, 1) := by decide +kernel
theorem dX10_bestDay_10 : decode cX10_bestDay 10 = .ok (.lconst 0, 1) := by decide +kernel
theorem dX10_bestDay_11 : decode cX10_bestDay 11 = .ok (.lconst 1, 1) := by decide +kernel
theorem dX10_bestDay_12 : decode cX10_bestDay 12 = .ok (.invokestatic 103, 3) := by decide +kernel
theorem dX10_bestDay_15 : decode cX10_bestDay 15 = .ok (.ifCond .ne 5, 3) := by decide +kernel
theorem dX10_bestDay_18 : decode cX10_bestDay 18 = .ok (.iconst (-1), 1) := by decide +kernel
theorem dX10_bestDay_19 : decode cX10_bestDay 19 = .ok (.ireturn, 1) := by decide +kernel
theorem dX10_bestDay_20 : decode cX10_bestDay 20 = .ok (.aload_n 0, 1) := by decide +kernel
theorem dX10_bestDay_21 : decode cX10_bestDay 21 = .ok (.iload_n 1, 1) := by decide +kernel
theorem dX10_bestDay_22 : decode cX10_bestDay 22 = .ok (.invokevirtual 240, 3) := by decide +kernel
theorem dX10_bestDay_25 : decode cX10_bestDay 25 = .ok (.ifCond .ne 6, 3) := by decide +kernel
theorem dX10_bestDay_28 : decode cX10_bestDay 28 = .ok (.bipush (-5), 2) := by decide +kernel
theorem dX10_bestDay_30 : decode cX10_bestDay 30 = .ok (.ireturn, 1) := by decide +kernel
theorem dX10_bestDay_31 : decode cX10_bestDay 31 = .ok (.bipush (-2), 2) := by decide +kernel
theorem dX10_bestDay_33 : decode cX10_bestDay 33 = .ok (.istore_n 3, 1) := by decide +kernel
theorem dX10_bestDay_34 : decode cX10_bestDay 34 = .ok (.bipush (-2), 2) := by decide +kernel
theorem dX10_bestDay_36 : decode cX10_bestDay 36 = .ok (.istore 4, 2) := by decide +kernel
theorem dX10_bestDay_38 : decode cX10_bestDay 38 = .ok (.aload_n 0, 1) := by decide +kernel
theorem dX10_bestDay_39 : decode cX10_bestDay 39 = .ok (.getfield 231, 3) := by decide +kernel
theorem dX10_bestDay_42 : decode cX10_bestDay 42 = .ok (.iconst 3, 1) := by decide +kernel
theorem dX10_bestDay_43 : decode cX10_bestDay 43 = .ok (.iadd, 1) := by decide +kernel
theorem dX10_bestDay_44 : decode cX10_bestDay 44 = .ok (.istore 5, 2) := by decide +kernel
theorem dX10_bestDay_46 : decode cX10_bestDay 46 = .ok (.iload 5, 2) := by decide +kernel
theorem dX10_bestDay_48 : decode cX10_bestDay 48 = .ok (.bipush 48, 2) := by decide +kernel
theorem dX10_bestDay_50 : decode cX10_bestDay 50 = .ok (.if_icmp .ge 78, 3) := by decide +kernel
theorem dX10_bestDay_53 : decode cX10_bestDay 53 = .ok (.iload 5, 2) := by decide +kernel
theorem dX10_bestDay_55 : decode cX10_bestDay 55 = .ok (.invokestatic 234, 3) := by decide +kernel
theorem dX10_bestDay_58 : decode cX10_bestDay 58 = .ok (.ifCond .eq 8, 3) := by decide +kernel
theorem dX10_bestDay_61 : decode cX10_bestDay 61 = .ok (.bipush (-2), 2) := by decide +kernel
theorem dX10_bestDay_63 : decode cX10_bestDay 63 = .ok (.goto 27, 3) := by decide +kernel
theorem dX10_bestDay_66 : decode cX10_bestDay 66 = .ok (.aload_n 0, 1) := by decide +kernel
theorem dX10_bestDay_67 : decode cX10_bestDay 67 = .ok (.aload_n 0, 1) := by decide +kernel
theorem dX10_bestDay_68 : decode cX10_bestDay 68 = .ok (.getfield 22, 3) := by decide +kernel
theorem dX10_bestDay_71 : decode cX10_bestDay 71 = .ok (.iconst 5, 1) := by decide +kernel
theorem dX10_bestDay_72 : decode cX10_bestDay 72 = .ok (.iload_n 1, 1) := by decide +kernel
theorem dX10_bestDay_73 : decode cX10_bestDay 73 = .ok (.imul, 1) := by decide +kernel
theorem dX10_bestDay_74 : decode cX10_bestDay 74 = .ok (.iaload, 1) := by decide +kernel
theorem dX10_bestDay_75 : decode cX10_bestDay 75 = .ok (.aload_n 0, 1) := by decide +kernel
theorem dX10_bestDay_76 : decode cX10_bestDay 76 = .ok (.getfield 22, 3) := by decide +kernel
theorem dX10_bestDay_79 : decode cX10_bestDay 79 = .ok (.iconst 5, 1) := by decide +kernel
theorem dX10_bestDay_80 : decode cX10_bestDay 80 = .ok (.iload_n 1, 1) := by decide +kernel
theorem dX10_bestDay_81 : decode cX10_bestDay 81 = .ok (.imul, 1) := by decide +kernel
theorem dX10_bestDay_82 : decode cX10_bestDay 82 = .ok (.iconst 1, 1) := by decide +kernel
theorem dX10_bestDay_83 : decode cX10_bestDay 83 = .ok (.iadd, 1) := by decide +kernel
theorem dX10_bestDay_84 : decode cX10_bestDay 84 = .ok (.iaload, 1) := by decide +kernel
theorem dX10_bestDay_85 : decode cX10_bestDay 85 = .ok (.iload 5, 2) := by decide +kernel
theorem dX10_bestDay_87 : decode cX10_bestDay 87 = .ok (.invokevirtual 227, 3) := by decide +kernel
theorem dX10_bestDay_90 : decode cX10_bestDay 90 = .ok (.istore 6, 2) := by decide +kernel
theorem dX10_bestDay_92 : decode cX10_bestDay 92 = .ok (.iload 6, 2) := by decide +kernel
theorem dX10_bestDay_94 : decode cX10_bestDay 94 = .ok (.iload 4, 2) := by decide +kernel
theorem dX10_bestDay_96 : decode cX10_bestDay 96 = .ok (.if_icmp .le 8, 3) := by decide +kernel
theorem dX10_bestDay_99 : decode cX10_bestDay 99 = .ok (.iload 5, 2) := by decide +kernel
theorem dX10_bestDay_101 : decode cX10_bestDay 101 = .ok (.goto 4, 3) := by decide +kernel
theorem dX10_bestDay_104 : decode cX10_bestDay 104 = .ok (.iload_n 3, 1) := by decide +kernel
theorem dX10_bestDay_105 : decode cX10_bestDay 105 = .ok (.istore_n 3, 1) := by decide +kernel
theorem dX10_bestDay_106 : decode cX10_bestDay 106 = .ok (.iload 6, 2) := by decide +kernel
theorem dX10_bestDay_108 : decode cX10_bestDay 108 = .ok (.iload 4, 2) := by decide +kernel
theorem dX10_bestDay_110 : decode cX10_bestDay 110 = .ok (.if_icmp .le 8, 3) := by decide +kernel
theorem dX10_bestDay_113 : decode cX10_bestDay 113 = .ok (.iload 6, 2) := by decide +kernel
theorem dX10_bestDay_115 : decode cX10_bestDay 115 = .ok (.goto 5, 3) := by decide +kernel
theorem dX10_bestDay_118 : decode cX10_bestDay 118 = .ok (.iload 4, 2) := by decide +kernel
theorem dX10_bestDay_120 : decode cX10_bestDay 120 = .ok (.istore 4, 2) := by decide +kernel
theorem dX10_bestDay_122 : decode cX10_bestDay 122 = .ok (.iinc 5 1, 3) := by decide +kernel
theorem dX10_bestDay_125 : decode cX10_bestDay 125 = .ok (.goto (-79), 3) := by decide +kernel
theorem dX10_bestDay_128 : decode cX10_bestDay 128 = .ok (.iload_n 2, 1) := by decide +kernel
theorem dX10_bestDay_129 : decode cX10_bestDay 129 = .ok (.ifCond .ne 7, 3) := by decide +kernel
theorem dX10_bestDay_132 : decode cX10_bestDay 132 = .ok (.iload_n 3, 1) := by decide +kernel
theorem dX10_bestDay_133 : decode cX10_bestDay 133 = .ok (.goto 5, 3) := by decide +kernel
theorem dX10_bestDay_136 : decode cX10_bestDay 136 = .ok (.iload 4, 2) := by decide +kernel
theorem dX10_bestDay_138 : decode cX10_bestDay 138 = .ok (.ireturn, 1) := by decide +kernel
theorem dX10_bestSum_0 : decode cX10_bestSum 0 = .ok (.iconst 0, 1) := by decide +kernel
theorem dX10_bestSum_1 : decode cX10_bestSum 1 = .ok (.istore 5, 2) := by decide +kernel
theorem dX10_bestSum_3 : decode cX10_bestSum 3 = .ok (.iload 5, 2) := by decide +kernel
theorem dX10_bestSum_5 : decode cX10_bestSum 5 = .ok (.bipush 48, 2) := by decide +kernel
theorem dX10_bestSum_7 : decode cX10_bestSum 7 = .ok (.if_icmp .ge 21, 3) := by decide +kernel
theorem dX10_bestSum_10 : decode cX10_bestSum 10 = .ok (.aload_n 0, 1) := by decide +kernel
theorem dX10_bestSum_11 : decode cX10_bestSum 11 = .ok (.getfield 46, 3) := by decide +kernel
theorem dX10_bestSum_14 : decode cX10_bestSum 14 = .ok (.iload 5, 2) := by decide +kernel
theorem dX10_bestSum_16 : decode cX10_bestSum 16 = .ok (.iload 5, 2) := by decide +kernel
theorem dX10_bestSum_18 : decode cX10_bestSum 18 = .ok (.invokestatic 234, 3) := by decide +kernel
theorem dX10_bestSum_21 : decode cX10_bestSum 21 = .ok (.bastore, 1) := by decide +kernel
theorem dX10_bestSum_22 : decode cX10_bestSum 22 = .ok (.iinc 5 1, 3) := by decide +kernel
theorem dX10_bestSum_25 : decode cX10_bestSum 25 = .ok (.goto (-22), 3) := by decide +kernel
theorem dX10_bestSum_28 : decode cX10_bestSum 28 = .ok (.iconst 0, 1) := by decide +kernel
theorem dX10_bestSum_29 : decode cX10_bestSum 29 = .ok (.istore 5, 2) := by decide +kernel
theorem dX10_bestSum_31 : decode cX10_bestSum 31 = .ok (.iconst 0, 1) := by decide +kernel
theorem dX10_bestSum_32 : decode cX10_bestSum 32 = .ok (.istore 6, 2) := by decide +kernel
theorem dX10_bestSum_34 : decode cX10_bestSum 34 = .ok (.iload 6, 2) := by decide +kernel
theorem dX10_bestSum_36 : decode cX10_bestSum 36 = .ok (.iload_n 3, 1) := by decide +kernel
theorem dX10_bestSum_37 : decode cX10_bestSum 37 = .ok (.if_icmp .ge 110, 3) := by decide +kernel
theorem dX10_bestSum_40 : decode cX10_bestSum 40 = .ok (.iconst (-1), 1) := by decide +kernel
theorem dX10_bestSum_41 : decode cX10_bestSum 41 = .ok (.istore 7, 2) := by decide +kernel
theorem dX10_bestSum_43 : decode cX10_bestSum 43 = .ok (.iconst 0, 1) := by decide +kernel
theorem dX10_bestSum_44 : decode cX10_bestSum 44 = .ok (.istore 8, 2) := by decide +kernel
theorem dX10_bestSum_46 : decode cX10_bestSum 46 = .ok (.aload_n 0, 1) := by decide +kernel
theorem dX10_bestSum_47 : decode cX10_bestSum 47 = .ok (.getfield 231, 3) := by decide +kernel
theorem dX10_bestSum_50 : decode cX10_bestSum 50 = .ok (.iconst 3, 1) := by decide +kernel
theorem dX10_bestSum_51 : decode cX10_bestSum 51 = .ok (.iadd, 1) := by decide +kernel
theorem dX10_bestSum_52 : decode cX10_bestSum 52 = .ok (.istore 9, 2) := by decide +kernel
theorem dX10_bestSum_54 : decode cX10_bestSum 54 = .ok (.iload 9, 2) := by decide +kernel
theorem dX10_bestSum_56 : decode cX10_bestSum 56 = .ok (.iload 4, 2) := by decide +kernel
theorem dX10_bestSum_58 : decode cX10_bestSum 58 = .ok (.if_icmp .gt 63, 3) := by decide +kernel
theorem dX10_bestSum_61 : decode cX10_bestSum 61 = .ok (.aload_n 0, 1) := by decide +kernel
theorem dX10_bestSum_62 : decode cX10_bestSum 62 = .ok (.getfield 46, 3) := by decide +kernel
theorem dX10_bestSum_65 : decode cX10_bestSum 65 = .ok (.iload 9, 2) := by decide +kernel
theorem dX10_bestSum_67 : decode cX10_bestSum 67 = .ok (.baload, 1) := by decide +kernel
theorem dX10_bestSum_68 : decode cX10_bestSum 68 = .ok (.ifCond .eq 7, 3) := by decide +kernel
theorem dX10_bestSum_71 : decode cX10_bestSum 71 = .ok (.iconst 0, 1) := by decide +kernel
theorem dX10_bestSum_72 : decode cX10_bestSum 72 = .ok (.goto 11, 3) := by decide +kernel
theorem dX10_bestSum_75 : decode cX10_bestSum 75 = .ok (.aload_n 0, 1) := by decide +kernel
theorem dX10_bestSum_76 : decode cX10_bestSum 76 = .ok (.iload_n 1, 1) := by decide +kernel
theorem dX10_bestSum_77 : decode cX10_bestSum 77 = .ok (.iload_n 2, 1) := by decide +kernel
theorem dX10_bestSum_78 : decode cX10_bestSum 78 = .ok (.iload 9, 2) := by decide +kernel
theorem dX10_bestSum_80 : decode cX10_bestSum 80 = .ok (.invokevirtual 227, 3) := by decide +kernel
theorem dX10_bestSum_83 : decode cX10_bestSum 83 = .ok (.istore 10, 2) := by decide +kernel
theorem dX10_bestSum_85 : decode cX10_bestSum 85 = .ok (.aload_n 0, 1) := by decide +kernel
theorem dX10_bestSum_86 : decode cX10_bestSum 86 = .ok (.getfield 46, 3) := by decide +kernel
theorem dX10_bestSum_89 : decode cX10_bestSum 89 = .ok (.iload 9, 2) := by decide +kernel
theorem dX10_bestSum_91 : decode cX10_bestSum 91 = .ok (.baload, 1) := by decide +kernel
theorem dX10_bestSum_92 : decode cX10_bestSum 92 = .ok (.ifCond .ne 23, 3) := by decide +kernel
theorem dX10_bestSum_95 : decode cX10_bestSum 95 = .ok (.iload 7, 2) := by decide +kernel
theorem dX10_bestSum_97 : decode cX10_bestSum 97 = .ok (.ifCond .lt 10, 3) := by decide +kernel
theorem dX10_bestSum_100 : decode cX10_bestSum 100 = .ok (.iload 10, 2) := by decide +kernel
theorem dX10_bestSum_102 : decode cX10_bestSum 102 = .ok (.iload 8, 2) := by decide +kernel
theorem dX10_bestSum_104 : decode cX10_bestSum 104 = .ok (.if_icmp .le 11, 3) := by decide +kernel
theorem dX10_bestSum_107 : decode cX10_bestSum 107 = .ok (.iload 9, 2) := by decide +kernel
theorem dX10_bestSum_109 : decode cX10_bestSum 109 = .ok (.istore 7, 2) := by decide +kernel
theorem dX10_bestSum_111 : decode cX10_bestSum 111 = .ok (.iload 10, 2) := by decide +kernel
theorem dX10_bestSum_113 : decode cX10_bestSum 113 = .ok (.istore 8, 2) := by decide +kernel
theorem dX10_bestSum_115 : decode cX10_bestSum 115 = .ok (.iinc 9 1, 3) := by decide +kernel
theorem dX10_bestSum_118 : decode cX10_bestSum 118 = .ok (.goto (-64), 3) := by decide +kernel
theorem dX10_bestSum_121 : decode cX10_bestSum 121 = .ok (.iload 7, 2) := by decide +kernel
theorem dX10_bestSum_123 : decode cX10_bestSum 123 = .ok (.ifCond .lt 18, 3) := by decide +kernel
theorem dX10_bestSum_126 : decode cX10_bestSum 126 = .ok (.aload_n 0, 1) := by decide +kernel
theorem dX10_bestSum_127 : decode cX10_bestSum 127 = .ok (.getfield 46, 3) := by decide +kernel
theorem dX10_bestSum_130 : decode cX10_bestSum 130 = .ok (.iload 7, 2) := by decide +kernel
theorem dX10_bestSum_132 : decode cX10_bestSum 132 = .ok (.iconst 1, 1) := by decide +kernel
theorem dX10_bestSum_133 : decode cX10_bestSum 133 = .ok (.bastore, 1) := by decide +kernel
theorem dX10_bestSum_134 : decode cX10_bestSum 134 = .ok (.iload 5, 2) := by decide +kernel
theorem dX10_bestSum_136 : decode cX10_bestSum 136 = .ok (.iload 8, 2) := by decide +kernel
theorem dX10_bestSum_138 : decode cX10_bestSum 138 = .ok (.iadd, 1) := by decide +kernel
theorem dX10_bestSum_139 : decode cX10_bestSum 139 = .ok (.istore 5, 2) := by decide +kernel
theorem dX10_bestSum_141 : decode cX10_bestSum 141 = .ok (.iinc 6 1, 3) := by decide +kernel
theorem dX10_bestSum_144 : decode cX10_bestSum 144 = .ok (.goto (-110), 3) := by decide +kernel
theorem dX10_bestSum_147 : decode cX10_bestSum 147 = .ok (.iload 5, 2) := by decide +kernel
theorem dX10_bestSum_149 : decode cX10_bestSum 149 = .ok (.ireturn, 1) := by decide +kernel
theorem dX10_plan_0 : decode cX10_plan 0 = .ok (.aload_n 0, 1) := by decide +kernel
theorem dX10_plan_1 : decode cX10_plan 1 = .ok (.iload_n 1, 1) := by decide +kernel
theorem dX10_plan_2 : decode cX10_plan 2 = .ok (.invokevirtual 107, 3) := by decide +kernel
theorem dX10_plan_5 : decode cX10_plan 5 = .ok (.ifCond .eq 10, 3) := by decide +kernel
theorem dX10_plan_8 : decode cX10_plan 8 = .ok (.iload_n 2, 1) := by decide +kernel
theorem dX10_plan_9 : decode cX10_plan 9 = .ok (.invokestatic 224, 3) := by decide +kernel
theorem dX10_plan_12 : decode cX10_plan 12 = .ok (.ifCond .ne 5, 3) := by decide +kernel
theorem dX10_plan_15 : decode cX10_plan 15 = .ok (.iconst (-1), 1) := by decide +kernel
theorem dX10_plan_16 : decode cX10_plan 16 = .ok (.ireturn, 1) := by decide +kernel
theorem dX10_plan_17 : decode cX10_plan 17 = .ok (.iconst 0, 1) := by decide +kernel
theorem dX10_plan_18 : decode cX10_plan 18 = .ok (.istore_n 3, 1) := by decide +kernel
theorem dX10_plan_19 : decode cX10_plan 19 = .ok (.iconst 0, 1) := by decide +kernel
theorem dX10_plan_20 : decode cX10_plan 20 = .ok (.istore 4, 2) := by decide +kernel
theorem dX10_plan_22 : decode cX10_plan 22 = .ok (.iload 4, 2) := by decide +kernel
theorem dX10_plan_24 : decode cX10_plan 24 = .ok (.aload_n 0, 1) := by decide +kernel
theorem dX10_plan_25 : decode cX10_plan 25 = .ok (.getfield 100, 3) := by decide +kernel
theorem dX10_plan_28 : decode cX10_plan 28 = .ok (.if_icmp .ge 27, 3) := by decide +kernel
theorem dX10_plan_31 : decode cX10_plan 31 = .ok (.iload_n 3, 1) := by decide +kernel
theorem dX10_plan_32 : decode cX10_plan 32 = .ok (.aload_n 0, 1) := by decide +kernel
theorem dX10_plan_33 : decode cX10_plan 33 = .ok (.iload 4, 2) := by decide +kernel
theorem dX10_plan_35 : decode cX10_plan 35 = .ok (.iload_n 1, 1) := by decide +kernel
theorem dX10_plan_36 : decode cX10_plan 36 = .ok (.aload_n 0, 1) := by decide +kernel
theorem dX10_plan_37 : decode cX10_plan 37 = .ok (.iload 4, 2) := by decide +kernel
theorem dX10_plan_39 : decode cX10_plan 39 = .ok (.iload_n 1, 1) := by decide +kernel
theorem dX10_plan_40 : decode cX10_plan 40 = .ok (.invokevirtual 167, 3) := by decide +kernel
theorem dX10_plan_43 : decode cX10_plan 43 = .ok (.iload_n 2, 1) := by decide +kernel
theorem dX10_plan_44 : decode cX10_plan 44 = .ok (.invokevirtual 265, 3) := by decide +kernel
theorem dX10_plan_47 : decode cX10_plan 47 = .ok (.iadd, 1) := by decide +kernel
theorem dX10_plan_48 : decode cX10_plan 48 = .ok (.istore_n 3, 1) := by decide +kernel
theorem dX10_plan_49 : decode cX10_plan 49 = .ok (.iinc 4 1, 3) := by decide +kernel
theorem dX10_plan_52 : decode cX10_plan 52 = .ok (.goto (-30), 3) := by decide +kernel
theorem dX10_plan_55 : decode cX10_plan 55 = .ok (.iload_n 3, 1) := by decide +kernel
theorem dX10_plan_56 : decode cX10_plan 56 = .ok (.ireturn, 1) := by decide +kernel
theorem dX10_free_0 : decode cX10_free 0 = .ok (.aload_n 0, 1) := by decide +kernel
theorem dX10_free_1 : decode cX10_free 1 = .ok (.iload_n 1, 1) := by decide +kernel
theorem dX10_free_2 : decode cX10_free 2 = .ok (.invokevirtual 107, 3) := by decide +kernel
theorem dX10_free_5 : decode cX10_free 5 = .ok (.ifCond .eq 10, 3) := by decide +kernel
theorem dX10_free_8 : decode cX10_free 8 = .ok (.iload_n 2, 1) := by decide +kernel
theorem dX10_free_9 : decode cX10_free 9 = .ok (.invokestatic 224, 3) := by decide +kernel
theorem dX10_free_12 : decode cX10_free 12 = .ok (.ifCond .ne 6, 3) := by decide +kernel
theorem dX10_free_15 : decode cX10_free 15 = .ok (.ldc 149, 2) := by decide +kernel
theorem dX10_free_17 : decode cX10_free 17 = .ok (.ireturn, 1) := by decide +kernel
theorem dX10_free_18 : decode cX10_free 18 = .ok (.iconst 0, 1) := by decide +kernel
theorem dX10_free_19 : decode cX10_free 19 = .ok (.istore_n 3, 1) := by decide +kernel
theorem dX10_free_20 : decode cX10_free 20 = .ok (.aload_n 0, 1) := by decide +kernel
theorem dX10_free_21 : decode cX10_free 21 = .ok (.getfield 231, 3) := by decide +kernel
theorem dX10_free_24 : decode cX10_free 24 = .ok (.iconst 3, 1) := by decide +kernel
theorem dX10_free_25 : decode cX10_free 25 = .ok (.iadd, 1) := by decide +kernel
theorem dX10_free_26 : decode cX10_free 26 = .ok (.istore 4, 2) := by decide +kernel
theorem dX10_free_28 : decode cX10_free 28 = .ok (.iload 4, 2) := by decide +kernel
theorem dX10_free_30 : decode cX10_free 30 = .ok (.iload_n 2, 1) := by decide +kernel
theorem dX10_free_31 : decode cX10_free 31 = .ok (.if_icmp .gt 25, 3) := by decide +kernel
theorem dX10_free_34 : decode cX10_free 34 = .ok (.iload_n 3, 1) := by decide +kernel
theorem dX10_free_35 : decode cX10_free 35 = .ok (.iload 4, 2) := by decide +kernel
theorem dX10_free_37 : decode cX10_free 37 = .ok (.invokestatic 234, 3) := by decide +kernel
theorem dX10_free_40 : decode cX10_free 40 = .ok (.ifCond .eq 7, 3) := by decide +kernel
theorem dX10_free_43 : decode cX10_free 43 = .ok (.iconst 0, 1) := by decide +kernel
theorem dX10_free_44 : decode cX10_free 44 = .ok (.goto 4, 3) := by decide +kernel
theorem dX10_free_47 : decode cX10_free 47 = .ok (.iconst 1, 1) := by decide +kernel
theorem dX10_free_48 : decode cX10_free 48 = .ok (.iadd, 1) := by decide +kernel
theorem dX10_free_49 : decode cX10_free 49 = .ok (.istore_n 3, 1) := by decide +kernel
theorem dX10_free_50 : decode cX10_free 50 = .ok (.iinc 4 1, 3) := by decide +kernel
theorem dX10_free_53 : decode cX10_free 53 = .ok (.goto (-25), 3) := by decide +kernel
theorem dX10_free_56 : decode cX10_free 56 = .ok (.iload_n 3, 1) := by decide +kernel
theorem dX10_free_57 : decode cX10_free 57 = .ok (.aload_n 0, 1) := by decide +kernel
theorem dX10_free_58 : decode cX10_free 58 = .ok (.iload_n 1, 1) := by decide +kernel
theorem dX10_free_59 : decode cX10_free 59 = .ok (.iconst 0, 1) := by decide +kernel
theorem dX10_free_60 : decode cX10_free 60 = .ok (.invokevirtual 141, 3) := by decide +kernel
theorem dX10_free_63 : decode cX10_free 63 = .ok (.isub, 1) := by decide +kernel
theorem dX10_free_64 : decode cX10_free 64 = .ok (.ireturn, 1) := by decide +kernel
theorem dX10_bitsOf_0 : decode cX10_bitsOf 0 = .ok (.iconst 0, 1) := by decide +kernel
theorem dX10_bitsOf_1 : decode cX10_bitsOf 1 = .ok (.istore_n 1, 1) := by decide +kernel
theorem dX10_bitsOf_2 : decode cX10_bitsOf 2 = .ok (.iload_n 0, 1) := by decide +kernel
theorem dX10_bitsOf_3 : decode cX10_bitsOf 3 = .ok (.istore_n 2, 1) := by decide +kernel
theorem dX10_bitsOf_4 : decode cX10_bitsOf 4 = .ok (.iload_n 2, 1) := by decide +kernel
theorem dX10_bitsOf_5 : decode cX10_bitsOf 5 = .ok (.ifCond .eq 15, 3) := by decide +kernel
theorem dX10_bitsOf_8 : decode cX10_bitsOf 8 = .ok (.iinc 1 1, 3) := by decide +kernel
theorem dX10_bitsOf_11 : decode cX10_bitsOf 11 = .ok (.iload_n 2, 1) := by decide +kernel
theorem dX10_bitsOf_12 : decode cX10_bitsOf 12 = .ok (.iload_n 2, 1) := by decide +kernel
theorem dX10_bitsOf_13 : decode cX10_bitsOf 13 = .ok (.iconst 1, 1) := by decide +kernel
theorem dX10_bitsOf_14 : decode cX10_bitsOf 14 = .ok (.isub, 1) := by decide +kernel
theorem dX10_bitsOf_15 : decode cX10_bitsOf 15 = .ok (.iand, 1) := by decide +kernel
theorem dX10_bitsOf_16 : decode cX10_bitsOf 16 = .ok (.istore_n 2, 1) := by decide +kernel
theorem dX10_bitsOf_17 : decode cX10_bitsOf 17 = .ok (.goto (-13), 3) := by decide +kernel
theorem dX10_bitsOf_20 : decode cX10_bitsOf 20 = .ok (.iload_n 1, 1) := by decide +kernel
theorem dX10_bitsOf_21 : decode cX10_bitsOf 21 = .ok (.ireturn, 1) := by decide +kernel
theorem dX10_ringsFrom_0 : decode cX10_ringsFrom 0 = .ok (.aload_n 0, 1) := by decide +kernel
theorem dX10_ringsFrom_1 : decode cX10_ringsFrom 1 = .ok (.getfield 22, 3) := by decide +kernel
theorem dX10_ringsFrom_4 : decode cX10_ringsFrom 4 = .ok (.iconst 5, 1) := by decide +kernel
theorem dX10_ringsFrom_5 : decode cX10_ringsFrom 5 = .ok (.iload_n 2, 1) := by decide +kernel
theorem dX10_ringsFrom_6 : decode cX10_ringsFrom 6 = .ok (.imul, 1) := by decide +kernel
theorem dX10_ringsFrom_7 : decode cX10_ringsFrom 7 = .ok (.iconst 1, 1) := by decide +kernel
theorem dX10_ringsFrom_8 : decode cX10_ringsFrom 8 = .ok (.iadd, 1) := by decide +kernel
theorem dX10_ringsFrom_9 : decode cX10_ringsFrom 9 = .ok (.iaload, 1) := by decide +kernel
theorem dX10_ringsFrom_10 : decode cX10_ringsFrom 10 = .ok (.aload_n 0, 1) := by decide +kernel
theorem dX10_ringsFrom_11 : decode cX10_ringsFrom 11 = .ok (.getfield 22, 3) := by decide +kernel
theorem dX10_ringsFrom_14 : decode cX10_ringsFrom 14 = .ok (.iconst 5, 1) := by decide +kernel
theorem dX10_ringsFrom_15 : decode cX10_ringsFrom 15 = .ok (.iload_n 1, 1) := by decide +kernel
theorem dX10_ringsFrom_16 : decode cX10_ringsFrom 16 = .ok (.imul, 1) := by decide +kernel
theorem dX10_ringsFrom_17 : decode cX10_ringsFrom 17 = .ok (.iaload, 1) := by decide +kernel
theorem dX10_ringsFrom_18 : decode cX10_ringsFrom 18 = .ok (.if_icmp .ne 71, 3) := by decide +kernel
theorem dX10_ringsFrom_21 : decode cX10_ringsFrom 21 = .ok (.aload_n 0, 1) := by decide +kernel
theorem dX10_ringsFrom_22 : decode cX10_ringsFrom 22 = .ok (.getfield 269, 3) := by decide +kernel
theorem dX10_ringsFrom_25 : decode cX10_ringsFrom 25 = .ok (.ifCond .lt 39, 3) := by decide +kernel
theorem dX10_ringsFrom_28 : decode cX10_ringsFrom 28 = .ok (.iload_n 3, 1) := by decide +kernel
theorem dX10_ringsFrom_29 : decode cX10_ringsFrom 29 = .ok (.invokestatic 272, 3) := by decide +kernel
theorem dX10_ringsFrom_32 : decode cX10_ringsFrom 32 = .ok (.aload_n 0, 1) := by decide +kernel
theorem dX10_ringsFrom_33 : decode cX10_ringsFrom 33 = .ok (.getfield 269, 3) := by decide +kernel
theorem dX10_ringsFrom_36 : decode cX10_ringsFrom 36 = .ok (.invokestatic 272, 3) := by decide +kernel
theorem dX10_ringsFrom_39 : decode cX10_ringsFrom 39 = .ok (.if_icmp .lt 25, 3) := by decide +kernel
theorem dX10_ringsFrom_42 : decode cX10_ringsFrom 42 = .ok (.iload_n 3, 1) := by decide +kernel
theorem dX10_ringsFrom_43 : decode cX10_ringsFrom 43 = .ok (.invokestatic 272, 3) := by decide +kernel
theorem dX10_ringsFrom_46 : decode cX10_ringsFrom 46 = .ok (.aload_n 0, 1) := by decide +kernel
theorem dX10_ringsFrom_47 : decode cX10_ringsFrom 47 = .ok (.getfield 269, 3) := by decide +kernel
theorem dX10_ringsFrom_50 : decode cX10_ringsFrom 50 = .ok (.invokestatic 272, 3) := by decide +kernel
theorem dX10_ringsFrom_53 : decode cX10_ringsFrom 53 = .ok (.if_icmp .ne 15, 3) := by decide +kernel
theorem dX10_ringsFrom_56 : decode cX10_ringsFrom 56 = .ok (.iload_n 3, 1) := by decide +kernel
theorem dX10_ringsFrom_57 : decode cX10_ringsFrom 57 = .ok (.aload_n 0, 1) := by decide +kernel
theorem dX10_ringsFrom_58 : decode cX10_ringsFrom 58 = .ok (.getfield 269, 3) := by decide +kernel
theorem dX10_ringsFrom_61 : decode cX10_ringsFrom 61 = .ok (.if_icmp .ge 7, 3) := by decide +kernel
theorem dX10_ringsFrom_64 : decode cX10_ringsFrom 64 = .ok (.iconst 1, 1) := by decide +kernel
theorem dX10_ringsFrom_65 : decode cX10_ringsFrom 65 = .ok (.goto 4, 3) := by decide +kernel
theorem dX10_ringsFrom_68 : decode cX10_ringsFrom 68 = .ok (.iconst 0, 1) := by decide +kernel
theorem dX10_ringsFrom_69 : decode cX10_ringsFrom 69 = .ok (.istore 5, 2) := by decide +kernel
theorem dX10_ringsFrom_71 : decode cX10_ringsFrom 71 = .ok (.aload_n 0, 1) := by decide +kernel
theorem dX10_ringsFrom_72 : decode cX10_ringsFrom 72 = .ok (.iload 5, 2) := by decide +kernel
theorem dX10_ringsFrom_74 : decode cX10_ringsFrom 74 = .ok (.ifCond .eq 7, 3) := by decide +kernel
theorem dX10_ringsFrom_77 : decode cX10_ringsFrom 77 = .ok (.iload_n 3, 1) := by decide +kernel
theorem dX10_ringsFrom_78 : decode cX10_ringsFrom 78 = .ok (.goto 7, 3) := by decide +kernel
theorem dX10_ringsFrom_81 : decode cX10_ringsFrom 81 = .ok (.aload_n 0, 1) := by decide +kernel
theorem dX10_ringsFrom_82 : decode cX10_ringsFrom 82 = .ok (.getfield 269, 3) := by decide +kernel
theorem dX10_ringsFrom_85 : decode cX10_ringsFrom 85 = .ok (.putfield 269, 3) := by decide +kernel
theorem dX10_ringsFrom_88 : decode cX10_ringsFrom 88 = .ok (.return_, 1) := by decide +kernel
theorem dX10_ringsFrom_89 : decode cX10_ringsFrom 89 = .ok (.iload_n 3, 1) := by decide +kernel
theorem dX10_ringsFrom_90 : decode cX10_ringsFrom 90 = .ok (.invokestatic 272, 3) := by decide +kernel
theorem dX10_ringsFrom_93 : decode cX10_ringsFrom 93 = .ok (.iconst 5, 1) := by decide +kernel
theorem dX10_ringsFrom_94 : decode cX10_ringsFrom 94 = .ok (.if_icmp .ne 4, 3) := by decide +kernel
theorem dX10_ringsFrom_97 : decode cX10_ringsFrom 97 = .ok (.return_, 1) := by decide +kernel
theorem dX10_ringsFrom_98 : decode cX10_ringsFrom 98 = .ok (.iconst 0, 1) := by decide +kernel
theorem dX10_ringsFrom_99 : decode cX10_ringsFrom 99 = .ok (.istore 5, 2) := by decide +kernel
theorem dX10_ringsFrom_101 : decode cX10_ringsFrom 101 = .ok (.iload 5, 2) := by decide +kernel
theorem dX10_ringsFrom_103 : decode cX10_ringsFrom 103 = .ok (.aload_n 0, 1) := by decide +kernel
theorem dX10_ringsFrom_104 : decode cX10_ringsFrom 104 = .ok (.getfield 111, 3) := by decide +kernel
theorem dX10_ringsFrom_107 : decode cX10_ringsFrom 107 = .ok (.if_icmp .ge 120, 3) := by decide +kernel
theorem dX10_ringsFrom_110 : decode cX10_ringsFrom 110 = .ok (.aload_n 0, 1) := by decide +kernel
theorem dX10_ringsFrom_111 : decode cX10_ringsFrom 111 = .ok (.iload 5, 2) := by decide +kernel
theorem dX10_ringsFrom_113 : decode cX10_ringsFrom 113 = .ok (.invokevirtual 240, 3) := by decide +kernel
theorem dX10_ringsFrom_116 : decode cX10_ringsFrom 116 = .ok (.ifCond .eq 70, 3) := by decide +kernel
theorem dX10_ringsFrom_119 : decode cX10_ringsFrom 119 = .ok (.aload_n 0, 1) := by decide +kernel
theorem dX10_ringsFrom_120 : decode cX10_ringsFrom 120 = .ok (.getfield 22, 3) := by decide +kernel
theorem dX10_ringsFrom_123 : decode cX10_ringsFrom 123 = .ok (.iconst 5, 1) := by decide +kernel
theorem dX10_ringsFrom_124 : decode cX10_ringsFrom 124 = .ok (.iload 5, 2) := by decide +kernel
theorem dX10_ringsFrom_126 : decode cX10_ringsFrom 126 = .ok (.imul, 1) := by decide +kernel
theorem dX10_ringsFrom_127 : decode cX10_ringsFrom 127 = .ok (.iconst 3, 1) := by decide +kernel
theorem dX10_ringsFrom_128 : decode cX10_ringsFrom 128 = .ok (.iadd, 1) := by decide +kernel
theorem dX10_ringsFrom_129 : decode cX10_ringsFrom 129 = .ok (.iaload, 1) := by decide +kernel
theorem dX10_ringsFrom_130 : decode cX10_ringsFrom 130 = .ok (.aload_n 0, 1) := by decide +kernel
theorem dX10_ringsFrom_131 : decode cX10_ringsFrom 131 = .ok (.getfield 22, 3) := by decide +kernel
theorem dX10_ringsFrom_134 : decode cX10_ringsFrom 134 = .ok (.iconst 5, 1) := by decide +kernel
theorem dX10_ringsFrom_135 : decode cX10_ringsFrom 135 = .ok (.iload_n 1, 1) := by decide +kernel
theorem dX10_ringsFrom_136 : decode cX10_ringsFrom 136 = .ok (.imul, 1) := by decide +kernel
theorem dX10_ringsFrom_137 : decode cX10_ringsFrom 137 = .ok (.iconst 3, 1) := by decide +kernel
theorem dX10_ringsFrom_138 : decode cX10_ringsFrom 138 = .ok (.iadd, 1) := by decide +kernel
theorem dX10_ringsFrom_139 : decode cX10_ringsFrom 139 = .ok (.iaload, 1) := by decide +kernel
theorem dX10_ringsFrom_140 : decode cX10_ringsFrom 140 = .ok (.if_icmp .ne 46, 3) := by decide +kernel
theorem dX10_ringsFrom_143 : decode cX10_ringsFrom 143 = .ok (.aload_n 0, 1) := by decide +kernel
theorem dX10_ringsFrom_144 : decode cX10_ringsFrom 144 = .ok (.getfield 22, 3) := by decide +kernel
theorem dX10_ringsFrom_147 : decode cX10_ringsFrom 147 = .ok (.iconst 5, 1) := by decide +kernel
theorem dX10_ringsFrom_148 : decode cX10_ringsFrom 148 = .ok (.iload 5, 2) := by decide +kernel
theorem dX10_ringsFrom_150 : decode cX10_ringsFrom 150 = .ok (.imul, 1) := by decide +kernel
theorem dX10_ringsFrom_151 : decode cX10_ringsFrom 151 = .ok (.iaload, 1) := by decide +kernel
theorem dX10_ringsFrom_152 : decode cX10_ringsFrom 152 = .ok (.aload_n 0, 1) := by decide +kernel
theorem dX10_ringsFrom_153 : decode cX10_ringsFrom 153 = .ok (.getfield 22, 3) := by decide +kernel
theorem dX10_ringsFrom_156 : decode cX10_ringsFrom 156 = .ok (.iconst 5, 1) := by decide +kernel
theorem dX10_ringsFrom_157 : decode cX10_ringsFrom 157 = .ok (.iload_n 2, 1) := by decide +kernel
theorem dX10_ringsFrom_158 : decode cX10_ringsFrom 158 = .ok (.imul, 1) := by decide +kernel
theorem dX10_ringsFrom_159 : decode cX10_ringsFrom 159 = .ok (.iconst 1, 1) := by decide +kernel
theorem dX10_ringsFrom_160 : decode cX10_ringsFrom 160 = .ok (.iadd, 1) := by decide +kernel
theorem dX10_ringsFrom_161 : decode cX10_ringsFrom 161 = .ok (.iaload, 1) := by decide +kernel
theorem dX10_ringsFrom_162 : decode cX10_ringsFrom 162 = .ok (.if_icmp .ne 24, 3) := by decide +kernel
theorem dX10_ringsFrom_165 : decode cX10_ringsFrom 165 = .ok (.iload 4, 2) := by decide +kernel
theorem dX10_ringsFrom_167 : decode cX10_ringsFrom 167 = .ok (.aload_n 0, 1) := by decide +kernel
theorem dX10_ringsFrom_168 : decode cX10_ringsFrom 168 = .ok (.getfield 22, 3) := by decide +kernel
theorem dX10_ringsFrom_171 : decode cX10_ringsFrom 171 = .ok (.iconst 5, 1) := by decide +kernel
theorem dX10_ringsFrom_172 : decode cX10_ringsFrom 172 = .ok (.iload 5, 2) := by decide +kernel
theorem dX10_ringsFrom_174 : decode cX10_ringsFrom 174 = .ok (.imul, 1) := by decide +kernel
theorem dX10_ringsFrom_175 : decode cX10_ringsFrom 175 = .ok (.iaload, 1) := by decide +kernel
theorem dX10_ringsFrom_176 : decode cX10_ringsFrom 176 = .ok (.ishr, 1) := by decide +kernel
theorem dX10_ringsFrom_177 : decode cX10_ringsFrom 177 = .ok (.iconst 1, 1) := by decide +kernel
theorem dX10_ringsFrom_178 : decode cX10_ringsFrom 178 = .ok (.iand, 1) := by decide +kernel
theorem dX10_ringsFrom_179 : decode cX10_ringsFrom 179 = .ok (.ifCond .ne 7, 3) := by decide +kernel
theorem dX10_ringsFrom_182 : decode cX10_ringsFrom 182 = .ok (.iconst 1, 1) := by decide +kernel
theorem dX10_ringsFrom_183 : decode cX10_ringsFrom 183 = .ok (.goto 4, 3) := by decide +kernel
theorem dX10_ringsFrom_186 : decode cX10_ringsFrom 186 = .ok (.iconst 0, 1) := by decide +kernel
theorem dX10_ringsFrom_187 : decode cX10_ringsFrom 187 = .ok (.istore 6, 2) := by decide +kernel
theorem dX10_ringsFrom_189 : decode cX10_ringsFrom 189 = .ok (.iload 6, 2) := by decide +kernel
theorem dX10_ringsFrom_191 : decode cX10_ringsFrom 191 = .ok (.ifCond .eq 30, 3) := by decide +kernel
theorem dX10_ringsFrom_194 : decode cX10_ringsFrom 194 = .ok (.aload_n 0, 1) := by decide +kernel
theorem dX10_ringsFrom_195 : decode cX10_ringsFrom 195 = .ok (.iload_n 1, 1) := by decide +kernel
theorem dX10_ringsFrom_196 : decode cX10_ringsFrom 196 = .ok (.iload 5, 2) := by decide +kernel
theorem dX10_ringsFrom_198 : decode cX10_ringsFrom 198 = .ok (.iload_n 3, 1) := by decide +kernel
theorem dX10_ringsFrom_199 : decode cX10_ringsFrom 199 = .ok (.iconst 1, 1) := by decide +kernel
theorem dX10_ringsFrom_200 : decode cX10_ringsFrom 200 = .ok (.iload 5, 2) := by decide +kernel
theorem dX10_ringsFrom_202 : decode cX10_ringsFrom 202 = .ok (.ishl, 1) := by decide +kernel
theorem dX10_ringsFrom_203 : decode cX10_ringsFrom 203 = .ok (.ior, 1) := by decide +kernel
theorem dX10_ringsFrom_204 : decode cX10_ringsFrom 204 = .ok (.iload 4, 2) := by decide +kernel
theorem dX10_ringsFrom_206 : decode cX10_ringsFrom 206 = .ok (.iconst 1, 1) := by decide +kernel
theorem dX10_ringsFrom_207 : decode cX10_ringsFrom 207 = .ok (.aload_n 0, 1) := by decide +kernel
theorem dX10_ringsFrom_208 : decode cX10_ringsFrom 208 = .ok (.getfield 22, 3) := by decide +kernel
theorem dX10_ringsFrom_211 : decode cX10_ringsFrom 211 = .ok (.iconst 5, 1) := by decide +kernel
theorem dX10_ringsFrom_212 : decode cX10_ringsFrom 212 = .ok (.iload 5, 2) := by decide +kernel
theorem dX10_ringsFrom_214 : decode cX10_ringsFrom 214 = .ok (.imul, 1) := by decide +kernel
theorem dX10_ringsFrom_215 : decode cX10_ringsFrom 215 = .ok (.iaload, 1) := by decide +kernel
theorem dX10_ringsFrom_216 : decode cX10_ringsFrom 216 = .ok (.ishl, 1) := by decide +kernel
theorem dX10_ringsFrom_217 : decode cX10_ringsFrom 217 = .ok (.ior, 1) := by decide +kernel
theorem dX10_ringsFrom_218 : decode cX10_ringsFrom 218 = .ok (.invokevirtual 275, 3) := by decide +kernel
theorem dX10_ringsFrom_221 : decode cX10_ringsFrom 221 = .ok (.iinc 5 1, 3) := by decide +kernel
theorem dX10_ringsFrom_224 : decode cX10_ringsFrom 224 = .ok (.goto (-123), 3) := by decide +kernel
theorem dX10_ringsFrom_227 : decode cX10_ringsFrom 227 = .ok (.return_, 1) := by decide +kernel
theorem dX10_ring_0 : decode cX10_ring 0 = .ok (.aload_n 0, 1) := by decide +kernel
theorem dX10_ring_1 : decode cX10_ring 1 = .ok (.bipush (-2), 2) := by decide +kernel
theorem dX10_ring_3 : decode cX10_ring 3 = .ok (.putfield 269, 3) := by decide +kernel
theorem dX10_ring_6 : decode cX10_ring 6 = .ok (.iconst 0, 1) := by decide +kernel
theorem dX10_ring_7 : decode cX10_ring 7 = .ok (.istore_n 1, 1) := by decide +kernel
theorem dX10_ring_8 : decode cX10_ring 8 = .ok (.iload_n 1, 1) := by decide +kernel
theorem dX10_ring_9 : decode cX10_ring 9 = .ok (.aload_n 0, 1) := by decide +kernel
theorem dX10_ring_10 : decode cX10_ring 10 = .ok (.getfield 111, 3) := by decide +kernel
theorem dX10_ring_13 : decode cX10_ring 13 = .ok (.if_icmp .ge 36, 3) := by decide +kernel
theorem dX10_ring_16 : decode cX10_ring 16 = .ok (.aload_n 0, 1) := by decide +kernel
theorem dX10_ring_17 : decode cX10_ring 17 = .ok (.iload_n 1, 1) := by decide +kernel
theorem dX10_ring_18 : decode cX10_ring 18 = .ok (.invokevirtual 240, 3) := by decide +kernel
theorem dX10_ring_21 : decode cX10_ring 21 = .ok (.ifCond .eq 22, 3) := by decide +kernel
theorem dX10_ring_24 : decode cX10_ring 24 = .ok (.aload_n 0, 1) := by decide +kernel
theorem dX10_ring_25 : decode cX10_ring 25 = .ok (.iload_n 1, 1) := by decide +kernel
theorem dX10_ring_26 : decode cX10_ring 26 = .ok (.iload_n 1, 1) := by decide +kernel
theorem dX10_ring_27 : decode cX10_ring 27 = .ok (.iconst 1, 1) := by decide +kernel
theorem dX10_ring_28 : decode cX10_ring 28 = .ok (.iload_n 1, 1) := by decide +kernel
theorem dX10_ring_29 : decode cX10_ring 29 = .ok (.ishl, 1) := by decide +kernel
theorem dX10_ring_30 : decode cX10_ring 30 = .ok (.iconst 1, 1) := by decide +kernel
theorem dX10_ring_31 : decode cX10_ring 31 = .ok (.aload_n 0, 1) := by decide +kernel
theorem dX10_ring_32 : decode cX10_ring 32 = .ok (.getfield 22, 3) := by decide +kernel
theorem dX10_ring_35 : decode cX10_ring 35 = .ok (.iconst 5, 1) := by decide +kernel
theorem dX10_ring_36 : decode cX10_ring 36 = .ok (.iload_n 1, 1) := by decide +kernel
theorem dX10_ring_37 : decode cX10_ring 37 = .ok (.imul, 1) := by decide +kernel
theorem dX10_ring_38 : decode cX10_ring 38 = .ok (.iaload, 1) := by decide +kernel
theorem dX10_ring_39 : decode cX10_ring 39 = .ok (.ishl, 1) := by decide +kernel
theorem dX10_ring_40 : decode cX10_ring 40 = .ok (.invokevirtual 275, 3) := by decide +kernel
theorem dX10_ring_43 : decode cX10_ring 43 = .ok (.iinc 1 1, 3) := by decide +kernel
theorem dX10_ring_46 : decode cX10_ring 46 = .ok (.goto (-38), 3) := by decide +kernel
theorem dX10_ring_49 : decode cX10_ring 49 = .ok (.aload_n 0, 1) := by decide +kernel
theorem dX10_ring_50 : decode cX10_ring 50 = .ok (.getfield 269, 3) := by decide +kernel
theorem dX10_ring_53 : decode cX10_ring 53 = .ok (.ireturn, 1) := by decide +kernel
theorem dX10_balanceOfAny_0 : decode cX10_balanceOfAny 0 = .ok (.iconst 0, 1) := by decide +kernel
theorem dX10_balanceOfAny_1 : decode cX10_balanceOfAny 1 = .ok (.istore_n 2, 1) := by decide +kernel
theorem dX10_balanceOfAny_2 : decode cX10_balanceOfAny 2 = .ok (.iconst 0, 1) := by decide +kernel
theorem dX10_balanceOfAny_3 : decode cX10_balanceOfAny 3 = .ok (.istore_n 3, 1) := by decide +kernel
theorem dX10_balanceOfAny_4 : decode cX10_balanceOfAny 4 = .ok (.iload_n 3, 1) := by decide +kernel
theorem dX10_balanceOfAny_5 : decode cX10_balanceOfAny 5 = .ok (.aload_n 0, 1) := by decide +kernel
theorem dX10_balanceOfAny_6 : decode cX10_balanceOfAny 6 = .ok (.getfield 111, 3) := by decide +kernel
theorem dX10_balanceOfAny_9 : decode cX10_balanceOfAny 9 = .ok (.if_icmp .ge 101, 3) := by decide +kernel
theorem dX10_balanceOfAny_12 : decode cX10_balanceOfAny 12 = .ok (.aload_n 0, 1) := by decide +kernel
theorem dX10_balanceOfAny_13 : decode cX10_balanceOfAny 13 = .ok (.getfield 22, 3) := by decide +kernel
theorem dX10_balanceOfAny_16 : decode cX10_balanceOfAny 16 = .ok (.iconst 5, 1) := by decide +kernel
theorem dX10_balanceOfAny_17 : decode cX10_balanceOfAny 17 = .ok (.iload_n 3, 1) := by decide +kernel
theorem dX10_balanceOfAny_18 : decode cX10_balanceOfAny 18 = .ok (.imul, 1) := by decide +kernel
theorem dX10_balanceOfAny_19 : decode cX10_balanceOfAny 19 = .ok (.iconst 3, 1) := by decide +kernel
theorem dX10_balanceOfAny_20 : decode cX10_balanceOfAny 20 = .ok (.iadd, 1) := by decide +kernel
theorem dX10_balanceOfAny_21 : decode cX10_balanceOfAny 21 = .ok (.iaload, 1) := by decide +kernel
theorem dX10_balanceOfAny_22 : decode cX10_balanceOfAny 22 = .ok (.bipush 12, 2) := by decide +kernel
theorem dX10_balanceOfAny_24 : decode cX10_balanceOfAny 24 = .ok (.if_icmp .ne 7, 3) := by decide +kernel
theorem dX10_balanceOfAny_27 : decode cX10_balanceOfAny 27 = .ok (.iconst 1, 1) := by decide +kernel
theorem dX10_balanceOfAny_28 : decode cX10_balanceOfAny 28 = .ok (.goto 4, 3) := by decide +kernel
theorem dX10_balanceOfAny_31 : decode cX10_balanceOfAny 31 = .ok (.iconst 0, 1) := by decide +kernel
theorem dX10_balanceOfAny_32 : decode cX10_balanceOfAny 32 = .ok (.istore 4, 2) := by decide +kernel
theorem dX10_balanceOfAny_34 : decode cX10_balanceOfAny 34 = .ok (.iload_n 2, 1) := by decide +kernel
theorem dX10_balanceOfAny_35 : decode cX10_balanceOfAny 35 = .ok (.iload 4, 2) := by decide +kernel
theorem dX10_balanceOfAny_37 : decode cX10_balanceOfAny 37 = .ok (.ifCond .eq 30, 3) := by decide +kernel
theorem dX10_balanceOfAny_40 : decode cX10_balanceOfAny 40 = .ok (.aload_n 0, 1) := by decide +kernel
theorem dX10_balanceOfAny_41 : decode cX10_balanceOfAny 41 = .ok (.getfield 22, 3) := by decide +kernel
theorem dX10_balanceOfAny_44 : decode cX10_balanceOfAny 44 = .ok (.iconst 5, 1) := by decide +kernel
theorem dX10_balanceOfAny_45 : decode cX10_balanceOfAny 45 = .ok (.iload_n 3, 1) := by decide +kernel
theorem dX10_balanceOfAny_46 : decode cX10_balanceOfAny 46 = .ok (.imul, 1) := by decide +kernel
theorem dX10_balanceOfAny_47 : decode cX10_balanceOfAny 47 = .ok (.iconst 1, 1) := by decide +kernel
theorem dX10_balanceOfAny_48 : decode cX10_balanceOfAny 48 = .ok (.iadd, 1) := by decide +kernel
theorem dX10_balanceOfAny_49 : decode cX10_balanceOfAny 49 = .ok (.iaload, 1) := by decide +kernel
theorem dX10_balanceOfAny_50 : decode cX10_balanceOfAny 50 = .ok (.iload_n 1, 1) := by decide +kernel
theorem dX10_balanceOfAny_51 : decode cX10_balanceOfAny 51 = .ok (.if_icmp .ne 16, 3) := by decide +kernel
theorem dX10_balanceOfAny_54 : decode cX10_balanceOfAny 54 = .ok (.aload_n 0, 1) := by decide +kernel
theorem dX10_balanceOfAny_55 : decode cX10_balanceOfAny 55 = .ok (.getfield 22, 3) := by decide +kernel
theorem dX10_balanceOfAny_58 : decode cX10_balanceOfAny 58 = .ok (.iconst 5, 1) := by decide +kernel
theorem dX10_balanceOfAny_59 : decode cX10_balanceOfAny 59 = .ok (.iload_n 3, 1) := by decide +kernel
theorem dX10_balanceOfAny_60 : decode cX10_balanceOfAny 60 = .ok (.imul, 1) := by decide +kernel
theorem dX10_balanceOfAny_61 : decode cX10_balanceOfAny 61 = .ok (.iconst 2, 1) := by decide +kernel
theorem dX10_balanceOfAny_62 : decode cX10_balanceOfAny 62 = .ok (.iadd, 1) := by decide +kernel
theorem dX10_balanceOfAny_63 : decode cX10_balanceOfAny 63 = .ok (.iaload, 1) := by decide +kernel
theorem dX10_balanceOfAny_64 : decode cX10_balanceOfAny 64 = .ok (.goto 4, 3) := by decide +kernel
theorem dX10_balanceOfAny_67 : decode cX10_balanceOfAny 67 = .ok (.iconst 0, 1) := by decide +kernel
theorem dX10_balanceOfAny_68 : decode cX10_balanceOfAny 68 = .ok (.iadd, 1) := by decide +kernel
theorem dX10_balanceOfAny_69 : decode cX10_balanceOfAny 69 = .ok (.istore_n 2, 1) := by decide +kernel
theorem dX10_balanceOfAny_70 : decode cX10_balanceOfAny 70 = .ok (.iload_n 2, 1) := by decide +kernel
theorem dX10_balanceOfAny_71 : decode cX10_balanceOfAny 71 = .ok (.iload 4, 2) := by decide +kernel
theorem dX10_balanceOfAny_73 : decode cX10_balanceOfAny 73 = .ok (.ifCond .eq 28, 3) := by decide +kernel
theorem dX10_balanceOfAny_76 : decode cX10_balanceOfAny 76 = .ok (.aload_n 0, 1) := by decide +kernel
theorem dX10_balanceOfAny_77 : decode cX10_balanceOfAny 77 = .ok (.getfield 22, 3) := by decide +kernel
theorem dX10_balanceOfAny_80 : decode cX10_balanceOfAny 80 = .ok (.iconst 5, 1) := by decide +kernel
theorem dX10_balanceOfAny_81 : decode cX10_balanceOfAny 81 = .ok (.iload_n 3, 1) := by decide +kernel
theorem dX10_balanceOfAny_82 : decode cX10_balanceOfAny 82 = .ok (.imul, 1) := by decide +kernel
theorem dX10_balanceOfAny_83 : decode cX10_balanceOfAny 83 = .ok (.iaload, 1) := by decide +kernel
theorem dX10_balanceOfAny_84 : decode cX10_balanceOfAny 84 = .ok (.iload_n 1, 1) := by decide +kernel
theorem dX10_balanceOfAny_85 : decode cX10_balanceOfAny 85 = .ok (.if_icmp .ne 16, 3) := by decide +kernel
theorem dX10_balanceOfAny_88 : decode cX10_balanceOfAny 88 = .ok (.aload_n 0, 1) := by decide +kernel
theorem dX10_balanceOfAny_89 : decode cX10_balanceOfAny 89 = .ok (.getfield 22, 3) := by decide +kernel
theorem dX10_balanceOfAny_92 : decode cX10_balanceOfAny 92 = .ok (.iconst 5, 1) := by decide +kernel
theorem dX10_balanceOfAny_93 : decode cX10_balanceOfAny 93 = .ok (.iload_n 3, 1) := by decide +kernel
theorem dX10_balanceOfAny_94 : decode cX10_balanceOfAny 94 = .ok (.imul, 1) := by decide +kernel
theorem dX10_balanceOfAny_95 : decode cX10_balanceOfAny 95 = .ok (.iconst 2, 1) := by decide +kernel
theorem dX10_balanceOfAny_96 : decode cX10_balanceOfAny 96 = .ok (.iadd, 1) := by decide +kernel
theorem dX10_balanceOfAny_97 : decode cX10_balanceOfAny 97 = .ok (.iaload, 1) := by decide +kernel
theorem dX10_balanceOfAny_98 : decode cX10_balanceOfAny 98 = .ok (.goto 4, 3) := by decide +kernel
theorem dX10_balanceOfAny_101 : decode cX10_balanceOfAny 101 = .ok (.iconst 0, 1) := by decide +kernel
theorem dX10_balanceOfAny_102 : decode cX10_balanceOfAny 102 = .ok (.isub, 1) := by decide +kernel
theorem dX10_balanceOfAny_103 : decode cX10_balanceOfAny 103 = .ok (.istore_n 2, 1) := by decide +kernel
theorem dX10_balanceOfAny_104 : decode cX10_balanceOfAny 104 = .ok (.iinc 3 1, 3) := by decide +kernel
theorem dX10_balanceOfAny_107 : decode cX10_balanceOfAny 107 = .ok (.goto (-103), 3) := by decide +kernel
theorem dX10_balanceOfAny_110 : decode cX10_balanceOfAny 110 = .ok (.iload_n 2, 1) := by decide +kernel
theorem dX10_balanceOfAny_111 : decode cX10_balanceOfAny 111 = .ok (.ireturn, 1) := by decide +kernel
theorem dX10_wiped_0 : decode cX10_wiped 0 = .ok (.iconst 0, 1) := by decide +kernel
theorem dX10_wiped_1 : decode cX10_wiped 1 = .ok (.istore_n 1, 1) := by decide +kernel
theorem dX10_wiped_2 : decode cX10_wiped 2 = .ok (.iload_n 1, 1) := by decide +kernel
theorem dX10_wiped_3 : decode cX10_wiped 3 = .ok (.iconst 1, 1) := by decide +kernel
theorem dX10_wiped_4 : decode cX10_wiped 4 = .ok (.aload_n 0, 1) := by decide +kernel
theorem dX10_wiped_5 : decode cX10_wiped 5 = .ok (.getfield 100, 3) := by decide +kernel
theorem dX10_wiped_8 : decode cX10_wiped 8 = .ok (.ishl, 1) := by decide +kernel
theorem dX10_wiped_9 : decode cX10_wiped 9 = .ok (.if_icmp .ge 143, 3) := by decide +kernel
theorem dX10_wiped_12 : decode cX10_wiped 12 = .ok (.aload_n 0, 1) := by decide +kernel
theorem dX10_wiped_13 : decode cX10_wiped 13 = .ok (.getfield 50, 3) := by decide +kernel
theorem dX10_wiped_16 : decode cX10_wiped 16 = .ok (.iload_n 1, 1) := by decide +kernel
theorem dX10_wiped_17 : decode cX10_wiped 17 = .ok (.iconst 0, 1) := by decide +kernel
theorem dX10_wiped_18 : decode cX10_wiped 18 = .ok (.iastore, 1) := by decide +kernel
theorem dX10_wiped_19 : decode cX10_wiped 19 = .ok (.iconst 0, 1) := by decide +kernel
theorem dX10_wiped_20 : decode cX10_wiped 20 = .ok (.istore_n 2, 1) := by decide +kernel
theorem dX10_wiped_21 : decode cX10_wiped 21 = .ok (.iload_n 2, 1) := by decide +kernel
theorem dX10_wiped_22 : decode cX10_wiped 22 = .ok (.aload_n 0, 1) := by decide +kernel
theorem dX10_wiped_23 : decode cX10_wiped 23 = .ok (.getfield 100, 3) := by decide +kernel
theorem dX10_wiped_26 : decode cX10_wiped 26 = .ok (.if_icmp .ge 36, 3) := by decide +kernel
theorem dX10_wiped_29 : decode cX10_wiped 29 = .ok (.aload_n 0, 1) := by decide +kernel
theorem dX10_wiped_30 : decode cX10_wiped 30 = .ok (.getfield 50, 3) := by decide +kernel
theorem dX10_wiped_33 : decode cX10_wiped 33 = .ok (.iload_n 1, 1) := by decide +kernel
theorem dX10_wiped_34 : decode cX10_wiped 34 = .ok (.dup2, 1) := by decide +kernel
theorem dX10_wiped_35 : decode cX10_wiped 35 = .ok (.iaload, 1) := by decide +kernel
theorem dX10_wiped_36 : decode cX10_wiped 36 = .ok (.iload_n 1, 1) := by decide +kernel
theorem dX10_wiped_37 : decode cX10_wiped 37 = .ok (.iload_n 2, 1) := by decide +kernel
theorem dX10_wiped_38 : decode cX10_wiped 38 = .ok (.ishr, 1) := by decide +kernel
theorem dX10_wiped_39 : decode cX10_wiped 39 = .ok (.iconst 1, 1) := by decide +kernel
theorem dX10_wiped_40 : decode cX10_wiped 40 = .ok (.iand, 1) := by decide +kernel
theorem dX10_wiped_41 : decode cX10_wiped 41 = .ok (.iconst 1, 1) := by decide +kernel
theorem dX10_wiped_42 : decode cX10_wiped 42 = .ok (.if_icmp .ne 11, 3) := by decide +kernel
theorem dX10_wiped_45 : decode cX10_wiped 45 = .ok (.aload_n 0, 1) := by decide +kernel
theorem dX10_wiped_46 : decode cX10_wiped 46 = .ok (.iload_n 2, 1) := by decide +kernel
theorem dX10_wiped_47 : decode cX10_wiped 47 = .ok (.invokevirtual 278, 3) := by decide +kernel
theorem dX10_wiped_50 : decode cX10_wiped 50 = .ok (.goto 4, 3) := by decide +kernel
theorem dX10_wiped_53 : decode cX10_wiped 53 = .ok (.iconst 0, 1) := by decide +kernel
theorem dX10_wiped_54 : decode cX10_wiped 54 = .ok (.iadd, 1) := by decide +kernel
theorem dX10_wiped_55 : decode cX10_wiped 55 = .ok (.iastore, 1) := by decide +kernel
theorem dX10_wiped_56 : decode cX10_wiped 56 = .ok (.iinc 2 1, 3) := by decide +kernel
theorem dX10_wiped_59 : decode cX10_wiped 59 = .ok (.goto (-38), 3) := by decide +kernel
theorem dX10_wiped_62 : decode cX10_wiped 62 = .ok (.iconst 0, 1) := by decide +kernel
theorem dX10_wiped_63 : decode cX10_wiped 63 = .ok (.istore_n 2, 1) := by decide +kernel
theorem dX10_wiped_64 : decode cX10_wiped 64 = .ok (.iconst 0, 1) := by decide +kernel
theorem dX10_wiped_65 : decode cX10_wiped 65 = .ok (.istore_n 3, 1) := by decide +kernel
theorem dX10_wiped_66 : decode cX10_wiped 66 = .ok (.iload_n 3, 1) := by decide +kernel
theorem dX10_wiped_67 : decode cX10_wiped 67 = .ok (.aload_n 0, 1) := by decide +kernel
theorem dX10_wiped_68 : decode cX10_wiped 68 = .ok (.getfield 100, 3) := by decide +kernel
theorem dX10_wiped_71 : decode cX10_wiped 71 = .ok (.if_icmp .ge 49, 3) := by decide +kernel
theorem dX10_wiped_74 : decode cX10_wiped 74 = .ok (.iload_n 1, 1) := by decide +kernel
theorem dX10_wiped_75 : decode cX10_wiped 75 = .ok (.iload_n 3, 1) := by decide +kernel
theorem dX10_wiped_76 : decode cX10_wiped 76 = .ok (.ishr, 1) := by decide +kernel
theorem dX10_wiped_77 : decode cX10_wiped 77 = .ok (.iconst 1, 1) := by decide +kernel
theorem dX10_wiped_78 : decode cX10_wiped 78 = .ok (.iand, 1) := by decide +kernel
theorem dX10_wiped_79 : decode cX10_wiped 79 = .ok (.iconst 1, 1) := by decide +kernel
theorem dX10_wiped_80 : decode cX10_wiped 80 = .ok (.if_icmp .ne 18, 3) := by decide +kernel
theorem dX10_wiped_83 : decode cX10_wiped 83 = .ok (.aload_n 0, 1) := by decide +kernel
theorem dX10_wiped_84 : decode cX10_wiped 84 = .ok (.getfield 53, 3) := by decide +kernel
theorem dX10_wiped_87 : decode cX10_wiped 87 = .ok (.iload_n 1, 1) := by decide +kernel
theorem dX10_wiped_88 : decode cX10_wiped 88 = .ok (.iconst 1, 1) := by decide +kernel
theorem dX10_wiped_89 : decode cX10_wiped 89 = .ok (.iload_n 3, 1) := by decide +kernel
theorem dX10_wiped_90 : decode cX10_wiped 90 = .ok (.ishl, 1) := by decide +kernel
theorem dX10_wiped_91 : decode cX10_wiped 91 = .ok (.iconst (-1), 1) := by decide +kernel
theorem dX10_wiped_92 : decode cX10_wiped 92 = .ok (.ixor, 1) := by decide +kernel
theorem dX10_wiped_93 : decode cX10_wiped 93 = .ok (.iand, 1) := by decide +kernel
theorem dX10_wiped_94 : decode cX10_wiped 94 = .ok (.iaload, 1) := by decide +kernel
theorem dX10_wiped_95 : decode cX10_wiped 95 = .ok (.goto 4, 3) := by decide +kernel
theorem dX10_wiped_98 : decode cX10_wiped 98 = .ok (.iconst 0, 1) := by decide +kernel
theorem dX10_wiped_99 : decode cX10_wiped 99 = .ok (.istore 4, 2) := by decide +kernel
theorem dX10_wiped_101 : decode cX10_wiped 101 = .ok (.iload 4, 2) := by decide +kernel
theorem dX10_wiped_103 : decode cX10_wiped 103 = .ok (.iload_n 2, 1) := by decide +kernel
theorem dX10_wiped_104 : decode cX10_wiped 104 = .ok (.if_icmp .le 8, 3) := by decide +kernel
theorem dX10_wiped_107 : decode cX10_wiped 107 = .ok (.iload 4, 2) := by decide +kernel
theorem dX10_wiped_109 : decode cX10_wiped 109 = .ok (.goto 4, 3) := by decide +kernel
theorem dX10_wiped_112 : decode cX10_wiped 112 = .ok (.iload_n 2, 1) := by decide +kernel
theorem dX10_wiped_113 : decode cX10_wiped 113 = .ok (.istore_n 2, 1) := by decide +kernel
theorem dX10_wiped_114 : decode cX10_wiped 114 = .ok (.iinc 3 1, 3) := by decide +kernel
theorem dX10_wiped_117 : decode cX10_wiped 117 = .ok (.goto (-51), 3) := by decide +kernel
theorem dX10_wiped_120 : decode cX10_wiped 120 = .ok (.aload_n 0, 1) := by decide +kernel
theorem dX10_wiped_121 : decode cX10_wiped 121 = .ok (.getfield 53, 3) := by decide +kernel
theorem dX10_wiped_124 : decode cX10_wiped 124 = .ok (.iload_n 1, 1) := by decide +kernel
theorem dX10_wiped_125 : decode cX10_wiped 125 = .ok (.iload_n 2, 1) := by decide +kernel
theorem dX10_wiped_126 : decode cX10_wiped 126 = .ok (.iload_n 1, 1) := by decide +kernel
theorem dX10_wiped_127 : decode cX10_wiped 127 = .ok (.ifCond .le 16, 3) := by decide +kernel
theorem dX10_wiped_130 : decode cX10_wiped 130 = .ok (.aload_n 0, 1) := by decide +kernel
theorem dX10_wiped_131 : decode cX10_wiped 131 = .ok (.getfield 50, 3) := by decide +kernel
theorem dX10_wiped_134 : decode cX10_wiped 134 = .ok (.iload_n 1, 1) := by decide +kernel
theorem dX10_wiped_135 : decode cX10_wiped 135 = .ok (.iaload, 1) := by decide +kernel
theorem dX10_wiped_136 : decode cX10_wiped 136 = .ok (.ifCond .ne 7, 3) := by decide +kernel
theorem dX10_wiped_139 : decode cX10_wiped 139 = .ok (.iconst 1, 1) := by decide +kernel
theorem dX10_wiped_140 : decode cX10_wiped 140 = .ok (.goto 4, 3) := by decide +kernel
theorem dX10_wiped_143 : decode cX10_wiped 143 = .ok (.iconst 0, 1) := by decide +kernel
theorem dX10_wiped_144 : decode cX10_wiped 144 = .ok (.iadd, 1) := by decide +kernel
theorem dX10_wiped_145 : decode cX10_wiped 145 = .ok (.iastore, 1) := by decide +kernel
theorem dX10_wiped_146 : decode cX10_wiped 146 = .ok (.iinc 1 1, 3) := by decide +kernel
theorem dX10_wiped_149 : decode cX10_wiped 149 = .ok (.goto (-147), 3) := by decide +kernel
theorem dX10_wiped_152 : decode cX10_wiped 152 = .ok (.aload_n 0, 1) := by decide +kernel
theorem dX10_wiped_153 : decode cX10_wiped 153 = .ok (.getfield 100, 3) := by decide +kernel
theorem dX10_wiped_156 : decode cX10_wiped 156 = .ok (.aload_n 0, 1) := by decide +kernel
theorem dX10_wiped_157 : decode cX10_wiped 157 = .ok (.getfield 53, 3) := by decide +kernel
theorem dX10_wiped_160 : decode cX10_wiped 160 = .ok (.iconst 1, 1) := by decide +kernel
theorem dX10_wiped_161 : decode cX10_wiped 161 = .ok (.aload_n 0, 1) := by decide +kernel
theorem dX10_wiped_162 : decode cX10_wiped 162 = .ok (.getfield 100, 3) := by decide +kernel
theorem dX10_wiped_165 : decode cX10_wiped 165 = .ok (.ishl, 1) := by decide +kernel
theorem dX10_wiped_166 : decode cX10_wiped 166 = .ok (.iconst 1, 1) := by decide +kernel
theorem dX10_wiped_167 : decode cX10_wiped 167 = .ok (.isub, 1) := by decide +kernel
theorem dX10_wiped_168 : decode cX10_wiped 168 = .ok (.iaload, 1) := by decide +kernel
theorem dX10_wiped_169 : decode cX10_wiped 169 = .ok (.isub, 1) := by decide +kernel
theorem dX10_wiped_170 : decode cX10_wiped 170 = .ok (.ireturn, 1) := by decide +kernel
theorem dX10_balance_0 : decode cX10_balance 0 = .ok (.aload_n 0, 1) := by decide +kernel
theorem dX10_balance_1 : decode cX10_balance 1 = .ok (.iload_n 1, 1) := by decide +kernel
theorem dX10_balance_2 : decode cX10_balance 2 = .ok (.invokevirtual 107, 3) := by decide +kernel
theorem dX10_balance_5 : decode cX10_balance 5 = .ok (.ifCond .eq 19, 3) := by decide +kernel
theorem dX10_balance_8 : decode cX10_balance 8 = .ok (.aload_n 0, 1) := by decide +kernel
theorem dX10_balance_9 : decode cX10_balance 9 = .ok (.iload_n 1, 1) := by decide +kernel
theorem dX10_balance_10 : decode cX10_balance 10 = .ok (.iconst 1, 1) := by decide +kernel
theorem dX10_balance_11 : decode cX10_balance 11 = .ok (.invokevirtual 141, 3) := by decide +kernel
theorem dX10_balance_14 : decode cX10_balance 14 = .ok (.aload_n 0, 1) := by decide +kernel
theorem dX10_balance_15 : decode cX10_balance 15 = .ok (.iload_n 1, 1) := by decide +kernel
theorem dX10_balance_16 : decode cX10_balance 16 = .ok (.iconst 0, 1) := by decide +kernel
theorem dX10_balance_17 : decode cX10_balance 17 = .ok (.invokevirtual 141, 3) := by decide +kernel
theorem dX10_balance_20 : decode cX10_balance 20 = .ok (.isub, 1) := by decide +kernel
theorem dX10_balance_21 : decode cX10_balance 21 = .ok (.goto 5, 3) := by decide +kernel
theorem dX10_balance_24 : decode cX10_balance 24 = .ok (.ldc 149, 2) := by decide +kernel
theorem dX10_balance_26 : decode cX10_balance 26 = .ok (.ireturn, 1) := by decide +kernel
theorem dX10_hand_0 : decode cX10_hand 0 = .ok (.iload_n 1, 1) := by decide +kernel
theorem dX10_hand_1 : decode cX10_hand 1 = .ok (.ifCond .lt 25, 3) := by decide +kernel
theorem dX10_hand_4 : decode cX10_hand 4 = .ok (.aload_n 0, 1) := by decide +kernel
theorem dX10_hand_5 : decode cX10_hand 5 = .ok (.iload_n 1, 1) := by decide +kernel
theorem dX10_hand_6 : decode cX10_hand 6 = .ok (.bipush 100, 2) := by decide +kernel
theorem dX10_hand_8 : decode cX10_hand 8 = .ok (.idiv, 1) := by decide +kernel
theorem dX10_hand_9 : decode cX10_hand 9 = .ok (.invokevirtual 146, 3) := by decide +kernel
theorem dX10_hand_12 : decode cX10_hand 12 = .ok (.ifCond .eq 14, 3) := by decide +kernel
theorem dX10_hand_15 : decode cX10_hand 15 = .ok (.aload_n 0, 1) := by decide +kernel
theorem dX10_hand_16 : decode cX10_hand 16 = .ok (.iload_n 1, 1) := by decide +kernel
theorem dX10_hand_17 : decode cX10_hand 17 = .ok (.bipush 100, 2) := by decide +kernel
theorem dX10_hand_19 : decode cX10_hand 19 = .ok (.irem, 1) := by decide +kernel
theorem dX10_hand_20 : decode cX10_hand 20 = .ok (.invokevirtual 146, 3) := by decide +kernel
theorem dX10_hand_23 : decode cX10_hand 23 = .ok (.ifCond .ne 5, 3) := by decide +kernel
theorem dX10_hand_26 : decode cX10_hand 26 = .ok (.iconst (-1), 1) := by decide +kernel
theorem dX10_hand_27 : decode cX10_hand 27 = .ok (.ireturn, 1) := by decide +kernel
theorem dX10_hand_28 : decode cX10_hand 28 = .ok (.iload_n 1, 1) := by decide +kernel
theorem dX10_hand_29 : decode cX10_hand 29 = .ok (.bipush 100, 2) := by decide +kernel
theorem dX10_hand_31 : decode cX10_hand 31 = .ok (.idiv, 1) := by decide +kernel
theorem dX10_hand_32 : decode cX10_hand 32 = .ok (.istore_n 2, 1) := by decide +kernel
theorem dX10_hand_33 : decode cX10_hand 33 = .ok (.iload_n 1, 1) := by decide +kernel
theorem dX10_hand_34 : decode cX10_hand 34 = .ok (.bipush 100, 2) := by decide +kernel
theorem dX10_hand_36 : decode cX10_hand 36 = .ok (.irem, 1) := by decide +kernel
theorem dX10_hand_37 : decode cX10_hand 37 = .ok (.istore_n 3, 1) := by decide +kernel
theorem dX10_hand_38 : decode cX10_hand 38 = .ok (.aload_n 0, 1) := by decide +kernel
theorem dX10_hand_39 : decode cX10_hand 39 = .ok (.getfield 22, 3) := by decide +kernel
theorem dX10_hand_42 : decode cX10_hand 42 = .ok (.iconst 5, 1) := by decide +kernel
theorem dX10_hand_43 : decode cX10_hand 43 = .ok (.iload_n 2, 1) := by decide +kernel
theorem dX10_hand_44 : decode cX10_hand 44 = .ok (.imul, 1) := by decide +kernel
theorem dX10_hand_45 : decode cX10_hand 45 = .ok (.iconst 2, 1) := by decide +kernel
theorem dX10_hand_46 : decode cX10_hand 46 = .ok (.iadd, 1) := by decide +kernel
theorem dX10_hand_47 : decode cX10_hand 47 = .ok (.iaload, 1) := by decide +kernel
theorem dX10_hand_48 : decode cX10_hand 48 = .ok (.aload_n 0, 1) := by decide +kernel
theorem dX10_hand_49 : decode cX10_hand 49 = .ok (.getfield 22, 3) := by decide +kernel
theorem dX10_hand_52 : decode cX10_hand 52 = .ok (.iconst 5, 1) := by decide +kernel
theorem dX10_hand_53 : decode cX10_hand 53 = .ok (.iload_n 3, 1) := by decide +kernel
theorem dX10_hand_54 : decode cX10_hand 54 = .ok (.imul, 1) := by decide +kernel
theorem dX10_hand_55 : decode cX10_hand 55 = .ok (.iconst 2, 1) := by decide +kernel
theorem dX10_hand_56 : decode cX10_hand 56 = .ok (.iadd, 1) := by decide +kernel
theorem dX10_hand_57 : decode cX10_hand 57 = .ok (.iaload, 1) := by decide +kernel
theorem dX10_hand_58 : decode cX10_hand 58 = .ok (.if_icmp .ne 53, 3) := by decide +kernel
theorem dX10_hand_61 : decode cX10_hand 61 = .ok (.aload_n 0, 1) := by decide +kernel
theorem dX10_hand_62 : decode cX10_hand 62 = .ok (.getfield 22, 3) := by decide +kernel
theorem dX10_hand_65 : decode cX10_hand 65 = .ok (.iconst 5, 1) := by decide +kernel
theorem dX10_hand_66 : decode cX10_hand 66 = .ok (.iload_n 2, 1) := by decide +kernel
theorem dX10_hand_67 : decode cX10_hand 67 = .ok (.imul, 1) := by decide +kernel
theorem dX10_hand_68 : decode cX10_hand 68 = .ok (.iconst 3, 1) := by decide +kernel
theorem dX10_hand_69 : decode cX10_hand 69 = .ok (.iadd, 1) := by decide +kernel
theorem dX10_hand_70 : decode cX10_hand 70 = .ok (.iaload, 1) := by decide +kernel
theorem dX10_hand_71 : decode cX10_hand 71 = .ok (.aload_n 0, 1) := by decide +kernel
theorem dX10_hand_72 : decode cX10_hand 72 = .ok (.getfield 22, 3) := by decide +kernel
theorem dX10_hand_75 : decode cX10_hand 75 = .ok (.iconst 5, 1) := by decide +kernel
theorem dX10_hand_76 : decode cX10_hand 76 = .ok (.iload_n 3, 1) := by decide +kernel
theorem dX10_hand_77 : decode cX10_hand 77 = .ok (.imul, 1) := by decide +kernel
theorem dX10_hand_78 : decode cX10_hand 78 = .ok (.iconst 3, 1) := by decide +kernel
theorem dX10_hand_79 : decode cX10_hand 79 = .ok (.iadd, 1) := by decide +kernel
theorem dX10_hand_80 : decode cX10_hand 80 = .ok (.iaload, 1) := by decide +kernel
theorem dX10_hand_81 : decode cX10_hand 81 = .ok (.if_icmp .ne 30, 3) := by decide +kernel
theorem dX10_hand_84 : decode cX10_hand 84 = .ok (.aload_n 0, 1) := by decide +kernel
theorem dX10_hand_85 : decode cX10_hand 85 = .ok (.getfield 22, 3) := by decide +kernel
theorem dX10_hand_88 : decode cX10_hand 88 = .ok (.iconst 5, 1) := by decide +kernel
theorem dX10_hand_89 : decode cX10_hand 89 = .ok (.iload_n 2, 1) := by decide +kernel
theorem dX10_hand_90 : decode cX10_hand 90 = .ok (.imul, 1) := by decide +kernel
theorem dX10_hand_91 : decode cX10_hand 91 = .ok (.iconst 4, 1) := by decide +kernel
theorem dX10_hand_92 : decode cX10_hand 92 = .ok (.iadd, 1) := by decide +kernel
theorem dX10_hand_93 : decode cX10_hand 93 = .ok (.iaload, 1) := by decide +kernel
theorem dX10_hand_94 : decode cX10_hand 94 = .ok (.aload_n 0, 1) := by decide +kernel
theorem dX10_hand_95 : decode cX10_hand 95 = .ok (.getfield 22, 3) := by decide +kernel
theorem dX10_hand_98 : decode cX10_hand 98 = .ok (.iconst 5, 1) := by decide +kernel
theorem dX10_hand_99 : decode cX10_hand 99 = .ok (.iload_n 3, 1) := by decide +kernel
theorem dX10_hand_100 : decode cX10_hand 100 = .ok (.imul, 1) := by decide +kernel
theorem dX10_hand_101 : decode cX10_hand 101 = .ok (.iconst 4, 1) := by decide +kernel
theorem dX10_hand_102 : decode cX10_hand 102 = .ok (.iadd, 1) := by decide +kernel
theorem dX10_hand_103 : decode cX10_hand 103 = .ok (.iaload, 1) := by decide +kernel
theorem dX10_hand_104 : decode cX10_hand 104 = .ok (.if_icmp .ne 7, 3) := by decide +kernel
theorem dX10_hand_107 : decode cX10_hand 107 = .ok (.iconst 1, 1) := by decide +kernel
theorem dX10_hand_108 : decode cX10_hand 108 = .ok (.goto 4, 3) := by decide +kernel
theorem dX10_hand_111 : decode cX10_hand 111 = .ok (.iconst 0, 1) := by decide +kernel
theorem dX10_hand_112 : decode cX10_hand 112 = .ok (.istore 4, 2) := by decide +kernel
theorem dX10_hand_114 : decode cX10_hand 114 = .ok (.iload_n 2, 1) := by decide +kernel
theorem dX10_hand_115 : decode cX10_hand 115 = .ok (.iload_n 3, 1) := by decide +kernel
theorem dX10_hand_116 : decode cX10_hand 116 = .ok (.if_icmp .eq 66, 3) := by decide +kernel
theorem dX10_hand_119 : decode cX10_hand 119 = .ok (.aload_n 0, 1) := by decide +kernel
theorem dX10_hand_120 : decode cX10_hand 120 = .ok (.iload_n 2, 1) := by decide +kernel
theorem dX10_hand_121 : decode cX10_hand 121 = .ok (.invokevirtual 240, 3) := by decide +kernel
theorem dX10_hand_124 : decode cX10_hand 124 = .ok (.ifCond .eq 58, 3) := by decide +kernel
theorem dX10_hand_127 : decode cX10_hand 127 = .ok (.aload_n 0, 1) := by decide +kernel
theorem dX10_hand_128 : decode cX10_hand 128 = .ok (.iload_n 3, 1) := by decide +kernel
theorem dX10_hand_129 : decode cX10_hand 129 = .ok (.invokevirtual 240, 3) := by decide +kernel
theorem dX10_hand_132 : decode cX10_hand 132 = .ok (.ifCond .eq 50, 3) := by decide +kernel
theorem dX10_hand_135 : decode cX10_hand 135 = .ok (.iload 4, 2) := by decide +kernel
theorem dX10_hand_137 : decode cX10_hand 137 = .ok (.ifCond .eq 45, 3) := by decide +kernel
theorem dX10_hand_140 : decode cX10_hand 140 = .ok (.aload_n 0, 1) := by decide +kernel
theorem dX10_hand_141 : decode cX10_hand 141 = .ok (.getfield 22, 3) := by decide +kernel
theorem dX10_hand_144 : decode cX10_hand 144 = .ok (.iconst 5, 1) := by decide +kernel
theorem dX10_hand_145 : decode cX10_hand 145 = .ok (.iload_n 2, 1) := by decide +kernel
theorem dX10_hand_146 : decode cX10_hand 146 = .ok (.imul, 1) := by decide +kernel
theorem dX10_hand_147 : decode cX10_hand 147 = .ok (.iconst 1, 1) := by decide +kernel
theorem dX10_hand_148 : decode cX10_hand 148 = .ok (.iadd, 1) := by decide +kernel
theorem dX10_hand_149 : decode cX10_hand 149 = .ok (.iaload, 1) := by decide +kernel
theorem dX10_hand_150 : decode cX10_hand 150 = .ok (.aload_n 0, 1) := by decide +kernel
theorem dX10_hand_151 : decode cX10_hand 151 = .ok (.getfield 22, 3) := by decide +kernel
theorem dX10_hand_154 : decode cX10_hand 154 = .ok (.iconst 5, 1) := by decide +kernel
theorem dX10_hand_155 : decode cX10_hand 155 = .ok (.iload_n 3, 1) := by decide +kernel
theorem dX10_hand_156 : decode cX10_hand 156 = .ok (.imul, 1) := by decide +kernel
theorem dX10_hand_157 : decode cX10_hand 157 = .ok (.iaload, 1) := by decide +kernel
theorem dX10_hand_158 : decode cX10_hand 158 = .ok (.if_icmp .ne 24, 3) := by decide +kernel
theorem dX10_hand_161 : decode cX10_hand 161 = .ok (.aload_n 0, 1) := by decide +kernel
theorem dX10_hand_162 : decode cX10_hand 162 = .ok (.getfield 22, 3) := by decide +kernel
theorem dX10_hand_165 : decode cX10_hand 165 = .ok (.iconst 5, 1) := by decide +kernel
theorem dX10_hand_166 : decode cX10_hand 166 = .ok (.iload_n 3, 1) := by decide +kernel
theorem dX10_hand_167 : decode cX10_hand 167 = .ok (.imul, 1) := by decide +kernel
theorem dX10_hand_168 : decode cX10_hand 168 = .ok (.iconst 1, 1) := by decide +kernel
theorem dX10_hand_169 : decode cX10_hand 169 = .ok (.iadd, 1) := by decide +kernel
theorem dX10_hand_170 : decode cX10_hand 170 = .ok (.iaload, 1) := by decide +kernel
theorem dX10_hand_171 : decode cX10_hand 171 = .ok (.aload_n 0, 1) := by decide +kernel
theorem dX10_hand_172 : decode cX10_hand 172 = .ok (.getfield 22, 3) := by decide +kernel
theorem dX10_hand_175 : decode cX10_hand 175 = .ok (.iconst 5, 1) := by decide +kernel
theorem dX10_hand_176 : decode cX10_hand 176 = .ok (.iload_n 2, 1) := by decide +kernel
theorem dX10_hand_177 : decode cX10_hand 177 = .ok (.imul, 1) := by decide +kernel
theorem dX10_hand_178 : decode cX10_hand 178 = .ok (.iaload, 1) := by decide +kernel
theorem dX10_hand_179 : decode cX10_hand 179 = .ok (.if_icmp .ne 6, 3) := by decide +kernel
theorem dX10_hand_182 : decode cX10_hand 182 = .ok (.bipush (-2), 2) := by decide +kernel
theorem dX10_hand_184 : decode cX10_hand 184 = .ok (.ireturn, 1) := by decide +kernel
theorem dX10_hand_185 : decode cX10_hand 185 = .ok (.aload_n 0, 1) := by decide +kernel
theorem dX10_hand_186 : decode cX10_hand 186 = .ok (.getfield 22, 3) := by decide +kernel
theorem dX10_hand_189 : decode cX10_hand 189 = .ok (.iconst 5, 1) := by decide +kernel
theorem dX10_hand_190 : decode cX10_hand 190 = .ok (.iload_n 2, 1) := by decide +kernel
theorem dX10_hand_191 : decode cX10_hand 191 = .ok (.imul, 1) := by decide +kernel
theorem dX10_hand_192 : decode cX10_hand 192 = .ok (.iconst 1, 1) := by decide +kernel
theorem dX10_hand_193 : decode cX10_hand 193 = .ok (.iadd, 1) := by decide +kernel
theorem dX10_hand_194 : decode cX10_hand 194 = .ok (.aload_n 0, 1) := by decide +kernel
theorem dX10_hand_195 : decode cX10_hand 195 = .ok (.getfield 22, 3) := by decide +kernel
theorem dX10_hand_198 : decode cX10_hand 198 = .ok (.iconst 5, 1) := by decide +kernel
theorem dX10_hand_199 : decode cX10_hand 199 = .ok (.iload_n 3, 1) := by decide +kernel
theorem dX10_hand_200 : decode cX10_hand 200 = .ok (.imul, 1) := by decide +kernel
theorem dX10_hand_201 : decode cX10_hand 201 = .ok (.iconst 1, 1) := by decide +kernel
theorem dX10_hand_202 : decode cX10_hand 202 = .ok (.iadd, 1) := by decide +kernel
theorem dX10_hand_203 : decode cX10_hand 203 = .ok (.iaload, 1) := by decide +kernel
theorem dX10_hand_204 : decode cX10_hand 204 = .ok (.iastore, 1) := by decide +kernel
theorem dX10_hand_205 : decode cX10_hand 205 = .ok (.aload_n 0, 1) := by decide +kernel
theorem dX10_hand_206 : decode cX10_hand 206 = .ok (.iload_n 3, 1) := by decide +kernel
theorem dX10_hand_207 : decode cX10_hand 207 = .ok (.aload_n 0, 1) := by decide +kernel
theorem dX10_hand_208 : decode cX10_hand 208 = .ok (.getfield 22, 3) := by decide +kernel
theorem dX10_hand_211 : decode cX10_hand 211 = .ok (.iconst 5, 1) := by decide +kernel
theorem dX10_hand_212 : decode cX10_hand 212 = .ok (.iload_n 3, 1) := by decide +kernel
theorem dX10_hand_213 : decode cX10_hand 213 = .ok (.imul, 1) := by decide +kernel
theorem dX10_hand_214 : decode cX10_hand 214 = .ok (.iconst 2, 1) := by decide +kernel
theorem dX10_hand_215 : decode cX10_hand 215 = .ok (.iadd, 1) := by decide +kernel
theorem dX10_hand_216 : decode cX10_hand 216 = .ok (.iaload, 1) := by decide +kernel
theorem dX10_hand_217 : decode cX10_hand 217 = .ok (.invokevirtual 249, 3) := by decide +kernel
theorem dX10_hand_220 : decode cX10_hand 220 = .ok (.iconst 1, 1) := by decide +kernel
theorem dX10_hand_221 : decode cX10_hand 221 = .ok (.ireturn, 1) := by decide +kernel
theorem dX10_strike_0 : decode cX10_strike 0 = .ok (.aload_n 0, 1) := by decide +kernel
theorem dX10_strike_1 : decode cX10_strike 1 = .ok (.invokevirtual 281, 3) := by decide +kernel
theorem dX10_strike_4 : decode cX10_strike 4 = .ok (.istore_n 1, 1) := by decide +kernel
theorem dX10_strike_5 : decode cX10_strike 5 = .ok (.iload_n 1, 1) := by decide +kernel
theorem dX10_strike_6 : decode cX10_strike 6 = .ok (.ifCond .ge 6, 3) := by decide +kernel
theorem dX10_strike_9 : decode cX10_strike 9 = .ok (.bipush (-2), 2) := by decide +kernel
theorem dX10_strike_11 : decode cX10_strike 11 = .ok (.ireturn, 1) := by decide +kernel
theorem dX10_strike_12 : decode cX10_strike 12 = .ok (.bipush 9, 2) := by decide +kernel
theorem dX10_strike_14 : decode cX10_strike 14 = .ok (.istore_n 2, 1) := by decide +kernel
theorem dX10_strike_15 : decode cX10_strike 15 = .ok (.iconst 0, 1) := by decide +kernel
theorem dX10_strike_16 : decode cX10_strike 16 = .ok (.istore_n 3, 1) := by decide +kernel
theorem dX10_strike_17 : decode cX10_strike 17 = .ok (.iload_n 3, 1) := by decide +kernel
theorem dX10_strike_18 : decode cX10_strike 18 = .ok (.aload_n 0, 1) := by decide +kernel
theorem dX10_strike_19 : decode cX10_strike 19 = .ok (.getfield 111, 3) := by decide +kernel
theorem dX10_strike_22 : decode cX10_strike 22 = .ok (.if_icmp .ge 47, 3) := by decide +kernel
theorem dX10_strike_25 : decode cX10_strike 25 = .ok (.iload_n 1, 1) := by decide +kernel
theorem dX10_strike_26 : decode cX10_strike 26 = .ok (.iload_n 3, 1) := by decide +kernel
theorem dX10_strike_27 : decode cX10_strike 27 = .ok (.ishr, 1) := by decide +kernel
theorem dX10_strike_28 : decode cX10_strike 28 = .ok (.iconst 1, 1) := by decide +kernel
theorem dX10_strike_29 : decode cX10_strike 29 = .ok (.iand, 1) := by decide +kernel
theorem dX10_strike_30 : decode cX10_strike 30 = .ok (.iconst 1, 1) := by decide +kernel
theorem dX10_strike_31 : decode cX10_strike 31 = .ok (.if_icmp .ne 30, 3) := by decide +kernel
theorem dX10_strike_34 : decode cX10_strike 34 = .ok (.aload_n 0, 1) := by decide +kernel
theorem dX10_strike_35 : decode cX10_strike 35 = .ok (.getfield 22, 3) := by decide +kernel
theorem dX10_strike_38 : decode cX10_strike 38 = .ok (.iconst 5, 1) := by decide +kernel
theorem dX10_strike_39 : decode cX10_strike 39 = .ok (.iload_n 3, 1) := by decide +kernel
theorem dX10_strike_40 : decode cX10_strike 40 = .ok (.imul, 1) := by decide +kernel
theorem dX10_strike_41 : decode cX10_strike 41 = .ok (.iconst 2, 1) := by decide +kernel
theorem dX10_strike_42 : decode cX10_strike 42 = .ok (.iadd, 1) := by decide +kernel
theorem dX10_strike_43 : decode cX10_strike 43 = .ok (.iaload, 1) := by decide +kernel
theorem dX10_strike_44 : decode cX10_strike 44 = .ok (.iload_n 2, 1) := by decide +kernel
theorem dX10_strike_45 : decode cX10_strike 45 = .ok (.if_icmp .ge 16, 3) := by decide +kernel
theorem dX10_strike_48 : decode cX10_strike 48 = .ok (.aload_n 0, 1) := by decide +kernel
theorem dX10_strike_49 : decode cX10_strike 49 = .ok (.getfield 22, 3) := by decide +kernel
theorem dX10_strike_52 : decode cX10_strike 52 = .ok (.iconst 5, 1) := by decide +kernel
theorem dX10_strike_53 : decode cX10_strike 53 = .ok (.iload_n 3, 1) := by decide +kernel
theorem dX10_strike_54 : decode cX10_strike 54 = .ok (.imul, 1) := by decide +kernel
theorem dX10_strike_55 : decode cX10_strike 55 = .ok (.iconst 2, 1) := by decide +kernel
theorem dX10_strike_56 : decode cX10_strike 56 = .ok (.iadd, 1) := by decide +kernel
theorem dX10_strike_57 : decode cX10_strike 57 = .ok (.iaload, 1) := by decide +kernel
theorem dX10_strike_58 : decode cX10_strike 58 = .ok (.goto 4, 3) := by decide +kernel
theorem dX10_strike_61 : decode cX10_strike 61 = .ok (.iload_n 2, 1) := by decide +kernel
theorem dX10_strike_62 : decode cX10_strike 62 = .ok (.istore_n 2, 1) := by decide +kernel
theorem dX10_strike_63 : decode cX10_strike 63 = .ok (.iinc 3 1, 3) := by decide +kernel
theorem dX10_strike_66 : decode cX10_strike 66 = .ok (.goto (-49), 3) := by decide +kernel
theorem dX10_strike_69 : decode cX10_strike 69 = .ok (.iconst 0, 1) := by decide +kernel
theorem dX10_strike_70 : decode cX10_strike 70 = .ok (.istore_n 3, 1) := by decide +kernel
theorem dX10_strike_71 : decode cX10_strike 71 = .ok (.iload_n 3, 1) := by decide +kernel
theorem dX10_strike_72 : decode cX10_strike 72 = .ok (.aload_n 0, 1) := by decide +kernel
theorem dX10_strike_73 : decode cX10_strike 73 = .ok (.getfield 111, 3) := by decide +kernel
theorem dX10_strike_76 : decode cX10_strike 76 = .ok (.if_icmp .ge 24, 3) := by decide +kernel
theorem dX10_strike_79 : decode cX10_strike 79 = .ok (.iload_n 1, 1) := by decide +kernel
theorem dX10_strike_80 : decode cX10_strike 80 = .ok (.iload_n 3, 1) := by decide +kernel
theorem dX10_strike_81 : decode cX10_strike 81 = .ok (.ishr, 1) := by decide +kernel
theorem dX10_strike_82 : decode cX10_strike 82 = .ok (.iconst 1, 1) := by decide +kernel
theorem dX10_strike_83 : decode cX10_strike 83 = .ok (.iand, 1) := by decide +kernel
theorem dX10_strike_84 : decode cX10_strike 84 = .ok (.iconst 1, 1) := by decide +kernel
theorem dX10_strike_85 : decode cX10_strike 85 = .ok (.if_icmp .ne 9, 3) := by decide +kernel
theorem dX10_strike_88 : decode cX10_strike 88 = .ok (.aload_n 0, 1) := by decide +kernel
theorem dX10_strike_89 : decode cX10_strike 89 = .ok (.iload_n 3, 1) := by decide +kernel
theorem dX10_strike_90 : decode cX10_strike 90 = .ok (.iload_n 2, 1) := by decide +kernel
theorem dX10_strike_91 : decode cX10_strike 91 = .ok (.invokevirtual 249, 3) := by decide +kernel
theorem dX10_strike_94 : decode cX10_strike 94 = .ok (.iinc 3 1, 3) := by decide +kernel
theorem dX10_strike_97 : decode cX10_strike 97 = .ok (.goto (-26), 3) := by decide +kernel
theorem dX10_strike_100 : decode cX10_strike 100 = .ok (.iload_n 2, 1) := by decide +kernel
theorem dX10_strike_101 : decode cX10_strike 101 = .ok (.ireturn, 1) := by decide +kernel
theorem dX10_runaway_0 : decode cX10_runaway 0 = .ok (.aload_n 0, 1) := by decide +kernel
theorem dX10_runaway_1 : decode cX10_runaway 1 = .ok (.iload_n 1, 1) := by decide +kernel
theorem dX10_runaway_2 : decode cX10_runaway 2 = .ok (.invokevirtual 107, 3) := by decide +kernel
theorem dX10_runaway_5 : decode cX10_runaway 5 = .ok (.ifCond .ne 5, 3) := by decide +kernel
theorem dX10_runaway_8 : decode cX10_runaway 8 = .ok (.iconst (-1), 1) := by decide +kernel
theorem dX10_runaway_9 : decode cX10_runaway 9 = .ok (.ireturn, 1) := by decide +kernel
theorem dX10_runaway_10 : decode cX10_runaway 10 = .ok (.aload_n 0, 1) := by decide +kernel
theorem dX10_runaway_11 : decode cX10_runaway 11 = .ok (.iload_n 1, 1) := by decide +kernel
theorem dX10_runaway_12 : decode cX10_runaway 12 = .ok (.iconst 0, 1) := by decide +kernel
theorem dX10_runaway_13 : decode cX10_runaway 13 = .ok (.invokevirtual 141, 3) := by decide +kernel
theorem dX10_runaway_16 : decode cX10_runaway 16 = .ok (.istore_n 2, 1) := by decide +kernel
theorem dX10_runaway_17 : decode cX10_runaway 17 = .ok (.iconst 0, 1) := by decide +kernel
theorem dX10_runaway_18 : decode cX10_runaway 18 = .ok (.istore_n 3, 1) := by decide +kernel
theorem dX10_runaway_19 : decode cX10_runaway 19 = .ok (.iload_n 3, 1) := by decide +kernel
theorem dX10_runaway_20 : decode cX10_runaway 20 = .ok (.aload_n 0, 1) := by decide +kernel
theorem dX10_runaway_21 : decode cX10_runaway 21 = .ok (.getfield 111, 3) := by decide +kernel
theorem dX10_runaway_24 : decode cX10_runaway 24 = .ok (.if_icmp .ge 36, 3) := by decide +kernel
theorem dX10_runaway_27 : decode cX10_runaway 27 = .ok (.aload_n 0, 1) := by decide +kernel
theorem dX10_runaway_28 : decode cX10_runaway 28 = .ok (.getfield 22, 3) := by decide +kernel
theorem dX10_runaway_31 : decode cX10_runaway 31 = .ok (.iconst 5, 1) := by decide +kernel
theorem dX10_runaway_32 : decode cX10_runaway 32 = .ok (.iload_n 3, 1) := by decide +kernel
theorem dX10_runaway_33 : decode cX10_runaway 33 = .ok (.imul, 1) := by decide +kernel
theorem dX10_runaway_34 : decode cX10_runaway 34 = .ok (.iaload, 1) := by decide +kernel
theorem dX10_runaway_35 : decode cX10_runaway 35 = .ok (.iload_n 1, 1) := by decide +kernel
theorem dX10_runaway_36 : decode cX10_runaway 36 = .ok (.if_icmp .ne 18, 3) := by decide +kernel
theorem dX10_runaway_39 : decode cX10_runaway 39 = .ok (.aload_n 0, 1) := by decide +kernel
theorem dX10_runaway_40 : decode cX10_runaway 40 = .ok (.iload_n 3, 1) := by decide +kernel
theorem dX10_runaway_41 : decode cX10_runaway 41 = .ok (.aload_n 0, 1) := by decide +kernel
theorem dX10_runaway_42 : decode cX10_runaway 42 = .ok (.getfield 22, 3) := by decide +kernel
theorem dX10_runaway_45 : decode cX10_runaway 45 = .ok (.iconst 5, 1) := by decide +kernel
theorem dX10_runaway_46 : decode cX10_runaway 46 = .ok (.iload_n 3, 1) := by decide +kernel
theorem dX10_runaway_47 : decode cX10_runaway 47 = .ok (.imul, 1) := by decide +kernel
theorem dX10_runaway_48 : decode cX10_runaway 48 = .ok (.iconst 2, 1) := by decide +kernel
theorem dX10_runaway_49 : decode cX10_runaway 49 = .ok (.iadd, 1) := by decide +kernel
theorem dX10_runaway_50 : decode cX10_runaway 50 = .ok (.iaload, 1) := by decide +kernel
theorem dX10_runaway_51 : decode cX10_runaway 51 = .ok (.invokevirtual 249, 3) := by decide +kernel
theorem dX10_runaway_54 : decode cX10_runaway 54 = .ok (.iinc 3 1, 3) := by decide +kernel
theorem dX10_runaway_57 : decode cX10_runaway 57 = .ok (.goto (-38), 3) := by decide +kernel
theorem dX10_runaway_60 : decode cX10_runaway 60 = .ok (.iload_n 2, 1) := by decide +kernel
theorem dX10_runaway_61 : decode cX10_runaway 61 = .ok (.ireturn, 1) := by decide +kernel
theorem dX10_heir_0 : decode cX10_heir 0 = .ok (.aload_n 0, 1) := by decide +kernel
theorem dX10_heir_1 : decode cX10_heir 1 = .ok (.iload_n 1, 1) := by decide +kernel
theorem dX10_heir_2 : decode cX10_heir 2 = .ok (.invokevirtual 164, 3) := by decide +kernel
theorem dX10_heir_5 : decode cX10_heir 5 = .ok (.ifCond .ne 5, 3) := by decide +kernel
theorem dX10_heir_8 : decode cX10_heir 8 = .ok (.iconst (-1), 1) := by decide +kernel
theorem dX10_heir_9 : decode cX10_heir 9 = .ok (.ireturn, 1) := by decide +kernel
theorem dX10_heir_10 : decode cX10_heir 10 = .ok (.iload_n 1, 1) := by decide +kernel
theorem dX10_heir_11 : decode cX10_heir 11 = .ok (.bipush 10, 2) := by decide +kernel
theorem dX10_heir_13 : decode cX10_heir 13 = .ok (.idiv, 1) := by decide +kernel
theorem dX10_heir_14 : decode cX10_heir 14 = .ok (.istore_n 2, 1) := by decide +kernel
theorem dX10_heir_15 : decode cX10_heir 15 = .ok (.iload_n 1, 1) := by decide +kernel
theorem dX10_heir_16 : decode cX10_heir 16 = .ok (.bipush 10, 2) := by decide +kernel
theorem dX10_heir_18 : decode cX10_heir 18 = .ok (.irem, 1) := by decide +kernel
theorem dX10_heir_19 : decode cX10_heir 19 = .ok (.istore_n 3, 1) := by decide +kernel
theorem dX10_heir_20 : decode cX10_heir 20 = .ok (.iconst 0, 1) := by decide +kernel
theorem dX10_heir_21 : decode cX10_heir 21 = .ok (.istore 4, 2) := by decide +kernel
theorem dX10_heir_23 : decode cX10_heir 23 = .ok (.iconst 0, 1) := by decide +kernel
theorem dX10_heir_24 : decode cX10_heir 24 = .ok (.istore 5, 2) := by decide +kernel
theorem dX10_heir_26 : decode cX10_heir 26 = .ok (.iload 5, 2) := by decide +kernel
theorem dX10_heir_28 : decode cX10_heir 28 = .ok (.aload_n 0, 1) := by decide +kernel
theorem dX10_heir_29 : decode cX10_heir 29 = .ok (.getfield 111, 3) := by decide +kernel
theorem dX10_heir_32 : decode cX10_heir 32 = .ok (.if_icmp .ge 136, 3) := by decide +kernel
theorem dX10_heir_35 : decode cX10_heir 35 = .ok (.aload_n 0, 1) := by decide +kernel
theorem dX10_heir_36 : decode cX10_heir 36 = .ok (.getfield 22, 3) := by decide +kernel
theorem dX10_heir_39 : decode cX10_heir 39 = .ok (.iconst 5, 1) := by decide +kernel
theorem dX10_heir_40 : decode cX10_heir 40 = .ok (.iload 5, 2) := by decide +kernel
theorem dX10_heir_42 : decode cX10_heir 42 = .ok (.imul, 1) := by decide +kernel
theorem dX10_heir_43 : decode cX10_heir 43 = .ok (.iaload, 1) := by decide +kernel
theorem dX10_heir_44 : decode cX10_heir 44 = .ok (.istore 6, 2) := by decide +kernel
theorem dX10_heir_46 : decode cX10_heir 46 = .ok (.aload_n 0, 1) := by decide +kernel
theorem dX10_heir_47 : decode cX10_heir 47 = .ok (.getfield 22, 3) := by decide +kernel
theorem dX10_heir_50 : decode cX10_heir 50 = .ok (.iconst 5, 1) := by decide +kernel
theorem dX10_heir_51 : decode cX10_heir 51 = .ok (.iload 5, 2) := by decide +kernel
theorem dX10_heir_53 : decode cX10_heir 53 = .ok (.imul, 1) := by decide +kernel
theorem dX10_heir_54 : decode cX10_heir 54 = .ok (.iconst 1, 1) := by decide +kernel
theorem dX10_heir_55 : decode cX10_heir 55 = .ok (.iadd, 1) := by decide +kernel
theorem dX10_heir_56 : decode cX10_heir 56 = .ok (.iaload, 1) := by decide +kernel
theorem dX10_heir_57 : decode cX10_heir 57 = .ok (.istore 7, 2) := by decide +kernel
theorem dX10_heir_59 : decode cX10_heir 59 = .ok (.aload_n 0, 1) := by decide +kernel
theorem dX10_heir_60 : decode cX10_heir 60 = .ok (.iload 5, 2) := by decide +kernel
theorem dX10_heir_62 : decode cX10_heir 62 = .ok (.invokevirtual 240, 3) := by decide +kernel
theorem dX10_heir_65 : decode cX10_heir 65 = .ok (.ifCond .eq 97, 3) := by decide +kernel
theorem dX10_heir_68 : decode cX10_heir 68 = .ok (.iload 6, 2) := by decide +kernel
theorem dX10_heir_70 : decode cX10_heir 70 = .ok (.iload_n 2, 1) := by decide +kernel
theorem dX10_heir_71 : decode cX10_heir 71 = .ok (.if_icmp .eq 12, 3) := by decide +kernel
theorem dX10_heir_74 : decode cX10_heir 74 = .ok (.iload 7, 2) := by decide +kernel
theorem dX10_heir_76 : decode cX10_heir 76 = .ok (.iload_n 2, 1) := by decide +kernel
theorem dX10_heir_77 : decode cX10_heir 77 = .ok (.if_icmp .eq 6, 3) := by decide +kernel
theorem dX10_heir_80 : decode cX10_heir 80 = .ok (.goto 82, 3) := by decide +kernel
theorem dX10_heir_83 : decode cX10_heir 83 = .ok (.iload 6, 2) := by decide +kernel
theorem dX10_heir_85 : decode cX10_heir 85 = .ok (.iload_n 3, 1) := by decide +kernel
theorem dX10_heir_86 : decode cX10_heir 86 = .ok (.if_icmp .eq 9, 3) := by decide +kernel
theorem dX10_heir_89 : decode cX10_heir 89 = .ok (.iload 7, 2) := by decide +kernel
theorem dX10_heir_91 : decode cX10_heir 91 = .ok (.iload_n 3, 1) := by decide +kernel
theorem dX10_heir_92 : decode cX10_heir 92 = .ok (.if_icmp .ne 23, 3) := by decide +kernel
theorem dX10_heir_95 : decode cX10_heir 95 = .ok (.aload_n 0, 1) := by decide +kernel
theorem dX10_heir_96 : decode cX10_heir 96 = .ok (.iload 5, 2) := by decide +kernel
theorem dX10_heir_98 : decode cX10_heir 98 = .ok (.aload_n 0, 1) := by decide +kernel
theorem dX10_heir_99 : decode cX10_heir 99 = .ok (.getfield 22, 3) := by decide +kernel
theorem dX10_heir_102 : decode cX10_heir 102 = .ok (.iconst 5, 1) := by decide +kernel
theorem dX10_heir_103 : decode cX10_heir 103 = .ok (.iload 5, 2) := by decide +kernel
theorem dX10_heir_105 : decode cX10_heir 105 = .ok (.imul, 1) := by decide +kernel
theorem dX10_heir_106 : decode cX10_heir 106 = .ok (.iconst 2, 1) := by decide +kernel
theorem dX10_heir_107 : decode cX10_heir 107 = .ok (.iadd, 1) := by decide +kernel
theorem dX10_heir_108 : decode cX10_heir 108 = .ok (.iaload, 1) := by decide +kernel
theorem dX10_heir_109 : decode cX10_heir 109 = .ok (.invokevirtual 249, 3) := by decide +kernel
theorem dX10_heir_112 : decode cX10_heir 112 = .ok (.goto 50, 3) := by decide +kernel
theorem dX10_heir_115 : decode cX10_heir 115 = .ok (.aload_n 0, 1) := by decide +kernel
theorem dX10_heir_116 : decode cX10_heir 116 = .ok (.getfield 22, 3) := by decide +kernel
theorem dX10_heir_119 : decode cX10_heir 119 = .ok (.iconst 5, 1) := by decide +kernel
theorem dX10_heir_120 : decode cX10_heir 120 = .ok (.iload 5, 2) := by decide +kernel
theorem dX10_heir_122 : decode cX10_heir 122 = .ok (.imul, 1) := by decide +kernel
theorem dX10_heir_123 : decode cX10_heir 123 = .ok (.iload 6, 2) := by decide +kernel
theorem dX10_heir_125 : decode cX10_heir 125 = .ok (.iload_n 2, 1) := by decide +kernel
theorem dX10_heir_126 : decode cX10_heir 126 = .ok (.if_icmp .ne 7, 3) := by decide +kernel
theorem dX10_heir_129 : decode cX10_heir 129 = .ok (.iload_n 3, 1) := by decide +kernel
theorem dX10_heir_130 : decode cX10_heir 130 = .ok (.goto 5, 3) := by decide +kernel
theorem dX10_heir_133 : decode cX10_heir 133 = .ok (.iload 6, 2) := by decide +kernel
theorem dX10_heir_135 : decode cX10_heir 135 = .ok (.iastore, 1) := by decide +kernel
theorem dX10_heir_136 : decode cX10_heir 136 = .ok (.aload_n 0, 1) := by decide +kernel
theorem dX10_heir_137 : decode cX10_heir 137 = .ok (.getfield 22, 3) := by decide +kernel
theorem dX10_heir_140 : decode cX10_heir 140 = .ok (.iconst 5, 1) := by decide +kernel
theorem dX10_heir_141 : decode cX10_heir 141 = .ok (.iload 5, 2) := by decide +kernel
theorem dX10_heir_143 : decode cX10_heir 143 = .ok (.imul, 1) := by decide +kernel
theorem dX10_heir_144 : decode cX10_heir 144 = .ok (.iconst 1, 1) := by decide +kernel
theorem dX10_heir_145 : decode cX10_heir 145 = .ok (.iadd, 1) := by decide +kernel
theorem dX10_heir_146 : decode cX10_heir 146 = .ok (.iload 7, 2) := by decide +kernel
theorem dX10_heir_148 : decode cX10_heir 148 = .ok (.iload_n 2, 1) := by decide +kernel
theorem dX10_heir_149 : decode cX10_heir 149 = .ok (.if_icmp .ne 7, 3) := by decide +kernel
theorem dX10_heir_152 : decode cX10_heir 152 = .ok (.iload_n 3, 1) := by decide +kernel
theorem dX10_heir_153 : decode cX10_heir 153 = .ok (.goto 5, 3) := by decide +kernel
theorem dX10_heir_156 : decode cX10_heir 156 = .ok (.iload 7, 2) := by decide +kernel
theorem dX10_heir_158 : decode cX10_heir 158 = .ok (.iastore, 1) := by decide +kernel
theorem dX10_heir_159 : decode cX10_heir 159 = .ok (.iinc 4 1, 3) := by decide +kernel
theorem dX10_heir_162 : decode cX10_heir 162 = .ok (.iinc 5 1, 3) := by decide +kernel
theorem dX10_heir_165 : decode cX10_heir 165 = .ok (.goto (-139), 3) := by decide +kernel
theorem dX10_heir_168 : decode cX10_heir 168 = .ok (.iload 4, 2) := by decide +kernel
theorem dX10_heir_170 : decode cX10_heir 170 = .ok (.ireturn, 1) := by decide +kernel
theorem dX10_bookIs_0 : decode cX10_bookIs 0 = .ok (.iload_n 1, 1) := by decide +kernel
theorem dX10_bookIs_1 : decode cX10_bookIs 1 = .ok (.invokestatic 128, 3) := by decide +kernel
theorem dX10_bookIs_4 : decode cX10_bookIs 4 = .ok (.ifCond .ne 7, 3) := by decide +kernel
theorem dX10_bookIs_7 : decode cX10_bookIs 7 = .ok (.iconst (-1), 1) := by decide +kernel
theorem dX10_bookIs_8 : decode cX10_bookIs 8 = .ok (.goto 34, 3) := by decide +kernel
theorem dX10_bookIs_11 : decode cX10_bookIs 11 = .ok (.aload_n 0, 1) := by decide +kernel
theorem dX10_bookIs_12 : decode cX10_bookIs 12 = .ok (.getfield 77, 3) := by decide +kernel
theorem dX10_bookIs_15 : decode cX10_bookIs 15 = .ok (.iload_n 1, 1) := by decide +kernel
theorem dX10_bookIs_16 : decode cX10_bookIs 16 = .ok (.iaload, 1) := by decide +kernel
theorem dX10_bookIs_17 : decode cX10_bookIs 17 = .ok (.ifCond .ge 8, 3) := by decide +kernel
theorem dX10_bookIs_20 : decode cX10_bookIs 20 = .ok (.bipush (-11), 2) := by decide +kernel
theorem dX10_bookIs_22 : decode cX10_bookIs 22 = .ok (.goto 20, 3) := by decide +kernel
theorem dX10_bookIs_25 : decode cX10_bookIs 25 = .ok (.aload_n 0, 1) := by decide +kernel
theorem dX10_bookIs_26 : decode cX10_bookIs 26 = .ok (.getfield 77, 3) := by decide +kernel
theorem dX10_bookIs_29 : decode cX10_bookIs 29 = .ok (.iload_n 1, 1) := by decide +kernel
theorem dX10_bookIs_30 : decode cX10_bookIs 30 = .ok (.iaload, 1) := by decide +kernel
theorem dX10_bookIs_31 : decode cX10_bookIs 31 = .ok (.bipush 51, 2) := by decide +kernel
theorem dX10_bookIs_33 : decode cX10_bookIs 33 = .ok (.if_icmp .ne 7, 3) := by decide +kernel
theorem dX10_bookIs_36 : decode cX10_bookIs 36 = .ok (.iconst 1, 1) := by decide +kernel
theorem dX10_bookIs_37 : decode cX10_bookIs 37 = .ok (.goto 5, 3) := by decide +kernel
theorem dX10_bookIs_40 : decode cX10_bookIs 40 = .ok (.bipush (-12), 2) := by decide +kernel
theorem dX10_bookIs_42 : decode cX10_bookIs 42 = .ok (.ireturn, 1) := by decide +kernel
theorem dX10_isSo_0 : decode cX10_isSo 0 = .ok (.lload_n 1, 1) := by decide +kernel
theorem dX10_isSo_1 : decode cX10_isSo 1 = .ok (.lconst 0, 1) := by decide +kernel
theorem dX10_isSo_2 : decode cX10_isSo 2 = .ok (.aload_n 0, 1) := by decide +kernel
theorem dX10_isSo_3 : decode cX10_isSo 3 = .ok (.getfield 100, 3) := by decide +kernel
theorem dX10_isSo_6 : decode cX10_isSo 6 = .ok (.iconst 1, 1) := by decide +kernel
theorem dX10_isSo_7 : decode cX10_isSo 7 = .ok (.isub, 1) := by decide +kernel
theorem dX10_isSo_8 : decode cX10_isSo 8 = .ok (.i2l, 1) := by decide +kernel
theorem dX10_isSo_9 : decode cX10_isSo 9 = .ok (.invokestatic 103, 3) := by decide +kernel
theorem dX10_isSo_12 : decode cX10_isSo 12 = .ok (.ifCond .eq 24, 3) := by decide +kernel
theorem dX10_isSo_15 : decode cX10_isSo 15 = .ok (.lload_n 3, 1) := by decide +kernel
theorem dX10_isSo_16 : decode cX10_isSo 16 = .ok (.lconst 0, 1) := by decide +kernel
theorem dX10_isSo_17 : decode cX10_isSo 17 = .ok (.aload_n 0, 1) := by decide +kernel
theorem dX10_isSo_18 : decode cX10_isSo 18 = .ok (.getfield 100, 3) := by decide +kernel
theorem dX10_isSo_21 : decode cX10_isSo 21 = .ok (.iconst 1, 1) := by decide +kernel
theorem dX10_isSo_22 : decode cX10_isSo 22 = .ok (.isub, 1) := by decide +kernel
theorem dX10_isSo_23 : decode cX10_isSo 23 = .ok (.i2l, 1) := by decide +kernel
theorem dX10_isSo_24 : decode cX10_isSo 24 = .ok (.invokestatic 103, 3) := by decide +kernel
theorem dX10_isSo_27 : decode cX10_isSo 27 = .ok (.ifCond .eq 9, 3) := by decide +kernel
theorem dX10_isSo_30 : decode cX10_isSo 30 = .ok (.lload_n 1, 1) := by decide +kernel
theorem dX10_isSo_31 : decode cX10_isSo 31 = .ok (.lload_n 3, 1) := by decide +kernel
theorem dX10_isSo_32 : decode cX10_isSo 32 = .ok (.lcmp, 1) := by decide +kernel
theorem dX10_isSo_33 : decode cX10_isSo 33 = .ok (.ifCond .ne 5, 3) := by decide +kernel
theorem dX10_isSo_36 : decode cX10_isSo 36 = .ok (.iconst 0, 1) := by decide +kernel
theorem dX10_isSo_37 : decode cX10_isSo 37 = .ok (.ireturn, 1) := by decide +kernel
theorem dX10_isSo_38 : decode cX10_isSo 38 = .ok (.lload 5, 2) := by decide +kernel
theorem dX10_isSo_40 : decode cX10_isSo 40 = .ok (.ldc2_w 284, 3) := by decide +kernel
theorem dX10_isSo_43 : decode cX10_isSo 43 = .ok (.lcmp, 1) := by decide +kernel
theorem dX10_isSo_44 : decode cX10_isSo 44 = .ok (.ifCond .eq 18, 3) := by decide +kernel
theorem dX10_isSo_47 : decode cX10_isSo 47 = .ok (.lload 5, 2) := by decide +kernel
theorem dX10_isSo_49 : decode cX10_isSo 49 = .ok (.aload_n 0, 1) := by decide +kernel
theorem dX10_isSo_50 : decode cX10_isSo 50 = .ok (.lload_n 1, 1) := by decide +kernel
theorem dX10_isSo_51 : decode cX10_isSo 51 = .ok (.l2i, 1) := by decide +kernel
theorem dX10_isSo_52 : decode cX10_isSo 52 = .ok (.lload_n 3, 1) := by decide +kernel
theorem dX10_isSo_53 : decode cX10_isSo 53 = .ok (.l2i, 1) := by decide +kernel
theorem dX10_isSo_54 : decode cX10_isSo 54 = .ok (.invokevirtual 167, 3) := by decide +kernel
theorem dX10_isSo_57 : decode cX10_isSo 57 = .ok (.i2l, 1) := by decide +kernel
theorem dX10_isSo_58 : decode cX10_isSo 58 = .ok (.lcmp, 1) := by decide +kernel
theorem dX10_isSo_59 : decode cX10_isSo 59 = .ok (.ifCond .ne 7, 3) := by decide +kernel
theorem dX10_isSo_62 : decode cX10_isSo 62 = .ok (.iconst 1, 1) := by decide +kernel
theorem dX10_isSo_63 : decode cX10_isSo 63 = .ok (.goto 4, 3) := by decide +kernel
theorem dX10_isSo_66 : decode cX10_isSo 66 = .ok (.iconst 0, 1) := by decide +kernel
theorem dX10_isSo_67 : decode cX10_isSo 67 = .ok (.ireturn, 1) := by decide +kernel
theorem dX10_judge_0 : decode cX10_judge 0 = .ok (.aload_n 0, 1) := by decide +kernel
theorem dX10_judge_1 : decode cX10_judge 1 = .ok (.iload_n 1, 1) := by decide +kernel
theorem dX10_judge_2 : decode cX10_judge 2 = .ok (.invokevirtual 286, 3) := by decide +kernel
theorem dX10_judge_5 : decode cX10_judge 5 = .ok (.ifCond .ge 9, 3) := by decide +kernel
theorem dX10_judge_8 : decode cX10_judge 8 = .ok (.aload_n 0, 1) := by decide +kernel
theorem dX10_judge_9 : decode cX10_judge 9 = .ok (.iload_n 1, 1) := by decide +kernel
theorem dX10_judge_10 : decode cX10_judge 10 = .ok (.invokevirtual 286, 3) := by decide +kernel
theorem dX10_judge_13 : decode cX10_judge 13 = .ok (.ireturn, 1) := by decide +kernel
theorem dX10_judge_14 : decode cX10_judge 14 = .ok (.iconst 0, 1) := by decide +kernel
theorem dX10_judge_15 : decode cX10_judge 15 = .ok (.istore_n 2, 1) := by decide +kernel
theorem dX10_judge_16 : decode cX10_judge 16 = .ok (.iconst 3, 1) := by decide +kernel
theorem dX10_judge_17 : decode cX10_judge 17 = .ok (.iload_n 2, 1) := by decide +kernel
theorem dX10_judge_18 : decode cX10_judge 18 = .ok (.imul, 1) := by decide +kernel
theorem dX10_judge_19 : decode cX10_judge 19 = .ok (.aload_n 0, 1) := by decide +kernel
theorem dX10_judge_20 : decode cX10_judge 20 = .ok (.getfield 80, 3) := by decide +kernel
theorem dX10_judge_23 : decode cX10_judge 23 = .ok (.iload_n 1, 1) := by decide +kernel
theorem dX10_judge_24 : decode cX10_judge 24 = .ok (.iaload, 1) := by decide +kernel
theorem dX10_judge_25 : decode cX10_judge 25 = .ok (.if_icmp .ge 63, 3) := by decide +kernel
theorem dX10_judge_28 : decode cX10_judge 28 = .ok (.bipush 60, 2) := by decide +kernel
theorem dX10_judge_30 : decode cX10_judge 30 = .ok (.iload_n 1, 1) := by decide +kernel
theorem dX10_judge_31 : decode cX10_judge 31 = .ok (.imul, 1) := by decide +kernel
theorem dX10_judge_32 : decode cX10_judge 32 = .ok (.iconst 3, 1) := by decide +kernel
theorem dX10_judge_33 : decode cX10_judge 33 = .ok (.iload_n 2, 1) := by decide +kernel
theorem dX10_judge_34 : decode cX10_judge 34 = .ok (.imul, 1) := by decide +kernel
theorem dX10_judge_35 : decode cX10_judge 35 = .ok (.iadd, 1) := by decide +kernel
theorem dX10_judge_36 : decode cX10_judge 36 = .ok (.istore_n 3, 1) := by decide +kernel
theorem dX10_judge_37 : decode cX10_judge 37 = .ok (.iconst 3, 1) := by decide +kernel
theorem dX10_judge_38 : decode cX10_judge 38 = .ok (.iload_n 2, 1) := by decide +kernel
theorem dX10_judge_39 : decode cX10_judge 39 = .ok (.imul, 1) := by decide +kernel
theorem dX10_judge_40 : decode cX10_judge 40 = .ok (.iconst 2, 1) := by decide +kernel
theorem dX10_judge_41 : decode cX10_judge 41 = .ok (.iadd, 1) := by decide +kernel
theorem dX10_judge_42 : decode cX10_judge 42 = .ok (.aload_n 0, 1) := by decide +kernel
theorem dX10_judge_43 : decode cX10_judge 43 = .ok (.getfield 80, 3) := by decide +kernel
theorem dX10_judge_46 : decode cX10_judge 46 = .ok (.iload_n 1, 1) := by decide +kernel
theorem dX10_judge_47 : decode cX10_judge 47 = .ok (.iaload, 1) := by decide +kernel
theorem dX10_judge_48 : decode cX10_judge 48 = .ok (.if_icmp .ge 32, 3) := by decide +kernel
theorem dX10_judge_51 : decode cX10_judge 51 = .ok (.aload_n 0, 1) := by decide +kernel
theorem dX10_judge_52 : decode cX10_judge 52 = .ok (.aload_n 0, 1) := by decide +kernel
theorem dX10_judge_53 : decode cX10_judge 53 = .ok (.getfield 83, 3) := by decide +kernel
theorem dX10_judge_56 : decode cX10_judge 56 = .ok (.iload_n 3, 1) := by decide +kernel
theorem dX10_judge_57 : decode cX10_judge 57 = .ok (.laload, 1) := by decide +kernel
theorem dX10_judge_58 : decode cX10_judge 58 = .ok (.aload_n 0, 1) := by decide +kernel
theorem dX10_judge_59 : decode cX10_judge 59 = .ok (.getfield 83, 3) := by decide +kernel
theorem dX10_judge_62 : decode cX10_judge 62 = .ok (.iload_n 3, 1) := by decide +kernel
theorem dX10_judge_63 : decode cX10_judge 63 = .ok (.iconst 1, 1) := by decide +kernel
theorem dX10_judge_64 : decode cX10_judge 64 = .ok (.iadd, 1) := by decide +kernel
theorem dX10_judge_65 : decode cX10_judge 65 = .ok (.laload, 1) := by decide +kernel
theorem dX10_judge_66 : decode cX10_judge 66 = .ok (.aload_n 0, 1) := by decide +kernel
theorem dX10_judge_67 : decode cX10_judge 67 = .ok (.getfield 83, 3) := by decide +kernel
theorem dX10_judge_70 : decode cX10_judge 70 = .ok (.iload_n 3, 1) := by decide +kernel
theorem dX10_judge_71 : decode cX10_judge 71 = .ok (.iconst 2, 1) := by decide +kernel
theorem dX10_judge_72 : decode cX10_judge 72 = .ok (.iadd, 1) := by decide +kernel
theorem dX10_judge_73 : decode cX10_judge 73 = .ok (.laload, 1) := by decide +kernel
theorem dX10_judge_74 : decode cX10_judge 74 = .ok (.invokevirtual 289, 3) := by decide +kernel
theorem dX10_judge_77 : decode cX10_judge 77 = .ok (.ifCond .ne 5, 3) := by decide +kernel
theorem dX10_judge_80 : decode cX10_judge 80 = .ok (.iload_n 2, 1) := by decide +kernel
theorem dX10_judge_81 : decode cX10_judge 81 = .ok (.ireturn, 1) := by decide +kernel
theorem dX10_judge_82 : decode cX10_judge 82 = .ok (.iinc 2 1, 3) := by decide +kernel
theorem dX10_judge_85 : decode cX10_judge 85 = .ok (.goto (-69), 3) := by decide +kernel
theorem dX10_judge_88 : decode cX10_judge 88 = .ok (.bipush (-2), 2) := by decide +kernel
theorem dX10_judge_90 : decode cX10_judge 90 = .ok (.ireturn, 1) := by decide +kernel
theorem dX10_wet_0 : decode cX10_wet 0 = .ok (.aload_n 0, 1) := by decide +kernel
theorem dX10_wet_1 : decode cX10_wet 1 = .ok (.iload_n 2, 1) := by decide +kernel
theorem dX10_wet_2 : decode cX10_wet 2 = .ok (.invokevirtual 164, 3) := by decide +kernel
theorem dX10_wet_5 : decode cX10_wet 5 = .ok (.ifCond .eq 11, 3) := by decide +kernel
theorem dX10_wet_8 : decode cX10_wet 8 = .ok (.aload_n 0, 1) := by decide +kernel
theorem dX10_wet_9 : decode cX10_wet 9 = .ok (.iload_n 1, 1) := by decide +kernel
theorem dX10_wet_10 : decode cX10_wet 10 = .ok (.invokevirtual 286, 3) := by decide +kernel
theorem dX10_wet_13 : decode cX10_wet 13 = .ok (.ifCond .ge 6, 3) := by decide +kernel
theorem dX10_wet_16 : decode cX10_wet 16 = .ok (.ldc 149, 2) := by decide +kernel
theorem dX10_wet_18 : decode cX10_wet 18 = .ok (.ireturn, 1) := by decide +kernel
theorem dX10_wet_19 : decode cX10_wet 19 = .ok (.aload_n 0, 1) := by decide +kernel
theorem dX10_wet_20 : decode cX10_wet 20 = .ok (.iload_n 2, 1) := by decide +kernel
theorem dX10_wet_21 : decode cX10_wet 21 = .ok (.bipush 10, 2) := by decide +kernel
theorem dX10_wet_23 : decode cX10_wet 23 = .ok (.idiv, 1) := by decide +kernel
theorem dX10_wet_24 : decode cX10_wet 24 = .ok (.iload_n 2, 1) := by decide +kernel
theorem dX10_wet_25 : decode cX10_wet 25 = .ok (.bipush 10, 2) := by decide +kernel
theorem dX10_wet_27 : decode cX10_wet 27 = .ok (.irem, 1) := by decide +kernel
theorem dX10_wet_28 : decode cX10_wet 28 = .ok (.invokevirtual 167, 3) := by decide +kernel
theorem dX10_wet_31 : decode cX10_wet 31 = .ok (.istore_n 3, 1) := by decide +kernel
theorem dX10_wet_32 : decode cX10_wet 32 = .ok (.iconst 0, 1) := by decide +kernel
theorem dX10_wet_33 : decode cX10_wet 33 = .ok (.istore 4, 2) := by decide +kernel
theorem dX10_wet_35 : decode cX10_wet 35 = .ok (.iconst 3, 1) := by decide +kernel
theorem dX10_wet_36 : decode cX10_wet 36 = .ok (.iload 4, 2) := by decide +kernel
theorem dX10_wet_38 : decode cX10_wet 38 = .ok (.imul, 1) := by decide +kernel
theorem dX10_wet_39 : decode cX10_wet 39 = .ok (.iconst 2, 1) := by decide +kernel
theorem dX10_wet_40 : decode cX10_wet 40 = .ok (.iadd, 1) := by decide +kernel
theorem dX10_wet_41 : decode cX10_wet 41 = .ok (.aload_n 0, 1) := by decide +kernel
theorem dX10_wet_42 : decode cX10_wet 42 = .ok (.getfield 80, 3) := by decide +kernel
theorem dX10_wet_45 : decode cX10_wet 45 = .ok (.iload_n 1, 1) := by decide +kernel
theorem dX10_wet_46 : decode cX10_wet 46 = .ok (.iaload, 1) := by decide +kernel
theorem dX10_wet_47 : decode cX10_wet 47 = .ok (.if_icmp .ge 99, 3) := by decide +kernel
theorem dX10_wet_50 : decode cX10_wet 50 = .ok (.bipush 60, 2) := by decide +kernel
theorem dX10_wet_52 : decode cX10_wet 52 = .ok (.iload_n 1, 1) := by decide +kernel
theorem dX10_wet_53 : decode cX10_wet 53 = .ok (.imul, 1) := by decide +kernel
theorem dX10_wet_54 : decode cX10_wet 54 = .ok (.iconst 3, 1) := by decide +kernel
theorem dX10_wet_55 : decode cX10_wet 55 = .ok (.iload 4, 2) := by decide +kernel
theorem dX10_wet_57 : decode cX10_wet 57 = .ok (.imul, 1) := by decide +kernel
theorem dX10_wet_58 : decode cX10_wet 58 = .ok (.iadd, 1) := by decide +kernel
theorem dX10_wet_59 : decode cX10_wet 59 = .ok (.istore 5, 2) := by decide +kernel
theorem dX10_wet_61 : decode cX10_wet 61 = .ok (.aload_n 0, 1) := by decide +kernel
theorem dX10_wet_62 : decode cX10_wet 62 = .ok (.getfield 83, 3) := by decide +kernel
theorem dX10_wet_65 : decode cX10_wet 65 = .ok (.iload 5, 2) := by decide +kernel
theorem dX10_wet_67 : decode cX10_wet 67 = .ok (.laload, 1) := by decide +kernel
theorem dX10_wet_68 : decode cX10_wet 68 = .ok (.iload_n 2, 1) := by decide +kernel
theorem dX10_wet_69 : decode cX10_wet 69 = .ok (.bipush 10, 2) := by decide +kernel
theorem dX10_wet_71 : decode cX10_wet 71 = .ok (.idiv, 1) := by decide +kernel
theorem dX10_wet_72 : decode cX10_wet 72 = .ok (.i2l, 1) := by decide +kernel
theorem dX10_wet_73 : decode cX10_wet 73 = .ok (.lcmp, 1) := by decide +kernel
theorem dX10_wet_74 : decode cX10_wet 74 = .ok (.ifCond .ne 41, 3) := by decide +kernel
theorem dX10_wet_77 : decode cX10_wet 77 = .ok (.aload_n 0, 1) := by decide +kernel
theorem dX10_wet_78 : decode cX10_wet 78 = .ok (.getfield 83, 3) := by decide +kernel
theorem dX10_wet_81 : decode cX10_wet 81 = .ok (.iload 5, 2) := by decide +kernel
theorem dX10_wet_83 : decode cX10_wet 83 = .ok (.iconst 1, 1) := by decide +kernel
theorem dX10_wet_84 : decode cX10_wet 84 = .ok (.iadd, 1) := by decide +kernel
theorem dX10_wet_85 : decode cX10_wet 85 = .ok (.laload, 1) := by decide +kernel
theorem dX10_wet_86 : decode cX10_wet 86 = .ok (.iload_n 2, 1) := by decide +kernel
theorem dX10_wet_87 : decode cX10_wet 87 = .ok (.bipush 10, 2) := by decide +kernel
theorem dX10_wet_89 : decode cX10_wet 89 = .ok (.irem, 1) := by decide +kernel
theorem dX10_wet_90 : decode cX10_wet 90 = .ok (.i2l, 1) := by decide +kernel
theorem dX10_wet_91 : decode cX10_wet 91 = .ok (.lcmp, 1) := by decide +kernel
theorem dX10_wet_92 : decode cX10_wet 92 = .ok (.ifCond .ne 23, 3) := by decide +kernel
theorem dX10_wet_95 : decode cX10_wet 95 = .ok (.aload_n 0, 1) := by decide +kernel
theorem dX10_wet_96 : decode cX10_wet 96 = .ok (.getfield 83, 3) := by decide +kernel
theorem dX10_wet_99 : decode cX10_wet 99 = .ok (.iload 5, 2) := by decide +kernel
theorem dX10_wet_101 : decode cX10_wet 101 = .ok (.iconst 2, 1) := by decide +kernel
theorem dX10_wet_102 : decode cX10_wet 102 = .ok (.iadd, 1) := by decide +kernel
theorem dX10_wet_103 : decode cX10_wet 103 = .ok (.laload, 1) := by decide +kernel
theorem dX10_wet_104 : decode cX10_wet 104 = .ok (.ldc2_w 284, 3) := by decide +kernel
theorem dX10_wet_107 : decode cX10_wet 107 = .ok (.lcmp, 1) := by decide +kernel
theorem dX10_wet_108 : decode cX10_wet 108 = .ok (.ifCond .eq 7, 3) := by decide +kernel
theorem dX10_wet_111 : decode cX10_wet 111 = .ok (.iconst 1, 1) := by decide +kernel
theorem dX10_wet_112 : decode cX10_wet 112 = .ok (.goto 4, 3) := by decide +kernel
theorem dX10_wet_115 : decode cX10_wet 115 = .ok (.iconst 0, 1) := by decide +kernel
theorem dX10_wet_116 : decode cX10_wet 116 = .ok (.istore 6, 2) := by decide +kernel
theorem dX10_wet_118 : decode cX10_wet 118 = .ok (.iload_n 3, 1) := by decide +kernel
theorem dX10_wet_119 : decode cX10_wet 119 = .ok (.iload 6, 2) := by decide +kernel
theorem dX10_wet_121 : decode cX10_wet 121 = .ok (.ifCond .eq 16, 3) := by decide +kernel
theorem dX10_wet_124 : decode cX10_wet 124 = .ok (.aload_n 0, 1) := by decide +kernel
theorem dX10_wet_125 : decode cX10_wet 125 = .ok (.getfield 83, 3) := by decide +kernel
theorem dX10_wet_128 : decode cX10_wet 128 = .ok (.iload 5, 2) := by decide +kernel
theorem dX10_wet_130 : decode cX10_wet 130 = .ok (.iconst 2, 1) := by decide +kernel
theorem dX10_wet_131 : decode cX10_wet 131 = .ok (.iadd, 1) := by decide +kernel
theorem dX10_wet_132 : decode cX10_wet 132 = .ok (.laload, 1) := by decide +kernel
theorem dX10_wet_133 : decode cX10_wet 133 = .ok (.l2i, 1) := by decide +kernel
theorem dX10_wet_134 : decode cX10_wet 134 = .ok (.goto 4, 3) := by decide +kernel
theorem dX10_wet_137 : decode cX10_wet 137 = .ok (.iconst 0, 1) := by decide +kernel
theorem dX10_wet_138 : decode cX10_wet 138 = .ok (.isub, 1) := by decide +kernel
theorem dX10_wet_139 : decode cX10_wet 139 = .ok (.istore_n 3, 1) := by decide +kernel
theorem dX10_wet_140 : decode cX10_wet 140 = .ok (.iinc 4 1, 3) := by decide +kernel
theorem dX10_wet_143 : decode cX10_wet 143 = .ok (.goto (-108), 3) := by decide +kernel
theorem dX10_wet_146 : decode cX10_wet 146 = .ok (.iload_n 3, 1) := by decide +kernel
theorem dX10_wet_147 : decode cX10_wet 147 = .ok (.ireturn, 1) := by decide +kernel
theorem dX10_copies_0 : decode cX10_copies 0 = .ok (.iconst 0, 1) := by decide +kernel
theorem dX10_copies_1 : decode cX10_copies 1 = .ok (.istore_n 2, 1) := by decide +kernel
theorem dX10_copies_2 : decode cX10_copies 2 = .ok (.iload_n 2, 1) := by decide +kernel
theorem dX10_copies_3 : decode cX10_copies 3 = .ok (.aload_n 0, 1) := by decide +kernel
theorem dX10_copies_4 : decode cX10_copies 4 = .ok (.arraylength, 1) := by decide +kernel
theorem dX10_copies_5 : decode cX10_copies 5 = .ok (.if_icmp .ge 15, 3) := by decide +kernel
theorem dX10_copies_8 : decode cX10_copies 8 = .ok (.aload_n 1, 1) := by decide +kernel
theorem dX10_copies_9 : decode cX10_copies 9 = .ok (.iload_n 2, 1) := by decide +kernel
theorem dX10_copies_10 : decode cX10_copies 10 = .ok (.aload_n 0, 1) := by decide +kernel
theorem dX10_copies_11 : decode cX10_copies 11 = .ok (.iload_n 2, 1) := by decide +kernel
theorem dX10_copies_12 : decode cX10_copies 12 = .ok (.iaload, 1) := by decide +kernel
theorem dX10_copies_13 : decode cX10_copies 13 = .ok (.iastore, 1) := by decide +kernel
theorem dX10_copies_14 : decode cX10_copies 14 = .ok (.iinc 2 1, 3) := by decide +kernel
theorem dX10_copies_17 : decode cX10_copies 17 = .ok (.goto (-15), 3) := by decide +kernel
theorem dX10_copies_20 : decode cX10_copies 20 = .ok (.return_, 1) := by decide +kernel
theorem dX10_image_0 : decode cX10_image 0 = .ok (.aload_n 0, 1) := by decide +kernel
theorem dX10_image_1 : decode cX10_image 1 = .ok (.iconst 1, 1) := by decide +kernel
theorem dX10_image_2 : decode cX10_image 2 = .ok (.putfield 292, 3) := by decide +kernel
theorem dX10_image_5 : decode cX10_image 5 = .ok (.aload_n 0, 1) := by decide +kernel
theorem dX10_image_6 : decode cX10_image 6 = .ok (.aload_n 0, 1) := by decide +kernel
theorem dX10_image_7 : decode cX10_image 7 = .ok (.getfield 111, 3) := by decide +kernel
theorem dX10_image_10 : decode cX10_image 10 = .ok (.putfield 296, 3) := by decide +kernel
theorem dX10_image_13 : decode cX10_image 13 = .ok (.aload_n 0, 1) := by decide +kernel
theorem dX10_image_14 : decode cX10_image 14 = .ok (.aload_n 0, 1) := by decide +kernel
theorem dX10_image_15 : decode cX10_image 15 = .ok (.getfield 161, 3) := by decide +kernel
theorem dX10_image_18 : decode cX10_image 18 = .ok (.putfield 299, 3) := by decide +kernel
theorem dX10_image_21 : decode cX10_image 21 = .ok (.aload_n 0, 1) := by decide +kernel
theorem dX10_image_22 : decode cX10_image 22 = .ok (.aload_n 0, 1) := by decide +kernel
theorem dX10_image_23 : decode cX10_image 23 = .ok (.getfield 231, 3) := by decide +kernel
theorem dX10_image_26 : decode cX10_image 26 = .ok (.putfield 302, 3) := by decide +kernel
theorem dX10_image_29 : decode cX10_image 29 = .ok (.aload_n 0, 1) := by decide +kernel
theorem dX10_image_30 : decode cX10_image 30 = .ok (.getfield 22, 3) := by decide +kernel
theorem dX10_image_33 : decode cX10_image 33 = .ok (.aload_n 0, 1) := by decide +kernel
theorem dX10_image_34 : decode cX10_image 34 = .ok (.getfield 56, 3) := by decide +kernel
theorem dX10_image_37 : decode cX10_image 37 = .ok (.invokestatic 305, 3) := by decide +kernel
theorem dX10_image_40 : decode cX10_image 40 = .ok (.aload_n 0, 1) := by decide +kernel
theorem dX10_image_41 : decode cX10_image 41 = .ok (.getfield 34, 3) := by decide +kernel
theorem dX10_image_44 : decode cX10_image 44 = .ok (.aload_n 0, 1) := by decide +kernel
theorem dX10_image_45 : decode cX10_image 45 = .ok (.getfield 59, 3) := by decide +kernel
theorem dX10_image_48 : decode cX10_image 48 = .ok (.invokestatic 305, 3) := by decide +kernel
theorem dX10_image_51 : decode cX10_image 51 = .ok (.aload_n 0, 1) := by decide +kernel
theorem dX10_image_52 : decode cX10_image 52 = .ok (.getfield 37, 3) := by decide +kernel
theorem dX10_image_55 : decode cX10_image 55 = .ok (.aload_n 0, 1) := by decide +kernel
theorem dX10_image_56 : decode cX10_image 56 = .ok (.getfield 62, 3) := by decide +kernel
theorem dX10_image_59 : decode cX10_image 59 = .ok (.invokestatic 305, 3) := by decide +kernel
theorem dX10_image_62 : decode cX10_image 62 = .ok (.aload_n 0, 1) := by decide +kernel
theorem dX10_image_63 : decode cX10_image 63 = .ok (.getfield 40, 3) := by decide +kernel
theorem dX10_image_66 : decode cX10_image 66 = .ok (.aload_n 0, 1) := by decide +kernel
theorem dX10_image_67 : decode cX10_image 67 = .ok (.getfield 65, 3) := by decide +kernel
theorem dX10_image_70 : decode cX10_image 70 = .ok (.invokestatic 305, 3) := by decide +kernel
theorem dX10_image_73 : decode cX10_image 73 = .ok (.aload_n 0, 1) := by decide +kernel
theorem dX10_image_74 : decode cX10_image 74 = .ok (.getfield 43, 3) := by decide +kernel
theorem dX10_image_77 : decode cX10_image 77 = .ok (.aload_n 0, 1) := by decide +kernel
theorem dX10_image_78 : decode cX10_image 78 = .ok (.getfield 68, 3) := by decide +kernel
theorem dX10_image_81 : decode cX10_image 81 = .ok (.invokestatic 305, 3) := by decide +kernel
theorem dX10_image_84 : decode cX10_image 84 = .ok (.aload_n 0, 1) := by decide +kernel
theorem dX10_image_85 : decode cX10_image 85 = .ok (.getfield 231, 3) := by decide +kernel
theorem dX10_image_88 : decode cX10_image 88 = .ok (.ireturn, 1) := by decide +kernel
theorem dX10_back_0 : decode cX10_back 0 = .ok (.aload_n 0, 1) := by decide +kernel
theorem dX10_back_1 : decode cX10_back 1 = .ok (.getfield 292, 3) := by decide +kernel
theorem dX10_back_4 : decode cX10_back 4 = .ok (.ifCond .ne 6, 3) := by decide +kernel
theorem dX10_back_7 : decode cX10_back 7 = .ok (.bipush (-5), 2) := by decide +kernel
theorem dX10_back_9 : decode cX10_back 9 = .ok (.ireturn, 1) := by decide +kernel
theorem dX10_back_10 : decode cX10_back 10 = .ok (.aload_n 0, 1) := by decide +kernel
theorem dX10_back_11 : decode cX10_back 11 = .ok (.aload_n 0, 1) := by decide +kernel
theorem dX10_back_12 : decode cX10_back 12 = .ok (.getfield 296, 3) := by decide +kernel
theorem dX10_back_15 : decode cX10_back 15 = .ok (.putfield 111, 3) := by decide +kernel
theorem dX10_back_18 : decode cX10_back 18 = .ok (.aload_n 0, 1) := by decide +kernel
theorem dX10_back_19 : decode cX10_back 19 = .ok (.aload_n 0, 1) := by decide +kernel
theorem dX10_back_20 : decode cX10_back 20 = .ok (.getfield 299, 3) := by decide +kernel
theorem dX10_back_23 : decode cX10_back 23 = .ok (.putfield 161, 3) := by decide +kernel
theorem dX10_back_26 : decode cX10_back 26 = .ok (.aload_n 0, 1) := by decide +kernel
theorem dX10_back_27 : decode cX10_back 27 = .ok (.aload_n 0, 1) := by decide +kernel
theorem dX10_back_28 : decode cX10_back 28 = .ok (.getfield 302, 3) := by decide +kernel
theorem dX10_back_31 : decode cX10_back 31 = .ok (.putfield 231, 3) := by decide +kernel
theorem dX10_back_34 : decode cX10_back 34 = .ok (.aload_n 0, 1) := by decide +kernel
theorem dX10_back_35 : decode cX10_back 35 = .ok (.getfield 56, 3) := by decide +kernel
theorem dX10_back_38 : decode cX10_back 38 = .ok (.aload_n 0, 1) := by decide +kernel
theorem dX10_back_39 : decode cX10_back 39 = .ok (.getfield 22, 3) := by decide +kernel
theorem dX10_back_42 : decode cX10_back 42 = .ok (.invokestatic 305, 3) := by decide +kernel
theorem dX10_back_45 : decode cX10_back 45 = .ok (.aload_n 0, 1) := by decide +kernel
theorem dX10_back_46 : decode cX10_back 46 = .ok (.getfield 59, 3) := by decide +kernel
theorem dX10_back_49 : decode cX10_back 49 = .ok (.aload_n 0, 1) := by decide +kernel
theorem dX10_back_50 : decode cX10_back 50 = .ok (.getfield 34, 3) := by decide +kernel
theorem dX10_back_53 : decode cX10_back 53 = .ok (.invokestatic 305, 3) := by decide +kernel
theorem dX10_back_56 : decode cX10_back 56 = .ok (.aload_n 0, 1) := by decide +kernel
theorem dX10_back_57 : decode cX10_back 57 = .ok (.getfield 62, 3) := by decide +kernel
theorem dX10_back_60 : decode cX10_back 60 = .ok (.aload_n 0, 1) := by decide +kernel
theorem dX10_back_61 : decode cX10_back 61 = .ok (.getfield 37, 3) := by decide +kernel
theorem dX10_back_64 : decode cX10_back 64 = .ok (.invokestatic 305, 3) := by decide +kernel
theorem dX10_back_67 : decode cX10_back 67 = .ok (.aload_n 0, 1) := by decide +kernel
theorem dX10_back_68 : decode cX10_back 68 = .ok (.getfield 65, 3) := by decide +kernel
theorem dX10_back_71 : decode cX10_back 71 = .ok (.aload_n 0, 1) := by decide +kernel
theorem dX10_back_72 : decode cX10_back 72 = .ok (.getfield 40, 3) := by decide +kernel
theorem dX10_back_75 : decode cX10_back 75 = .ok (.invokestatic 305, 3) := by decide +kernel
theorem dX10_back_78 : decode cX10_back 78 = .ok (.aload_n 0, 1) := by decide +kernel
theorem dX10_back_79 : decode cX10_back 79 = .ok (.getfield 68, 3) := by decide +kernel
theorem dX10_back_82 : decode cX10_back 82 = .ok (.aload_n 0, 1) := by decide +kernel
theorem dX10_back_83 : decode cX10_back 83 = .ok (.getfield 43, 3) := by decide +kernel
theorem dX10_back_86 : decode cX10_back 86 = .ok (.invokestatic 305, 3) := by decide +kernel
theorem dX10_back_89 : decode cX10_back 89 = .ok (.aload_n 0, 1) := by decide +kernel
theorem dX10_back_90 : decode cX10_back 90 = .ok (.getfield 231, 3) := by decide +kernel
theorem dX10_back_93 : decode cX10_back 93 = .ok (.ireturn, 1) := by decide +kernel
theorem dX10_openMany_0 : decode cX10_openMany 0 = .ok (.iconst 0, 1) := by decide +kernel
theorem dX10_openMany_1 : decode cX10_openMany 1 = .ok (.istore_n 1, 1) := by decide +kernel
theorem dX10_openMany_2 : decode cX10_openMany 2 = .ok (.iconst 0, 1) := by decide +kernel
theorem dX10_openMany_3 : decode cX10_openMany 3 = .ok (.istore_n 2, 1) := by decide +kernel
theorem dX10_openMany_4 : decode cX10_openMany 4 = .ok (.iload_n 2, 1) := by decide +kernel
theorem dX10_openMany_5 : decode cX10_openMany 5 = .ok (.aload_n 0, 1) := by decide +kernel
theorem dX10_openMany_6 : decode cX10_openMany 6 = .ok (.getfield 111, 3) := by decide +kernel
theorem dX10_openMany_9 : decode cX10_openMany 9 = .ok (.if_icmp .ge 25, 3) := by decide +kernel
theorem dX10_openMany_12 : decode cX10_openMany 12 = .ok (.iload_n 1, 1) := by decide +kernel
theorem dX10_openMany_13 : decode cX10_openMany 13 = .ok (.aload_n 0, 1) := by decide +kernel
theorem dX10_openMany_14 : decode cX10_openMany 14 = .ok (.iload_n 2, 1) := by decide +kernel
theorem dX10_openMany_15 : decode cX10_openMany 15 = .ok (.invokevirtual 240, 3) := by decide +kernel
theorem dX10_openMany_18 : decode cX10_openMany 18 = .ok (.ifCond .eq 7, 3) := by decide +kernel
theorem dX10_openMany_21 : decode cX10_openMany 21 = .ok (.iconst 1, 1) := by decide +kernel
theorem dX10_openMany_22 : decode cX10_openMany 22 = .ok (.goto 4, 3) := by decide +kernel
theorem dX10_openMany_25 : decode cX10_openMany 25 = .ok (.iconst 0, 1) := by decide +kernel
theorem dX10_openMany_26 : decode cX10_openMany 26 = .ok (.iadd, 1) := by decide +kernel
theorem dX10_openMany_27 : decode cX10_openMany 27 = .ok (.istore_n 1, 1) := by decide +kernel
theorem dX10_openMany_28 : decode cX10_openMany 28 = .ok (.iinc 2 1, 3) := by decide +kernel
theorem dX10_openMany_31 : decode cX10_openMany 31 = .ok (.goto (-27), 3) := by decide +kernel
theorem dX10_openMany_34 : decode cX10_openMany 34 = .ok (.iload_n 1, 1) := by decide +kernel
theorem dX10_openMany_35 : decode cX10_openMany 35 = .ok (.ireturn, 1) := by decide +kernel
theorem dX10_isBody_0 : decode cX10_isBody 0 = .ok (.iload_n 1, 1) := by decide +kernel
theorem dX10_isBody_1 : decode cX10_isBody 1 = .ok (.i2l, 1) := by decide +kernel
theorem dX10_isBody_2 : decode cX10_isBody 2 = .ok (.lconst 0, 1) := by decide +kernel
theorem dX10_isBody_3 : decode cX10_isBody 3 = .ok (.aload_n 0, 1) := by decide +kernel
theorem dX10_isBody_4 : decode cX10_isBody 4 = .ok (.getfield 309, 3) := by decide +kernel
theorem dX10_isBody_7 : decode cX10_isBody 7 = .ok (.iconst 1, 1) := by decide +kernel
theorem dX10_isBody_8 : decode cX10_isBody 8 = .ok (.isub, 1) := by decide +kernel
theorem dX10_isBody_9 : decode cX10_isBody 9 = .ok (.i2l, 1) := by decide +kernel
theorem dX10_isBody_10 : decode cX10_isBody 10 = .ok (.invokestatic 103, 3) := by decide +kernel
theorem dX10_isBody_13 : decode cX10_isBody 13 = .ok (.ireturn, 1) := by decide +kernel
theorem dX10_kindOf_0 : decode cX10_kindOf 0 = .ok (.aload_n 0, 1) := by decide +kernel
theorem dX10_kindOf_1 : decode cX10_kindOf 1 = .ok (.getfield 71, 3) := by decide +kernel
theorem dX10_kindOf_4 : decode cX10_kindOf 4 = .ok (.iload_n 1, 1) := by decide +kernel
theorem dX10_kindOf_5 : decode cX10_kindOf 5 = .ok (.iaload, 1) := by decide +kernel
theorem dX10_kindOf_6 : decode cX10_kindOf 6 = .ok (.ireturn, 1) := by decide +kernel
theorem dX10_body_0 : decode cX10_body 0 = .ok (.iload_n 1, 1) := by decide +kernel
theorem dX10_body_1 : decode cX10_body 1 = .ok (.i2l, 1) := by decide +kernel
theorem dX10_body_2 : decode cX10_body 2 = .ok (.lconst 0, 1) := by decide +kernel
theorem dX10_body_3 : decode cX10_body 3 = .ok (.ldc2_w 312, 3) := by decide +kernel
theorem dX10_body_6 : decode cX10_body 6 = .ok (.invokestatic 103, 3) := by decide +kernel
theorem dX10_body_9 : decode cX10_body 9 = .ok (.ifCond .ne 5, 3) := by decide +kernel
theorem dX10_body_12 : decode cX10_body 12 = .ok (.iconst (-1), 1) := by decide +kernel
theorem dX10_body_13 : decode cX10_body 13 = .ok (.ireturn, 1) := by decide +kernel
theorem dX10_body_14 : decode cX10_body 14 = .ok (.aload_n 0, 1) := by decide +kernel
theorem dX10_body_15 : decode cX10_body 15 = .ok (.getfield 309, 3) := by decide +kernel
theorem dX10_body_18 : decode cX10_body 18 = .ok (.bipush 50, 2) := by decide +kernel
theorem dX10_body_20 : decode cX10_body 20 = .ok (.if_icmp .ne 6, 3) := by decide +kernel
theorem dX10_body_23 : decode cX10_body 23 = .ok (.bipush (-3), 2) := by decide +kernel
theorem dX10_body_25 : decode cX10_body 25 = .ok (.ireturn, 1) := by decide +kernel
theorem dX10_body_26 : decode cX10_body 26 = .ok (.aload_n 0, 1) := by decide +kernel
theorem dX10_body_27 : decode cX10_body 27 = .ok (.getfield 71, 3) := by decide +kernel
theorem dX10_body_30 : decode cX10_body 30 = .ok (.aload_n 0, 1) := by decide +kernel
theorem dX10_body_31 : decode cX10_body 31 = .ok (.getfield 309, 3) := by decide +kernel
theorem dX10_body_34 : decode cX10_body 34 = .ok (.iload_n 1, 1) := by decide +kernel
theorem dX10_body_35 : decode cX10_body 35 = .ok (.iastore, 1) := by decide +kernel
theorem dX10_body_36 : decode cX10_body 36 = .ok (.aload_n 0, 1) := by decide +kernel
theorem dX10_body_37 : decode cX10_body 37 = .ok (.dup, 1) := by decide +kernel
theorem dX10_body_38 : decode cX10_body 38 = .ok (.getfield 309, 3) := by decide +kernel
theorem dX10_body_41 : decode cX10_body 41 = .ok (.iconst 1, 1) := by decide +kernel
theorem dX10_body_42 : decode cX10_body 42 = .ok (.iadd, 1) := by decide +kernel
theorem dX10_body_43 : decode cX10_body 43 = .ok (.putfield 309, 3) := by decide +kernel
theorem dX10_body_46 : decode cX10_body 46 = .ok (.aload_n 0, 1) := by decide +kernel
theorem dX10_body_47 : decode cX10_body 47 = .ok (.getfield 309, 3) := by decide +kernel
theorem dX10_body_50 : decode cX10_body 50 = .ok (.iconst 1, 1) := by decide +kernel
theorem dX10_body_51 : decode cX10_body 51 = .ok (.isub, 1) := by decide +kernel
theorem dX10_body_52 : decode cX10_body 52 = .ok (.ireturn, 1) := by decide +kernel
theorem dX10_above_0 : decode cX10_above 0 = .ok (.iload_n 0, 1) := by decide +kernel
theorem dX10_above_1 : decode cX10_above 1 = .ok (.iconst 3, 1) := by decide +kernel
theorem dX10_above_2 : decode cX10_above 2 = .ok (.if_icmp .ne 7, 3) := by decide +kernel
theorem dX10_above_5 : decode cX10_above 5 = .ok (.iconst 2, 1) := by decide +kernel
theorem dX10_above_6 : decode cX10_above 6 = .ok (.goto 32, 3) := by decide +kernel
theorem dX10_above_9 : decode cX10_above 9 = .ok (.iload_n 0, 1) := by decide +kernel
theorem dX10_above_10 : decode cX10_above 10 = .ok (.iconst 4, 1) := by decide +kernel
theorem dX10_above_11 : decode cX10_above 11 = .ok (.if_icmp .ne 7, 3) := by decide +kernel
theorem dX10_above_14 : decode cX10_above 14 = .ok (.iconst 1, 1) := by decide +kernel
theorem dX10_above_15 : decode cX10_above 15 = .ok (.goto 23, 3) := by decide +kernel
theorem dX10_above_18 : decode cX10_above 18 = .ok (.iload_n 0, 1) := by decide +kernel
theorem dX10_above_19 : decode cX10_above 19 = .ok (.iconst 5, 1) := by decide +kernel
theorem dX10_above_20 : decode cX10_above 20 = .ok (.if_icmp .ne 7, 3) := by decide +kernel
theorem dX10_above_23 : decode cX10_above 23 = .ok (.iconst 3, 1) := by decide +kernel
theorem dX10_above_24 : decode cX10_above 24 = .ok (.goto 14, 3) := by decide +kernel
theorem dX10_above_27 : decode cX10_above 27 = .ok (.iload_n 0, 1) := by decide +kernel
theorem dX10_above_28 : decode cX10_above 28 = .ok (.bipush 7, 2) := by decide +kernel
theorem dX10_above_30 : decode cX10_above 30 = .ok (.if_icmp .ne 7, 3) := by decide +kernel
theorem dX10_above_33 : decode cX10_above 33 = .ok (.iconst 4, 1) := by decide +kernel
theorem dX10_above_34 : decode cX10_above 34 = .ok (.goto 4, 3) := by decide +kernel
theorem dX10_above_37 : decode cX10_above 37 = .ok (.iconst 0, 1) := by decide +kernel
theorem dX10_above_38 : decode cX10_above 38 = .ok (.ireturn, 1) := by decide +kernel
theorem dX10_begins_0 : decode cX10_begins 0 = .ok (.aload_n 0, 1) := by decide +kernel
theorem dX10_begins_1 : decode cX10_begins 1 = .ok (.getfield 314, 3) := by decide +kernel
theorem dX10_begins_4 : decode cX10_begins 4 = .ok (.bipush 24, 2) := by decide +kernel
theorem dX10_begins_6 : decode cX10_begins 6 = .ok (.if_icmp .ge 13, 3) := by decide +kernel
theorem dX10_begins_9 : decode cX10_begins 9 = .ok (.aload_n 0, 1) := by decide +kernel
theorem dX10_begins_10 : decode cX10_begins 10 = .ok (.getfield 74, 3) := by decide +kernel
theorem dX10_begins_13 : decode cX10_begins 13 = .ok (.aload_n 0, 1) := by decide +kernel
theorem dX10_begins_14 : decode cX10_begins 14 = .ok (.getfield 314, 3) := by decide +kernel
theorem dX10_begins_17 : decode cX10_begins 17 = .ok (.iload_n 1, 1) := by decide +kernel
theorem dX10_begins_18 : decode cX10_begins 18 = .ok (.iastore, 1) := by decide +kernel
theorem dX10_begins_19 : decode cX10_begins 19 = .ok (.aload_n 0, 1) := by decide +kernel
theorem dX10_begins_20 : decode cX10_begins 20 = .ok (.dup, 1) := by decide +kernel
theorem dX10_begins_21 : decode cX10_begins 21 = .ok (.getfield 314, 3) := by decide +kernel
theorem dX10_begins_24 : decode cX10_begins 24 = .ok (.iconst 1, 1) := by decide +kernel
theorem dX10_begins_25 : decode cX10_begins 25 = .ok (.iadd, 1) := by decide +kernel
theorem dX10_begins_26 : decode cX10_begins 26 = .ok (.putfield 314, 3) := by decide +kernel
theorem dX10_begins_29 : decode cX10_begins 29 = .ok (.return_, 1) := by decide +kernel
theorem dX10_owesAs_0 : decode cX10_owesAs 0 = .ok (.iload_n 1, 1) := by decide +kernel
theorem dX10_owesAs_1 : decode cX10_owesAs 1 = .ok (.iconst 1, 1) := by decide +kernel
theorem dX10_owesAs_2 : decode cX10_owesAs 2 = .ok (.if_icmp .eq 14, 3) := by decide +kernel
theorem dX10_owesAs_5 : decode cX10_owesAs 5 = .ok (.iload_n 1, 1) := by decide +kernel
theorem dX10_owesAs_6 : decode cX10_owesAs 6 = .ok (.iconst 4, 1) := by decide +kernel
theorem dX10_owesAs_7 : decode cX10_owesAs 7 = .ok (.if_icmp .eq 9, 3) := by decide +kernel
theorem dX10_owesAs_10 : decode cX10_owesAs 10 = .ok (.iload_n 1, 1) := by decide +kernel
theorem dX10_owesAs_11 : decode cX10_owesAs 11 = .ok (.bipush 7, 2) := by decide +kernel
theorem dX10_owesAs_13 : decode cX10_owesAs 13 = .ok (.if_icmp .ne 18, 3) := by decide +kernel
theorem dX10_owesAs_16 : decode cX10_owesAs 16 = .ok (.aload_n 0, 1) := by decide +kernel
theorem dX10_owesAs_17 : decode cX10_owesAs 17 = .ok (.bipush 20, 2) := by decide +kernel
theorem dX10_owesAs_19 : decode cX10_owesAs 19 = .ok (.invokevirtual 317, 3) := by decide +kernel
theorem dX10_owesAs_22 : decode cX10_owesAs 22 = .ok (.aload_n 0, 1) := by decide +kernel
theorem dX10_owesAs_23 : decode cX10_owesAs 23 = .ok (.iconst 0, 1) := by decide +kernel
theorem dX10_owesAs_24 : decode cX10_owesAs 24 = .ok (.iload_n 2, 1) := by decide +kernel
theorem dX10_owesAs_25 : decode cX10_owesAs 25 = .ok (.invokevirtual 321, 3) := by decide +kernel
theorem dX10_owesAs_28 : decode cX10_owesAs 28 = .ok (.iconst 3, 1) := by decide +kernel
theorem dX10_owesAs_29 : decode cX10_owesAs 29 = .ok (.iadd, 1) := by decide +kernel
theorem dX10_owesAs_30 : decode cX10_owesAs 30 = .ok (.ireturn, 1) := by decide +kernel
theorem dX10_owesAs_31 : decode cX10_owesAs 31 = .ok (.iload_n 1, 1) := by decide +kernel
theorem dX10_owesAs_32 : decode cX10_owesAs 32 = .ok (.bipush 6, 2) := by decide +kernel
theorem dX10_owesAs_34 : decode cX10_owesAs 34 = .ok (.if_icmp .ne 18, 3) := by decide +kernel
theorem dX10_owesAs_37 : decode cX10_owesAs 37 = .ok (.aload_n 0, 1) := by decide +kernel
theorem dX10_owesAs_38 : decode cX10_owesAs 38 = .ok (.bipush 70, 2) := by decide +kernel
theorem dX10_owesAs_40 : decode cX10_owesAs 40 = .ok (.invokevirtual 317, 3) := by decide +kernel
theorem dX10_owesAs_43 : decode cX10_owesAs 43 = .ok (.aload_n 0, 1) := by decide +kernel
theorem dX10_owesAs_44 : decode cX10_owesAs 44 = .ok (.iconst 0, 1) := by decide +kernel
theorem dX10_owesAs_45 : decode cX10_owesAs 45 = .ok (.iload_n 2, 1) := by decide +kernel
theorem dX10_owesAs_46 : decode cX10_owesAs 46 = .ok (.invokevirtual 321, 3) := by decide +kernel
theorem dX10_owesAs_49 : decode cX10_owesAs 49 = .ok (.iconst 2, 1) := by decide +kernel
theorem dX10_owesAs_50 : decode cX10_owesAs 50 = .ok (.imul, 1) := by decide +kernel
theorem dX10_owesAs_51 : decode cX10_owesAs 51 = .ok (.ireturn, 1) := by decide +kernel
theorem dX10_owesAs_52 : decode cX10_owesAs 52 = .ok (.aload_n 0, 1) := by decide +kernel
theorem dX10_owesAs_53 : decode cX10_owesAs 53 = .ok (.iconst 1, 1) := by decide +kernel
theorem dX10_owesAs_54 : decode cX10_owesAs 54 = .ok (.invokevirtual 317, 3) := by decide +kernel
theorem dX10_owesAs_57 : decode cX10_owesAs 57 = .ok (.iload_n 2, 1) := by decide +kernel
theorem dX10_owesAs_58 : decode cX10_owesAs 58 = .ok (.aload_n 0, 1) := by decide +kernel
theorem dX10_owesAs_59 : decode cX10_owesAs 59 = .ok (.getfield 324, 3) := by decide +kernel
theorem dX10_owesAs_62 : decode cX10_owesAs 62 = .ok (.iadd, 1) := by decide +kernel
theorem dX10_owesAs_63 : decode cX10_owesAs 63 = .ok (.ireturn, 1) := by decide +kernel
theorem dX10_worksAs_0 : decode cX10_worksAs 0 = .ok (.iload_n 1, 1) := by decide +kernel
theorem dX10_worksAs_1 : decode cX10_worksAs 1 = .ok (.iconst 3, 1) := by decide +kernel
theorem dX10_worksAs_2 : decode cX10_worksAs 2 = .ok (.if_icmp .eq 8, 3) := by decide +kernel
theorem dX10_worksAs_5 : decode cX10_worksAs 5 = .ok (.iload_n 1, 1) := by decide +kernel
theorem dX10_worksAs_6 : decode cX10_worksAs 6 = .ok (.iconst 5, 1) := by decide +kernel
theorem dX10_worksAs_7 : decode cX10_worksAs 7 = .ok (.if_icmp .ne 18, 3) := by decide +kernel
theorem dX10_worksAs_10 : decode cX10_worksAs 10 = .ok (.aload_n 0, 1) := by decide +kernel
theorem dX10_worksAs_11 : decode cX10_worksAs 11 = .ok (.bipush 41, 2) := by decide +kernel
theorem dX10_worksAs_13 : decode cX10_worksAs 13 = .ok (.invokevirtual 317, 3) := by decide +kernel
theorem dX10_worksAs_16 : decode cX10_worksAs 16 = .ok (.aload_n 0, 1) := by decide +kernel
theorem dX10_worksAs_17 : decode cX10_worksAs 17 = .ok (.iconst 2, 1) := by decide +kernel
theorem dX10_worksAs_18 : decode cX10_worksAs 18 = .ok (.iload_n 2, 1) := by decide +kernel
theorem dX10_worksAs_19 : decode cX10_worksAs 19 = .ok (.iconst 1, 1) := by decide +kernel
theorem dX10_worksAs_20 : decode cX10_worksAs 20 = .ok (.iadd, 1) := by decide +kernel
theorem dX10_worksAs_21 : decode cX10_worksAs 21 = .ok (.invokevirtual 327, 3) := by decide +kernel
theorem dX10_worksAs_24 : decode cX10_worksAs 24 = .ok (.ireturn, 1) := by decide +kernel
theorem dX10_worksAs_25 : decode cX10_worksAs 25 = .ok (.iload_n 1, 1) := by decide +kernel
theorem dX10_worksAs_26 : decode cX10_worksAs 26 = .ok (.iconst 2, 1) := by decide +kernel
theorem dX10_worksAs_27 : decode cX10_worksAs 27 = .ok (.if_icmp .ne 17, 3) := by decide +kernel
theorem dX10_worksAs_30 : decode cX10_worksAs 30 = .ok (.aload_n 0, 1) := by decide +kernel
theorem dX10_worksAs_31 : decode cX10_worksAs 31 = .ok (.bipush 30, 2) := by decide +kernel
theorem dX10_worksAs_33 : decode cX10_worksAs 33 = .ok (.invokevirtual 317, 3) := by decide +kernel
theorem dX10_worksAs_36 : decode cX10_worksAs 36 = .ok (.aload_n 0, 1) := by decide +kernel
theorem dX10_worksAs_37 : decode cX10_worksAs 37 = .ok (.iconst 0, 1) := by decide +kernel
theorem dX10_worksAs_38 : decode cX10_worksAs 38 = .ok (.iload_n 2, 1) := by decide +kernel
theorem dX10_worksAs_39 : decode cX10_worksAs 39 = .ok (.invokevirtual 327, 3) := by decide +kernel
theorem dX10_worksAs_42 : decode cX10_worksAs 42 = .ok (.ineg, 1) := by decide +kernel
theorem dX10_worksAs_43 : decode cX10_worksAs 43 = .ok (.ireturn, 1) := by decide +kernel
theorem dX10_worksAs_44 : decode cX10_worksAs 44 = .ok (.iload_n 1, 1) := by decide +kernel
theorem dX10_worksAs_45 : decode cX10_worksAs 45 = .ok (.bipush 7, 2) := by decide +kernel
theorem dX10_worksAs_47 : decode cX10_worksAs 47 = .ok (.if_icmp .ne 28, 3) := by decide +kernel
theorem dX10_worksAs_50 : decode cX10_worksAs 50 = .ok (.aload_n 0, 1) := by decide +kernel
theorem dX10_worksAs_51 : decode cX10_worksAs 51 = .ok (.bipush 80, 2) := by decide +kernel
theorem dX10_worksAs_53 : decode cX10_worksAs 53 = .ok (.invokevirtual 317, 3) := by decide +kernel
theorem dX10_worksAs_56 : decode cX10_worksAs 56 = .ok (.aload_n 0, 1) := by decide +kernel
theorem dX10_worksAs_57 : decode cX10_worksAs 57 = .ok (.iconst 4, 1) := by decide +kernel
theorem dX10_worksAs_58 : decode cX10_worksAs 58 = .ok (.iload_n 2, 1) := by decide +kernel
theorem dX10_worksAs_59 : decode cX10_worksAs 59 = .ok (.invokevirtual 327, 3) := by decide +kernel
theorem dX10_worksAs_62 : decode cX10_worksAs 62 = .ok (.istore_n 3, 1) := by decide +kernel
theorem dX10_worksAs_63 : decode cX10_worksAs 63 = .ok (.iload_n 3, 1) := by decide +kernel
theorem dX10_worksAs_64 : decode cX10_worksAs 64 = .ok (.aload_n 0, 1) := by decide +kernel
theorem dX10_worksAs_65 : decode cX10_worksAs 65 = .ok (.aload_n 0, 1) := by decide +kernel
theorem dX10_worksAs_66 : decode cX10_worksAs 66 = .ok (.getfield 330, 3) := by decide +kernel
theorem dX10_worksAs_69 : decode cX10_worksAs 69 = .ok (.iconst 2, 1) := by decide +kernel
theorem dX10_worksAs_70 : decode cX10_worksAs 70 = .ok (.invokevirtual 333, 3) := by decide +kernel
theorem dX10_worksAs_73 : decode cX10_worksAs 73 = .ok (.iadd, 1) := by decide +kernel
theorem dX10_worksAs_74 : decode cX10_worksAs 74 = .ok (.ireturn, 1) := by decide +kernel
theorem dX10_worksAs_75 : decode cX10_worksAs 75 = .ok (.aload_n 0, 1) := by decide +kernel
theorem dX10_worksAs_76 : decode cX10_worksAs 76 = .ok (.bipush 10, 2) := by decide +kernel
theorem dX10_worksAs_78 : decode cX10_worksAs 78 = .ok (.invokevirtual 317, 3) := by decide +kernel
theorem dX10_worksAs_81 : decode cX10_worksAs 81 = .ok (.aload_n 0, 1) := by decide +kernel
theorem dX10_worksAs_82 : decode cX10_worksAs 82 = .ok (.aload_n 0, 1) := by decide +kernel
theorem dX10_worksAs_83 : decode cX10_worksAs 83 = .ok (.getfield 330, 3) := by decide +kernel
theorem dX10_worksAs_86 : decode cX10_worksAs 86 = .ok (.iload_n 2, 1) := by decide +kernel
theorem dX10_worksAs_87 : decode cX10_worksAs 87 = .ok (.invokevirtual 321, 3) := by decide +kernel
theorem dX10_worksAs_90 : decode cX10_worksAs 90 = .ok (.iconst 2, 1) := by decide +kernel
theorem dX10_worksAs_91 : decode cX10_worksAs 91 = .ok (.imul, 1) := by decide +kernel
theorem dX10_worksAs_92 : decode cX10_worksAs 92 = .ok (.ireturn, 1) := by decide +kernel
theorem dX10_asksAs_0 : decode cX10_asksAs 0 = .ok (.iload_n 1, 1) := by decide +kernel
theorem dX10_asksAs_1 : decode cX10_asksAs 1 = .ok (.iconst 3, 1) := by decide +kernel
theorem dX10_asksAs_2 : decode cX10_asksAs 2 = .ok (.if_icmp .eq 8, 3) := by decide +kernel
theorem dX10_asksAs_5 : decode cX10_asksAs 5 = .ok (.iload_n 1, 1) := by decide +kernel
theorem dX10_asksAs_6 : decode cX10_asksAs 6 = .ok (.iconst 5, 1) := by decide +kernel
theorem dX10_asksAs_7 : decode cX10_asksAs 7 = .ok (.if_icmp .ne 18, 3) := by decide +kernel
theorem dX10_asksAs_10 : decode cX10_asksAs 10 = .ok (.aload_n 0, 1) := by decide +kernel
theorem dX10_asksAs_11 : decode cX10_asksAs 11 = .ok (.bipush 40, 2) := by decide +kernel
theorem dX10_asksAs_13 : decode cX10_asksAs 13 = .ok (.invokevirtual 317, 3) := by decide +kernel
theorem dX10_asksAs_16 : decode cX10_asksAs 16 = .ok (.aload_n 0, 1) := by decide +kernel
theorem dX10_asksAs_17 : decode cX10_asksAs 17 = .ok (.iconst 2, 1) := by decide +kernel
theorem dX10_asksAs_18 : decode cX10_asksAs 18 = .ok (.iload_n 2, 1) := by decide +kernel
theorem dX10_asksAs_19 : decode cX10_asksAs 19 = .ok (.invokevirtual 333, 3) := by decide +kernel
theorem dX10_asksAs_22 : decode cX10_asksAs 22 = .ok (.iconst 3, 1) := by decide +kernel
theorem dX10_asksAs_23 : decode cX10_asksAs 23 = .ok (.imul, 1) := by decide +kernel
theorem dX10_asksAs_24 : decode cX10_asksAs 24 = .ok (.ireturn, 1) := by decide +kernel
theorem dX10_asksAs_25 : decode cX10_asksAs 25 = .ok (.iload_n 1, 1) := by decide +kernel
theorem dX10_asksAs_26 : decode cX10_asksAs 26 = .ok (.iconst 4, 1) := by decide +kernel
theorem dX10_asksAs_27 : decode cX10_asksAs 27 = .ok (.if_icmp .eq 9, 3) := by decide +kernel
theorem dX10_asksAs_30 : decode cX10_asksAs 30 = .ok (.iload_n 1, 1) := by decide +kernel
theorem dX10_asksAs_31 : decode cX10_asksAs 31 = .ok (.bipush 7, 2) := by decide +kernel
theorem dX10_asksAs_33 : decode cX10_asksAs 33 = .ok (.if_icmp .ne 28, 3) := by decide +kernel
theorem dX10_asksAs_36 : decode cX10_asksAs 36 = .ok (.aload_n 0, 1) := by decide +kernel
theorem dX10_asksAs_37 : decode cX10_asksAs 37 = .ok (.bipush 50, 2) := by decide +kernel
theorem dX10_asksAs_39 : decode cX10_asksAs 39 = .ok (.invokevirtual 317, 3) := by decide +kernel
theorem dX10_asksAs_42 : decode cX10_asksAs 42 = .ok (.aload_n 0, 1) := by decide +kernel
theorem dX10_asksAs_43 : decode cX10_asksAs 43 = .ok (.iconst 1, 1) := by decide +kernel
theorem dX10_asksAs_44 : decode cX10_asksAs 44 = .ok (.iload_n 2, 1) := by decide +kernel
theorem dX10_asksAs_45 : decode cX10_asksAs 45 = .ok (.invokevirtual 333, 3) := by decide +kernel
theorem dX10_asksAs_48 : decode cX10_asksAs 48 = .ok (.istore_n 3, 1) := by decide +kernel
theorem dX10_asksAs_49 : decode cX10_asksAs 49 = .ok (.iload_n 3, 1) := by decide +kernel
theorem dX10_asksAs_50 : decode cX10_asksAs 50 = .ok (.aload_n 0, 1) := by decide +kernel
theorem dX10_asksAs_51 : decode cX10_asksAs 51 = .ok (.aload_n 0, 1) := by decide +kernel
theorem dX10_asksAs_52 : decode cX10_asksAs 52 = .ok (.getfield 330, 3) := by decide +kernel
theorem dX10_asksAs_55 : decode cX10_asksAs 55 = .ok (.iconst 2, 1) := by decide +kernel
theorem dX10_asksAs_56 : decode cX10_asksAs 56 = .ok (.invokevirtual 321, 3) := by decide +kernel
theorem dX10_asksAs_59 : decode cX10_asksAs 59 = .ok (.isub, 1) := by decide +kernel
theorem dX10_asksAs_60 : decode cX10_asksAs 60 = .ok (.ireturn, 1) := by decide +kernel
theorem dX10_asksAs_61 : decode cX10_asksAs 61 = .ok (.aload_n 0, 1) := by decide +kernel
theorem dX10_asksAs_62 : decode cX10_asksAs 62 = .ok (.bipush 11, 2) := by decide +kernel
theorem dX10_asksAs_64 : decode cX10_asksAs 64 = .ok (.invokevirtual 317, 3) := by decide +kernel
theorem dX10_asksAs_67 : decode cX10_asksAs 67 = .ok (.iload_n 2, 1) := by decide +kernel
theorem dX10_asksAs_68 : decode cX10_asksAs 68 = .ok (.aload_n 0, 1) := by decide +kernel
theorem dX10_asksAs_69 : decode cX10_asksAs 69 = .ok (.getfield 324, 3) := by decide +kernel
theorem dX10_asksAs_72 : decode cX10_asksAs 72 = .ok (.ixor, 1) := by decide +kernel
theorem dX10_asksAs_73 : decode cX10_asksAs 73 = .ok (.ireturn, 1) := by decide +kernel
theorem dX10_tellsAs_0 : decode cX10_tellsAs 0 = .ok (.iload_n 1, 1) := by decide +kernel
theorem dX10_tellsAs_1 : decode cX10_tellsAs 1 = .ok (.iconst 5, 1) := by decide +kernel
theorem dX10_tellsAs_2 : decode cX10_tellsAs 2 = .ok (.if_icmp .ne 18, 3) := by decide +kernel
theorem dX10_tellsAs_5 : decode cX10_tellsAs 5 = .ok (.aload_n 0, 1) := by decide +kernel
theorem dX10_tellsAs_6 : decode cX10_tellsAs 6 = .ok (.bipush 60, 2) := by decide +kernel
theorem dX10_tellsAs_8 : decode cX10_tellsAs 8 = .ok (.invokevirtual 317, 3) := by decide +kernel
theorem dX10_tellsAs_11 : decode cX10_tellsAs 11 = .ok (.aload_n 0, 1) := by decide +kernel
theorem dX10_tellsAs_12 : decode cX10_tellsAs 12 = .ok (.iconst 3, 1) := by decide +kernel
theorem dX10_tellsAs_13 : decode cX10_tellsAs 13 = .ok (.iload_n 2, 1) := by decide +kernel
theorem dX10_tellsAs_14 : decode cX10_tellsAs 14 = .ok (.invokevirtual 336, 3) := by decide +kernel
theorem dX10_tellsAs_17 : decode cX10_tellsAs 17 = .ok (.iconst 5, 1) := by decide +kernel
theorem dX10_tellsAs_18 : decode cX10_tellsAs 18 = .ok (.ixor, 1) := by decide +kernel
theorem dX10_tellsAs_19 : decode cX10_tellsAs 19 = .ok (.ireturn, 1) := by decide +kernel
theorem dX10_tellsAs_20 : decode cX10_tellsAs 20 = .ok (.iload_n 1, 1) := by decide +kernel
theorem dX10_tellsAs_21 : decode cX10_tellsAs 21 = .ok (.bipush 7, 2) := by decide +kernel
theorem dX10_tellsAs_23 : decode cX10_tellsAs 23 = .ok (.if_icmp .ne 18, 3) := by decide +kernel
theorem dX10_tellsAs_26 : decode cX10_tellsAs 26 = .ok (.aload_n 0, 1) := by decide +kernel
theorem dX10_tellsAs_27 : decode cX10_tellsAs 27 = .ok (.bipush 81, 2) := by decide +kernel
theorem dX10_tellsAs_29 : decode cX10_tellsAs 29 = .ok (.invokevirtual 317, 3) := by decide +kernel
theorem dX10_tellsAs_32 : decode cX10_tellsAs 32 = .ok (.aload_n 0, 1) := by decide +kernel
theorem dX10_tellsAs_33 : decode cX10_tellsAs 33 = .ok (.iconst 4, 1) := by decide +kernel
theorem dX10_tellsAs_34 : decode cX10_tellsAs 34 = .ok (.iload_n 2, 1) := by decide +kernel
theorem dX10_tellsAs_35 : decode cX10_tellsAs 35 = .ok (.invokevirtual 336, 3) := by decide +kernel
theorem dX10_tellsAs_38 : decode cX10_tellsAs 38 = .ok (.iconst 1, 1) := by decide +kernel
theorem dX10_tellsAs_39 : decode cX10_tellsAs 39 = .ok (.isub, 1) := by decide +kernel
theorem dX10_tellsAs_40 : decode cX10_tellsAs 40 = .ok (.ireturn, 1) := by decide +kernel
theorem dX10_tellsAs_41 : decode cX10_tellsAs 41 = .ok (.aload_n 0, 1) := by decide +kernel
theorem dX10_tellsAs_42 : decode cX10_tellsAs 42 = .ok (.iconst 2, 1) := by decide +kernel
theorem dX10_tellsAs_43 : decode cX10_tellsAs 43 = .ok (.invokevirtual 317, 3) := by decide +kernel
theorem dX10_tellsAs_46 : decode cX10_tellsAs 46 = .ok (.aload_n 0, 1) := by decide +kernel
theorem dX10_tellsAs_47 : decode cX10_tellsAs 47 = .ok (.aload_n 0, 1) := by decide +kernel
theorem dX10_tellsAs_48 : decode cX10_tellsAs 48 = .ok (.getfield 330, 3) := by decide +kernel
theorem dX10_tellsAs_51 : decode cX10_tellsAs 51 = .ok (.iload_n 2, 1) := by decide +kernel
theorem dX10_tellsAs_52 : decode cX10_tellsAs 52 = .ok (.invokevirtual 327, 3) := by decide +kernel
theorem dX10_tellsAs_55 : decode cX10_tellsAs 55 = .ok (.istore_n 3, 1) := by decide +kernel
theorem dX10_tellsAs_56 : decode cX10_tellsAs 56 = .ok (.iload_n 3, 1) := by decide +kernel
theorem dX10_tellsAs_57 : decode cX10_tellsAs 57 = .ok (.aload_n 0, 1) := by decide +kernel
theorem dX10_tellsAs_58 : decode cX10_tellsAs 58 = .ok (.aload_n 0, 1) := by decide +kernel
theorem dX10_tellsAs_59 : decode cX10_tellsAs 59 = .ok (.getfield 330, 3) := by decide +kernel
theorem dX10_tellsAs_62 : decode cX10_tellsAs 62 = .ok (.iconst 1, 1) := by decide +kernel
theorem dX10_tellsAs_63 : decode cX10_tellsAs 63 = .ok (.invokevirtual 333, 3) := by decide +kernel
theorem dX10_tellsAs_66 : decode cX10_tellsAs 66 = .ok (.isub, 1) := by decide +kernel
theorem dX10_tellsAs_67 : decode cX10_tellsAs 67 = .ok (.ireturn, 1) := by decide +kernel
theorem dX10_act_0 : decode cX10_act 0 = .ok (.aload_n 0, 1) := by decide +kernel
theorem dX10_act_1 : decode cX10_act 1 = .ok (.iconst 0, 1) := by decide +kernel
theorem dX10_act_2 : decode cX10_act 2 = .ok (.putfield 314, 3) := by decide +kernel
theorem dX10_act_5 : decode cX10_act 5 = .ok (.aload_n 0, 1) := by decide +kernel
theorem dX10_act_6 : decode cX10_act 6 = .ok (.iload_n 1, 1) := by decide +kernel
theorem dX10_act_7 : decode cX10_act 7 = .ok (.invokevirtual 339, 3) := by decide +kernel
theorem dX10_act_10 : decode cX10_act 10 = .ok (.ifCond .ne 5, 3) := by decide +kernel
theorem dX10_act_13 : decode cX10_act 13 = .ok (.iconst 0, 1) := by decide +kernel
theorem dX10_act_14 : decode cX10_act 14 = .ok (.ireturn, 1) := by decide +kernel
theorem dX10_act_15 : decode cX10_act 15 = .ok (.aload_n 0, 1) := by decide +kernel
theorem dX10_act_16 : decode cX10_act 16 = .ok (.aload_n 0, 1) := by decide +kernel
theorem dX10_act_17 : decode cX10_act 17 = .ok (.getfield 71, 3) := by decide +kernel
theorem dX10_act_20 : decode cX10_act 20 = .ok (.iload_n 1, 1) := by decide +kernel
theorem dX10_act_21 : decode cX10_act 21 = .ok (.iaload, 1) := by decide +kernel
theorem dX10_act_22 : decode cX10_act 22 = .ok (.putfield 330, 3) := by decide +kernel
theorem dX10_act_25 : decode cX10_act 25 = .ok (.aload_n 0, 1) := by decide +kernel
theorem dX10_act_26 : decode cX10_act 26 = .ok (.iload_n 1, 1) := by decide +kernel
theorem dX10_act_27 : decode cX10_act 27 = .ok (.putfield 324, 3) := by decide +kernel
theorem dX10_act_30 : decode cX10_act 30 = .ok (.iload_n 2, 1) := by decide +kernel
theorem dX10_act_31 : decode cX10_act 31 = .ok (.tableswitch 69 0 3 #[29, 39, 49, 59], 29) := by decide +kernel
theorem dX10_act_60 : decode cX10_act 60 = .ok (.aload_n 0, 1) := by decide +kernel
theorem dX10_act_61 : decode cX10_act 61 = .ok (.aload_n 0, 1) := by decide +kernel
theorem dX10_act_62 : decode cX10_act 62 = .ok (.getfield 330, 3) := by decide +kernel
theorem dX10_act_65 : decode cX10_act 65 = .ok (.iload_n 3, 1) := by decide +kernel
theorem dX10_act_66 : decode cX10_act 66 = .ok (.invokevirtual 321, 3) := by decide +kernel
theorem dX10_act_69 : decode cX10_act 69 = .ok (.ireturn, 1) := by decide +kernel
theorem dX10_act_70 : decode cX10_act 70 = .ok (.aload_n 0, 1) := by decide +kernel
theorem dX10_act_71 : decode cX10_act 71 = .ok (.aload_n 0, 1) := by decide +kernel
theorem dX10_act_72 : decode cX10_act 72 = .ok (.getfield 330, 3) := by decide +kernel
theorem dX10_act_75 : decode cX10_act 75 = .ok (.iload_n 3, 1) := by decide +kernel
theorem dX10_act_76 : decode cX10_act 76 = .ok (.invokevirtual 327, 3) := by decide +kernel
theorem dX10_act_79 : decode cX10_act 79 = .ok (.ireturn, 1) := by decide +kernel
theorem dX10_act_80 : decode cX10_act 80 = .ok (.aload_n 0, 1) := by decide +kernel
theorem dX10_act_81 : decode cX10_act 81 = .ok (.aload_n 0, 1) := by decide +kernel
theorem dX10_act_82 : decode cX10_act 82 = .ok (.getfield 330, 3) := by decide +kernel
theorem dX10_act_85 : decode cX10_act 85 = .ok (.iload_n 3, 1) := by decide +kernel
theorem dX10_act_86 : decode cX10_act 86 = .ok (.invokevirtual 333, 3) := by decide +kernel
theorem dX10_act_89 : decode cX10_act 89 = .ok (.ireturn, 1) := by decide +kernel
theorem dX10_act_90 : decode cX10_act 90 = .ok (.aload_n 0, 1) := by decide +kernel
theorem dX10_act_91 : decode cX10_act 91 = .ok (.aload_n 0, 1) := by decide +kernel
theorem dX10_act_92 : decode cX10_act 92 = .ok (.getfield 330, 3) := by decide +kernel
theorem dX10_act_95 : decode cX10_act 95 = .ok (.iload_n 3, 1) := by decide +kernel
theorem dX10_act_96 : decode cX10_act 96 = .ok (.invokevirtual 336, 3) := by decide +kernel
theorem dX10_act_99 : decode cX10_act 99 = .ok (.ireturn, 1) := by decide +kernel
theorem dX10_act_100 : decode cX10_act 100 = .ok (.iconst 0, 1) := by decide +kernel
theorem dX10_act_101 : decode cX10_act 101 = .ok (.ireturn, 1) := by decide +kernel
theorem dX10_trace_0 : decode cX10_trace 0 = .ok (.iload_n 1, 1) := by decide +kernel
theorem dX10_trace_1 : decode cX10_trace 1 = .ok (.ifCond .lt 26, 3) := by decide +kernel
theorem dX10_trace_4 : decode cX10_trace 4 = .ok (.iload_n 1, 1) := by decide +kernel
theorem dX10_trace_5 : decode cX10_trace 5 = .ok (.aload_n 0, 1) := by decide +kernel
theorem dX10_trace_6 : decode cX10_trace 6 = .ok (.getfield 314, 3) := by decide +kernel
theorem dX10_trace_9 : decode cX10_trace 9 = .ok (.if_icmp .ge 18, 3) := by decide +kernel
theorem dX10_trace_12 : decode cX10_trace 12 = .ok (.iload_n 1, 1) := by decide +kernel
theorem dX10_trace_13 : decode cX10_trace 13 = .ok (.bipush 24, 2) := by decide +kernel
theorem dX10_trace_15 : decode cX10_trace 15 = .ok (.if_icmp .ge 12, 3) := by decide +kernel
theorem dX10_trace_18 : decode cX10_trace 18 = .ok (.aload_n 0, 1) := by decide +kernel
theorem dX10_trace_19 : decode cX10_trace 19 = .ok (.getfield 74, 3) := by decide +kernel
theorem dX10_trace_22 : decode cX10_trace 22 = .ok (.iload_n 1, 1) := by decide +kernel
theorem dX10_trace_23 : decode cX10_trace 23 = .ok (.iaload, 1) := by decide +kernel
theorem dX10_trace_24 : decode cX10_trace 24 = .ok (.goto 4, 3) := by decide +kernel
theorem dX10_trace_27 : decode cX10_trace 27 = .ok (.iconst (-1), 1) := by decide +kernel
theorem dX10_trace_28 : decode cX10_trace 28 = .ok (.ireturn, 1) := by decide +kernel
theorem dX10_isShelf_0 : decode cX10_isShelf 0 = .ok (.iload_n 0, 1) := by decide +kernel
theorem dX10_isShelf_1 : decode cX10_isShelf 1 = .ok (.i2l, 1) := by decide +kernel
theorem dX10_isShelf_2 : decode cX10_isShelf 2 = .ok (.lconst 0, 1) := by decide +kernel
theorem dX10_isShelf_3 : decode cX10_isShelf 3 = .ok (.ldc2_w 342, 3) := by decide +kernel
theorem dX10_isShelf_6 : decode cX10_isShelf 6 = .ok (.invokestatic 103, 3) := by decide +kernel
theorem dX10_isShelf_9 : decode cX10_isShelf 9 = .ok (.ireturn, 1) := by decide +kernel
theorem dX10_keep_0 : decode cX10_keep 0 = .ok (.iload_n 1, 1) := by decide +kernel
theorem dX10_keep_1 : decode cX10_keep 1 = .ok (.invokestatic 128, 3) := by decide +kernel
theorem dX10_keep_4 : decode cX10_keep 4 = .ok (.ifCond .eq 16, 3) := by decide +kernel
theorem dX10_keep_7 : decode cX10_keep 7 = .ok (.iload_n 2, 1) := by decide +kernel
theorem dX10_keep_8 : decode cX10_keep 8 = .ok (.iconst (-1), 1) := by decide +kernel
theorem dX10_keep_9 : decode cX10_keep 9 = .ok (.if_icmp .eq 13, 3) := by decide +kernel
theorem dX10_keep_12 : decode cX10_keep 12 = .ok (.aload_n 0, 1) := by decide +kernel
theorem dX10_keep_13 : decode cX10_keep 13 = .ok (.iload_n 2, 1) := by decide +kernel
theorem dX10_keep_14 : decode cX10_keep 14 = .ok (.invokevirtual 339, 3) := by decide +kernel
theorem dX10_keep_17 : decode cX10_keep 17 = .ok (.ifCond .ne 5, 3) := by decide +kernel
theorem dX10_keep_20 : decode cX10_keep 20 = .ok (.iconst (-1), 1) := by decide +kernel
theorem dX10_keep_21 : decode cX10_keep 21 = .ok (.ireturn, 1) := by decide +kernel
theorem dX10_keep_22 : decode cX10_keep 22 = .ok (.aload_n 0, 1) := by decide +kernel
theorem dX10_keep_23 : decode cX10_keep 23 = .ok (.getfield 77, 3) := by decide +kernel
theorem dX10_keep_26 : decode cX10_keep 26 = .ok (.iload_n 1, 1) := by decide +kernel
theorem dX10_keep_27 : decode cX10_keep 27 = .ok (.iload_n 2, 1) := by decide +kernel
theorem dX10_keep_28 : decode cX10_keep 28 = .ok (.iastore, 1) := by decide +kernel
theorem dX10_keep_29 : decode cX10_keep 29 = .ok (.aload_n 0, 1) := by decide +kernel
theorem dX10_keep_30 : decode cX10_keep 30 = .ok (.getfield 80, 3) := by decide +kernel
theorem dX10_keep_33 : decode cX10_keep 33 = .ok (.iload_n 1, 1) := by decide +kernel
theorem dX10_keep_34 : decode cX10_keep 34 = .ok (.iconst 0, 1) := by decide +kernel
theorem dX10_keep_35 : decode cX10_keep 35 = .ok (.iastore, 1) := by decide +kernel
theorem dX10_keep_36 : decode cX10_keep 36 = .ok (.iconst 1, 1) := by decide +kernel
theorem dX10_keep_37 : decode cX10_keep 37 = .ok (.ireturn, 1) := by decide +kernel
theorem dX10_row_0 : decode cX10_row 0 = .ok (.iload_n 1, 1) := by decide +kernel
theorem dX10_row_1 : decode cX10_row 1 = .ok (.invokestatic 128, 3) := by decide +kernel
theorem dX10_row_4 : decode cX10_row 4 = .ok (.ifCond .eq 21, 3) := by decide +kernel
theorem dX10_row_7 : decode cX10_row 7 = .ok (.iload_n 2, 1) := by decide +kernel
theorem dX10_row_8 : decode cX10_row 8 = .ok (.i2l, 1) := by decide +kernel
theorem dX10_row_9 : decode cX10_row 9 = .ok (.lconst 0, 1) := by decide +kernel
theorem dX10_row_10 : decode cX10_row 10 = .ok (.ldc2_w 144, 3) := by decide +kernel
theorem dX10_row_13 : decode cX10_row 13 = .ok (.invokestatic 103, 3) := by decide +kernel
theorem dX10_row_16 : decode cX10_row 16 = .ok (.ifCond .eq 9, 3) := by decide +kernel
theorem dX10_row_19 : decode cX10_row 19 = .ok (.iload_n 3, 1) := by decide +kernel
theorem dX10_row_20 : decode cX10_row 20 = .ok (.bipush 60, 2) := by decide +kernel
theorem dX10_row_22 : decode cX10_row 22 = .ok (.if_icmp .le 5, 3) := by decide +kernel
theorem dX10_row_25 : decode cX10_row 25 = .ok (.iconst (-1), 1) := by decide +kernel
theorem dX10_row_26 : decode cX10_row 26 = .ok (.ireturn, 1) := by decide +kernel
theorem dX10_row_27 : decode cX10_row 27 = .ok (.iload_n 3, 1) := by decide +kernel
theorem dX10_row_28 : decode cX10_row 28 = .ok (.ifCond .ge 6, 3) := by decide +kernel
theorem dX10_row_31 : decode cX10_row 31 = .ok (.bipush (-14), 2) := by decide +kernel
theorem dX10_row_33 : decode cX10_row 33 = .ok (.ireturn, 1) := by decide +kernel
theorem dX10_row_34 : decode cX10_row 34 = .ok (.aload_n 0, 1) := by decide +kernel
theorem dX10_row_35 : decode cX10_row 35 = .ok (.getfield 77, 3) := by decide +kernel
theorem dX10_row_38 : decode cX10_row 38 = .ok (.iload_n 1, 1) := by decide +kernel
theorem dX10_row_39 : decode cX10_row 39 = .ok (.bipush 50, 2) := by decide +kernel
theorem dX10_row_41 : decode cX10_row 41 = .ok (.iload_n 2, 1) := by decide +kernel
theorem dX10_row_42 : decode cX10_row 42 = .ok (.iadd, 1) := by decide +kernel
theorem dX10_row_43 : decode cX10_row 43 = .ok (.iastore, 1) := by decide +kernel
theorem dX10_row_44 : decode cX10_row 44 = .ok (.aload_n 0, 1) := by decide +kernel
theorem dX10_row_45 : decode cX10_row 45 = .ok (.getfield 80, 3) := by decide +kernel
theorem dX10_row_48 : decode cX10_row 48 = .ok (.iload_n 1, 1) := by decide +kernel
theorem dX10_row_49 : decode cX10_row 49 = .ok (.iload_n 3, 1) := by decide +kernel
theorem dX10_row_50 : decode cX10_row 50 = .ok (.iastore, 1) := by decide +kernel
theorem dX10_row_51 : decode cX10_row 51 = .ok (.bipush 60, 2) := by decide +kernel
theorem dX10_row_53 : decode cX10_row 53 = .ok (.iload_n 1, 1) := by decide +kernel
theorem dX10_row_54 : decode cX10_row 54 = .ok (.imul, 1) := by decide +kernel
theorem dX10_row_55 : decode cX10_row 55 = .ok (.istore 4, 2) := by decide +kernel
theorem dX10_row_57 : decode cX10_row 57 = .ok (.iload 4, 2) := by decide +kernel
theorem dX10_row_59 : decode cX10_row 59 = .ok (.bipush 60, 2) := by decide +kernel
theorem dX10_row_61 : decode cX10_row 61 = .ok (.iload_n 1, 1) := by decide +kernel
theorem dX10_row_62 : decode cX10_row 62 = .ok (.imul, 1) := by decide +kernel
theorem dX10_row_63 : decode cX10_row 63 = .ok (.bipush 60, 2) := by decide +kernel
theorem dX10_row_65 : decode cX10_row 65 = .ok (.iadd, 1) := by decide +kernel
theorem dX10_row_66 : decode cX10_row 66 = .ok (.if_icmp .ge 17, 3) := by decide +kernel
theorem dX10_row_69 : decode cX10_row 69 = .ok (.aload_n 0, 1) := by decide +kernel
theorem dX10_row_70 : decode cX10_row 70 = .ok (.getfield 83, 3) := by decide +kernel
theorem dX10_row_73 : decode cX10_row 73 = .ok (.iload 4, 2) := by decide +kernel
theorem dX10_row_75 : decode cX10_row 75 = .ok (.lconst 0, 1) := by decide +kernel
theorem dX10_row_76 : decode cX10_row 76 = .ok (.lastore, 1) := by decide +kernel
theorem dX10_row_77 : decode cX10_row 77 = .ok (.iinc 4 1, 3) := by decide +kernel
theorem dX10_row_80 : decode cX10_row 80 = .ok (.goto (-23), 3) := by decide +kernel
theorem dX10_row_83 : decode cX10_row 83 = .ok (.iconst 1, 1) := by decide +kernel
theorem dX10_row_84 : decode cX10_row 84 = .ok (.ireturn, 1) := by decide +kernel
theorem dX10_refusal_0 : decode cX10_refusal 0 = .ok (.iload_n 1, 1) := by decide +kernel
theorem dX10_refusal_1 : decode cX10_refusal 1 = .ok (.invokestatic 128, 3) := by decide +kernel
theorem dX10_refusal_4 : decode cX10_refusal 4 = .ok (.ifCond .ne 5, 3) := by decide +kernel
theorem dX10_refusal_7 : decode cX10_refusal 7 = .ok (.iconst (-1), 1) := by decide +kernel
theorem dX10_refusal_8 : decode cX10_refusal 8 = .ok (.ireturn, 1) := by decide +kernel
theorem dX10_refusal_9 : decode cX10_refusal 9 = .ok (.aload_n 0, 1) := by decide +kernel
theorem dX10_refusal_10 : decode cX10_refusal 10 = .ok (.getfield 77, 3) := by decide +kernel
theorem dX10_refusal_13 : decode cX10_refusal 13 = .ok (.iload_n 1, 1) := by decide +kernel
theorem dX10_refusal_14 : decode cX10_refusal 14 = .ok (.iaload, 1) := by decide +kernel
theorem dX10_refusal_15 : decode cX10_refusal 15 = .ok (.ifCond .ge 6, 3) := by decide +kernel
theorem dX10_refusal_18 : decode cX10_refusal 18 = .ok (.bipush (-11), 2) := by decide +kernel
theorem dX10_refusal_20 : decode cX10_refusal 20 = .ok (.ireturn, 1) := by decide +kernel
theorem dX10_refusal_21 : decode cX10_refusal 21 = .ok (.aload_n 0, 1) := by decide +kernel
theorem dX10_refusal_22 : decode cX10_refusal 22 = .ok (.getfield 77, 3) := by decide +kernel
theorem dX10_refusal_25 : decode cX10_refusal 25 = .ok (.iload_n 1, 1) := by decide +kernel
theorem dX10_refusal_26 : decode cX10_refusal 26 = .ok (.iaload, 1) := by decide +kernel
theorem dX10_refusal_27 : decode cX10_refusal 27 = .ok (.bipush 50, 2) := by decide +kernel
theorem dX10_refusal_29 : decode cX10_refusal 29 = .ok (.if_icmp .ge 6, 3) := by decide +kernel
theorem dX10_refusal_32 : decode cX10_refusal 32 = .ok (.bipush (-12), 2) := by decide +kernel
theorem dX10_refusal_34 : decode cX10_refusal 34 = .ok (.ireturn, 1) := by decide +kernel
theorem dX10_refusal_35 : decode cX10_refusal 35 = .ok (.iload_n 2, 1) := by decide +kernel
theorem dX10_refusal_36 : decode cX10_refusal 36 = .ok (.ifCond .lt 17, 3) := by decide +kernel
theorem dX10_refusal_39 : decode cX10_refusal 39 = .ok (.iload_n 2, 1) := by decide +kernel
theorem dX10_refusal_40 : decode cX10_refusal 40 = .ok (.aload_n 0, 1) := by decide +kernel
theorem dX10_refusal_41 : decode cX10_refusal 41 = .ok (.getfield 80, 3) := by decide +kernel
theorem dX10_refusal_44 : decode cX10_refusal 44 = .ok (.iload_n 1, 1) := by decide +kernel
theorem dX10_refusal_45 : decode cX10_refusal 45 = .ok (.iaload, 1) := by decide +kernel
theorem dX10_refusal_46 : decode cX10_refusal 46 = .ok (.if_icmp .ge 7, 3) := by decide +kernel
theorem dX10_refusal_49 : decode cX10_refusal 49 = .ok (.iconst 0, 1) := by decide +kernel
theorem dX10_refusal_50 : decode cX10_refusal 50 = .ok (.goto 5, 3) := by decide +kernel
theorem dX10_refusal_53 : decode cX10_refusal 53 = .ok (.bipush (-13), 2) := by decide +kernel
theorem dX10_refusal_55 : decode cX10_refusal 55 = .ok (.ireturn, 1) := by decide +kernel
theorem dX10_asSort_0 : decode cX10_asSort 0 = .ok (.iload_n 0, 1) := by decide +kernel
theorem dX10_asSort_1 : decode cX10_asSort 1 = .ok (.ifCond .ne 10, 3) := by decide +kernel
theorem dX10_asSort_4 : decode cX10_asSort 4 = .ok (.lload_n 1, 1) := by decide +kernel
theorem dX10_asSort_5 : decode cX10_asSort 5 = .ok (.l2i, 1) := by decide +kernel
theorem dX10_asSort_6 : decode cX10_asSort 6 = .ok (.i2b, 1) := by decide +kernel
theorem dX10_asSort_7 : decode cX10_asSort 7 = .ok (.i2l, 1) := by decide +kernel
theorem dX10_asSort_8 : decode cX10_asSort 8 = .ok (.goto 46, 3) := by decide +kernel
theorem dX10_asSort_11 : decode cX10_asSort 11 = .ok (.iload_n 0, 1) := by decide +kernel
theorem dX10_asSort_12 : decode cX10_asSort 12 = .ok (.iconst 1, 1) := by decide +kernel
theorem dX10_asSort_13 : decode cX10_asSort 13 = .ok (.if_icmp .ne 10, 3) := by decide +kernel
theorem dX10_asSort_16 : decode cX10_asSort 16 = .ok (.lload_n 1, 1) := by decide +kernel
theorem dX10_asSort_17 : decode cX10_asSort 17 = .ok (.l2i, 1) := by decide +kernel
theorem dX10_asSort_18 : decode cX10_asSort 18 = .ok (.i2s, 1) := by decide +kernel
theorem dX10_asSort_19 : decode cX10_asSort 19 = .ok (.i2l, 1) := by decide +kernel
theorem dX10_asSort_20 : decode cX10_asSort 20 = .ok (.goto 34, 3) := by decide +kernel
theorem dX10_asSort_23 : decode cX10_asSort 23 = .ok (.iload_n 0, 1) := by decide +kernel
theorem dX10_asSort_24 : decode cX10_asSort 24 = .ok (.iconst 2, 1) := by decide +kernel
theorem dX10_asSort_25 : decode cX10_asSort 25 = .ok (.if_icmp .ne 9, 3) := by decide +kernel
theorem dX10_asSort_28 : decode cX10_asSort 28 = .ok (.lload_n 1, 1) := by decide +kernel
theorem dX10_asSort_29 : decode cX10_asSort 29 = .ok (.l2i, 1) := by decide +kernel
theorem dX10_asSort_30 : decode cX10_asSort 30 = .ok (.i2l, 1) := by decide +kernel
theorem dX10_asSort_31 : decode cX10_asSort 31 = .ok (.goto 23, 3) := by decide +kernel
theorem dX10_asSort_34 : decode cX10_asSort 34 = .ok (.iload_n 0, 1) := by decide +kernel
theorem dX10_asSort_35 : decode cX10_asSort 35 = .ok (.iconst 4, 1) := by decide +kernel
theorem dX10_asSort_36 : decode cX10_asSort 36 = .ok (.if_icmp .ne 17, 3) := by decide +kernel
theorem dX10_asSort_39 : decode cX10_asSort 39 = .ok (.lload_n 1, 1) := by decide +kernel
theorem dX10_asSort_40 : decode cX10_asSort 40 = .ok (.lconst 0, 1) := by decide +kernel
theorem dX10_asSort_41 : decode cX10_asSort 41 = .ok (.lcmp, 1) := by decide +kernel
theorem dX10_asSort_42 : decode cX10_asSort 42 = .ok (.ifCond .eq 7, 3) := by decide +kernel
theorem dX10_asSort_45 : decode cX10_asSort 45 = .ok (.lconst 1, 1) := by decide +kernel
theorem dX10_asSort_46 : decode cX10_asSort 46 = .ok (.goto 8, 3) := by decide +kernel
theorem dX10_asSort_49 : decode cX10_asSort 49 = .ok (.lconst 0, 1) := by decide +kernel
theorem dX10_asSort_50 : decode cX10_asSort 50 = .ok (.goto 4, 3) := by decide +kernel
theorem dX10_asSort_53 : decode cX10_asSort 53 = .ok (.lload_n 1, 1) := by decide +kernel
theorem dX10_asSort_54 : decode cX10_asSort 54 = .ok (.lreturn, 1) := by decide +kernel
theorem dX10_put_0 : decode cX10_put 0 = .ok (.aload_n 0, 1) := by decide +kernel
theorem dX10_put_1 : decode cX10_put 1 = .ok (.iload_n 1, 1) := by decide +kernel
theorem dX10_put_2 : decode cX10_put 2 = .ok (.iload_n 2, 1) := by decide +kernel
theorem dX10_put_3 : decode cX10_put 3 = .ok (.invokevirtual 344, 3) := by decide +kernel
theorem dX10_put_6 : decode cX10_put 6 = .ok (.istore 5, 2) := by decide +kernel
theorem dX10_put_8 : decode cX10_put 8 = .ok (.iload 5, 2) := by decide +kernel
theorem dX10_put_10 : decode cX10_put 10 = .ok (.ifCond .ne 27, 3) := by decide +kernel
theorem dX10_put_13 : decode cX10_put 13 = .ok (.aload_n 0, 1) := by decide +kernel
theorem dX10_put_14 : decode cX10_put 14 = .ok (.getfield 83, 3) := by decide +kernel
theorem dX10_put_17 : decode cX10_put 17 = .ok (.bipush 60, 2) := by decide +kernel
theorem dX10_put_19 : decode cX10_put 19 = .ok (.iload_n 1, 1) := by decide +kernel
theorem dX10_put_20 : decode cX10_put 20 = .ok (.imul, 1) := by decide +kernel
theorem dX10_put_21 : decode cX10_put 21 = .ok (.iload_n 2, 1) := by decide +kernel
theorem dX10_put_22 : decode cX10_put 22 = .ok (.iadd, 1) := by decide +kernel
theorem dX10_put_23 : decode cX10_put 23 = .ok (.aload_n 0, 1) := by decide +kernel
theorem dX10_put_24 : decode cX10_put 24 = .ok (.getfield 77, 3) := by decide +kernel
theorem dX10_put_27 : decode cX10_put 27 = .ok (.iload_n 1, 1) := by decide +kernel
theorem dX10_put_28 : decode cX10_put 28 = .ok (.iaload, 1) := by decide +kernel
theorem dX10_put_29 : decode cX10_put 29 = .ok (.bipush 50, 2) := by decide +kernel
theorem dX10_put_31 : decode cX10_put 31 = .ok (.isub, 1) := by decide +kernel
theorem dX10_put_32 : decode cX10_put 32 = .ok (.lload_n 3, 1) := by decide +kernel
theorem dX10_put_33 : decode cX10_put 33 = .ok (.invokestatic 347, 3) := by decide +kernel
theorem dX10_put_36 : decode cX10_put 36 = .ok (.lastore, 1) := by decide +kernel
theorem dX10_put_37 : decode cX10_put 37 = .ok (.iload 5, 2) := by decide +kernel
theorem dX10_put_39 : decode cX10_put 39 = .ok (.ifCond .ne 7, 3) := by decide +kernel
theorem dX10_put_42 : decode cX10_put 42 = .ok (.iconst 1, 1) := by decide +kernel
theorem dX10_put_43 : decode cX10_put 43 = .ok (.goto 5, 3) := by decide +kernel
theorem dX10_put_46 : decode cX10_put 46 = .ok (.iload 5, 2) := by decide +kernel
theorem dX10_put_48 : decode cX10_put 48 = .ok (.ireturn, 1) := by decide +kernel
theorem dX10_element_0 : decode cX10_element 0 = .ok (.aload_n 0, 1) := by decide +kernel
theorem dX10_element_1 : decode cX10_element 1 = .ok (.iload_n 1, 1) := by decide +kernel
theorem dX10_element_2 : decode cX10_element 2 = .ok (.iload_n 2, 1) := by decide +kernel
theorem dX10_element_3 : decode cX10_element 3 = .ok (.invokevirtual 344, 3) := by decide +kernel
theorem dX10_element_6 : decode cX10_element 6 = .ok (.ifCond .eq 9, 3) := by decide +kernel
theorem dX10_element_9 : decode cX10_element 9 = .ok (.ldc2_w 353, 3) := by decide +kernel
theorem dX10_element_12 : decode cX10_element 12 = .ok (.goto 14, 3) := by decide +kernel
theorem dX10_element_15 : decode cX10_element 15 = .ok (.aload_n 0, 1) := by decide +kernel
theorem dX10_element_16 : decode cX10_element 16 = .ok (.getfield 83, 3) := by decide +kernel
theorem dX10_element_19 : decode cX10_element 19 = .ok (.bipush 60, 2) := by decide +kernel
theorem dX10_element_21 : decode cX10_element 21 = .ok (.iload_n 1, 1) := by decide +kernel
theorem dX10_element_22 : decode cX10_element 22 = .ok (.imul, 1) := by decide +kernel
theorem dX10_element_23 : decode cX10_element 23 = .ok (.iload_n 2, 1) := by decide +kernel
theorem dX10_element_24 : decode cX10_element 24 = .ok (.iadd, 1) := by decide +kernel
theorem dX10_element_25 : decode cX10_element 25 = .ok (.laload, 1) := by decide +kernel
theorem dX10_element_26 : decode cX10_element 26 = .ok (.lreturn, 1) := by decide +kernel
theorem dX10_shift_0 : decode cX10_shift 0 = .ok (.iload_n 1, 1) := by decide +kernel
theorem dX10_shift_1 : decode cX10_shift 1 = .ok (.invokestatic 128, 3) := by decide +kernel
theorem dX10_shift_4 : decode cX10_shift 4 = .ok (.ifCond .eq 10, 3) := by decide +kernel
theorem dX10_shift_7 : decode cX10_shift 7 = .ok (.iload_n 3, 1) := by decide +kernel
theorem dX10_shift_8 : decode cX10_shift 8 = .ok (.invokestatic 128, 3) := by decide +kernel
theorem dX10_shift_11 : decode cX10_shift 11 = .ok (.ifCond .ne 5, 3) := by decide +kernel
theorem dX10_shift_14 : decode cX10_shift 14 = .ok (.iconst (-1), 1) := by decide +kernel
theorem dX10_shift_15 : decode cX10_shift 15 = .ok (.ireturn, 1) := by decide +kernel
theorem dX10_shift_16 : decode cX10_shift 16 = .ok (.aload_n 0, 1) := by decide +kernel
theorem dX10_shift_17 : decode cX10_shift 17 = .ok (.getfield 77, 3) := by decide +kernel
theorem dX10_shift_20 : decode cX10_shift 20 = .ok (.iload_n 1, 1) := by decide +kernel
theorem dX10_shift_21 : decode cX10_shift 21 = .ok (.iaload, 1) := by decide +kernel
theorem dX10_shift_22 : decode cX10_shift 22 = .ok (.ifCond .lt 12, 3) := by decide +kernel
theorem dX10_shift_25 : decode cX10_shift 25 = .ok (.aload_n 0, 1) := by decide +kernel
theorem dX10_shift_26 : decode cX10_shift 26 = .ok (.getfield 77, 3) := by decide +kernel
theorem dX10_shift_29 : decode cX10_shift 29 = .ok (.iload_n 3, 1) := by decide +kernel
theorem dX10_shift_30 : decode cX10_shift 30 = .ok (.iaload, 1) := by decide +kernel
theorem dX10_shift_31 : decode cX10_shift 31 = .ok (.ifCond .ge 6, 3) := by decide +kernel
theorem dX10_shift_34 : decode cX10_shift 34 = .ok (.bipush (-11), 2) := by decide +kernel
theorem dX10_shift_36 : decode cX10_shift 36 = .ok (.ireturn, 1) := by decide +kernel
theorem dX10_shift_37 : decode cX10_shift 37 = .ok (.aload_n 0, 1) := by decide +kernel
theorem dX10_shift_38 : decode cX10_shift 38 = .ok (.getfield 77, 3) := by decide +kernel
theorem dX10_shift_41 : decode cX10_shift 41 = .ok (.iload_n 1, 1) := by decide +kernel
theorem dX10_shift_42 : decode cX10_shift 42 = .ok (.iaload, 1) := by decide +kernel
theorem dX10_shift_43 : decode cX10_shift 43 = .ok (.bipush 50, 2) := by decide +kernel
theorem dX10_shift_45 : decode cX10_shift 45 = .ok (.if_icmp .lt 18, 3) := by decide +kernel
theorem dX10_shift_48 : decode cX10_shift 48 = .ok (.aload_n 0, 1) := by decide +kernel
theorem dX10_shift_49 : decode cX10_shift 49 = .ok (.getfield 77, 3) := by decide +kernel
theorem dX10_shift_52 : decode cX10_shift 52 = .ok (.iload_n 1, 1) := by decide +kernel
theorem dX10_shift_53 : decode cX10_shift 53 = .ok (.iaload, 1) := by decide +kernel
theorem dX10_shift_54 : decode cX10_shift 54 = .ok (.aload_n 0, 1) := by decide +kernel
theorem dX10_shift_55 : decode cX10_shift 55 = .ok (.getfield 77, 3) := by decide +kernel
theorem dX10_shift_58 : decode cX10_shift 58 = .ok (.iload_n 3, 1) := by decide +kernel
theorem dX10_shift_59 : decode cX10_shift 59 = .ok (.iaload, 1) := by decide +kernel
theorem dX10_shift_60 : decode cX10_shift 60 = .ok (.if_icmp .eq 6, 3) := by decide +kernel
theorem dX10_shift_63 : decode cX10_shift 63 = .ok (.bipush (-12), 2) := by decide +kernel
theorem dX10_shift_65 : decode cX10_shift 65 = .ok (.ireturn, 1) := by decide +kernel
theorem dX10_shift_66 : decode cX10_shift 66 = .ok (.iload 5, 2) := by decide +kernel
theorem dX10_shift_68 : decode cX10_shift 68 = .ok (.ifCond .lt 39, 3) := by decide +kernel
theorem dX10_shift_71 : decode cX10_shift 71 = .ok (.iload_n 2, 1) := by decide +kernel
theorem dX10_shift_72 : decode cX10_shift 72 = .ok (.ifCond .lt 35, 3) := by decide +kernel
theorem dX10_shift_75 : decode cX10_shift 75 = .ok (.iload 4, 2) := by decide +kernel
theorem dX10_shift_77 : decode cX10_shift 77 = .ok (.ifCond .lt 30, 3) := by decide +kernel
theorem dX10_shift_80 : decode cX10_shift 80 = .ok (.iload_n 2, 1) := by decide +kernel
theorem dX10_shift_81 : decode cX10_shift 81 = .ok (.aload_n 0, 1) := by decide +kernel
theorem dX10_shift_82 : decode cX10_shift 82 = .ok (.getfield 80, 3) := by decide +kernel
theorem dX10_shift_85 : decode cX10_shift 85 = .ok (.iload_n 1, 1) := by decide +kernel
theorem dX10_shift_86 : decode cX10_shift 86 = .ok (.iaload, 1) := by decide +kernel
theorem dX10_shift_87 : decode cX10_shift 87 = .ok (.iload 5, 2) := by decide +kernel
theorem dX10_shift_89 : decode cX10_shift 89 = .ok (.isub, 1) := by decide +kernel
theorem dX10_shift_90 : decode cX10_shift 90 = .ok (.if_icmp .gt 17, 3) := by decide +kernel
theorem dX10_shift_93 : decode cX10_shift 93 = .ok (.iload 4, 2) := by decide +kernel
theorem dX10_shift_95 : decode cX10_shift 95 = .ok (.aload_n 0, 1) := by decide +kernel
theorem dX10_shift_96 : decode cX10_shift 96 = .ok (.getfield 80, 3) := by decide +kernel
theorem dX10_shift_99 : decode cX10_shift 99 = .ok (.iload_n 3, 1) := by decide +kernel
theorem dX10_shift_100 : decode cX10_shift 100 = .ok (.iaload, 1) := by decide +kernel
theorem dX10_shift_101 : decode cX10_shift 101 = .ok (.iload 5, 2) := by decide +kernel
theorem dX10_shift_103 : decode cX10_shift 103 = .ok (.isub, 1) := by decide +kernel
theorem dX10_shift_104 : decode cX10_shift 104 = .ok (.if_icmp .le 6, 3) := by decide +kernel
theorem dX10_shift_107 : decode cX10_shift 107 = .ok (.bipush (-13), 2) := by decide +kernel
theorem dX10_shift_109 : decode cX10_shift 109 = .ok (.ireturn, 1) := by decide +kernel
theorem dX10_shift_110 : decode cX10_shift 110 = .ok (.iconst 0, 1) := by decide +kernel
theorem dX10_shift_111 : decode cX10_shift 111 = .ok (.istore 6, 2) := by decide +kernel
theorem dX10_shift_113 : decode cX10_shift 113 = .ok (.iload 6, 2) := by decide +kernel
theorem dX10_shift_115 : decode cX10_shift 115 = .ok (.iload 5, 2) := by decide +kernel
theorem dX10_shift_117 : decode cX10_shift 117 = .ok (.if_icmp .ge 30, 3) := by decide +kernel
theorem dX10_shift_120 : decode cX10_shift 120 = .ok (.aload_n 0, 1) := by decide +kernel
theorem dX10_shift_121 : decode cX10_shift 121 = .ok (.getfield 87, 3) := by decide +kernel
theorem dX10_shift_124 : decode cX10_shift 124 = .ok (.iload 6, 2) := by decide +kernel
theorem dX10_shift_126 : decode cX10_shift 126 = .ok (.aload_n 0, 1) := by decide +kernel
theorem dX10_shift_127 : decode cX10_shift 127 = .ok (.getfield 83, 3) := by decide +kernel
theorem dX10_shift_130 : decode cX10_shift 130 = .ok (.bipush 60, 2) := by decide +kernel
theorem dX10_shift_132 : decode cX10_shift 132 = .ok (.iload_n 1, 1) := by decide +kernel
theorem dX10_shift_133 : decode cX10_shift 133 = .ok (.imul, 1) := by decide +kernel
theorem dX10_shift_134 : decode cX10_shift 134 = .ok (.iload_n 2, 1) := by decide +kernel
theorem dX10_shift_135 : decode cX10_shift 135 = .ok (.iadd, 1) := by decide +kernel
theorem dX10_shift_136 : decode cX10_shift 136 = .ok (.iload 6, 2) := by decide +kernel
theorem dX10_shift_138 : decode cX10_shift 138 = .ok (.iadd, 1) := by decide +kernel
theorem dX10_shift_139 : decode cX10_shift 139 = .ok (.laload, 1) := by decide +kernel
theorem dX10_shift_140 : decode cX10_shift 140 = .ok (.lastore, 1) := by decide +kernel
theorem dX10_shift_141 : decode cX10_shift 141 = .ok (.iinc 6 1, 3) := by decide +kernel
theorem dX10_shift_144 : decode cX10_shift 144 = .ok (.goto (-31), 3) := by decide +kernel
theorem dX10_shift_147 : decode cX10_shift 147 = .ok (.iconst 0, 1) := by decide +kernel
theorem dX10_shift_148 : decode cX10_shift 148 = .ok (.istore 6, 2) := by decide +kernel
theorem dX10_shift_150 : decode cX10_shift 150 = .ok (.iload 6, 2) := by decide +kernel
theorem dX10_shift_152 : decode cX10_shift 152 = .ok (.iload 5, 2) := by decide +kernel
theorem dX10_shift_154 : decode cX10_shift 154 = .ok (.if_icmp .ge 31, 3) := by decide +kernel
theorem dX10_shift_157 : decode cX10_shift 157 = .ok (.aload_n 0, 1) := by decide +kernel
theorem dX10_shift_158 : decode cX10_shift 158 = .ok (.getfield 83, 3) := by decide +kernel
theorem dX10_shift_161 : decode cX10_shift 161 = .ok (.bipush 60, 2) := by decide +kernel
theorem dX10_shift_163 : decode cX10_shift 163 = .ok (.iload_n 3, 1) := by decide +kernel
theorem dX10_shift_164 : decode cX10_shift 164 = .ok (.imul, 1) := by decide +kernel
theorem dX10_shift_165 : decode cX10_shift 165 = .ok (.iload 4, 2) := by decide +kernel
theorem dX10_shift_167 : decode cX10_shift 167 = .ok (.iadd, 1) := by decide +kernel
theorem dX10_shift_168 : decode cX10_shift 168 = .ok (.iload 6, 2) := by decide +kernel
theorem dX10_shift_170 : decode cX10_shift 170 = .ok (.iadd, 1) := by decide +kernel
theorem dX10_shift_171 : decode cX10_shift 171 = .ok (.aload_n 0, 1) := by decide +kernel
theorem dX10_shift_172 : decode cX10_shift 172 = .ok (.getfield 87, 3) := by decide +kernel
theorem dX10_shift_175 : decode cX10_shift 175 = .ok (.iload 6, 2) := by decide +kernel
theorem dX10_shift_177 : decode cX10_shift 177 = .ok (.laload, 1) := by decide +kernel
theorem dX10_shift_178 : decode cX10_shift 178 = .ok (.lastore, 1) := by decide +kernel
theorem dX10_shift_179 : decode cX10_shift 179 = .ok (.iinc 6 1, 3) := by decide +kernel
theorem dX10_shift_182 : decode cX10_shift 182 = .ok (.goto (-32), 3) := by decide +kernel
theorem dX10_shift_185 : decode cX10_shift 185 = .ok (.iload 5, 2) := by decide +kernel
theorem dX10_shift_187 : decode cX10_shift 187 = .ok (.ireturn, 1) := by decide +kernel
theorem dX10_taken_0 : decode cX10_taken 0 = .ok (.iload_n 1, 1) := by decide +kernel
theorem dX10_taken_1 : decode cX10_taken 1 = .ok (.invokestatic 128, 3) := by decide +kernel
theorem dX10_taken_4 : decode cX10_taken 4 = .ok (.ifCond .eq 15, 3) := by decide +kernel
theorem dX10_taken_7 : decode cX10_taken 7 = .ok (.iload_n 2, 1) := by decide +kernel
theorem dX10_taken_8 : decode cX10_taken 8 = .ok (.i2l, 1) := by decide +kernel
theorem dX10_taken_9 : decode cX10_taken 9 = .ok (.lconst 0, 1) := by decide +kernel
theorem dX10_taken_10 : decode cX10_taken 10 = .ok (.ldc2_w 312, 3) := by decide +kernel
theorem dX10_taken_13 : decode cX10_taken 13 = .ok (.invokestatic 103, 3) := by decide +kernel
theorem dX10_taken_16 : decode cX10_taken 16 = .ok (.ifCond .ne 5, 3) := by decide +kernel
theorem dX10_taken_19 : decode cX10_taken 19 = .ok (.iconst (-1), 1) := by decide +kernel
theorem dX10_taken_20 : decode cX10_taken 20 = .ok (.ireturn, 1) := by decide +kernel
theorem dX10_taken_21 : decode cX10_taken 21 = .ok (.aload_n 0, 1) := by decide +kernel
theorem dX10_taken_22 : decode cX10_taken 22 = .ok (.getfield 77, 3) := by decide +kernel
theorem dX10_taken_25 : decode cX10_taken 25 = .ok (.iload_n 1, 1) := by decide +kernel
theorem dX10_taken_26 : decode cX10_taken 26 = .ok (.iaload, 1) := by decide +kernel
theorem dX10_taken_27 : decode cX10_taken 27 = .ok (.ifCond .ge 6, 3) := by decide +kernel
theorem dX10_taken_30 : decode cX10_taken 30 = .ok (.bipush (-11), 2) := by decide +kernel
theorem dX10_taken_32 : decode cX10_taken 32 = .ok (.ireturn, 1) := by decide +kernel
theorem dX10_taken_33 : decode cX10_taken 33 = .ok (.aload_n 0, 1) := by decide +kernel
theorem dX10_taken_34 : decode cX10_taken 34 = .ok (.getfield 77, 3) := by decide +kernel
theorem dX10_taken_37 : decode cX10_taken 37 = .ok (.iload_n 1, 1) := by decide +kernel
theorem dX10_taken_38 : decode cX10_taken 38 = .ok (.iaload, 1) := by decide +kernel
theorem dX10_taken_39 : decode cX10_taken 39 = .ok (.bipush 50, 2) := by decide +kernel
theorem dX10_taken_41 : decode cX10_taken 41 = .ok (.if_icmp .lt 6, 3) := by decide +kernel
theorem dX10_taken_44 : decode cX10_taken 44 = .ok (.bipush (-12), 2) := by decide +kernel
theorem dX10_taken_46 : decode cX10_taken 46 = .ok (.ireturn, 1) := by decide +kernel
theorem dX10_taken_47 : decode cX10_taken 47 = .ok (.aload_n 0, 1) := by decide +kernel
theorem dX10_taken_48 : decode cX10_taken 48 = .ok (.aload_n 0, 1) := by decide +kernel
theorem dX10_taken_49 : decode cX10_taken 49 = .ok (.getfield 77, 3) := by decide +kernel
theorem dX10_taken_52 : decode cX10_taken 52 = .ok (.iload_n 1, 1) := by decide +kernel
theorem dX10_taken_53 : decode cX10_taken 53 = .ok (.iaload, 1) := by decide +kernel
theorem dX10_taken_54 : decode cX10_taken 54 = .ok (.invokevirtual 355, 3) := by decide +kernel
theorem dX10_taken_57 : decode cX10_taken 57 = .ok (.istore_n 3, 1) := by decide +kernel
theorem dX10_taken_58 : decode cX10_taken 58 = .ok (.iload_n 3, 1) := by decide +kernel
theorem dX10_taken_59 : decode cX10_taken 59 = .ok (.iload_n 2, 1) := by decide +kernel
theorem dX10_taken_60 : decode cX10_taken 60 = .ok (.if_icmp .eq 15, 3) := by decide +kernel
theorem dX10_taken_63 : decode cX10_taken 63 = .ok (.iload_n 3, 1) := by decide +kernel
theorem dX10_taken_64 : decode cX10_taken 64 = .ok (.ifCond .le 11, 3) := by decide +kernel
theorem dX10_taken_67 : decode cX10_taken 67 = .ok (.iload_n 3, 1) := by decide +kernel
theorem dX10_taken_68 : decode cX10_taken 68 = .ok (.invokestatic 358, 3) := by decide +kernel
theorem dX10_taken_71 : decode cX10_taken 71 = .ok (.istore_n 3, 1) := by decide +kernel
theorem dX10_taken_72 : decode cX10_taken 72 = .ok (.goto (-14), 3) := by decide +kernel
theorem dX10_taken_75 : decode cX10_taken 75 = .ok (.iload_n 3, 1) := by decide +kernel
theorem dX10_taken_76 : decode cX10_taken 76 = .ok (.iload_n 2, 1) := by decide +kernel
theorem dX10_taken_77 : decode cX10_taken 77 = .ok (.if_icmp .ne 16, 3) := by decide +kernel
theorem dX10_taken_80 : decode cX10_taken 80 = .ok (.aload_n 0, 1) := by decide +kernel
theorem dX10_taken_81 : decode cX10_taken 81 = .ok (.aload_n 0, 1) := by decide +kernel
theorem dX10_taken_82 : decode cX10_taken 82 = .ok (.getfield 77, 3) := by decide +kernel
theorem dX10_taken_85 : decode cX10_taken 85 = .ok (.iload_n 1, 1) := by decide +kernel
theorem dX10_taken_86 : decode cX10_taken 86 = .ok (.iaload, 1) := by decide +kernel
theorem dX10_taken_87 : decode cX10_taken 87 = .ok (.invokevirtual 355, 3) := by decide +kernel
theorem dX10_taken_90 : decode cX10_taken 90 = .ok (.goto 5, 3) := by decide +kernel
theorem dX10_taken_93 : decode cX10_taken 93 = .ok (.bipush (-12), 2) := by decide +kernel
theorem dX10_taken_95 : decode cX10_taken 95 = .ok (.ireturn, 1) := by decide +kernel
theorem dX10_count_0 : decode cX10_count 0 = .ok (.iload_n 1, 1) := by decide +kernel
theorem dX10_count_1 : decode cX10_count 1 = .ok (.tableswitch 96 0 8 #[51, 56, 61, 66, 71, 76, 81, 86, 91], 51) := by decide +kernel
theorem dX10_count_52 : decode cX10_count 52 = .ok (.aload_n 0, 1) := by decide +kernel
theorem dX10_count_53 : decode cX10_count 53 = .ok (.getfield 100, 3) := by decide +kernel
theorem dX10_count_56 : decode cX10_count 56 = .ok (.ireturn, 1) := by decide +kernel
theorem dX10_count_57 : decode cX10_count 57 = .ok (.aload_n 0, 1) := by decide +kernel
theorem dX10_count_58 : decode cX10_count 58 = .ok (.getfield 111, 3) := by decide +kernel
theorem dX10_count_61 : decode cX10_count 61 = .ok (.ireturn, 1) := by decide +kernel
theorem dX10_count_62 : decode cX10_count 62 = .ok (.aload_n 0, 1) := by decide +kernel
theorem dX10_count_63 : decode cX10_count 63 = .ok (.invokevirtual 361, 3) := by decide +kernel
theorem dX10_count_66 : decode cX10_count 66 = .ok (.ireturn, 1) := by decide +kernel
theorem dX10_count_67 : decode cX10_count 67 = .ok (.aload_n 0, 1) := by decide +kernel
theorem dX10_count_68 : decode cX10_count 68 = .ok (.getfield 161, 3) := by decide +kernel
theorem dX10_count_71 : decode cX10_count 71 = .ok (.ireturn, 1) := by decide +kernel
theorem dX10_count_72 : decode cX10_count 72 = .ok (.aload_n 0, 1) := by decide +kernel
theorem dX10_count_73 : decode cX10_count 73 = .ok (.getfield 231, 3) := by decide +kernel
theorem dX10_count_76 : decode cX10_count 76 = .ok (.ireturn, 1) := by decide +kernel
theorem dX10_count_77 : decode cX10_count 77 = .ok (.aload_n 0, 1) := by decide +kernel
theorem dX10_count_78 : decode cX10_count 78 = .ok (.getfield 172, 3) := by decide +kernel
theorem dX10_count_81 : decode cX10_count 81 = .ok (.ireturn, 1) := by decide +kernel
theorem dX10_count_82 : decode cX10_count 82 = .ok (.aload_n 0, 1) := by decide +kernel
theorem dX10_count_83 : decode cX10_count 83 = .ok (.getfield 94, 3) := by decide +kernel
theorem dX10_count_86 : decode cX10_count 86 = .ok (.ireturn, 1) := by decide +kernel
theorem dX10_count_87 : decode cX10_count 87 = .ok (.aload_n 0, 1) := by decide +kernel
theorem dX10_count_88 : decode cX10_count 88 = .ok (.getfield 309, 3) := by decide +kernel
theorem dX10_count_91 : decode cX10_count 91 = .ok (.ireturn, 1) := by decide +kernel
theorem dX10_count_92 : decode cX10_count 92 = .ok (.aload_n 0, 1) := by decide +kernel
theorem dX10_count_93 : decode cX10_count 93 = .ok (.getfield 314, 3) := by decide +kernel
theorem dX10_count_96 : decode cX10_count 96 = .ok (.ireturn, 1) := by decide +kernel
theorem dX10_count_97 : decode cX10_count 97 = .ok (.iconst (-1), 1) := by decide +kernel
theorem dX10_count_98 : decode cX10_count 98 = .ok (.ireturn, 1) := by decide +kernel
