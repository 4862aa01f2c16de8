theorem d_Mo_build_0 : decode c_Mo_build 0 = .ok (.aload_n 0, 1) := by decide +kernel
theorem d_Mo_build_1 : decode c_Mo_build 1 = .ok (.iload_n 1, 1) := by decide +kernel
theorem d_Mo_build_2 : decode c_Mo_build 2 = .ok (.iconst 1, 1) := by decide +kernel
theorem d_Mo_build_3 : decode c_Mo_build 3 = .ok (.if_icmp .lt 9, 3) := by decide +kernel
theorem d_Mo_build_6 : decode c_Mo_build 6 = .ok (.iload_n 1, 1) := by decide +kernel
theorem d_Mo_build_7 : decode c_Mo_build 7 = .ok (.bipush 40, 2) := by decide +kernel
theorem d_Mo_build_9 : decode c_Mo_build 9 = .ok (.if_icmp .le 7, 3) := by decide +kernel
theorem d_Mo_build_12 : decode c_Mo_build 12 = .ok (.iconst 1, 1) := by decide +kernel
theorem d_Mo_build_13 : decode c_Mo_build 13 = .ok (.goto 4, 3) := by decide +kernel
theorem d_Mo_build_16 : decode c_Mo_build 16 = .ok (.iconst 0, 1) := by decide +kernel
theorem d_Mo_build_17 : decode c_Mo_build 17 = .ok (.putfield 57, 3) := by decide +kernel
theorem d_Mo_build_20 : decode c_Mo_build 20 = .ok (.aload_n 0, 1) := by decide +kernel
theorem d_Mo_build_21 : decode c_Mo_build 21 = .ok (.getfield 57, 3) := by decide +kernel
theorem d_Mo_build_24 : decode c_Mo_build 24 = .ok (.ifCond .eq 5, 3) := by decide +kernel
theorem d_Mo_build_27 : decode c_Mo_build 27 = .ok (.iconst 0, 1) := by decide +kernel
theorem d_Mo_build_28 : decode c_Mo_build 28 = .ok (.ireturn, 1) := by decide +kernel
theorem d_Mo_build_29 : decode c_Mo_build 29 = .ok (.aload_n 0, 1) := by decide +kernel
theorem d_Mo_build_30 : decode c_Mo_build 30 = .ok (.invokevirtual 79, 3) := by decide +kernel
theorem d_Mo_build_33 : decode c_Mo_build 33 = .ok (.iconst 0, 1) := by decide +kernel
theorem d_Mo_build_34 : decode c_Mo_build 34 = .ok (.istore_n 2, 1) := by decide +kernel
theorem d_Mo_build_35 : decode c_Mo_build 35 = .ok (.iload_n 2, 1) := by decide +kernel
theorem d_Mo_build_36 : decode c_Mo_build 36 = .ok (.aload_n 0, 1) := by decide +kernel
theorem d_Mo_build_37 : decode c_Mo_build 37 = .ok (.getfield 7, 3) := by decide +kernel
theorem d_Mo_build_40 : decode c_Mo_build 40 = .ok (.if_icmp .ge 32, 3) := by decide +kernel
theorem d_Mo_build_43 : decode c_Mo_build 43 = .ok (.aload_n 0, 1) := by decide +kernel
theorem d_Mo_build_44 : decode c_Mo_build 44 = .ok (.aload_n 0, 1) := by decide +kernel
theorem d_Mo_build_45 : decode c_Mo_build 45 = .ok (.getfield 26, 3) := by decide +kernel
theorem d_Mo_build_48 : decode c_Mo_build 48 = .ok (.iload_n 2, 1) := by decide +kernel
theorem d_Mo_build_49 : decode c_Mo_build 49 = .ok (.iaload, 1) := by decide +kernel
theorem d_Mo_build_50 : decode c_Mo_build 50 = .ok (.ldc 78, 2) := by decide +kernel
theorem d_Mo_build_52 : decode c_Mo_build 52 = .ok (.if_icmp .lt 7, 3) := by decide +kernel
theorem d_Mo_build_55 : decode c_Mo_build 55 = .ok (.iconst 2, 1) := by decide +kernel
theorem d_Mo_build_56 : decode c_Mo_build 56 = .ok (.goto 7, 3) := by decide +kernel
theorem d_Mo_build_59 : decode c_Mo_build 59 = .ok (.aload_n 0, 1) := by decide +kernel
theorem d_Mo_build_60 : decode c_Mo_build 60 = .ok (.getfield 57, 3) := by decide +kernel
theorem d_Mo_build_63 : decode c_Mo_build 63 = .ok (.putfield 57, 3) := by decide +kernel
theorem d_Mo_build_66 : decode c_Mo_build 66 = .ok (.iinc 2 1, 3) := by decide +kernel
theorem d_Mo_build_69 : decode c_Mo_build 69 = .ok (.goto (-34), 3) := by decide +kernel
theorem d_Mo_build_72 : decode c_Mo_build 72 = .ok (.aload_n 0, 1) := by decide +kernel
theorem d_Mo_build_73 : decode c_Mo_build 73 = .ok (.getfield 57, 3) := by decide +kernel
theorem d_Mo_build_76 : decode c_Mo_build 76 = .ok (.ifCond .eq 5, 3) := by decide +kernel
theorem d_Mo_build_79 : decode c_Mo_build 79 = .ok (.iconst 0, 1) := by decide +kernel
theorem d_Mo_build_80 : decode c_Mo_build 80 = .ok (.ireturn, 1) := by decide +kernel
theorem d_Mo_build_81 : decode c_Mo_build 81 = .ok (.iconst 0, 1) := by decide +kernel
theorem d_Mo_build_82 : decode c_Mo_build 82 = .ok (.istore_n 2, 1) := by decide +kernel
theorem d_Mo_build_83 : decode c_Mo_build 83 = .ok (.iload_n 2, 1) := by decide +kernel
theorem d_Mo_build_84 : decode c_Mo_build 84 = .ok (.sipush 1600, 3) := by decide +kernel
theorem d_Mo_build_87 : decode c_Mo_build 87 = .ok (.if_icmp .ge 33, 3) := by decide +kernel
theorem d_Mo_build_90 : decode c_Mo_build 90 = .ok (.aload_n 0, 1) := by decide +kernel
theorem d_Mo_build_91 : decode c_Mo_build 91 = .ok (.getfield 29, 3) := by decide +kernel
theorem d_Mo_build_94 : decode c_Mo_build 94 = .ok (.iload_n 2, 1) := by decide +kernel
theorem d_Mo_build_95 : decode c_Mo_build 95 = .ok (.aload_n 0, 1) := by decide +kernel
theorem d_Mo_build_96 : decode c_Mo_build 96 = .ok (.getfield 26, 3) := by decide +kernel
theorem d_Mo_build_99 : decode c_Mo_build 99 = .ok (.iload_n 2, 1) := by decide +kernel
theorem d_Mo_build_100 : decode c_Mo_build 100 = .ok (.iaload, 1) := by decide +kernel
theorem d_Mo_build_101 : decode c_Mo_build 101 = .ok (.iastore, 1) := by decide +kernel
theorem d_Mo_build_102 : decode c_Mo_build 102 = .ok (.aload_n 0, 1) := by decide +kernel
theorem d_Mo_build_103 : decode c_Mo_build 103 = .ok (.getfield 20, 3) := by decide +kernel
theorem d_Mo_build_106 : decode c_Mo_build 106 = .ok (.iload_n 2, 1) := by decide +kernel
theorem d_Mo_build_107 : decode c_Mo_build 107 = .ok (.aload_n 0, 1) := by decide +kernel
theorem d_Mo_build_108 : decode c_Mo_build 108 = .ok (.getfield 13, 3) := by decide +kernel
theorem d_Mo_build_111 : decode c_Mo_build 111 = .ok (.iload_n 2, 1) := by decide +kernel
theorem d_Mo_build_112 : decode c_Mo_build 112 = .ok (.iaload, 1) := by decide +kernel
theorem d_Mo_build_113 : decode c_Mo_build 113 = .ok (.iastore, 1) := by decide +kernel
theorem d_Mo_build_114 : decode c_Mo_build 114 = .ok (.iinc 2 1, 3) := by decide +kernel
theorem d_Mo_build_117 : decode c_Mo_build 117 = .ok (.goto (-34), 3) := by decide +kernel
theorem d_Mo_build_120 : decode c_Mo_build 120 = .ok (.iconst 0, 1) := by decide +kernel
theorem d_Mo_build_121 : decode c_Mo_build 121 = .ok (.istore_n 2, 1) := by decide +kernel
theorem d_Mo_build_122 : decode c_Mo_build 122 = .ok (.iload_n 2, 1) := by decide +kernel
theorem d_Mo_build_123 : decode c_Mo_build 123 = .ok (.sipush 640, 3) := by decide +kernel
theorem d_Mo_build_126 : decode c_Mo_build 126 = .ok (.if_icmp .ge 21, 3) := by decide +kernel
theorem d_Mo_build_129 : decode c_Mo_build 129 = .ok (.aload_n 0, 1) := by decide +kernel
theorem d_Mo_build_130 : decode c_Mo_build 130 = .ok (.getfield 23, 3) := by decide +kernel
theorem d_Mo_build_133 : decode c_Mo_build 133 = .ok (.iload_n 2, 1) := by decide +kernel
theorem d_Mo_build_134 : decode c_Mo_build 134 = .ok (.aload_n 0, 1) := by decide +kernel
theorem d_Mo_build_135 : decode c_Mo_build 135 = .ok (.getfield 17, 3) := by decide +kernel
theorem d_Mo_build_138 : decode c_Mo_build 138 = .ok (.iload_n 2, 1) := by decide +kernel
theorem d_Mo_build_139 : decode c_Mo_build 139 = .ok (.iaload, 1) := by decide +kernel
theorem d_Mo_build_140 : decode c_Mo_build 140 = .ok (.iastore, 1) := by decide +kernel
theorem d_Mo_build_141 : decode c_Mo_build 141 = .ok (.iinc 2 1, 3) := by decide +kernel
theorem d_Mo_build_144 : decode c_Mo_build 144 = .ok (.goto (-22), 3) := by decide +kernel
theorem d_Mo_build_147 : decode c_Mo_build 147 = .ok (.aload_n 0, 1) := by decide +kernel
theorem d_Mo_build_148 : decode c_Mo_build 148 = .ok (.iload_n 1, 1) := by decide +kernel
theorem d_Mo_build_149 : decode c_Mo_build 149 = .ok (.invokevirtual 97, 3) := by decide +kernel
theorem d_Mo_build_152 : decode c_Mo_build 152 = .ok (.istore_n 2, 1) := by decide +kernel
theorem d_Mo_build_153 : decode c_Mo_build 153 = .ok (.iconst 4, 1) := by decide +kernel
theorem d_Mo_build_154 : decode c_Mo_build 154 = .ok (.aload_n 0, 1) := by decide +kernel
theorem d_Mo_build_155 : decode c_Mo_build 155 = .ok (.getfield 7, 3) := by decide +kernel
theorem d_Mo_build_158 : decode c_Mo_build 158 = .ok (.imul, 1) := by decide +kernel
theorem d_Mo_build_159 : decode c_Mo_build 159 = .ok (.iload_n 2, 1) := by decide +kernel
theorem d_Mo_build_160 : decode c_Mo_build 160 = .ok (.iadd, 1) := by decide +kernel
theorem d_Mo_build_161 : decode c_Mo_build 161 = .ok (.iconst 1, 1) := by decide +kernel
theorem d_Mo_build_162 : decode c_Mo_build 162 = .ok (.isub, 1) := by decide +kernel
theorem d_Mo_build_163 : decode c_Mo_build 163 = .ok (.iload_n 2, 1) := by decide +kernel
theorem d_Mo_build_164 : decode c_Mo_build 164 = .ok (.idiv, 1) := by decide +kernel
theorem d_Mo_build_165 : decode c_Mo_build 165 = .ok (.istore_n 3, 1) := by decide +kernel
theorem d_Mo_build_166 : decode c_Mo_build 166 = .ok (.aload_n 0, 1) := by decide +kernel
theorem d_Mo_build_167 : decode c_Mo_build 167 = .ok (.invokevirtual 100, 3) := by decide +kernel
theorem d_Mo_build_170 : decode c_Mo_build 170 = .ok (.iconst 0, 1) := by decide +kernel
theorem d_Mo_build_171 : decode c_Mo_build 171 = .ok (.istore 4, 2) := by decide +kernel
theorem d_Mo_build_173 : decode c_Mo_build 173 = .ok (.iload 4, 2) := by decide +kernel
theorem d_Mo_build_175 : decode c_Mo_build 175 = .ok (.aload_n 0, 1) := by decide +kernel
theorem d_Mo_build_176 : decode c_Mo_build 176 = .ok (.getfield 7, 3) := by decide +kernel
theorem d_Mo_build_179 : decode c_Mo_build 179 = .ok (.if_icmp .ge 37, 3) := by decide +kernel
theorem d_Mo_build_182 : decode c_Mo_build 182 = .ok (.aload_n 0, 1) := by decide +kernel
theorem d_Mo_build_183 : decode c_Mo_build 183 = .ok (.iload 4, 2) := by decide +kernel
theorem d_Mo_build_185 : decode c_Mo_build 185 = .ok (.invokevirtual 103, 3) := by decide +kernel
theorem d_Mo_build_188 : decode c_Mo_build 188 = .ok (.iload_n 3, 1) := by decide +kernel
theorem d_Mo_build_189 : decode c_Mo_build 189 = .ok (.if_icmp .le 21, 3) := by decide +kernel
theorem d_Mo_build_192 : decode c_Mo_build 192 = .ok (.aload_n 0, 1) := by decide +kernel
theorem d_Mo_build_193 : decode c_Mo_build 193 = .ok (.getfield 32, 3) := by decide +kernel
theorem d_Mo_build_196 : decode c_Mo_build 196 = .ok (.iload 4, 2) := by decide +kernel
theorem d_Mo_build_198 : decode c_Mo_build 198 = .ok (.iconst 1, 1) := by decide +kernel
theorem d_Mo_build_199 : decode c_Mo_build 199 = .ok (.bastore, 1) := by decide +kernel
theorem d_Mo_build_200 : decode c_Mo_build 200 = .ok (.aload_n 0, 1) := by decide +kernel
theorem d_Mo_build_201 : decode c_Mo_build 201 = .ok (.invokevirtual 100, 3) := by decide +kernel
theorem d_Mo_build_204 : decode c_Mo_build 204 = .ok (.iconst 0, 1) := by decide +kernel
theorem d_Mo_build_205 : decode c_Mo_build 205 = .ok (.istore 4, 2) := by decide +kernel
theorem d_Mo_build_207 : decode c_Mo_build 207 = .ok (.goto (-34), 3) := by decide +kernel
theorem d_Mo_build_210 : decode c_Mo_build 210 = .ok (.iinc 4 1, 3) := by decide +kernel
theorem d_Mo_build_213 : decode c_Mo_build 213 = .ok (.goto (-40), 3) := by decide +kernel
theorem d_Mo_build_216 : decode c_Mo_build 216 = .ok (.iconst 0, 1) := by decide +kernel
theorem d_Mo_build_217 : decode c_Mo_build 217 = .ok (.istore 5, 2) := by decide +kernel
theorem d_Mo_build_219 : decode c_Mo_build 219 = .ok (.iload 5, 2) := by decide +kernel
theorem d_Mo_build_221 : decode c_Mo_build 221 = .ok (.aload_n 0, 1) := by decide +kernel
theorem d_Mo_build_222 : decode c_Mo_build 222 = .ok (.getfield 7, 3) := by decide +kernel
theorem d_Mo_build_225 : decode c_Mo_build 225 = .ok (.if_icmp .ge 69, 3) := by decide +kernel
theorem d_Mo_build_228 : decode c_Mo_build 228 = .ok (.iconst 0, 1) := by decide +kernel
theorem d_Mo_build_229 : decode c_Mo_build 229 = .ok (.istore 6, 2) := by decide +kernel
theorem d_Mo_build_231 : decode c_Mo_build 231 = .ok (.iload 6, 2) := by decide +kernel
theorem d_Mo_build_233 : decode c_Mo_build 233 = .ok (.aload_n 0, 1) := by decide +kernel
theorem d_Mo_build_234 : decode c_Mo_build 234 = .ok (.getfield 7, 3) := by decide +kernel
theorem d_Mo_build_237 : decode c_Mo_build 237 = .ok (.if_icmp .ge 51, 3) := by decide +kernel
theorem d_Mo_build_240 : decode c_Mo_build 240 = .ok (.aload_n 0, 1) := by decide +kernel
theorem d_Mo_build_241 : decode c_Mo_build 241 = .ok (.getfield 45, 3) := by decide +kernel
theorem d_Mo_build_244 : decode c_Mo_build 244 = .ok (.bipush 40, 2) := by decide +kernel
theorem d_Mo_build_246 : decode c_Mo_build 246 = .ok (.iload 5, 2) := by decide +kernel
theorem d_Mo_build_248 : decode c_Mo_build 248 = .ok (.imul, 1) := by decide +kernel
theorem d_Mo_build_249 : decode c_Mo_build 249 = .ok (.iload 6, 2) := by decide +kernel
theorem d_Mo_build_251 : decode c_Mo_build 251 = .ok (.iadd, 1) := by decide +kernel
theorem d_Mo_build_252 : decode c_Mo_build 252 = .ok (.aload_n 0, 1) := by decide +kernel
theorem d_Mo_build_253 : decode c_Mo_build 253 = .ok (.getfield 32, 3) := by decide +kernel
theorem d_Mo_build_256 : decode c_Mo_build 256 = .ok (.iload 5, 2) := by decide +kernel
theorem d_Mo_build_258 : decode c_Mo_build 258 = .ok (.baload, 1) := by decide +kernel
theorem d_Mo_build_259 : decode c_Mo_build 259 = .ok (.ifCond .eq 21, 3) := by decide +kernel
theorem d_Mo_build_262 : decode c_Mo_build 262 = .ok (.iload 6, 2) := by decide +kernel
theorem d_Mo_build_264 : decode c_Mo_build 264 = .ok (.iload 5, 2) := by decide +kernel
theorem d_Mo_build_266 : decode c_Mo_build 266 = .ok (.if_icmp .eq 14, 3) := by decide +kernel
theorem d_Mo_build_269 : decode c_Mo_build 269 = .ok (.aload_n 0, 1) := by decide +kernel
theorem d_Mo_build_270 : decode c_Mo_build 270 = .ok (.iload 6, 2) := by decide +kernel
theorem d_Mo_build_272 : decode c_Mo_build 272 = .ok (.iload 5, 2) := by decide +kernel
theorem d_Mo_build_274 : decode c_Mo_build 274 = .ok (.invokevirtual 106, 3) := by decide +kernel
theorem d_Mo_build_277 : decode c_Mo_build 277 = .ok (.goto 4, 3) := by decide +kernel
theorem d_Mo_build_280 : decode c_Mo_build 280 = .ok (.iconst (-1), 1) := by decide +kernel
theorem d_Mo_build_281 : decode c_Mo_build 281 = .ok (.iastore, 1) := by decide +kernel
theorem d_Mo_build_282 : decode c_Mo_build 282 = .ok (.iinc 6 1, 3) := by decide +kernel
theorem d_Mo_build_285 : decode c_Mo_build 285 = .ok (.goto (-54), 3) := by decide +kernel
theorem d_Mo_build_288 : decode c_Mo_build 288 = .ok (.iinc 5 1, 3) := by decide +kernel
theorem d_Mo_build_291 : decode c_Mo_build 291 = .ok (.goto (-72), 3) := by decide +kernel
theorem d_Mo_build_294 : decode c_Mo_build 294 = .ok (.aload_n 0, 1) := by decide +kernel
theorem d_Mo_build_295 : decode c_Mo_build 295 = .ok (.iconst 1, 1) := by decide +kernel
theorem d_Mo_build_296 : decode c_Mo_build 296 = .ok (.putfield 60, 3) := by decide +kernel
theorem d_Mo_build_299 : decode c_Mo_build 299 = .ok (.aload_n 0, 1) := by decide +kernel
theorem d_Mo_build_300 : decode c_Mo_build 300 = .ok (.iconst 0, 1) := by decide +kernel
theorem d_Mo_build_301 : decode c_Mo_build 301 = .ok (.putfield 64, 3) := by decide +kernel
theorem d_Mo_build_304 : decode c_Mo_build 304 = .ok (.aload_n 0, 1) := by decide +kernel
theorem d_Mo_build_305 : decode c_Mo_build 305 = .ok (.iconst 0, 1) := by decide +kernel
theorem d_Mo_build_306 : decode c_Mo_build 306 = .ok (.putfield 67, 3) := by decide +kernel
theorem d_Mo_build_309 : decode c_Mo_build 309 = .ok (.aload_n 0, 1) := by decide +kernel
theorem d_Mo_build_310 : decode c_Mo_build 310 = .ok (.invokevirtual 109, 3) := by decide +kernel
theorem d_Mo_build_313 : decode c_Mo_build 313 = .ok (.ireturn, 1) := by decide +kernel
theorem d_Mo_firstMarks_0 : decode c_Mo_firstMarks 0 = .ok (.iconst 0, 1) := by decide +kernel
theorem d_Mo_firstMarks_1 : decode c_Mo_firstMarks 1 = .ok (.istore_n 2, 1) := by decide +kernel
theorem d_Mo_firstMarks_2 : decode c_Mo_firstMarks 2 = .ok (.iload_n 2, 1) := by decide +kernel
theorem d_Mo_firstMarks_3 : decode c_Mo_firstMarks 3 = .ok (.aload_n 0, 1) := by decide +kernel
theorem d_Mo_firstMarks_4 : decode c_Mo_firstMarks 4 = .ok (.getfield 7, 3) := by decide +kernel
theorem d_Mo_firstMarks_7 : decode c_Mo_firstMarks 7 = .ok (.if_icmp .ge 65, 3) := by decide +kernel
theorem d_Mo_firstMarks_10 : decode c_Mo_firstMarks 10 = .ok (.aload_n 0, 1) := by decide +kernel
theorem d_Mo_firstMarks_11 : decode c_Mo_firstMarks 11 = .ok (.getfield 39, 3) := by decide +kernel
theorem d_Mo_firstMarks_14 : decode c_Mo_firstMarks 14 = .ok (.iload_n 2, 1) := by decide +kernel
theorem d_Mo_firstMarks_15 : decode c_Mo_firstMarks 15 = .ok (.iconst 0, 1) := by decide +kernel
theorem d_Mo_firstMarks_16 : decode c_Mo_firstMarks 16 = .ok (.bastore, 1) := by decide +kernel
theorem d_Mo_firstMarks_17 : decode c_Mo_firstMarks 17 = .ok (.aload_n 0, 1) := by decide +kernel
theorem d_Mo_firstMarks_18 : decode c_Mo_firstMarks 18 = .ok (.getfield 32, 3) := by decide +kernel
theorem d_Mo_firstMarks_21 : decode c_Mo_firstMarks 21 = .ok (.iload_n 2, 1) := by decide +kernel
theorem d_Mo_firstMarks_22 : decode c_Mo_firstMarks 22 = .ok (.iconst 0, 1) := by decide +kernel
theorem d_Mo_firstMarks_23 : decode c_Mo_firstMarks 23 = .ok (.bastore, 1) := by decide +kernel
theorem d_Mo_firstMarks_24 : decode c_Mo_firstMarks 24 = .ok (.iconst 0, 1) := by decide +kernel
theorem d_Mo_firstMarks_25 : decode c_Mo_firstMarks 25 = .ok (.istore_n 3, 1) := by decide +kernel
theorem d_Mo_firstMarks_26 : decode c_Mo_firstMarks 26 = .ok (.iload_n 3, 1) := by decide +kernel
theorem d_Mo_firstMarks_27 : decode c_Mo_firstMarks 27 = .ok (.aload_n 0, 1) := by decide +kernel
theorem d_Mo_firstMarks_28 : decode c_Mo_firstMarks 28 = .ok (.getfield 7, 3) := by decide +kernel
theorem d_Mo_firstMarks_31 : decode c_Mo_firstMarks 31 = .ok (.if_icmp .ge 35, 3) := by decide +kernel
theorem d_Mo_firstMarks_34 : decode c_Mo_firstMarks 34 = .ok (.aload_n 0, 1) := by decide +kernel
theorem d_Mo_firstMarks_35 : decode c_Mo_firstMarks 35 = .ok (.getfield 36, 3) := by decide +kernel
theorem d_Mo_firstMarks_38 : decode c_Mo_firstMarks 38 = .ok (.bipush 40, 2) := by decide +kernel
theorem d_Mo_firstMarks_40 : decode c_Mo_firstMarks 40 = .ok (.iload_n 2, 1) := by decide +kernel
theorem d_Mo_firstMarks_41 : decode c_Mo_firstMarks 41 = .ok (.imul, 1) := by decide +kernel
theorem d_Mo_firstMarks_42 : decode c_Mo_firstMarks 42 = .ok (.iload_n 3, 1) := by decide +kernel
theorem d_Mo_firstMarks_43 : decode c_Mo_firstMarks 43 = .ok (.iadd, 1) := by decide +kernel
theorem d_Mo_firstMarks_44 : decode c_Mo_firstMarks 44 = .ok (.aload_n 0, 1) := by decide +kernel
theorem d_Mo_firstMarks_45 : decode c_Mo_firstMarks 45 = .ok (.iload_n 2, 1) := by decide +kernel
theorem d_Mo_firstMarks_46 : decode c_Mo_firstMarks 46 = .ok (.iload_n 3, 1) := by decide +kernel
theorem d_Mo_firstMarks_47 : decode c_Mo_firstMarks 47 = .ok (.invokevirtual 86, 3) := by decide +kernel
theorem d_Mo_firstMarks_50 : decode c_Mo_firstMarks 50 = .ok (.iload_n 1, 1) := by decide +kernel
theorem d_Mo_firstMarks_51 : decode c_Mo_firstMarks 51 = .ok (.if_icmp .ge 7, 3) := by decide +kernel
theorem d_Mo_firstMarks_54 : decode c_Mo_firstMarks 54 = .ok (.iconst 1, 1) := by decide +kernel
theorem d_Mo_firstMarks_55 : decode c_Mo_firstMarks 55 = .ok (.goto 4, 3) := by decide +kernel
theorem d_Mo_firstMarks_58 : decode c_Mo_firstMarks 58 = .ok (.iconst 0, 1) := by decide +kernel
theorem d_Mo_firstMarks_59 : decode c_Mo_firstMarks 59 = .ok (.bastore, 1) := by decide +kernel
theorem d_Mo_firstMarks_60 : decode c_Mo_firstMarks 60 = .ok (.iinc 3 1, 3) := by decide +kernel
theorem d_Mo_firstMarks_63 : decode c_Mo_firstMarks 63 = .ok (.goto (-37), 3) := by decide +kernel
theorem d_Mo_firstMarks_66 : decode c_Mo_firstMarks 66 = .ok (.iinc 2 1, 3) := by decide +kernel
theorem d_Mo_firstMarks_69 : decode c_Mo_firstMarks 69 = .ok (.goto (-67), 3) := by decide +kernel
theorem d_Mo_firstMarks_72 : decode c_Mo_firstMarks 72 = .ok (.iconst 0, 1) := by decide +kernel
theorem d_Mo_firstMarks_73 : decode c_Mo_firstMarks 73 = .ok (.istore_n 2, 1) := by decide +kernel
theorem d_Mo_firstMarks_74 : decode c_Mo_firstMarks 74 = .ok (.iconst 1, 1) := by decide +kernel
theorem d_Mo_firstMarks_75 : decode c_Mo_firstMarks 75 = .ok (.istore_n 3, 1) := by decide +kernel
theorem d_Mo_firstMarks_76 : decode c_Mo_firstMarks 76 = .ok (.iload_n 3, 1) := by decide +kernel
theorem d_Mo_firstMarks_77 : decode c_Mo_firstMarks 77 = .ok (.ifCond .eq 140, 3) := by decide +kernel
theorem d_Mo_firstMarks_80 : decode c_Mo_firstMarks 80 = .ok (.iconst 0, 1) := by decide +kernel
theorem d_Mo_firstMarks_81 : decode c_Mo_firstMarks 81 = .ok (.istore 4, 2) := by decide +kernel
theorem d_Mo_firstMarks_83 : decode c_Mo_firstMarks 83 = .ok (.iconst 1, 1) := by decide +kernel
theorem d_Mo_firstMarks_84 : decode c_Mo_firstMarks 84 = .ok (.istore 5, 2) := by decide +kernel
theorem d_Mo_firstMarks_86 : decode c_Mo_firstMarks 86 = .ok (.iload 5, 2) := by decide +kernel
theorem d_Mo_firstMarks_88 : decode c_Mo_firstMarks 88 = .ok (.aload_n 0, 1) := by decide +kernel
theorem d_Mo_firstMarks_89 : decode c_Mo_firstMarks 89 = .ok (.getfield 7, 3) := by decide +kernel
theorem d_Mo_firstMarks_92 : decode c_Mo_firstMarks 92 = .ok (.if_icmp .ge 33, 3) := by decide +kernel
theorem d_Mo_firstMarks_95 : decode c_Mo_firstMarks 95 = .ok (.aload_n 0, 1) := by decide +kernel
theorem d_Mo_firstMarks_96 : decode c_Mo_firstMarks 96 = .ok (.iload 5, 2) := by decide +kernel
theorem d_Mo_firstMarks_98 : decode c_Mo_firstMarks 98 = .ok (.invokevirtual 89, 3) := by decide +kernel
theorem d_Mo_firstMarks_101 : decode c_Mo_firstMarks 101 = .ok (.aload_n 0, 1) := by decide +kernel
theorem d_Mo_firstMarks_102 : decode c_Mo_firstMarks 102 = .ok (.iload 4, 2) := by decide +kernel
theorem d_Mo_firstMarks_104 : decode c_Mo_firstMarks 104 = .ok (.invokevirtual 89, 3) := by decide +kernel
theorem d_Mo_firstMarks_107 : decode c_Mo_firstMarks 107 = .ok (.if_icmp .le 8, 3) := by decide +kernel
theorem d_Mo_firstMarks_110 : decode c_Mo_firstMarks 110 = .ok (.iload 5, 2) := by decide +kernel
theorem d_Mo_firstMarks_112 : decode c_Mo_firstMarks 112 = .ok (.goto 5, 3) := by decide +kernel
theorem d_Mo_firstMarks_115 : decode c_Mo_firstMarks 115 = .ok (.iload 4, 2) := by decide +kernel
theorem d_Mo_firstMarks_117 : decode c_Mo_firstMarks 117 = .ok (.istore 4, 2) := by decide +kernel
theorem d_Mo_firstMarks_119 : decode c_Mo_firstMarks 119 = .ok (.iinc 5 1, 3) := by decide +kernel
theorem d_Mo_firstMarks_122 : decode c_Mo_firstMarks 122 = .ok (.goto (-36), 3) := by decide +kernel
theorem d_Mo_firstMarks_125 : decode c_Mo_firstMarks 125 = .ok (.aload_n 0, 1) := by decide +kernel
theorem d_Mo_firstMarks_126 : decode c_Mo_firstMarks 126 = .ok (.iload 4, 2) := by decide +kernel
theorem d_Mo_firstMarks_128 : decode c_Mo_firstMarks 128 = .ok (.invokevirtual 89, 3) := by decide +kernel
theorem d_Mo_firstMarks_131 : decode c_Mo_firstMarks 131 = .ok (.ifCond .le 7, 3) := by decide +kernel
theorem d_Mo_firstMarks_134 : decode c_Mo_firstMarks 134 = .ok (.iconst 1, 1) := by decide +kernel
theorem d_Mo_firstMarks_135 : decode c_Mo_firstMarks 135 = .ok (.goto 4, 3) := by decide +kernel
theorem d_Mo_firstMarks_138 : decode c_Mo_firstMarks 138 = .ok (.iconst 0, 1) := by decide +kernel
theorem d_Mo_firstMarks_139 : decode c_Mo_firstMarks 139 = .ok (.istore_n 3, 1) := by decide +kernel
theorem d_Mo_firstMarks_140 : decode c_Mo_firstMarks 140 = .ok (.iload_n 3, 1) := by decide +kernel
theorem d_Mo_firstMarks_141 : decode c_Mo_firstMarks 141 = .ok (.ifCond .ne 6, 3) := by decide +kernel
theorem d_Mo_firstMarks_144 : decode c_Mo_firstMarks 144 = .ok (.goto (-68), 3) := by decide +kernel
theorem d_Mo_firstMarks_147 : decode c_Mo_firstMarks 147 = .ok (.aload_n 0, 1) := by decide +kernel
theorem d_Mo_firstMarks_148 : decode c_Mo_firstMarks 148 = .ok (.getfield 32, 3) := by decide +kernel
theorem d_Mo_firstMarks_151 : decode c_Mo_firstMarks 151 = .ok (.iload 4, 2) := by decide +kernel
theorem d_Mo_firstMarks_153 : decode c_Mo_firstMarks 153 = .ok (.iconst 1, 1) := by decide +kernel
theorem d_Mo_firstMarks_154 : decode c_Mo_firstMarks 154 = .ok (.bastore, 1) := by decide +kernel
theorem d_Mo_firstMarks_155 : decode c_Mo_firstMarks 155 = .ok (.iinc 2 1, 3) := by decide +kernel
theorem d_Mo_firstMarks_158 : decode c_Mo_firstMarks 158 = .ok (.iconst 0, 1) := by decide +kernel
theorem d_Mo_firstMarks_159 : decode c_Mo_firstMarks 159 = .ok (.istore 5, 2) := by decide +kernel
theorem d_Mo_firstMarks_161 : decode c_Mo_firstMarks 161 = .ok (.iload 5, 2) := by decide +kernel
theorem d_Mo_firstMarks_163 : decode c_Mo_firstMarks 163 = .ok (.aload_n 0, 1) := by decide +kernel
theorem d_Mo_firstMarks_164 : decode c_Mo_firstMarks 164 = .ok (.getfield 7, 3) := by decide +kernel
theorem d_Mo_firstMarks_167 : decode c_Mo_firstMarks 167 = .ok (.if_icmp .ge 47, 3) := by decide +kernel
theorem d_Mo_firstMarks_170 : decode c_Mo_firstMarks 170 = .ok (.aload_n 0, 1) := by decide +kernel
theorem d_Mo_firstMarks_171 : decode c_Mo_firstMarks 171 = .ok (.getfield 39, 3) := by decide +kernel
theorem d_Mo_firstMarks_174 : decode c_Mo_firstMarks 174 = .ok (.iload 5, 2) := by decide +kernel
theorem d_Mo_firstMarks_176 : decode c_Mo_firstMarks 176 = .ok (.aload_n 0, 1) := by decide +kernel
theorem d_Mo_firstMarks_177 : decode c_Mo_firstMarks 177 = .ok (.getfield 39, 3) := by decide +kernel
theorem d_Mo_firstMarks_180 : decode c_Mo_firstMarks 180 = .ok (.iload 5, 2) := by decide +kernel
theorem d_Mo_firstMarks_182 : decode c_Mo_firstMarks 182 = .ok (.baload, 1) := by decide +kernel
theorem d_Mo_firstMarks_183 : decode c_Mo_firstMarks 183 = .ok (.ifCond .ne 19, 3) := by decide +kernel
theorem d_Mo_firstMarks_186 : decode c_Mo_firstMarks 186 = .ok (.aload_n 0, 1) := by decide +kernel
theorem d_Mo_firstMarks_187 : decode c_Mo_firstMarks 187 = .ok (.getfield 36, 3) := by decide +kernel
theorem d_Mo_firstMarks_190 : decode c_Mo_firstMarks 190 = .ok (.bipush 40, 2) := by decide +kernel
theorem d_Mo_firstMarks_192 : decode c_Mo_firstMarks 192 = .ok (.iload 5, 2) := by decide +kernel
theorem d_Mo_firstMarks_194 : decode c_Mo_firstMarks 194 = .ok (.imul, 1) := by decide +kernel
theorem d_Mo_firstMarks_195 : decode c_Mo_firstMarks 195 = .ok (.iload 4, 2) := by decide +kernel
theorem d_Mo_firstMarks_197 : decode c_Mo_firstMarks 197 = .ok (.iadd, 1) := by decide +kernel
theorem d_Mo_firstMarks_198 : decode c_Mo_firstMarks 198 = .ok (.baload, 1) := by decide +kernel
theorem d_Mo_firstMarks_199 : decode c_Mo_firstMarks 199 = .ok (.ifCond .eq 7, 3) := by decide +kernel
theorem d_Mo_firstMarks_202 : decode c_Mo_firstMarks 202 = .ok (.iconst 1, 1) := by decide +kernel
theorem d_Mo_firstMarks_203 : decode c_Mo_firstMarks 203 = .ok (.goto 4, 3) := by decide +kernel
theorem d_Mo_firstMarks_206 : decode c_Mo_firstMarks 206 = .ok (.iconst 0, 1) := by decide +kernel
theorem d_Mo_firstMarks_207 : decode c_Mo_firstMarks 207 = .ok (.bastore, 1) := by decide +kernel
theorem d_Mo_firstMarks_208 : decode c_Mo_firstMarks 208 = .ok (.iinc 5 1, 3) := by decide +kernel
theorem d_Mo_firstMarks_211 : decode c_Mo_firstMarks 211 = .ok (.goto (-50), 3) := by decide +kernel
theorem d_Mo_firstMarks_214 : decode c_Mo_firstMarks 214 = .ok (.goto (-138), 3) := by decide +kernel
theorem d_Mo_firstMarks_217 : decode c_Mo_firstMarks 217 = .ok (.iload_n 2, 1) := by decide +kernel
theorem d_Mo_firstMarks_218 : decode c_Mo_firstMarks 218 = .ok (.ireturn, 1) := by decide +kernel
theorem d_Mo_ahead_0 : decode c_Mo_ahead 0 = .ok (.iconst 0, 1) := by decide +kernel
theorem d_Mo_ahead_1 : decode c_Mo_ahead 1 = .ok (.istore_n 3, 1) := by decide +kernel
theorem d_Mo_ahead_2 : decode c_Mo_ahead 2 = .ok (.iconst 0, 1) := by decide +kernel
theorem d_Mo_ahead_3 : decode c_Mo_ahead 3 = .ok (.istore 4, 2) := by decide +kernel
theorem d_Mo_ahead_5 : decode c_Mo_ahead 5 = .ok (.iload 4, 2) := by decide +kernel
theorem d_Mo_ahead_7 : decode c_Mo_ahead 7 = .ok (.aload_n 0, 1) := by decide +kernel
theorem d_Mo_ahead_8 : decode c_Mo_ahead 8 = .ok (.getfield 7, 3) := by decide +kernel
theorem d_Mo_ahead_11 : decode c_Mo_ahead 11 = .ok (.if_icmp .ge 55, 3) := by decide +kernel
theorem d_Mo_ahead_14 : decode c_Mo_ahead 14 = .ok (.iload_n 3, 1) := by decide +kernel
theorem d_Mo_ahead_15 : decode c_Mo_ahead 15 = .ok (.aload_n 0, 1) := by decide +kernel
theorem d_Mo_ahead_16 : decode c_Mo_ahead 16 = .ok (.iload_n 1, 1) := by decide +kernel
theorem d_Mo_ahead_17 : decode c_Mo_ahead 17 = .ok (.iload 4, 2) := by decide +kernel
theorem d_Mo_ahead_19 : decode c_Mo_ahead 19 = .ok (.invokevirtual 82, 3) := by decide +kernel
theorem d_Mo_ahead_22 : decode c_Mo_ahead 22 = .ok (.aload_n 0, 1) := by decide +kernel
theorem d_Mo_ahead_23 : decode c_Mo_ahead 23 = .ok (.iload_n 1, 1) := by decide +kernel
theorem d_Mo_ahead_24 : decode c_Mo_ahead 24 = .ok (.iload_n 2, 1) := by decide +kernel
theorem d_Mo_ahead_25 : decode c_Mo_ahead 25 = .ok (.invokevirtual 82, 3) := by decide +kernel
theorem d_Mo_ahead_28 : decode c_Mo_ahead 28 = .ok (.if_icmp .lt 25, 3) := by decide +kernel
theorem d_Mo_ahead_31 : decode c_Mo_ahead 31 = .ok (.aload_n 0, 1) := by decide +kernel
theorem d_Mo_ahead_32 : decode c_Mo_ahead 32 = .ok (.iload_n 1, 1) := by decide +kernel
theorem d_Mo_ahead_33 : decode c_Mo_ahead 33 = .ok (.iload 4, 2) := by decide +kernel
theorem d_Mo_ahead_35 : decode c_Mo_ahead 35 = .ok (.invokevirtual 82, 3) := by decide +kernel
theorem d_Mo_ahead_38 : decode c_Mo_ahead 38 = .ok (.aload_n 0, 1) := by decide +kernel
theorem d_Mo_ahead_39 : decode c_Mo_ahead 39 = .ok (.iload_n 1, 1) := by decide +kernel
theorem d_Mo_ahead_40 : decode c_Mo_ahead 40 = .ok (.iload_n 2, 1) := by decide +kernel
theorem d_Mo_ahead_41 : decode c_Mo_ahead 41 = .ok (.invokevirtual 82, 3) := by decide +kernel
theorem d_Mo_ahead_44 : decode c_Mo_ahead 44 = .ok (.if_icmp .ne 13, 3) := by decide +kernel
theorem d_Mo_ahead_47 : decode c_Mo_ahead 47 = .ok (.iload 4, 2) := by decide +kernel
theorem d_Mo_ahead_49 : decode c_Mo_ahead 49 = .ok (.iload_n 2, 1) := by decide +kernel
theorem d_Mo_ahead_50 : decode c_Mo_ahead 50 = .ok (.if_icmp .ge 7, 3) := by decide +kernel
theorem d_Mo_ahead_53 : decode c_Mo_ahead 53 = .ok (.iconst 1, 1) := by decide +kernel
theorem d_Mo_ahead_54 : decode c_Mo_ahead 54 = .ok (.goto 4, 3) := by decide +kernel
theorem d_Mo_ahead_57 : decode c_Mo_ahead 57 = .ok (.iconst 0, 1) := by decide +kernel
theorem d_Mo_ahead_58 : decode c_Mo_ahead 58 = .ok (.iadd, 1) := by decide +kernel
theorem d_Mo_ahead_59 : decode c_Mo_ahead 59 = .ok (.istore_n 3, 1) := by decide +kernel
theorem d_Mo_ahead_60 : decode c_Mo_ahead 60 = .ok (.iinc 4 1, 3) := by decide +kernel
theorem d_Mo_ahead_63 : decode c_Mo_ahead 63 = .ok (.goto (-58), 3) := by decide +kernel
theorem d_Mo_ahead_66 : decode c_Mo_ahead 66 = .ok (.iload_n 3, 1) := by decide +kernel
theorem d_Mo_ahead_67 : decode c_Mo_ahead 67 = .ok (.ireturn, 1) := by decide +kernel
theorem d_Mo_d_0 : decode c_Mo_d 0 = .ok (.aload_n 0, 1) := by decide +kernel
theorem d_Mo_d_1 : decode c_Mo_d 1 = .ok (.getfield 29, 3) := by decide +kernel
theorem d_Mo_d_4 : decode c_Mo_d 4 = .ok (.bipush 40, 2) := by decide +kernel
theorem d_Mo_d_6 : decode c_Mo_d 6 = .ok (.iload_n 1, 1) := by decide +kernel
theorem d_Mo_d_7 : decode c_Mo_d 7 = .ok (.imul, 1) := by decide +kernel
theorem d_Mo_d_8 : decode c_Mo_d 8 = .ok (.iload_n 2, 1) := by decide +kernel
theorem d_Mo_d_9 : decode c_Mo_d 9 = .ok (.iadd, 1) := by decide +kernel
theorem d_Mo_d_10 : decode c_Mo_d 10 = .ok (.iaload, 1) := by decide +kernel
theorem d_Mo_d_11 : decode c_Mo_d 11 = .ok (.ireturn, 1) := by decide +kernel
theorem d_Mo_inBalls_0 : decode c_Mo_inBalls 0 = .ok (.iconst 0, 1) := by decide +kernel
theorem d_Mo_inBalls_1 : decode c_Mo_inBalls 1 = .ok (.istore_n 2, 1) := by decide +kernel
theorem d_Mo_inBalls_2 : decode c_Mo_inBalls 2 = .ok (.iconst 0, 1) := by decide +kernel
theorem d_Mo_inBalls_3 : decode c_Mo_inBalls 3 = .ok (.istore_n 3, 1) := by decide +kernel
theorem d_Mo_inBalls_4 : decode c_Mo_inBalls 4 = .ok (.iload_n 3, 1) := by decide +kernel
theorem d_Mo_inBalls_5 : decode c_Mo_inBalls 5 = .ok (.aload_n 0, 1) := by decide +kernel
theorem d_Mo_inBalls_6 : decode c_Mo_inBalls 6 = .ok (.getfield 7, 3) := by decide +kernel
theorem d_Mo_inBalls_9 : decode c_Mo_inBalls 9 = .ok (.if_icmp .ge 40, 3) := by decide +kernel
theorem d_Mo_inBalls_12 : decode c_Mo_inBalls 12 = .ok (.iload_n 2, 1) := by decide +kernel
theorem d_Mo_inBalls_13 : decode c_Mo_inBalls 13 = .ok (.aload_n 0, 1) := by decide +kernel
theorem d_Mo_inBalls_14 : decode c_Mo_inBalls 14 = .ok (.getfield 39, 3) := by decide +kernel
theorem d_Mo_inBalls_17 : decode c_Mo_inBalls 17 = .ok (.iload_n 3, 1) := by decide +kernel
theorem d_Mo_inBalls_18 : decode c_Mo_inBalls 18 = .ok (.baload, 1) := by decide +kernel
theorem d_Mo_inBalls_19 : decode c_Mo_inBalls 19 = .ok (.ifCond .ne 21, 3) := by decide +kernel
theorem d_Mo_inBalls_22 : decode c_Mo_inBalls 22 = .ok (.aload_n 0, 1) := by decide +kernel
theorem d_Mo_inBalls_23 : decode c_Mo_inBalls 23 = .ok (.getfield 36, 3) := by decide +kernel
theorem d_Mo_inBalls_26 : decode c_Mo_inBalls 26 = .ok (.bipush 40, 2) := by decide +kernel
theorem d_Mo_inBalls_28 : decode c_Mo_inBalls 28 = .ok (.iload_n 3, 1) := by decide +kernel
theorem d_Mo_inBalls_29 : decode c_Mo_inBalls 29 = .ok (.imul, 1) := by decide +kernel
theorem d_Mo_inBalls_30 : decode c_Mo_inBalls 30 = .ok (.iload_n 1, 1) := by decide +kernel
theorem d_Mo_inBalls_31 : decode c_Mo_inBalls 31 = .ok (.iadd, 1) := by decide +kernel
theorem d_Mo_inBalls_32 : decode c_Mo_inBalls 32 = .ok (.baload, 1) := by decide +kernel
theorem d_Mo_inBalls_33 : decode c_Mo_inBalls 33 = .ok (.ifCond .eq 7, 3) := by decide +kernel
theorem d_Mo_inBalls_36 : decode c_Mo_inBalls 36 = .ok (.iconst 1, 1) := by decide +kernel
theorem d_Mo_inBalls_37 : decode c_Mo_inBalls 37 = .ok (.goto 4, 3) := by decide +kernel
theorem d_Mo_inBalls_40 : decode c_Mo_inBalls 40 = .ok (.iconst 0, 1) := by decide +kernel
theorem d_Mo_inBalls_41 : decode c_Mo_inBalls 41 = .ok (.iadd, 1) := by decide +kernel
theorem d_Mo_inBalls_42 : decode c_Mo_inBalls 42 = .ok (.istore_n 2, 1) := by decide +kernel
theorem d_Mo_inBalls_43 : decode c_Mo_inBalls 43 = .ok (.iinc 3 1, 3) := by decide +kernel
theorem d_Mo_inBalls_46 : decode c_Mo_inBalls 46 = .ok (.goto (-42), 3) := by decide +kernel
theorem d_Mo_inBalls_49 : decode c_Mo_inBalls 49 = .ok (.iload_n 2, 1) := by decide +kernel
theorem d_Mo_inBalls_50 : decode c_Mo_inBalls 50 = .ok (.ireturn, 1) := by decide +kernel
theorem d_Mo_findOwn_0 : decode c_Mo_findOwn 0 = .ok (.iconst 0, 1) := by decide +kernel
theorem d_Mo_findOwn_1 : decode c_Mo_findOwn 1 = .ok (.istore_n 1, 1) := by decide +kernel
theorem d_Mo_findOwn_2 : decode c_Mo_findOwn 2 = .ok (.iload_n 1, 1) := by decide +kernel
theorem d_Mo_findOwn_3 : decode c_Mo_findOwn 3 = .ok (.aload_n 0, 1) := by decide +kernel
theorem d_Mo_findOwn_4 : decode c_Mo_findOwn 4 = .ok (.getfield 7, 3) := by decide +kernel
theorem d_Mo_findOwn_7 : decode c_Mo_findOwn 7 = .ok (.if_icmp .ge 77, 3) := by decide +kernel
theorem d_Mo_findOwn_10 : decode c_Mo_findOwn 10 = .ok (.aload_n 0, 1) := by decide +kernel
theorem d_Mo_findOwn_11 : decode c_Mo_findOwn 11 = .ok (.getfield 42, 3) := by decide +kernel
theorem d_Mo_findOwn_14 : decode c_Mo_findOwn 14 = .ok (.iload_n 1, 1) := by decide +kernel
theorem d_Mo_findOwn_15 : decode c_Mo_findOwn 15 = .ok (.iconst (-1), 1) := by decide +kernel
theorem d_Mo_findOwn_16 : decode c_Mo_findOwn 16 = .ok (.iastore, 1) := by decide +kernel
theorem d_Mo_findOwn_17 : decode c_Mo_findOwn 17 = .ok (.iconst 0, 1) := by decide +kernel
theorem d_Mo_findOwn_18 : decode c_Mo_findOwn 18 = .ok (.istore_n 2, 1) := by decide +kernel
theorem d_Mo_findOwn_19 : decode c_Mo_findOwn 19 = .ok (.iload_n 2, 1) := by decide +kernel
theorem d_Mo_findOwn_20 : decode c_Mo_findOwn 20 = .ok (.aload_n 0, 1) := by decide +kernel
theorem d_Mo_findOwn_21 : decode c_Mo_findOwn 21 = .ok (.getfield 7, 3) := by decide +kernel
theorem d_Mo_findOwn_24 : decode c_Mo_findOwn 24 = .ok (.if_icmp .ge 54, 3) := by decide +kernel
theorem d_Mo_findOwn_27 : decode c_Mo_findOwn 27 = .ok (.aload_n 0, 1) := by decide +kernel
theorem d_Mo_findOwn_28 : decode c_Mo_findOwn 28 = .ok (.getfield 32, 3) := by decide +kernel
theorem d_Mo_findOwn_31 : decode c_Mo_findOwn 31 = .ok (.iload_n 2, 1) := by decide +kernel
theorem d_Mo_findOwn_32 : decode c_Mo_findOwn 32 = .ok (.baload, 1) := by decide +kernel
theorem d_Mo_findOwn_33 : decode c_Mo_findOwn 33 = .ok (.ifCond .eq 39, 3) := by decide +kernel
theorem d_Mo_findOwn_36 : decode c_Mo_findOwn 36 = .ok (.aload_n 0, 1) := by decide +kernel
theorem d_Mo_findOwn_37 : decode c_Mo_findOwn 37 = .ok (.getfield 42, 3) := by decide +kernel
theorem d_Mo_findOwn_40 : decode c_Mo_findOwn 40 = .ok (.iload_n 1, 1) := by decide +kernel
theorem d_Mo_findOwn_41 : decode c_Mo_findOwn 41 = .ok (.iaload, 1) := by decide +kernel
theorem d_Mo_findOwn_42 : decode c_Mo_findOwn 42 = .ok (.ifCond .lt 23, 3) := by decide +kernel
theorem d_Mo_findOwn_45 : decode c_Mo_findOwn 45 = .ok (.aload_n 0, 1) := by decide +kernel
theorem d_Mo_findOwn_46 : decode c_Mo_findOwn 46 = .ok (.iload_n 1, 1) := by decide +kernel
theorem d_Mo_findOwn_47 : decode c_Mo_findOwn 47 = .ok (.iload_n 2, 1) := by decide +kernel
theorem d_Mo_findOwn_48 : decode c_Mo_findOwn 48 = .ok (.invokevirtual 82, 3) := by decide +kernel
theorem d_Mo_findOwn_51 : decode c_Mo_findOwn 51 = .ok (.aload_n 0, 1) := by decide +kernel
theorem d_Mo_findOwn_52 : decode c_Mo_findOwn 52 = .ok (.iload_n 1, 1) := by decide +kernel
theorem d_Mo_findOwn_53 : decode c_Mo_findOwn 53 = .ok (.aload_n 0, 1) := by decide +kernel
theorem d_Mo_findOwn_54 : decode c_Mo_findOwn 54 = .ok (.getfield 42, 3) := by decide +kernel
theorem d_Mo_findOwn_57 : decode c_Mo_findOwn 57 = .ok (.iload_n 1, 1) := by decide +kernel
theorem d_Mo_findOwn_58 : decode c_Mo_findOwn 58 = .ok (.iaload, 1) := by decide +kernel
theorem d_Mo_findOwn_59 : decode c_Mo_findOwn 59 = .ok (.invokevirtual 82, 3) := by decide +kernel
theorem d_Mo_findOwn_62 : decode c_Mo_findOwn 62 = .ok (.if_icmp .ge 10, 3) := by decide +kernel
theorem d_Mo_findOwn_65 : decode c_Mo_findOwn 65 = .ok (.aload_n 0, 1) := by decide +kernel
theorem d_Mo_findOwn_66 : decode c_Mo_findOwn 66 = .ok (.getfield 42, 3) := by decide +kernel
theorem d_Mo_findOwn_69 : decode c_Mo_findOwn 69 = .ok (.iload_n 1, 1) := by decide +kernel
theorem d_Mo_findOwn_70 : decode c_Mo_findOwn 70 = .ok (.iload_n 2, 1) := by decide +kernel
theorem d_Mo_findOwn_71 : decode c_Mo_findOwn 71 = .ok (.iastore, 1) := by decide +kernel
theorem d_Mo_findOwn_72 : decode c_Mo_findOwn 72 = .ok (.iinc 2 1, 3) := by decide +kernel
theorem d_Mo_findOwn_75 : decode c_Mo_findOwn 75 = .ok (.goto (-56), 3) := by decide +kernel
theorem d_Mo_findOwn_78 : decode c_Mo_findOwn 78 = .ok (.iinc 1 1, 3) := by decide +kernel
theorem d_Mo_findOwn_81 : decode c_Mo_findOwn 81 = .ok (.goto (-79), 3) := by decide +kernel
theorem d_Mo_findOwn_84 : decode c_Mo_findOwn 84 = .ok (.return_, 1) := by decide +kernel
theorem d_Mo_cluster_0 : decode c_Mo_cluster 0 = .ok (.iconst 0, 1) := by decide +kernel
theorem d_Mo_cluster_1 : decode c_Mo_cluster 1 = .ok (.istore_n 2, 1) := by decide +kernel
theorem d_Mo_cluster_2 : decode c_Mo_cluster 2 = .ok (.iconst 0, 1) := by decide +kernel
theorem d_Mo_cluster_3 : decode c_Mo_cluster 3 = .ok (.istore_n 3, 1) := by decide +kernel
theorem d_Mo_cluster_4 : decode c_Mo_cluster 4 = .ok (.iload_n 3, 1) := by decide +kernel
theorem d_Mo_cluster_5 : decode c_Mo_cluster 5 = .ok (.aload_n 0, 1) := by decide +kernel
theorem d_Mo_cluster_6 : decode c_Mo_cluster 6 = .ok (.getfield 7, 3) := by decide +kernel
theorem d_Mo_cluster_9 : decode c_Mo_cluster 9 = .ok (.if_icmp .ge 26, 3) := by decide +kernel
theorem d_Mo_cluster_12 : decode c_Mo_cluster 12 = .ok (.iload_n 2, 1) := by decide +kernel
theorem d_Mo_cluster_13 : decode c_Mo_cluster 13 = .ok (.aload_n 0, 1) := by decide +kernel
theorem d_Mo_cluster_14 : decode c_Mo_cluster 14 = .ok (.iload_n 1, 1) := by decide +kernel
theorem d_Mo_cluster_15 : decode c_Mo_cluster 15 = .ok (.iload_n 3, 1) := by decide +kernel
theorem d_Mo_cluster_16 : decode c_Mo_cluster 16 = .ok (.invokevirtual 93, 3) := by decide +kernel
theorem d_Mo_cluster_19 : decode c_Mo_cluster 19 = .ok (.ifCond .eq 7, 3) := by decide +kernel
theorem d_Mo_cluster_22 : decode c_Mo_cluster 22 = .ok (.iconst 1, 1) := by decide +kernel
theorem d_Mo_cluster_23 : decode c_Mo_cluster 23 = .ok (.goto 4, 3) := by decide +kernel
theorem d_Mo_cluster_26 : decode c_Mo_cluster 26 = .ok (.iconst 0, 1) := by decide +kernel
theorem d_Mo_cluster_27 : decode c_Mo_cluster 27 = .ok (.iadd, 1) := by decide +kernel
theorem d_Mo_cluster_28 : decode c_Mo_cluster 28 = .ok (.istore_n 2, 1) := by decide +kernel
theorem d_Mo_cluster_29 : decode c_Mo_cluster 29 = .ok (.iinc 3 1, 3) := by decide +kernel
theorem d_Mo_cluster_32 : decode c_Mo_cluster 32 = .ok (.goto (-28), 3) := by decide +kernel
theorem d_Mo_cluster_35 : decode c_Mo_cluster 35 = .ok (.iload_n 2, 1) := by decide +kernel
theorem d_Mo_cluster_36 : decode c_Mo_cluster 36 = .ok (.ireturn, 1) := by decide +kernel
