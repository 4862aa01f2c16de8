/-! the law: decode rows, call sites, rows of the script -/
theorem d_Lw_law_0 : decode code 0 = .ok (.new 8, 3) := by decide +kernel
theorem d_Lw_law_3 : decode code 3 = .ok (.dup, 1) := by decide +kernel
theorem d_Lw_law_4 : decode code 4 = .ok (.invokespecial 64, 3) := by decide +kernel
theorem d_Lw_law_7 : decode code 7 = .ok (.astore_n 1, 1) := by decide +kernel
theorem d_Lw_law_8 : decode code 8 = .ok (.new 65, 3) := by decide +kernel
theorem d_Lw_law_11 : decode code 11 = .ok (.dup, 1) := by decide +kernel
theorem d_Lw_law_12 : decode code 12 = .ok (.invokespecial 67, 3) := by decide +kernel
theorem d_Lw_law_15 : decode code 15 = .ok (.astore_n 2, 1) := by decide +kernel
theorem d_Lw_law_16 : decode code 16 = .ok (.iconst 1, 1) := by decide +kernel
theorem d_Lw_law_17 : decode code 17 = .ok (.newarray .long, 2) := by decide +kernel
theorem d_Lw_law_19 : decode code 19 = .ok (.astore_n 3, 1) := by decide +kernel
theorem d_Lw_law_20 : decode code 20 = .ok (.iconst 0, 1) := by decide +kernel
theorem d_Lw_law_21 : decode code 21 = .ok (.istore 4, 2) := by decide +kernel
theorem d_Lw_law_23 : decode code 23 = .ok (.iload 4, 2) := by decide +kernel
theorem d_Lw_law_25 : decode code 25 = .ok (.aload_n 0, 1) := by decide +kernel
theorem d_Lw_law_26 : decode code 26 = .ok (.arraylength, 1) := by decide +kernel
theorem d_Lw_law_27 : decode code 27 = .ok (.iconst 4, 1) := by decide +kernel
theorem d_Lw_law_28 : decode code 28 = .ok (.isub, 1) := by decide +kernel
theorem d_Lw_law_29 : decode code 29 = .ok (.if_icmp .gt 1065, 3) := by decide +kernel
theorem d_Lw_law_32 : decode code 32 = .ok (.aload_n 0, 1) := by decide +kernel
theorem d_Lw_law_33 : decode code 33 = .ok (.iload 4, 2) := by decide +kernel
theorem d_Lw_law_35 : decode code 35 = .ok (.iaload, 1) := by decide +kernel
theorem d_Lw_law_36 : decode code 36 = .ok (.bipush 15, 2) := by decide +kernel
theorem d_Lw_law_38 : decode code 38 = .ok (.iand, 1) := by decide +kernel
theorem d_Lw_law_39 : decode code 39 = .ok (.tableswitch 1049 0 14 #[73, 109, 189, 257, 325, 381, 437, 505, 573, 641, 721, 789, 845, 901, 969], 73) := by decide +kernel
theorem d_Lw_law_112 : decode code 112 = .ok (.aload_n 1, 1) := by decide +kernel
theorem d_Lw_law_113 : decode code 113 = .ok (.aload_n 0, 1) := by decide +kernel
theorem d_Lw_law_114 : decode code 114 = .ok (.iload 4, 2) := by decide +kernel
theorem d_Lw_law_116 : decode code 116 = .ok (.iconst 1, 1) := by decide +kernel
theorem d_Lw_law_117 : decode code 117 = .ok (.iadd, 1) := by decide +kernel
theorem d_Lw_law_118 : decode code 118 = .ok (.iaload, 1) := by decide +kernel
theorem d_Lw_law_119 : decode code 119 = .ok (.invokestatic 68, 3) := by decide +kernel
theorem d_Lw_law_122 : decode code 122 = .ok (.istore 5, 2) := by decide +kernel
theorem d_Lw_law_124 : decode code 124 = .ok (.aload_n 2, 1) := by decide +kernel
theorem d_Lw_law_125 : decode code 125 = .ok (.aload_n 0, 1) := by decide +kernel
theorem d_Lw_law_126 : decode code 126 = .ok (.iload 4, 2) := by decide +kernel
theorem d_Lw_law_128 : decode code 128 = .ok (.iconst 1, 1) := by decide +kernel
theorem d_Lw_law_129 : decode code 129 = .ok (.iadd, 1) := by decide +kernel
theorem d_Lw_law_130 : decode code 130 = .ok (.iaload, 1) := by decide +kernel
theorem d_Lw_law_131 : decode code 131 = .ok (.invokevirtual 73, 3) := by decide +kernel
theorem d_Lw_law_134 : decode code 134 = .ok (.aload_n 2, 1) := by decide +kernel
theorem d_Lw_law_135 : decode code 135 = .ok (.invokevirtual 74, 3) := by decide +kernel
theorem d_Lw_law_138 : decode code 138 = .ok (.iload 5, 2) := by decide +kernel
theorem d_Lw_law_140 : decode code 140 = .ok (.if_icmp .eq 5, 3) := by decide +kernel
theorem d_Lw_law_143 : decode code 143 = .ok (.iconst 0, 1) := by decide +kernel
theorem d_Lw_law_144 : decode code 144 = .ok (.ireturn, 1) := by decide +kernel
theorem d_Lw_law_145 : decode code 145 = .ok (.goto 943, 3) := by decide +kernel
theorem d_Lw_law_148 : decode code 148 = .ok (.aload_n 1, 1) := by decide +kernel
theorem d_Lw_law_149 : decode code 149 = .ok (.aload_n 0, 1) := by decide +kernel
theorem d_Lw_law_150 : decode code 150 = .ok (.iload 4, 2) := by decide +kernel
theorem d_Lw_law_152 : decode code 152 = .ok (.iconst 1, 1) := by decide +kernel
theorem d_Lw_law_153 : decode code 153 = .ok (.iadd, 1) := by decide +kernel
theorem d_Lw_law_154 : decode code 154 = .ok (.iaload, 1) := by decide +kernel
theorem d_Lw_law_155 : decode code 155 = .ok (.aload_n 0, 1) := by decide +kernel
theorem d_Lw_law_156 : decode code 156 = .ok (.iload 4, 2) := by decide +kernel
theorem d_Lw_law_158 : decode code 158 = .ok (.iconst 2, 1) := by decide +kernel
theorem d_Lw_law_159 : decode code 159 = .ok (.iadd, 1) := by decide +kernel
theorem d_Lw_law_160 : decode code 160 = .ok (.iaload, 1) := by decide +kernel
theorem d_Lw_law_161 : decode code 161 = .ok (.aload_n 0, 1) := by decide +kernel
theorem d_Lw_law_162 : decode code 162 = .ok (.iload 4, 2) := by decide +kernel
theorem d_Lw_law_164 : decode code 164 = .ok (.iconst 3, 1) := by decide +kernel
theorem d_Lw_law_165 : decode code 165 = .ok (.iadd, 1) := by decide +kernel
theorem d_Lw_law_166 : decode code 166 = .ok (.iaload, 1) := by decide +kernel
theorem d_Lw_law_167 : decode code 167 = .ok (.aload_n 3, 1) := by decide +kernel
theorem d_Lw_law_168 : decode code 168 = .ok (.invokestatic 78, 3) := by decide +kernel
theorem d_Lw_law_171 : decode code 171 = .ok (.istore 5, 2) := by decide +kernel
theorem d_Lw_law_173 : decode code 173 = .ok (.aload_n 2, 1) := by decide +kernel
theorem d_Lw_law_174 : decode code 174 = .ok (.aload_n 0, 1) := by decide +kernel
theorem d_Lw_law_175 : decode code 175 = .ok (.iload 4, 2) := by decide +kernel
theorem d_Lw_law_177 : decode code 177 = .ok (.iconst 1, 1) := by decide +kernel
theorem d_Lw_law_178 : decode code 178 = .ok (.iadd, 1) := by decide +kernel
theorem d_Lw_law_179 : decode code 179 = .ok (.iaload, 1) := by decide +kernel
theorem d_Lw_law_180 : decode code 180 = .ok (.aload_n 0, 1) := by decide +kernel
theorem d_Lw_law_181 : decode code 181 = .ok (.iload 4, 2) := by decide +kernel
theorem d_Lw_law_183 : decode code 183 = .ok (.iconst 2, 1) := by decide +kernel
theorem d_Lw_law_184 : decode code 184 = .ok (.iadd, 1) := by decide +kernel
theorem d_Lw_law_185 : decode code 185 = .ok (.iaload, 1) := by decide +kernel
theorem d_Lw_law_186 : decode code 186 = .ok (.aload_n 0, 1) := by decide +kernel
theorem d_Lw_law_187 : decode code 187 = .ok (.iload 4, 2) := by decide +kernel
theorem d_Lw_law_189 : decode code 189 = .ok (.iconst 3, 1) := by decide +kernel
theorem d_Lw_law_190 : decode code 190 = .ok (.iadd, 1) := by decide +kernel
theorem d_Lw_law_191 : decode code 191 = .ok (.iaload, 1) := by decide +kernel
theorem d_Lw_law_192 : decode code 192 = .ok (.invokevirtual 81, 3) := by decide +kernel
theorem d_Lw_law_195 : decode code 195 = .ok (.istore 6, 2) := by decide +kernel
theorem d_Lw_law_197 : decode code 197 = .ok (.aload_n 2, 1) := by decide +kernel
theorem d_Lw_law_198 : decode code 198 = .ok (.invokevirtual 74, 3) := by decide +kernel
theorem d_Lw_law_201 : decode code 201 = .ok (.iload 5, 2) := by decide +kernel
theorem d_Lw_law_203 : decode code 203 = .ok (.if_icmp .eq 5, 3) := by decide +kernel
theorem d_Lw_law_206 : decode code 206 = .ok (.iconst 0, 1) := by decide +kernel
theorem d_Lw_law_207 : decode code 207 = .ok (.ireturn, 1) := by decide +kernel
theorem d_Lw_law_208 : decode code 208 = .ok (.iload 5, 2) := by decide +kernel
theorem d_Lw_law_210 : decode code 210 = .ok (.ifCond .ne 15, 3) := by decide +kernel
theorem d_Lw_law_213 : decode code 213 = .ok (.aload_n 3, 1) := by decide +kernel
theorem d_Lw_law_214 : decode code 214 = .ok (.iconst 0, 1) := by decide +kernel
theorem d_Lw_law_215 : decode code 215 = .ok (.laload, 1) := by decide +kernel
theorem d_Lw_law_216 : decode code 216 = .ok (.iload 6, 2) := by decide +kernel
theorem d_Lw_law_218 : decode code 218 = .ok (.i2l, 1) := by decide +kernel
theorem d_Lw_law_219 : decode code 219 = .ok (.lcmp, 1) := by decide +kernel
theorem d_Lw_law_220 : decode code 220 = .ok (.ifCond .eq 5, 3) := by decide +kernel
theorem d_Lw_law_223 : decode code 223 = .ok (.iconst 0, 1) := by decide +kernel
theorem d_Lw_law_224 : decode code 224 = .ok (.ireturn, 1) := by decide +kernel
theorem d_Lw_law_225 : decode code 225 = .ok (.goto 863, 3) := by decide +kernel
theorem d_Lw_law_228 : decode code 228 = .ok (.aload_n 1, 1) := by decide +kernel
theorem d_Lw_law_229 : decode code 229 = .ok (.aload_n 0, 1) := by decide +kernel
theorem d_Lw_law_230 : decode code 230 = .ok (.iload 4, 2) := by decide +kernel
theorem d_Lw_law_232 : decode code 232 = .ok (.iconst 1, 1) := by decide +kernel
theorem d_Lw_law_233 : decode code 233 = .ok (.iadd, 1) := by decide +kernel
theorem d_Lw_law_234 : decode code 234 = .ok (.iaload, 1) := by decide +kernel
theorem d_Lw_law_235 : decode code 235 = .ok (.aload_n 0, 1) := by decide +kernel
theorem d_Lw_law_236 : decode code 236 = .ok (.iload 4, 2) := by decide +kernel
theorem d_Lw_law_238 : decode code 238 = .ok (.iconst 2, 1) := by decide +kernel
theorem d_Lw_law_239 : decode code 239 = .ok (.iadd, 1) := by decide +kernel
theorem d_Lw_law_240 : decode code 240 = .ok (.iaload, 1) := by decide +kernel
theorem d_Lw_law_241 : decode code 241 = .ok (.aload_n 3, 1) := by decide +kernel
theorem d_Lw_law_242 : decode code 242 = .ok (.invokestatic 82, 3) := by decide +kernel
theorem d_Lw_law_245 : decode code 245 = .ok (.istore 5, 2) := by decide +kernel
theorem d_Lw_law_247 : decode code 247 = .ok (.aload_n 2, 1) := by decide +kernel
theorem d_Lw_law_248 : decode code 248 = .ok (.aload_n 0, 1) := by decide +kernel
theorem d_Lw_law_249 : decode code 249 = .ok (.iload 4, 2) := by decide +kernel
theorem d_Lw_law_251 : decode code 251 = .ok (.iconst 1, 1) := by decide +kernel
theorem d_Lw_law_252 : decode code 252 = .ok (.iadd, 1) := by decide +kernel
theorem d_Lw_law_253 : decode code 253 = .ok (.iaload, 1) := by decide +kernel
theorem d_Lw_law_254 : decode code 254 = .ok (.aload_n 0, 1) := by decide +kernel
theorem d_Lw_law_255 : decode code 255 = .ok (.iload 4, 2) := by decide +kernel
theorem d_Lw_law_257 : decode code 257 = .ok (.iconst 2, 1) := by decide +kernel
theorem d_Lw_law_258 : decode code 258 = .ok (.iadd, 1) := by decide +kernel
theorem d_Lw_law_259 : decode code 259 = .ok (.iaload, 1) := by decide +kernel
theorem d_Lw_law_260 : decode code 260 = .ok (.invokevirtual 85, 3) := by decide +kernel
theorem d_Lw_law_263 : decode code 263 = .ok (.istore 6, 2) := by decide +kernel
theorem d_Lw_law_265 : decode code 265 = .ok (.aload_n 2, 1) := by decide +kernel
theorem d_Lw_law_266 : decode code 266 = .ok (.invokevirtual 74, 3) := by decide +kernel
theorem d_Lw_law_269 : decode code 269 = .ok (.iload 5, 2) := by decide +kernel
theorem d_Lw_law_271 : decode code 271 = .ok (.if_icmp .eq 5, 3) := by decide +kernel
theorem d_Lw_law_274 : decode code 274 = .ok (.iconst 0, 1) := by decide +kernel
theorem d_Lw_law_275 : decode code 275 = .ok (.ireturn, 1) := by decide +kernel
theorem d_Lw_law_276 : decode code 276 = .ok (.iload 5, 2) := by decide +kernel
theorem d_Lw_law_278 : decode code 278 = .ok (.ifCond .ne 15, 3) := by decide +kernel
theorem d_Lw_law_281 : decode code 281 = .ok (.aload_n 3, 1) := by decide +kernel
theorem d_Lw_law_282 : decode code 282 = .ok (.iconst 0, 1) := by decide +kernel
theorem d_Lw_law_283 : decode code 283 = .ok (.laload, 1) := by decide +kernel
theorem d_Lw_law_284 : decode code 284 = .ok (.iload 6, 2) := by decide +kernel
theorem d_Lw_law_286 : decode code 286 = .ok (.i2l, 1) := by decide +kernel
theorem d_Lw_law_287 : decode code 287 = .ok (.lcmp, 1) := by decide +kernel
theorem d_Lw_law_288 : decode code 288 = .ok (.ifCond .eq 5, 3) := by decide +kernel
theorem d_Lw_law_291 : decode code 291 = .ok (.iconst 0, 1) := by decide +kernel
theorem d_Lw_law_292 : decode code 292 = .ok (.ireturn, 1) := by decide +kernel
theorem d_Lw_law_293 : decode code 293 = .ok (.goto 795, 3) := by decide +kernel
theorem d_Lw_law_296 : decode code 296 = .ok (.aload_n 1, 1) := by decide +kernel
theorem d_Lw_law_297 : decode code 297 = .ok (.aload_n 0, 1) := by decide +kernel
theorem d_Lw_law_298 : decode code 298 = .ok (.iload 4, 2) := by decide +kernel
theorem d_Lw_law_300 : decode code 300 = .ok (.iconst 1, 1) := by decide +kernel
theorem d_Lw_law_301 : decode code 301 = .ok (.iadd, 1) := by decide +kernel
theorem d_Lw_law_302 : decode code 302 = .ok (.iaload, 1) := by decide +kernel
theorem d_Lw_law_303 : decode code 303 = .ok (.aload_n 0, 1) := by decide +kernel
theorem d_Lw_law_304 : decode code 304 = .ok (.iload 4, 2) := by decide +kernel
theorem d_Lw_law_306 : decode code 306 = .ok (.iconst 2, 1) := by decide +kernel
theorem d_Lw_law_307 : decode code 307 = .ok (.iadd, 1) := by decide +kernel
theorem d_Lw_law_308 : decode code 308 = .ok (.iaload, 1) := by decide +kernel
theorem d_Lw_law_309 : decode code 309 = .ok (.aload_n 3, 1) := by decide +kernel
theorem d_Lw_law_310 : decode code 310 = .ok (.invokestatic 86, 3) := by decide +kernel
theorem d_Lw_law_313 : decode code 313 = .ok (.istore 5, 2) := by decide +kernel
theorem d_Lw_law_315 : decode code 315 = .ok (.aload_n 2, 1) := by decide +kernel
theorem d_Lw_law_316 : decode code 316 = .ok (.aload_n 0, 1) := by decide +kernel
theorem d_Lw_law_317 : decode code 317 = .ok (.iload 4, 2) := by decide +kernel
theorem d_Lw_law_319 : decode code 319 = .ok (.iconst 1, 1) := by decide +kernel
theorem d_Lw_law_320 : decode code 320 = .ok (.iadd, 1) := by decide +kernel
theorem d_Lw_law_321 : decode code 321 = .ok (.iaload, 1) := by decide +kernel
theorem d_Lw_law_322 : decode code 322 = .ok (.aload_n 0, 1) := by decide +kernel
theorem d_Lw_law_323 : decode code 323 = .ok (.iload 4, 2) := by decide +kernel
theorem d_Lw_law_325 : decode code 325 = .ok (.iconst 2, 1) := by decide +kernel
theorem d_Lw_law_326 : decode code 326 = .ok (.iadd, 1) := by decide +kernel
theorem d_Lw_law_327 : decode code 327 = .ok (.iaload, 1) := by decide +kernel
theorem d_Lw_law_328 : decode code 328 = .ok (.invokevirtual 88, 3) := by decide +kernel
theorem d_Lw_law_331 : decode code 331 = .ok (.istore 6, 2) := by decide +kernel
theorem d_Lw_law_333 : decode code 333 = .ok (.aload_n 2, 1) := by decide +kernel
theorem d_Lw_law_334 : decode code 334 = .ok (.invokevirtual 74, 3) := by decide +kernel
theorem d_Lw_law_337 : decode code 337 = .ok (.iload 5, 2) := by decide +kernel
theorem d_Lw_law_339 : decode code 339 = .ok (.if_icmp .eq 5, 3) := by decide +kernel
theorem d_Lw_law_342 : decode code 342 = .ok (.iconst 0, 1) := by decide +kernel
theorem d_Lw_law_343 : decode code 343 = .ok (.ireturn, 1) := by decide +kernel
theorem d_Lw_law_344 : decode code 344 = .ok (.iload 5, 2) := by decide +kernel
theorem d_Lw_law_346 : decode code 346 = .ok (.ifCond .ne 15, 3) := by decide +kernel
theorem d_Lw_law_349 : decode code 349 = .ok (.aload_n 3, 1) := by decide +kernel
theorem d_Lw_law_350 : decode code 350 = .ok (.iconst 0, 1) := by decide +kernel
theorem d_Lw_law_351 : decode code 351 = .ok (.laload, 1) := by decide +kernel
theorem d_Lw_law_352 : decode code 352 = .ok (.iload 6, 2) := by decide +kernel
theorem d_Lw_law_354 : decode code 354 = .ok (.i2l, 1) := by decide +kernel
theorem d_Lw_law_355 : decode code 355 = .ok (.lcmp, 1) := by decide +kernel
theorem d_Lw_law_356 : decode code 356 = .ok (.ifCond .eq 5, 3) := by decide +kernel
theorem d_Lw_law_359 : decode code 359 = .ok (.iconst 0, 1) := by decide +kernel
theorem d_Lw_law_360 : decode code 360 = .ok (.ireturn, 1) := by decide +kernel
theorem d_Lw_law_361 : decode code 361 = .ok (.goto 727, 3) := by decide +kernel
theorem d_Lw_law_364 : decode code 364 = .ok (.aload_n 1, 1) := by decide +kernel
theorem d_Lw_law_365 : decode code 365 = .ok (.aload_n 0, 1) := by decide +kernel
theorem d_Lw_law_366 : decode code 366 = .ok (.iload 4, 2) := by decide +kernel
theorem d_Lw_law_368 : decode code 368 = .ok (.iconst 1, 1) := by decide +kernel
theorem d_Lw_law_369 : decode code 369 = .ok (.iadd, 1) := by decide +kernel
theorem d_Lw_law_370 : decode code 370 = .ok (.iaload, 1) := by decide +kernel
theorem d_Lw_law_371 : decode code 371 = .ok (.aload_n 3, 1) := by decide +kernel
theorem d_Lw_law_372 : decode code 372 = .ok (.invokestatic 89, 3) := by decide +kernel
theorem d_Lw_law_375 : decode code 375 = .ok (.istore 5, 2) := by decide +kernel
theorem d_Lw_law_377 : decode code 377 = .ok (.aload_n 2, 1) := by decide +kernel
theorem d_Lw_law_378 : decode code 378 = .ok (.aload_n 0, 1) := by decide +kernel
theorem d_Lw_law_379 : decode code 379 = .ok (.iload 4, 2) := by decide +kernel
theorem d_Lw_law_381 : decode code 381 = .ok (.iconst 1, 1) := by decide +kernel
theorem d_Lw_law_382 : decode code 382 = .ok (.iadd, 1) := by decide +kernel
theorem d_Lw_law_383 : decode code 383 = .ok (.iaload, 1) := by decide +kernel
theorem d_Lw_law_384 : decode code 384 = .ok (.invokevirtual 92, 3) := by decide +kernel
theorem d_Lw_law_387 : decode code 387 = .ok (.istore 6, 2) := by decide +kernel
theorem d_Lw_law_389 : decode code 389 = .ok (.aload_n 2, 1) := by decide +kernel
theorem d_Lw_law_390 : decode code 390 = .ok (.invokevirtual 74, 3) := by decide +kernel
theorem d_Lw_law_393 : decode code 393 = .ok (.iload 5, 2) := by decide +kernel
theorem d_Lw_law_395 : decode code 395 = .ok (.if_icmp .eq 5, 3) := by decide +kernel
theorem d_Lw_law_398 : decode code 398 = .ok (.iconst 0, 1) := by decide +kernel
theorem d_Lw_law_399 : decode code 399 = .ok (.ireturn, 1) := by decide +kernel
theorem d_Lw_law_400 : decode code 400 = .ok (.iload 5, 2) := by decide +kernel
theorem d_Lw_law_402 : decode code 402 = .ok (.ifCond .ne 15, 3) := by decide +kernel
theorem d_Lw_law_405 : decode code 405 = .ok (.aload_n 3, 1) := by decide +kernel
theorem d_Lw_law_406 : decode code 406 = .ok (.iconst 0, 1) := by decide +kernel
theorem d_Lw_law_407 : decode code 407 = .ok (.laload, 1) := by decide +kernel
theorem d_Lw_law_408 : decode code 408 = .ok (.iload 6, 2) := by decide +kernel
theorem d_Lw_law_410 : decode code 410 = .ok (.i2l, 1) := by decide +kernel
theorem d_Lw_law_411 : decode code 411 = .ok (.lcmp, 1) := by decide +kernel
theorem d_Lw_law_412 : decode code 412 = .ok (.ifCond .eq 5, 3) := by decide +kernel
theorem d_Lw_law_415 : decode code 415 = .ok (.iconst 0, 1) := by decide +kernel
theorem d_Lw_law_416 : decode code 416 = .ok (.ireturn, 1) := by decide +kernel
theorem d_Lw_law_417 : decode code 417 = .ok (.goto 671, 3) := by decide +kernel
theorem d_Lw_law_420 : decode code 420 = .ok (.aload_n 1, 1) := by decide +kernel
theorem d_Lw_law_421 : decode code 421 = .ok (.aload_n 0, 1) := by decide +kernel
theorem d_Lw_law_422 : decode code 422 = .ok (.iload 4, 2) := by decide +kernel
theorem d_Lw_law_424 : decode code 424 = .ok (.iconst 1, 1) := by decide +kernel
theorem d_Lw_law_425 : decode code 425 = .ok (.iadd, 1) := by decide +kernel
theorem d_Lw_law_426 : decode code 426 = .ok (.iaload, 1) := by decide +kernel
theorem d_Lw_law_427 : decode code 427 = .ok (.aload_n 3, 1) := by decide +kernel
theorem d_Lw_law_428 : decode code 428 = .ok (.invokestatic 93, 3) := by decide +kernel
theorem d_Lw_law_431 : decode code 431 = .ok (.istore 5, 2) := by decide +kernel
theorem d_Lw_law_433 : decode code 433 = .ok (.aload_n 2, 1) := by decide +kernel
theorem d_Lw_law_434 : decode code 434 = .ok (.aload_n 0, 1) := by decide +kernel
theorem d_Lw_law_435 : decode code 435 = .ok (.iload 4, 2) := by decide +kernel
theorem d_Lw_law_437 : decode code 437 = .ok (.iconst 1, 1) := by decide +kernel
theorem d_Lw_law_438 : decode code 438 = .ok (.iadd, 1) := by decide +kernel
theorem d_Lw_law_439 : decode code 439 = .ok (.iaload, 1) := by decide +kernel
theorem d_Lw_law_440 : decode code 440 = .ok (.invokevirtual 95, 3) := by decide +kernel
theorem d_Lw_law_443 : decode code 443 = .ok (.istore 6, 2) := by decide +kernel
theorem d_Lw_law_445 : decode code 445 = .ok (.aload_n 2, 1) := by decide +kernel
theorem d_Lw_law_446 : decode code 446 = .ok (.invokevirtual 74, 3) := by decide +kernel
theorem d_Lw_law_449 : decode code 449 = .ok (.iload 5, 2) := by decide +kernel
theorem d_Lw_law_451 : decode code 451 = .ok (.if_icmp .eq 5, 3) := by decide +kernel
theorem d_Lw_law_454 : decode code 454 = .ok (.iconst 0, 1) := by decide +kernel
theorem d_Lw_law_455 : decode code 455 = .ok (.ireturn, 1) := by decide +kernel
theorem d_Lw_law_456 : decode code 456 = .ok (.iload 5, 2) := by decide +kernel
theorem d_Lw_law_458 : decode code 458 = .ok (.ifCond .ne 15, 3) := by decide +kernel
theorem d_Lw_law_461 : decode code 461 = .ok (.aload_n 3, 1) := by decide +kernel
theorem d_Lw_law_462 : decode code 462 = .ok (.iconst 0, 1) := by decide +kernel
theorem d_Lw_law_463 : decode code 463 = .ok (.laload, 1) := by decide +kernel
theorem d_Lw_law_464 : decode code 464 = .ok (.iload 6, 2) := by decide +kernel
theorem d_Lw_law_466 : decode code 466 = .ok (.i2l, 1) := by decide +kernel
theorem d_Lw_law_467 : decode code 467 = .ok (.lcmp, 1) := by decide +kernel
theorem d_Lw_law_468 : decode code 468 = .ok (.ifCond .eq 5, 3) := by decide +kernel
theorem d_Lw_law_471 : decode code 471 = .ok (.iconst 0, 1) := by decide +kernel
theorem d_Lw_law_472 : decode code 472 = .ok (.ireturn, 1) := by decide +kernel
theorem d_Lw_law_473 : decode code 473 = .ok (.goto 615, 3) := by decide +kernel
theorem d_Lw_law_476 : decode code 476 = .ok (.aload_n 1, 1) := by decide +kernel
theorem d_Lw_law_477 : decode code 477 = .ok (.aload_n 0, 1) := by decide +kernel
theorem d_Lw_law_478 : decode code 478 = .ok (.iload 4, 2) := by decide +kernel
theorem d_Lw_law_480 : decode code 480 = .ok (.iconst 1, 1) := by decide +kernel
theorem d_Lw_law_481 : decode code 481 = .ok (.iadd, 1) := by decide +kernel
theorem d_Lw_law_482 : decode code 482 = .ok (.iaload, 1) := by decide +kernel
theorem d_Lw_law_483 : decode code 483 = .ok (.aload_n 0, 1) := by decide +kernel
theorem d_Lw_law_484 : decode code 484 = .ok (.iload 4, 2) := by decide +kernel
theorem d_Lw_law_486 : decode code 486 = .ok (.iconst 2, 1) := by decide +kernel
theorem d_Lw_law_487 : decode code 487 = .ok (.iadd, 1) := by decide +kernel
theorem d_Lw_law_488 : decode code 488 = .ok (.iaload, 1) := by decide +kernel
theorem d_Lw_law_489 : decode code 489 = .ok (.aload_n 3, 1) := by decide +kernel
theorem d_Lw_law_490 : decode code 490 = .ok (.invokestatic 96, 3) := by decide +kernel
theorem d_Lw_law_493 : decode code 493 = .ok (.istore 5, 2) := by decide +kernel
theorem d_Lw_law_495 : decode code 495 = .ok (.aload_n 2, 1) := by decide +kernel
theorem d_Lw_law_496 : decode code 496 = .ok (.aload_n 0, 1) := by decide +kernel
theorem d_Lw_law_497 : decode code 497 = .ok (.iload 4, 2) := by decide +kernel
theorem d_Lw_law_499 : decode code 499 = .ok (.iconst 1, 1) := by decide +kernel
theorem d_Lw_law_500 : decode code 500 = .ok (.iadd, 1) := by decide +kernel
theorem d_Lw_law_501 : decode code 501 = .ok (.iaload, 1) := by decide +kernel
theorem d_Lw_law_502 : decode code 502 = .ok (.aload_n 0, 1) := by decide +kernel
theorem d_Lw_law_503 : decode code 503 = .ok (.iload 4, 2) := by decide +kernel
theorem d_Lw_law_505 : decode code 505 = .ok (.iconst 2, 1) := by decide +kernel
theorem d_Lw_law_506 : decode code 506 = .ok (.iadd, 1) := by decide +kernel
theorem d_Lw_law_507 : decode code 507 = .ok (.iaload, 1) := by decide +kernel
theorem d_Lw_law_508 : decode code 508 = .ok (.invokevirtual 98, 3) := by decide +kernel
theorem d_Lw_law_511 : decode code 511 = .ok (.istore 6, 2) := by decide +kernel
theorem d_Lw_law_513 : decode code 513 = .ok (.aload_n 2, 1) := by decide +kernel
theorem d_Lw_law_514 : decode code 514 = .ok (.invokevirtual 74, 3) := by decide +kernel
theorem d_Lw_law_517 : decode code 517 = .ok (.iload 5, 2) := by decide +kernel
theorem d_Lw_law_519 : decode code 519 = .ok (.if_icmp .eq 5, 3) := by decide +kernel
theorem d_Lw_law_522 : decode code 522 = .ok (.iconst 0, 1) := by decide +kernel
theorem d_Lw_law_523 : decode code 523 = .ok (.ireturn, 1) := by decide +kernel
theorem d_Lw_law_524 : decode code 524 = .ok (.iload 5, 2) := by decide +kernel
theorem d_Lw_law_526 : decode code 526 = .ok (.ifCond .ne 15, 3) := by decide +kernel
theorem d_Lw_law_529 : decode code 529 = .ok (.aload_n 3, 1) := by decide +kernel
theorem d_Lw_law_530 : decode code 530 = .ok (.iconst 0, 1) := by decide +kernel
theorem d_Lw_law_531 : decode code 531 = .ok (.laload, 1) := by decide +kernel
theorem d_Lw_law_532 : decode code 532 = .ok (.iload 6, 2) := by decide +kernel
theorem d_Lw_law_534 : decode code 534 = .ok (.i2l, 1) := by decide +kernel
theorem d_Lw_law_535 : decode code 535 = .ok (.lcmp, 1) := by decide +kernel
theorem d_Lw_law_536 : decode code 536 = .ok (.ifCond .eq 5, 3) := by decide +kernel
theorem d_Lw_law_539 : decode code 539 = .ok (.iconst 0, 1) := by decide +kernel
theorem d_Lw_law_540 : decode code 540 = .ok (.ireturn, 1) := by decide +kernel
theorem d_Lw_law_541 : decode code 541 = .ok (.goto 547, 3) := by decide +kernel
theorem d_Lw_law_544 : decode code 544 = .ok (.aload_n 1, 1) := by decide +kernel
theorem d_Lw_law_545 : decode code 545 = .ok (.aload_n 0, 1) := by decide +kernel
theorem d_Lw_law_546 : decode code 546 = .ok (.iload 4, 2) := by decide +kernel
theorem d_Lw_law_548 : decode code 548 = .ok (.iconst 1, 1) := by decide +kernel
theorem d_Lw_law_549 : decode code 549 = .ok (.iadd, 1) := by decide +kernel
theorem d_Lw_law_550 : decode code 550 = .ok (.iaload, 1) := by decide +kernel
theorem d_Lw_law_551 : decode code 551 = .ok (.aload_n 0, 1) := by decide +kernel
theorem d_Lw_law_552 : decode code 552 = .ok (.iload 4, 2) := by decide +kernel
theorem d_Lw_law_554 : decode code 554 = .ok (.iconst 2, 1) := by decide +kernel
theorem d_Lw_law_555 : decode code 555 = .ok (.iadd, 1) := by decide +kernel
theorem d_Lw_law_556 : decode code 556 = .ok (.iaload, 1) := by decide +kernel
theorem d_Lw_law_557 : decode code 557 = .ok (.aload_n 3, 1) := by decide +kernel
theorem d_Lw_law_558 : decode code 558 = .ok (.invokestatic 99, 3) := by decide +kernel
theorem d_Lw_law_561 : decode code 561 = .ok (.istore 5, 2) := by decide +kernel
theorem d_Lw_law_563 : decode code 563 = .ok (.aload_n 2, 1) := by decide +kernel
theorem d_Lw_law_564 : decode code 564 = .ok (.aload_n 0, 1) := by decide +kernel
theorem d_Lw_law_565 : decode code 565 = .ok (.iload 4, 2) := by decide +kernel
theorem d_Lw_law_567 : decode code 567 = .ok (.iconst 1, 1) := by decide +kernel
theorem d_Lw_law_568 : decode code 568 = .ok (.iadd, 1) := by decide +kernel
theorem d_Lw_law_569 : decode code 569 = .ok (.iaload, 1) := by decide +kernel
theorem d_Lw_law_570 : decode code 570 = .ok (.aload_n 0, 1) := by decide +kernel
theorem d_Lw_law_571 : decode code 571 = .ok (.iload 4, 2) := by decide +kernel
theorem d_Lw_law_573 : decode code 573 = .ok (.iconst 2, 1) := by decide +kernel
theorem d_Lw_law_574 : decode code 574 = .ok (.iadd, 1) := by decide +kernel
theorem d_Lw_law_575 : decode code 575 = .ok (.iaload, 1) := by decide +kernel
theorem d_Lw_law_576 : decode code 576 = .ok (.invokevirtual 101, 3) := by decide +kernel
theorem d_Lw_law_579 : decode code 579 = .ok (.istore 6, 2) := by decide +kernel
theorem d_Lw_law_581 : decode code 581 = .ok (.aload_n 2, 1) := by decide +kernel
theorem d_Lw_law_582 : decode code 582 = .ok (.invokevirtual 74, 3) := by decide +kernel
theorem d_Lw_law_585 : decode code 585 = .ok (.iload 5, 2) := by decide +kernel
theorem d_Lw_law_587 : decode code 587 = .ok (.if_icmp .eq 5, 3) := by decide +kernel
theorem d_Lw_law_590 : decode code 590 = .ok (.iconst 0, 1) := by decide +kernel
theorem d_Lw_law_591 : decode code 591 = .ok (.ireturn, 1) := by decide +kernel
theorem d_Lw_law_592 : decode code 592 = .ok (.iload 5, 2) := by decide +kernel
theorem d_Lw_law_594 : decode code 594 = .ok (.ifCond .ne 15, 3) := by decide +kernel
theorem d_Lw_law_597 : decode code 597 = .ok (.aload_n 3, 1) := by decide +kernel
theorem d_Lw_law_598 : decode code 598 = .ok (.iconst 0, 1) := by decide +kernel
theorem d_Lw_law_599 : decode code 599 = .ok (.laload, 1) := by decide +kernel
theorem d_Lw_law_600 : decode code 600 = .ok (.iload 6, 2) := by decide +kernel
theorem d_Lw_law_602 : decode code 602 = .ok (.i2l, 1) := by decide +kernel
theorem d_Lw_law_603 : decode code 603 = .ok (.lcmp, 1) := by decide +kernel
theorem d_Lw_law_604 : decode code 604 = .ok (.ifCond .eq 5, 3) := by decide +kernel
theorem d_Lw_law_607 : decode code 607 = .ok (.iconst 0, 1) := by decide +kernel
theorem d_Lw_law_608 : decode code 608 = .ok (.ireturn, 1) := by decide +kernel
theorem d_Lw_law_609 : decode code 609 = .ok (.goto 479, 3) := by decide +kernel
theorem d_Lw_law_612 : decode code 612 = .ok (.aload_n 1, 1) := by decide +kernel
theorem d_Lw_law_613 : decode code 613 = .ok (.aload_n 0, 1) := by decide +kernel
theorem d_Lw_law_614 : decode code 614 = .ok (.iload 4, 2) := by decide +kernel
theorem d_Lw_law_616 : decode code 616 = .ok (.iconst 1, 1) := by decide +kernel
theorem d_Lw_law_617 : decode code 617 = .ok (.iadd, 1) := by decide +kernel
theorem d_Lw_law_618 : decode code 618 = .ok (.iaload, 1) := by decide +kernel
theorem d_Lw_law_619 : decode code 619 = .ok (.aload_n 0, 1) := by decide +kernel
theorem d_Lw_law_620 : decode code 620 = .ok (.iload 4, 2) := by decide +kernel
theorem d_Lw_law_622 : decode code 622 = .ok (.iconst 2, 1) := by decide +kernel
theorem d_Lw_law_623 : decode code 623 = .ok (.iadd, 1) := by decide +kernel
theorem d_Lw_law_624 : decode code 624 = .ok (.iaload, 1) := by decide +kernel
theorem d_Lw_law_625 : decode code 625 = .ok (.aload_n 3, 1) := by decide +kernel
theorem d_Lw_law_626 : decode code 626 = .ok (.invokestatic 102, 3) := by decide +kernel
theorem d_Lw_law_629 : decode code 629 = .ok (.istore 5, 2) := by decide +kernel
theorem d_Lw_law_631 : decode code 631 = .ok (.aload_n 2, 1) := by decide +kernel
theorem d_Lw_law_632 : decode code 632 = .ok (.aload_n 0, 1) := by decide +kernel
theorem d_Lw_law_633 : decode code 633 = .ok (.iload 4, 2) := by decide +kernel
theorem d_Lw_law_635 : decode code 635 = .ok (.iconst 1, 1) := by decide +kernel
theorem d_Lw_law_636 : decode code 636 = .ok (.iadd, 1) := by decide +kernel
theorem d_Lw_law_637 : decode code 637 = .ok (.iaload, 1) := by decide +kernel
theorem d_Lw_law_638 : decode code 638 = .ok (.aload_n 0, 1) := by decide +kernel
theorem d_Lw_law_639 : decode code 639 = .ok (.iload 4, 2) := by decide +kernel
theorem d_Lw_law_641 : decode code 641 = .ok (.iconst 2, 1) := by decide +kernel
theorem d_Lw_law_642 : decode code 642 = .ok (.iadd, 1) := by decide +kernel
theorem d_Lw_law_643 : decode code 643 = .ok (.iaload, 1) := by decide +kernel
theorem d_Lw_law_644 : decode code 644 = .ok (.invokevirtual 104, 3) := by decide +kernel
theorem d_Lw_law_647 : decode code 647 = .ok (.istore 6, 2) := by decide +kernel
theorem d_Lw_law_649 : decode code 649 = .ok (.aload_n 2, 1) := by decide +kernel
theorem d_Lw_law_650 : decode code 650 = .ok (.invokevirtual 74, 3) := by decide +kernel
theorem d_Lw_law_653 : decode code 653 = .ok (.iload 5, 2) := by decide +kernel
theorem d_Lw_law_655 : decode code 655 = .ok (.if_icmp .eq 5, 3) := by decide +kernel
theorem d_Lw_law_658 : decode code 658 = .ok (.iconst 0, 1) := by decide +kernel
theorem d_Lw_law_659 : decode code 659 = .ok (.ireturn, 1) := by decide +kernel
theorem d_Lw_law_660 : decode code 660 = .ok (.iload 5, 2) := by decide +kernel
theorem d_Lw_law_662 : decode code 662 = .ok (.ifCond .ne 15, 3) := by decide +kernel
theorem d_Lw_law_665 : decode code 665 = .ok (.aload_n 3, 1) := by decide +kernel
theorem d_Lw_law_666 : decode code 666 = .ok (.iconst 0, 1) := by decide +kernel
theorem d_Lw_law_667 : decode code 667 = .ok (.laload, 1) := by decide +kernel
theorem d_Lw_law_668 : decode code 668 = .ok (.iload 6, 2) := by decide +kernel
theorem d_Lw_law_670 : decode code 670 = .ok (.i2l, 1) := by decide +kernel
theorem d_Lw_law_671 : decode code 671 = .ok (.lcmp, 1) := by decide +kernel
theorem d_Lw_law_672 : decode code 672 = .ok (.ifCond .eq 5, 3) := by decide +kernel
theorem d_Lw_law_675 : decode code 675 = .ok (.iconst 0, 1) := by decide +kernel
theorem d_Lw_law_676 : decode code 676 = .ok (.ireturn, 1) := by decide +kernel
theorem d_Lw_law_677 : decode code 677 = .ok (.goto 411, 3) := by decide +kernel
theorem d_Lw_law_680 : decode code 680 = .ok (.aload_n 1, 1) := by decide +kernel
theorem d_Lw_law_681 : decode code 681 = .ok (.aload_n 0, 1) := by decide +kernel
theorem d_Lw_law_682 : decode code 682 = .ok (.iload 4, 2) := by decide +kernel
theorem d_Lw_law_684 : decode code 684 = .ok (.iconst 1, 1) := by decide +kernel
theorem d_Lw_law_685 : decode code 685 = .ok (.iadd, 1) := by decide +kernel
theorem d_Lw_law_686 : decode code 686 = .ok (.iaload, 1) := by decide +kernel
theorem d_Lw_law_687 : decode code 687 = .ok (.aload_n 0, 1) := by decide +kernel
theorem d_Lw_law_688 : decode code 688 = .ok (.iload 4, 2) := by decide +kernel
theorem d_Lw_law_690 : decode code 690 = .ok (.iconst 2, 1) := by decide +kernel
theorem d_Lw_law_691 : decode code 691 = .ok (.iadd, 1) := by decide +kernel
theorem d_Lw_law_692 : decode code 692 = .ok (.iaload, 1) := by decide +kernel
theorem d_Lw_law_693 : decode code 693 = .ok (.aload_n 0, 1) := by decide +kernel
theorem d_Lw_law_694 : decode code 694 = .ok (.iload 4, 2) := by decide +kernel
theorem d_Lw_law_696 : decode code 696 = .ok (.iconst 3, 1) := by decide +kernel
theorem d_Lw_law_697 : decode code 697 = .ok (.iadd, 1) := by decide +kernel
theorem d_Lw_law_698 : decode code 698 = .ok (.iaload, 1) := by decide +kernel
theorem d_Lw_law_699 : decode code 699 = .ok (.aload_n 3, 1) := by decide +kernel
theorem d_Lw_law_700 : decode code 700 = .ok (.invokestatic 105, 3) := by decide +kernel
theorem d_Lw_law_703 : decode code 703 = .ok (.istore 5, 2) := by decide +kernel
theorem d_Lw_law_705 : decode code 705 = .ok (.aload_n 2, 1) := by decide +kernel
theorem d_Lw_law_706 : decode code 706 = .ok (.aload_n 0, 1) := by decide +kernel
theorem d_Lw_law_707 : decode code 707 = .ok (.iload 4, 2) := by decide +kernel
theorem d_Lw_law_709 : decode code 709 = .ok (.iconst 1, 1) := by decide +kernel
theorem d_Lw_law_710 : decode code 710 = .ok (.iadd, 1) := by decide +kernel
theorem d_Lw_law_711 : decode code 711 = .ok (.iaload, 1) := by decide +kernel
theorem d_Lw_law_712 : decode code 712 = .ok (.aload_n 0, 1) := by decide +kernel
theorem d_Lw_law_713 : decode code 713 = .ok (.iload 4, 2) := by decide +kernel
theorem d_Lw_law_715 : decode code 715 = .ok (.iconst 2, 1) := by decide +kernel
theorem d_Lw_law_716 : decode code 716 = .ok (.iadd, 1) := by decide +kernel
theorem d_Lw_law_717 : decode code 717 = .ok (.iaload, 1) := by decide +kernel
theorem d_Lw_law_718 : decode code 718 = .ok (.aload_n 0, 1) := by decide +kernel
theorem d_Lw_law_719 : decode code 719 = .ok (.iload 4, 2) := by decide +kernel
theorem d_Lw_law_721 : decode code 721 = .ok (.iconst 3, 1) := by decide +kernel
theorem d_Lw_law_722 : decode code 722 = .ok (.iadd, 1) := by decide +kernel
theorem d_Lw_law_723 : decode code 723 = .ok (.iaload, 1) := by decide +kernel
theorem d_Lw_law_724 : decode code 724 = .ok (.invokevirtual 107, 3) := by decide +kernel
theorem d_Lw_law_727 : decode code 727 = .ok (.istore 6, 2) := by decide +kernel
theorem d_Lw_law_729 : decode code 729 = .ok (.aload_n 2, 1) := by decide +kernel
theorem d_Lw_law_730 : decode code 730 = .ok (.invokevirtual 74, 3) := by decide +kernel
theorem d_Lw_law_733 : decode code 733 = .ok (.iload 5, 2) := by decide +kernel
theorem d_Lw_law_735 : decode code 735 = .ok (.if_icmp .eq 5, 3) := by decide +kernel
theorem d_Lw_law_738 : decode code 738 = .ok (.iconst 0, 1) := by decide +kernel
theorem d_Lw_law_739 : decode code 739 = .ok (.ireturn, 1) := by decide +kernel
theorem d_Lw_law_740 : decode code 740 = .ok (.iload 5, 2) := by decide +kernel
theorem d_Lw_law_742 : decode code 742 = .ok (.ifCond .ne 15, 3) := by decide +kernel
theorem d_Lw_law_745 : decode code 745 = .ok (.aload_n 3, 1) := by decide +kernel
theorem d_Lw_law_746 : decode code 746 = .ok (.iconst 0, 1) := by decide +kernel
theorem d_Lw_law_747 : decode code 747 = .ok (.laload, 1) := by decide +kernel
theorem d_Lw_law_748 : decode code 748 = .ok (.iload 6, 2) := by decide +kernel
theorem d_Lw_law_750 : decode code 750 = .ok (.i2l, 1) := by decide +kernel
theorem d_Lw_law_751 : decode code 751 = .ok (.lcmp, 1) := by decide +kernel
theorem d_Lw_law_752 : decode code 752 = .ok (.ifCond .eq 5, 3) := by decide +kernel
theorem d_Lw_law_755 : decode code 755 = .ok (.iconst 0, 1) := by decide +kernel
theorem d_Lw_law_756 : decode code 756 = .ok (.ireturn, 1) := by decide +kernel
theorem d_Lw_law_757 : decode code 757 = .ok (.goto 331, 3) := by decide +kernel
theorem d_Lw_law_760 : decode code 760 = .ok (.aload_n 1, 1) := by decide +kernel
theorem d_Lw_law_761 : decode code 761 = .ok (.aload_n 0, 1) := by decide +kernel
theorem d_Lw_law_762 : decode code 762 = .ok (.iload 4, 2) := by decide +kernel
theorem d_Lw_law_764 : decode code 764 = .ok (.iconst 1, 1) := by decide +kernel
theorem d_Lw_law_765 : decode code 765 = .ok (.iadd, 1) := by decide +kernel
theorem d_Lw_law_766 : decode code 766 = .ok (.iaload, 1) := by decide +kernel
theorem d_Lw_law_767 : decode code 767 = .ok (.aload_n 0, 1) := by decide +kernel
theorem d_Lw_law_768 : decode code 768 = .ok (.iload 4, 2) := by decide +kernel
theorem d_Lw_law_770 : decode code 770 = .ok (.iconst 2, 1) := by decide +kernel
theorem d_Lw_law_771 : decode code 771 = .ok (.iadd, 1) := by decide +kernel
theorem d_Lw_law_772 : decode code 772 = .ok (.iaload, 1) := by decide +kernel
theorem d_Lw_law_773 : decode code 773 = .ok (.aload_n 3, 1) := by decide +kernel
theorem d_Lw_law_774 : decode code 774 = .ok (.invokestatic 108, 3) := by decide +kernel
theorem d_Lw_law_777 : decode code 777 = .ok (.istore 5, 2) := by decide +kernel
theorem d_Lw_law_779 : decode code 779 = .ok (.aload_n 2, 1) := by decide +kernel
theorem d_Lw_law_780 : decode code 780 = .ok (.aload_n 0, 1) := by decide +kernel
theorem d_Lw_law_781 : decode code 781 = .ok (.iload 4, 2) := by decide +kernel
theorem d_Lw_law_783 : decode code 783 = .ok (.iconst 1, 1) := by decide +kernel
theorem d_Lw_law_784 : decode code 784 = .ok (.iadd, 1) := by decide +kernel
theorem d_Lw_law_785 : decode code 785 = .ok (.iaload, 1) := by decide +kernel
theorem d_Lw_law_786 : decode code 786 = .ok (.aload_n 0, 1) := by decide +kernel
theorem d_Lw_law_787 : decode code 787 = .ok (.iload 4, 2) := by decide +kernel
theorem d_Lw_law_789 : decode code 789 = .ok (.iconst 2, 1) := by decide +kernel
theorem d_Lw_law_790 : decode code 790 = .ok (.iadd, 1) := by decide +kernel
theorem d_Lw_law_791 : decode code 791 = .ok (.iaload, 1) := by decide +kernel
theorem d_Lw_law_792 : decode code 792 = .ok (.invokevirtual 110, 3) := by decide +kernel
theorem d_Lw_law_795 : decode code 795 = .ok (.istore 6, 2) := by decide +kernel
theorem d_Lw_law_797 : decode code 797 = .ok (.aload_n 2, 1) := by decide +kernel
theorem d_Lw_law_798 : decode code 798 = .ok (.invokevirtual 74, 3) := by decide +kernel
theorem d_Lw_law_801 : decode code 801 = .ok (.iload 5, 2) := by decide +kernel
theorem d_Lw_law_803 : decode code 803 = .ok (.if_icmp .eq 5, 3) := by decide +kernel
theorem d_Lw_law_806 : decode code 806 = .ok (.iconst 0, 1) := by decide +kernel
theorem d_Lw_law_807 : decode code 807 = .ok (.ireturn, 1) := by decide +kernel
theorem d_Lw_law_808 : decode code 808 = .ok (.iload 5, 2) := by decide +kernel
theorem d_Lw_law_810 : decode code 810 = .ok (.ifCond .ne 15, 3) := by decide +kernel
theorem d_Lw_law_813 : decode code 813 = .ok (.aload_n 3, 1) := by decide +kernel
theorem d_Lw_law_814 : decode code 814 = .ok (.iconst 0, 1) := by decide +kernel
theorem d_Lw_law_815 : decode code 815 = .ok (.laload, 1) := by decide +kernel
theorem d_Lw_law_816 : decode code 816 = .ok (.iload 6, 2) := by decide +kernel
theorem d_Lw_law_818 : decode code 818 = .ok (.i2l, 1) := by decide +kernel
theorem d_Lw_law_819 : decode code 819 = .ok (.lcmp, 1) := by decide +kernel
theorem d_Lw_law_820 : decode code 820 = .ok (.ifCond .eq 5, 3) := by decide +kernel
theorem d_Lw_law_823 : decode code 823 = .ok (.iconst 0, 1) := by decide +kernel
theorem d_Lw_law_824 : decode code 824 = .ok (.ireturn, 1) := by decide +kernel
theorem d_Lw_law_825 : decode code 825 = .ok (.goto 263, 3) := by decide +kernel
theorem d_Lw_law_828 : decode code 828 = .ok (.aload_n 1, 1) := by decide +kernel
theorem d_Lw_law_829 : decode code 829 = .ok (.aload_n 0, 1) := by decide +kernel
theorem d_Lw_law_830 : decode code 830 = .ok (.iload 4, 2) := by decide +kernel
theorem d_Lw_law_832 : decode code 832 = .ok (.iconst 1, 1) := by decide +kernel
theorem d_Lw_law_833 : decode code 833 = .ok (.iadd, 1) := by decide +kernel
theorem d_Lw_law_834 : decode code 834 = .ok (.iaload, 1) := by decide +kernel
theorem d_Lw_law_835 : decode code 835 = .ok (.aload_n 3, 1) := by decide +kernel
theorem d_Lw_law_836 : decode code 836 = .ok (.invokestatic 111, 3) := by decide +kernel
theorem d_Lw_law_839 : decode code 839 = .ok (.istore 5, 2) := by decide +kernel
theorem d_Lw_law_841 : decode code 841 = .ok (.aload_n 2, 1) := by decide +kernel
theorem d_Lw_law_842 : decode code 842 = .ok (.aload_n 0, 1) := by decide +kernel
theorem d_Lw_law_843 : decode code 843 = .ok (.iload 4, 2) := by decide +kernel
theorem d_Lw_law_845 : decode code 845 = .ok (.iconst 1, 1) := by decide +kernel
theorem d_Lw_law_846 : decode code 846 = .ok (.iadd, 1) := by decide +kernel
theorem d_Lw_law_847 : decode code 847 = .ok (.iaload, 1) := by decide +kernel
theorem d_Lw_law_848 : decode code 848 = .ok (.invokevirtual 113, 3) := by decide +kernel
theorem d_Lw_law_851 : decode code 851 = .ok (.istore 6, 2) := by decide +kernel
theorem d_Lw_law_853 : decode code 853 = .ok (.aload_n 2, 1) := by decide +kernel
theorem d_Lw_law_854 : decode code 854 = .ok (.invokevirtual 74, 3) := by decide +kernel
theorem d_Lw_law_857 : decode code 857 = .ok (.iload 5, 2) := by decide +kernel
theorem d_Lw_law_859 : decode code 859 = .ok (.if_icmp .eq 5, 3) := by decide +kernel
theorem d_Lw_law_862 : decode code 862 = .ok (.iconst 0, 1) := by decide +kernel
theorem d_Lw_law_863 : decode code 863 = .ok (.ireturn, 1) := by decide +kernel
theorem d_Lw_law_864 : decode code 864 = .ok (.iload 5, 2) := by decide +kernel
theorem d_Lw_law_866 : decode code 866 = .ok (.ifCond .ne 15, 3) := by decide +kernel
theorem d_Lw_law_869 : decode code 869 = .ok (.aload_n 3, 1) := by decide +kernel
theorem d_Lw_law_870 : decode code 870 = .ok (.iconst 0, 1) := by decide +kernel
theorem d_Lw_law_871 : decode code 871 = .ok (.laload, 1) := by decide +kernel
theorem d_Lw_law_872 : decode code 872 = .ok (.iload 6, 2) := by decide +kernel
theorem d_Lw_law_874 : decode code 874 = .ok (.i2l, 1) := by decide +kernel
theorem d_Lw_law_875 : decode code 875 = .ok (.lcmp, 1) := by decide +kernel
theorem d_Lw_law_876 : decode code 876 = .ok (.ifCond .eq 5, 3) := by decide +kernel
theorem d_Lw_law_879 : decode code 879 = .ok (.iconst 0, 1) := by decide +kernel
theorem d_Lw_law_880 : decode code 880 = .ok (.ireturn, 1) := by decide +kernel
theorem d_Lw_law_881 : decode code 881 = .ok (.goto 207, 3) := by decide +kernel
theorem d_Lw_law_884 : decode code 884 = .ok (.aload_n 1, 1) := by decide +kernel
theorem d_Lw_law_885 : decode code 885 = .ok (.aload_n 0, 1) := by decide +kernel
theorem d_Lw_law_886 : decode code 886 = .ok (.iload 4, 2) := by decide +kernel
theorem d_Lw_law_888 : decode code 888 = .ok (.iconst 1, 1) := by decide +kernel
theorem d_Lw_law_889 : decode code 889 = .ok (.iadd, 1) := by decide +kernel
theorem d_Lw_law_890 : decode code 890 = .ok (.iaload, 1) := by decide +kernel
theorem d_Lw_law_891 : decode code 891 = .ok (.aload_n 3, 1) := by decide +kernel
theorem d_Lw_law_892 : decode code 892 = .ok (.invokestatic 114, 3) := by decide +kernel
theorem d_Lw_law_895 : decode code 895 = .ok (.istore 5, 2) := by decide +kernel
theorem d_Lw_law_897 : decode code 897 = .ok (.aload_n 2, 1) := by decide +kernel
theorem d_Lw_law_898 : decode code 898 = .ok (.aload_n 0, 1) := by decide +kernel
theorem d_Lw_law_899 : decode code 899 = .ok (.iload 4, 2) := by decide +kernel
theorem d_Lw_law_901 : decode code 901 = .ok (.iconst 1, 1) := by decide +kernel
theorem d_Lw_law_902 : decode code 902 = .ok (.iadd, 1) := by decide +kernel
theorem d_Lw_law_903 : decode code 903 = .ok (.iaload, 1) := by decide +kernel
theorem d_Lw_law_904 : decode code 904 = .ok (.invokevirtual 116, 3) := by decide +kernel
theorem d_Lw_law_907 : decode code 907 = .ok (.istore 6, 2) := by decide +kernel
theorem d_Lw_law_909 : decode code 909 = .ok (.aload_n 2, 1) := by decide +kernel
theorem d_Lw_law_910 : decode code 910 = .ok (.invokevirtual 74, 3) := by decide +kernel
theorem d_Lw_law_913 : decode code 913 = .ok (.iload 5, 2) := by decide +kernel
theorem d_Lw_law_915 : decode code 915 = .ok (.if_icmp .eq 5, 3) := by decide +kernel
theorem d_Lw_law_918 : decode code 918 = .ok (.iconst 0, 1) := by decide +kernel
theorem d_Lw_law_919 : decode code 919 = .ok (.ireturn, 1) := by decide +kernel
theorem d_Lw_law_920 : decode code 920 = .ok (.iload 5, 2) := by decide +kernel
theorem d_Lw_law_922 : decode code 922 = .ok (.ifCond .ne 15, 3) := by decide +kernel
theorem d_Lw_law_925 : decode code 925 = .ok (.aload_n 3, 1) := by decide +kernel
theorem d_Lw_law_926 : decode code 926 = .ok (.iconst 0, 1) := by decide +kernel
theorem d_Lw_law_927 : decode code 927 = .ok (.laload, 1) := by decide +kernel
theorem d_Lw_law_928 : decode code 928 = .ok (.iload 6, 2) := by decide +kernel
theorem d_Lw_law_930 : decode code 930 = .ok (.i2l, 1) := by decide +kernel
theorem d_Lw_law_931 : decode code 931 = .ok (.lcmp, 1) := by decide +kernel
theorem d_Lw_law_932 : decode code 932 = .ok (.ifCond .eq 5, 3) := by decide +kernel
theorem d_Lw_law_935 : decode code 935 = .ok (.iconst 0, 1) := by decide +kernel
theorem d_Lw_law_936 : decode code 936 = .ok (.ireturn, 1) := by decide +kernel
theorem d_Lw_law_937 : decode code 937 = .ok (.goto 151, 3) := by decide +kernel
theorem d_Lw_law_940 : decode code 940 = .ok (.aload_n 1, 1) := by decide +kernel
theorem d_Lw_law_941 : decode code 941 = .ok (.aload_n 0, 1) := by decide +kernel
theorem d_Lw_law_942 : decode code 942 = .ok (.iload 4, 2) := by decide +kernel
theorem d_Lw_law_944 : decode code 944 = .ok (.iconst 1, 1) := by decide +kernel
theorem d_Lw_law_945 : decode code 945 = .ok (.iadd, 1) := by decide +kernel
theorem d_Lw_law_946 : decode code 946 = .ok (.iaload, 1) := by decide +kernel
theorem d_Lw_law_947 : decode code 947 = .ok (.aload_n 0, 1) := by decide +kernel
theorem d_Lw_law_948 : decode code 948 = .ok (.iload 4, 2) := by decide +kernel
theorem d_Lw_law_950 : decode code 950 = .ok (.iconst 2, 1) := by decide +kernel
theorem d_Lw_law_951 : decode code 951 = .ok (.iadd, 1) := by decide +kernel
theorem d_Lw_law_952 : decode code 952 = .ok (.iaload, 1) := by decide +kernel
theorem d_Lw_law_953 : decode code 953 = .ok (.aload_n 3, 1) := by decide +kernel
theorem d_Lw_law_954 : decode code 954 = .ok (.invokestatic 117, 3) := by decide +kernel
theorem d_Lw_law_957 : decode code 957 = .ok (.istore 5, 2) := by decide +kernel
theorem d_Lw_law_959 : decode code 959 = .ok (.aload_n 2, 1) := by decide +kernel
theorem d_Lw_law_960 : decode code 960 = .ok (.aload_n 0, 1) := by decide +kernel
theorem d_Lw_law_961 : decode code 961 = .ok (.iload 4, 2) := by decide +kernel
theorem d_Lw_law_963 : decode code 963 = .ok (.iconst 1, 1) := by decide +kernel
theorem d_Lw_law_964 : decode code 964 = .ok (.iadd, 1) := by decide +kernel
theorem d_Lw_law_965 : decode code 965 = .ok (.iaload, 1) := by decide +kernel
theorem d_Lw_law_966 : decode code 966 = .ok (.aload_n 0, 1) := by decide +kernel
theorem d_Lw_law_967 : decode code 967 = .ok (.iload 4, 2) := by decide +kernel
theorem d_Lw_law_969 : decode code 969 = .ok (.iconst 2, 1) := by decide +kernel
theorem d_Lw_law_970 : decode code 970 = .ok (.iadd, 1) := by decide +kernel
theorem d_Lw_law_971 : decode code 971 = .ok (.iaload, 1) := by decide +kernel
theorem d_Lw_law_972 : decode code 972 = .ok (.invokevirtual 119, 3) := by decide +kernel
theorem d_Lw_law_975 : decode code 975 = .ok (.istore 6, 2) := by decide +kernel
theorem d_Lw_law_977 : decode code 977 = .ok (.aload_n 2, 1) := by decide +kernel
theorem d_Lw_law_978 : decode code 978 = .ok (.invokevirtual 74, 3) := by decide +kernel
theorem d_Lw_law_981 : decode code 981 = .ok (.iload 5, 2) := by decide +kernel
theorem d_Lw_law_983 : decode code 983 = .ok (.if_icmp .eq 5, 3) := by decide +kernel
theorem d_Lw_law_986 : decode code 986 = .ok (.iconst 0, 1) := by decide +kernel
theorem d_Lw_law_987 : decode code 987 = .ok (.ireturn, 1) := by decide +kernel
theorem d_Lw_law_988 : decode code 988 = .ok (.iload 5, 2) := by decide +kernel
theorem d_Lw_law_990 : decode code 990 = .ok (.ifCond .ne 15, 3) := by decide +kernel
theorem d_Lw_law_993 : decode code 993 = .ok (.aload_n 3, 1) := by decide +kernel
theorem d_Lw_law_994 : decode code 994 = .ok (.iconst 0, 1) := by decide +kernel
theorem d_Lw_law_995 : decode code 995 = .ok (.laload, 1) := by decide +kernel
theorem d_Lw_law_996 : decode code 996 = .ok (.iload 6, 2) := by decide +kernel
theorem d_Lw_law_998 : decode code 998 = .ok (.i2l, 1) := by decide +kernel
theorem d_Lw_law_999 : decode code 999 = .ok (.lcmp, 1) := by decide +kernel
theorem d_Lw_law_1000 : decode code 1000 = .ok (.ifCond .eq 5, 3) := by decide +kernel
theorem d_Lw_law_1003 : decode code 1003 = .ok (.iconst 0, 1) := by decide +kernel
theorem d_Lw_law_1004 : decode code 1004 = .ok (.ireturn, 1) := by decide +kernel
theorem d_Lw_law_1005 : decode code 1005 = .ok (.goto 83, 3) := by decide +kernel
theorem d_Lw_law_1008 : decode code 1008 = .ok (.aload_n 1, 1) := by decide +kernel
theorem d_Lw_law_1009 : decode code 1009 = .ok (.aload_n 0, 1) := by decide +kernel
theorem d_Lw_law_1010 : decode code 1010 = .ok (.iload 4, 2) := by decide +kernel
theorem d_Lw_law_1012 : decode code 1012 = .ok (.iconst 1, 1) := by decide +kernel
theorem d_Lw_law_1013 : decode code 1013 = .ok (.iadd, 1) := by decide +kernel
theorem d_Lw_law_1014 : decode code 1014 = .ok (.iaload, 1) := by decide +kernel
theorem d_Lw_law_1015 : decode code 1015 = .ok (.aload_n 0, 1) := by decide +kernel
theorem d_Lw_law_1016 : decode code 1016 = .ok (.iload 4, 2) := by decide +kernel
theorem d_Lw_law_1018 : decode code 1018 = .ok (.iconst 2, 1) := by decide +kernel
theorem d_Lw_law_1019 : decode code 1019 = .ok (.iadd, 1) := by decide +kernel
theorem d_Lw_law_1020 : decode code 1020 = .ok (.iaload, 1) := by decide +kernel
theorem d_Lw_law_1021 : decode code 1021 = .ok (.aload_n 0, 1) := by decide +kernel
theorem d_Lw_law_1022 : decode code 1022 = .ok (.iload 4, 2) := by decide +kernel
theorem d_Lw_law_1024 : decode code 1024 = .ok (.iconst 3, 1) := by decide +kernel
theorem d_Lw_law_1025 : decode code 1025 = .ok (.iadd, 1) := by decide +kernel
theorem d_Lw_law_1026 : decode code 1026 = .ok (.iaload, 1) := by decide +kernel
theorem d_Lw_law_1027 : decode code 1027 = .ok (.aload_n 3, 1) := by decide +kernel
theorem d_Lw_law_1028 : decode code 1028 = .ok (.invokestatic 120, 3) := by decide +kernel
theorem d_Lw_law_1031 : decode code 1031 = .ok (.istore 5, 2) := by decide +kernel
theorem d_Lw_law_1033 : decode code 1033 = .ok (.aload_n 2, 1) := by decide +kernel
theorem d_Lw_law_1034 : decode code 1034 = .ok (.aload_n 0, 1) := by decide +kernel
theorem d_Lw_law_1035 : decode code 1035 = .ok (.iload 4, 2) := by decide +kernel
theorem d_Lw_law_1037 : decode code 1037 = .ok (.iconst 1, 1) := by decide +kernel
theorem d_Lw_law_1038 : decode code 1038 = .ok (.iadd, 1) := by decide +kernel
theorem d_Lw_law_1039 : decode code 1039 = .ok (.iaload, 1) := by decide +kernel
theorem d_Lw_law_1040 : decode code 1040 = .ok (.aload_n 0, 1) := by decide +kernel
theorem d_Lw_law_1041 : decode code 1041 = .ok (.iload 4, 2) := by decide +kernel
theorem d_Lw_law_1043 : decode code 1043 = .ok (.iconst 2, 1) := by decide +kernel
theorem d_Lw_law_1044 : decode code 1044 = .ok (.iadd, 1) := by decide +kernel
theorem d_Lw_law_1045 : decode code 1045 = .ok (.iaload, 1) := by decide +kernel
theorem d_Lw_law_1046 : decode code 1046 = .ok (.aload_n 0, 1) := by decide +kernel
theorem d_Lw_law_1047 : decode code 1047 = .ok (.iload 4, 2) := by decide +kernel
theorem d_Lw_law_1049 : decode code 1049 = .ok (.iconst 3, 1) := by decide +kernel
theorem d_Lw_law_1050 : decode code 1050 = .ok (.iadd, 1) := by decide +kernel
theorem d_Lw_law_1051 : decode code 1051 = .ok (.iaload, 1) := by decide +kernel
theorem d_Lw_law_1052 : decode code 1052 = .ok (.invokevirtual 122, 3) := by decide +kernel
theorem d_Lw_law_1055 : decode code 1055 = .ok (.istore 6, 2) := by decide +kernel
theorem d_Lw_law_1057 : decode code 1057 = .ok (.aload_n 2, 1) := by decide +kernel
theorem d_Lw_law_1058 : decode code 1058 = .ok (.invokevirtual 74, 3) := by decide +kernel
theorem d_Lw_law_1061 : decode code 1061 = .ok (.iload 5, 2) := by decide +kernel
theorem d_Lw_law_1063 : decode code 1063 = .ok (.if_icmp .eq 5, 3) := by decide +kernel
theorem d_Lw_law_1066 : decode code 1066 = .ok (.iconst 0, 1) := by decide +kernel
theorem d_Lw_law_1067 : decode code 1067 = .ok (.ireturn, 1) := by decide +kernel
theorem d_Lw_law_1068 : decode code 1068 = .ok (.iload 5, 2) := by decide +kernel
theorem d_Lw_law_1070 : decode code 1070 = .ok (.ifCond .ne 15, 3) := by decide +kernel
theorem d_Lw_law_1073 : decode code 1073 = .ok (.aload_n 3, 1) := by decide +kernel
theorem d_Lw_law_1074 : decode code 1074 = .ok (.iconst 0, 1) := by decide +kernel
theorem d_Lw_law_1075 : decode code 1075 = .ok (.laload, 1) := by decide +kernel
theorem d_Lw_law_1076 : decode code 1076 = .ok (.iload 6, 2) := by decide +kernel
theorem d_Lw_law_1078 : decode code 1078 = .ok (.i2l, 1) := by decide +kernel
theorem d_Lw_law_1079 : decode code 1079 = .ok (.lcmp, 1) := by decide +kernel
theorem d_Lw_law_1080 : decode code 1080 = .ok (.ifCond .eq 5, 3) := by decide +kernel
theorem d_Lw_law_1083 : decode code 1083 = .ok (.iconst 0, 1) := by decide +kernel
theorem d_Lw_law_1084 : decode code 1084 = .ok (.ireturn, 1) := by decide +kernel
theorem d_Lw_law_1085 : decode code 1085 = .ok (.goto 3, 3) := by decide +kernel
theorem d_Lw_law_1088 : decode code 1088 = .ok (.iinc 4 4, 3) := by decide +kernel
theorem d_Lw_law_1091 : decode code 1091 = .ok (.goto (-1068), 3) := by decide +kernel
theorem d_Lw_law_1094 : decode code 1094 = .ok (.iconst 1, 1) := by decide +kernel
theorem d_Lw_law_1095 : decode code 1095 = .ok (.ireturn, 1) := by decide +kernel
theorem cs_Lw_73 : GoodIn lw_good (wsV "LabelRouterLaw" 73 R_Mo y_Mo_nodes (qws y_Mo_nodes c_Mo_nodes 3 none)) := q_gV tw_802 tw_803 sl_Mo_nodes tw_9 tw_805
theorem cs_Lw_74 : GoodIn lw_good (wsV "LabelRouterLaw" 74 R_Mo y_Mo_thrown (qws y_Mo_thrown c_Mo_thrown 1 (some .int))) := q_gV tw_798 tw_799 sl_Mo_thrown tw_9 tw_801
theorem cs_Lw_81 : GoodIn lw_good (wsV "LabelRouterLaw" 81 R_Mo y_Mo_edge (qws y_Mo_edge c_Mo_edge 7 (some .int))) := q_gV tw_806 tw_807 sl_Mo_edge tw_9 tw_809
theorem cs_Lw_85 : GoodIn lw_good (wsV "LabelRouterLaw" 85 R_Mo y_Mo_cut (qws y_Mo_cut c_Mo_cut 4 (some .int))) := q_gV tw_817 tw_818 sl_Mo_cut tw_9 tw_820
theorem cs_Lw_88 : GoodIn lw_good (wsV "LabelRouterLaw" 88 R_Mo y_Mo_port (qws y_Mo_port c_Mo_port 3 (some .int))) := q_gV tw_821 tw_822 sl_Mo_port tw_9 tw_824
theorem cs_Lw_92 : GoodIn lw_good (wsV "LabelRouterLaw" 92 R_Mo y_Mo_build (qws y_Mo_build c_Mo_build 7 (some .int))) := q_gV tw_834 tw_835 sl_Mo_build tw_9 tw_837
theorem cs_Lw_95 : GoodIn lw_good (wsV "LabelRouterLaw" 95 R_Mo y_Mo_landmark (qws y_Mo_landmark c_Mo_landmark 4 (some .int))) := q_gV tw_874 tw_875 sl_Mo_landmark tw_9 tw_877
theorem cs_Lw_98 : GoodIn lw_good (wsV "LabelRouterLaw" 98 R_Mo y_Mo_table (qws y_Mo_table c_Mo_table 3 (some .int))) := q_gV tw_882 tw_883 sl_Mo_table tw_9 tw_885
theorem cs_Lw_101 : GoodIn lw_good (wsV "LabelRouterLaw" 101 R_Mo y_Mo_row (qws y_Mo_row c_Mo_row 3 (some .int))) := q_gV tw_886 tw_887 sl_Mo_row tw_9 tw_889
theorem cs_Lw_104 : GoodIn lw_good (wsV "LabelRouterLaw" 104 R_Mo y_Mo_label (qws y_Mo_label c_Mo_label 3 (some .int))) := q_gV tw_914 tw_915 sl_Mo_label tw_9 tw_917
theorem cs_Lw_107 : GoodIn lw_good (wsV "LabelRouterLaw" 107 R_Mo y_Mo_tree (qws y_Mo_tree c_Mo_tree 4 (some .int))) := q_gV tw_890 tw_891 sl_Mo_tree tw_9 tw_893
theorem cs_Lw_110 : GoodIn lw_good (wsV "LabelRouterLaw" 110 R_Mo y_Mo_send (qws y_Mo_send c_Mo_send 4 (some .int))) := q_gV tw_934 tw_935 sl_Mo_send tw_9 tw_937
theorem cs_Lw_113 : GoodIn lw_good (wsV "LabelRouterLaw" 113 R_Mo y_Mo_hop (qws y_Mo_hop c_Mo_hop 3 (some .int))) := q_gV tw_938 tw_939 sl_Mo_hop tw_9 tw_941
theorem cs_Lw_116 : GoodIn lw_good (wsV "LabelRouterLaw" 116 R_Mo y_Mo_weight (qws y_Mo_weight c_Mo_weight 2 (some .int))) := q_gV tw_950 tw_951 sl_Mo_weight tw_9 tw_953
theorem cs_Lw_119 : GoodIn lw_good (wsV "LabelRouterLaw" 119 R_Mo y_Mo_distance (qws y_Mo_distance c_Mo_distance 3 (some .int))) := q_gV tw_825 tw_826 sl_Mo_distance tw_9 tw_828
theorem cs_Lw_122 : GoodIn lw_good (wsV "LabelRouterLaw" 122 R_Mo y_Mo_walk (qws y_Mo_walk c_Mo_walk 8 (some .int))) := q_gV tw_954 tw_955 sl_Mo_walk tw_9 tw_957
section QLW
variable {p : Program} {l : Launch} {e : Env} {R : Room} {s : State} {m : MethodId} {args : Array Value} {below : List Frame} {meth : Method} {c : Code} {H : Heap} {locs : List Loc} {cells slots : Nat} {Q : State → Prop}
variable {cc : ByteArray} {nL : Nat} {own : String} {pc : Nat} {ls : Array Slot} {rest : List Value} {D : va_G} {A : Nat → Prop} {τ : Nat → ClassId} {ad : Nat → Nat} {N : Nat} {w : Nat → va_E}
theorem q_sld (F : CallFix p m c cc nL s args lw_good own) {b L : Nat} {xs : Nat → Int32} (hX : va_X b L xs s s.heap) (hbl : b < s.heap.size) (hbA : ¬ A b) (hW : qW D τ A s H locs ad N w) {i : Int32} (j : Nat) (hj : i.toInt = (j : Int)) (hn : j < L) (hdg : decode cc pc = .ok (.iaload, 1))
    (kk : W p l e R s m args below meth c H locs cells slots Q (F0 m (pc + 1) ls (.int (xs j) :: rest))) : W p l e R s m args below meth c H locs cells slots Q (F0 m pc ls (.int i :: .ref b :: rest)) := by
  refine va_sld F.1 F.2.1 hX hbl hbA hW.2.2.2.1 (q_in hj hn) hdg ?_
  rw [q_tn hj]
  exact kk
theorem q_slen (F : CallFix p m c cc nL s args lw_good own) {b L : Nat} {xs : Nat → Int32} (hX : va_X b L xs s s.heap) (hbl : b < s.heap.size) (hbA : ¬ A b) (hW : qW D τ A s H locs ad N w) (hL : L ≤ 2048) (hdg : decode cc pc = .ok (.arraylength, 1))
    (kk : ∀ v : Int32, v.toInt = (L : Int) → W p l e R s m args below meth c H locs cells slots Q (F0 m (pc + 1) ls (.int v :: rest))) : W p l e R s m args below meth c H locs cells slots Q (F0 m pc ls (.ref b :: rest)) :=
  va_slen F.1 F.2.1 hX hbl hbA hW.2.2.2.1 hdg (kk _ (nI_toInt (n := L) (by omega)))
theorem q_and15 (F : CallFix p m c cc nL s args lw_good own) {x y : Int32} (hy : y.toInt = 15) (hdg : decode cc pc = .ok (.iand, 1)) (kk : ∀ (v : Int32) (j : Nat), j < 16 → v.toInt = (j : Int) → W p l e R s m args below meth c H locs cells slots Q (F0 m (pc + 1) ls (.int v :: rest))) : W p l e R s m args below meth c H locs cells slots Q (F0 m pc ls (.int y :: .int x :: rest)) := by
  have ey : y = 15 := q_eqI.mpr (by rw [hy]; rfl)
  subst ey
  obtain ⟨j, h1, h2⟩ := pk_andE x (m := 15) 4 (by decide +kernel)
  exact lv_iand F.1 F.2.1 hdg (kk _ j h1 (by rw [h2, nI_toInt (by omega)]))
theorem q_lcmpE (F : CallFix p m c cc nL s args lw_good own) {x y : Int64} (h : x = y) (hdg : decode cc pc = .ok (.lcmp, 1)) (kk : ∀ v : Int32, v.toInt = 0 → W p l e R s m args below meth c H locs cells slots Q (F0 m (pc + 1) ls (.int v :: rest))) : W p l e R s m args below meth c H locs cells slots Q (F0 m pc ls (.long y :: .long x :: rest)) := by
  subst h
  refine W.lcmp F.1 F.2.1 hdg (kk _ ?_)
  unfold lg_cmp
  simp [Int64.lt_iff_toInt_lt]
theorem q_gSH {i : Nat} {y : MethodName} {bytes : ByteArray} {maxL : Nat} {ret : Option FieldType} {hh : List (Nat × Nat × Nat × Nat)} (h1 : Cond.methodLink own i y ∈ lw_good) (h2 : Cond.static y ∈ lw_good) (h4 : Cond.initialized y.cls ∈ lw_good) (h5 : Cond.codeWith y bytes maxL ret hh ∈ lw_good) : GoodIn lw_good (va_wsS own i y (qwsH y bytes maxL ret hh)) := by
  refine q_gd (fun w hw => ?_)
  unfold va_wsS at hw
  rcases List.mem_append.mp hw with hw | hw
  · simp only [List.mem_cons, List.not_mem_nil, or_false] at hw
    rcases hw with rfl | rfl | rfl <;> assumption
  · exact (List.mem_cons.mp hw).elim (fun z => by rw [z]; exact h5) id
theorem qw_cS {index n mc ms maxL : Nat} {y : MethodName} {bytes : ByteArray} {ret : Option FieldType} {hh : List (Nat × Nat × Nat × Nat)} {rm : Room} {st0 As : List Value} {Qc : Array Value → State → Outcome → State → Prop} (F : CallFix p m c cc nL s args lw_good own) (hW : qW D τ A s H locs ad N w) (hst : qSt A s s.heap) (G : GoodIn lw_good (va_wsS own index y (qwsH y bytes maxL ret hh))) (hd : y.cls ≠ "java/lang/invoke/MethodHandle" ∧ y.cls ≠ "java/lang/invoke/VarHandle" ∧ (parseMethodDescriptor y.desc).map (fun d => d.parameters.length) = some n)
    (hM : Met l y (qwsH y bytes maxL ret hh) rm (qPx D τ A ad N w As) Qc mc ms A) (hrc : rm.cells = mc) (hrs : rm.slots = ms) (hR : rm.frames + 1 ≤ R.frames ∧ 8 + (maxL + 11) + rm.locals ≤ R.locals) (hn : As.length = n) (hsize : ls.size = nL) (hst0 : st0 = As.reverse ++ rest) (hre : (rest.map fun v => v.category).sum ≤ 8) (hdg : decode cc pc = .ok (.invokestatic index, 3)) (hf : cells + mc ≤ R.cells ∧ slots + ms ≤ R.slots) :
    va_Run p l e R s m args below meth c H locs cells slots mc ms (F0 m pc ls st0) rest (Qc As.toArray) A :=
  vx_runSW (As := As) (rest := rest) F hM (vx_cwSW n F.2.2.2.2 G rfl hrc hrs hd hR) (qx_preS hW hst) rfl hn hsize hst0 (lv_room hre) hdg hf
end QLW
theorem cw_Lw_nodes : GoodIn lw_good (va_wsS "LabelRouterLaw" 68 y_Lw_nodes (qwsH y_Lw_nodes c_Lw_nodes 3 (some .int) [(0, 5, 8, 13)])) := q_gSH tw_196 tw_197 tw_0 tw_198
theorem cw_Lw_edge : GoodIn lw_good (va_wsS "LabelRouterLaw" 78 y_Lw_edge (qwsH y_Lw_edge c_Lw_edge 6 (some .int) [(0, 12, 15, 19), (0, 12, 19, 13), (0, 12, 23, 21)])) := q_gSH tw_277 tw_278 tw_0 tw_279
theorem cw_Lw_cut : GoodIn lw_good (va_wsS "LabelRouterLaw" 82 y_Lw_cut (qwsH y_Lw_cut c_Lw_cut 5 (some .int) [(0, 10, 13, 19), (0, 10, 17, 13)])) := q_gSH tw_357 tw_358 tw_0 tw_359
theorem cw_Lw_port : GoodIn lw_good (va_wsS "LabelRouterLaw" 86 y_Lw_port (qwsH y_Lw_port c_Lw_port 5 (some .int) [(0, 10, 13, 19)])) := q_gSH tw_373 tw_374 tw_0 tw_375
theorem cw_Lw_build : GoodIn lw_good (va_wsS "LabelRouterLaw" 89 y_Lw_build (qwsH y_Lw_build c_Lw_build 4 (some .int) [(0, 9, 12, 13), (0, 9, 15, 21)])) := q_gSH tw_384 tw_385 tw_0 tw_386
theorem cw_Lw_landmark : GoodIn lw_good (va_wsS "LabelRouterLaw" 93 y_Lw_landmark (qwsH y_Lw_landmark c_Lw_landmark 4 (some .int) [(0, 9, 12, 21), (0, 9, 15, 19)])) := q_gSH tw_567 tw_568 tw_0 tw_569
theorem cw_Lw_table : GoodIn lw_good (va_wsS "LabelRouterLaw" 96 y_Lw_table (qwsH y_Lw_table c_Lw_table 5 (some .int) [(0, 10, 13, 21), (0, 10, 17, 19)])) := q_gSH tw_584 tw_585 tw_0 tw_586
theorem cw_Lw_row : GoodIn lw_good (va_wsS "LabelRouterLaw" 99 y_Lw_row (qwsH y_Lw_row c_Lw_row 5 (some .int) [(0, 10, 13, 21), (0, 10, 17, 19), (0, 10, 21, 13)])) := q_gSH tw_593 tw_594 tw_0 tw_595
theorem cw_Lw_label : GoodIn lw_good (va_wsS "LabelRouterLaw" 102 y_Lw_label (qwsH y_Lw_label c_Lw_label 5 (some .int) [(0, 10, 13, 21), (0, 10, 17, 19)])) := q_gSH tw_610 tw_611 tw_0 tw_612
theorem cw_Lw_tree : GoodIn lw_good (va_wsS "LabelRouterLaw" 105 y_Lw_tree (qwsH y_Lw_tree c_Lw_tree 6 (some .int) [(0, 12, 15, 21), (0, 12, 19, 19), (0, 12, 23, 13)])) := q_gSH tw_621 tw_622 tw_0 tw_623
theorem cw_Lw_send : GoodIn lw_good (va_wsS "LabelRouterLaw" 108 y_Lw_send (qwsH y_Lw_send c_Lw_send 5 (some .int) [(0, 10, 13, 21), (0, 10, 17, 19)])) := q_gSH tw_637 tw_638 tw_0 tw_639
theorem cw_Lw_hop : GoodIn lw_good (va_wsS "LabelRouterLaw" 111 y_Lw_hop (qwsH y_Lw_hop c_Lw_hop 4 (some .int) [(0, 9, 12, 13)])) := q_gSH tw_649 tw_650 tw_0 tw_651
theorem cw_Lw_weight : GoodIn lw_good (va_wsS "LabelRouterLaw" 114 y_Lw_weight (qwsH y_Lw_weight c_Lw_weight 4 (some .int) [(0, 9, 12, 13)])) := q_gSH tw_696 tw_697 tw_0 tw_698
theorem cw_Lw_distance : GoodIn lw_good (va_wsS "LabelRouterLaw" 117 y_Lw_distance (qwsH y_Lw_distance c_Lw_distance 5 (some .int) [(0, 10, 13, 19)])) := q_gSH tw_707 tw_708 tw_0 tw_709
theorem cw_Lw_walk : GoodIn lw_good (va_wsS "LabelRouterLaw" 120 y_Lw_walk (qwsH y_Lw_walk c_Lw_walk 6 (some .int) [(0, 12, 15, 21), (0, 12, 19, 19)])) := q_gSH tw_714 tw_715 tw_0 tw_716
