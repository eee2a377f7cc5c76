theorem dX12_steer_107 : decode cX12_steer 107 = .ok (.aload_n 0, 1) := by decide +kernel
theorem dX12_steer_108 : decode cX12_steer 108 = .ok (.getfield 643, 3) := by decide +kernel
theorem dX12_steer_111 : decode cX12_steer 111 = .ok (.sipush 1440, 3) := by decide +kernel
theorem dX12_steer_114 : decode cX12_steer 114 = .ok (.irem, 1) := by decide +kernel
theorem dX12_steer_115 : decode cX12_steer 115 = .ok (.invokevirtual 661, 3) := by decide +kernel
theorem dX12_steer_118 : decode cX12_steer 118 = .ok (.i2l, 1) := by decide +kernel
theorem dX12_steer_119 : decode cX12_steer 119 = .ok (.lsub, 1) := by decide +kernel
theorem dX12_steer_120 : decode cX12_steer 120 = .ok (.ldc2_w 674, 3) := by decide +kernel
theorem dX12_steer_123 : decode cX12_steer 123 = .ok (.invokestatic 671, 3) := by decide +kernel
theorem dX12_steer_126 : decode cX12_steer 126 = .ok (.lstore 5, 2) := by decide +kernel
theorem dX12_steer_128 : decode cX12_steer 128 = .ok (.aload_n 0, 1) := by decide +kernel
theorem dX12_steer_129 : decode cX12_steer 129 = .ok (.getfield 226, 3) := by decide +kernel
theorem dX12_steer_132 : decode cX12_steer 132 = .ok (.iload_n 1, 1) := by decide +kernel
theorem dX12_steer_133 : decode cX12_steer 133 = .ok (.aload_n 0, 1) := by decide +kernel
theorem dX12_steer_134 : decode cX12_steer 134 = .ok (.getfield 226, 3) := by decide +kernel
theorem dX12_steer_137 : decode cX12_steer 137 = .ok (.iload_n 1, 1) := by decide +kernel
theorem dX12_steer_138 : decode cX12_steer 138 = .ok (.iaload, 1) := by decide +kernel
theorem dX12_steer_139 : decode cX12_steer 139 = .ok (.i2l, 1) := by decide +kernel
theorem dX12_steer_140 : decode cX12_steer 140 = .ok (.lload 5, 2) := by decide +kernel
theorem dX12_steer_142 : decode cX12_steer 142 = .ok (.ldc2_w 676, 3) := by decide +kernel
theorem dX12_steer_145 : decode cX12_steer 145 = .ok (.ldiv, 1) := by decide +kernel
theorem dX12_steer_146 : decode cX12_steer 146 = .ok (.ladd, 1) := by decide +kernel
theorem dX12_steer_147 : decode cX12_steer 147 = .ok (.ldc2_w 678, 3) := by decide +kernel
theorem dX12_steer_150 : decode cX12_steer 150 = .ok (.invokestatic 671, 3) := by decide +kernel
theorem dX12_steer_153 : decode cX12_steer 153 = .ok (.l2i, 1) := by decide +kernel
theorem dX12_steer_154 : decode cX12_steer 154 = .ok (.iastore, 1) := by decide +kernel
theorem dX12_steer_155 : decode cX12_steer 155 = .ok (.lload 5, 2) := by decide +kernel
theorem dX12_steer_157 : decode cX12_steer 157 = .ok (.ldc2_w 680, 3) := by decide +kernel
theorem dX12_steer_160 : decode cX12_steer 160 = .ok (.ldiv, 1) := by decide +kernel
theorem dX12_steer_161 : decode cX12_steer 161 = .ok (.aload_n 0, 1) := by decide +kernel
theorem dX12_steer_162 : decode cX12_steer 162 = .ok (.getfield 226, 3) := by decide +kernel
theorem dX12_steer_165 : decode cX12_steer 165 = .ok (.iload_n 1, 1) := by decide +kernel
theorem dX12_steer_166 : decode cX12_steer 166 = .ok (.iaload, 1) := by decide +kernel
theorem dX12_steer_167 : decode cX12_steer 167 = .ok (.sipush 500, 3) := by decide +kernel
theorem dX12_steer_170 : decode cX12_steer 170 = .ok (.idiv, 1) := by decide +kernel
theorem dX12_steer_171 : decode cX12_steer 171 = .ok (.i2l, 1) := by decide +kernel
theorem dX12_steer_172 : decode cX12_steer 172 = .ok (.ladd, 1) := by decide +kernel
theorem dX12_steer_173 : decode cX12_steer 173 = .ok (.ldc2_w 682, 3) := by decide +kernel
theorem dX12_steer_176 : decode cX12_steer 176 = .ok (.invokestatic 671, 3) := by decide +kernel
theorem dX12_steer_179 : decode cX12_steer 179 = .ok (.l2i, 1) := by decide +kernel
theorem dX12_steer_180 : decode cX12_steer 180 = .ok (.istore 7, 2) := by decide +kernel
theorem dX12_steer_182 : decode cX12_steer 182 = .ok (.iload 7, 2) := by decide +kernel
theorem dX12_steer_184 : decode cX12_steer 184 = .ok (.ifCond .ge 9, 3) := by decide +kernel
theorem dX12_steer_187 : decode cX12_steer 187 = .ok (.iload 7, 2) := by decide +kernel
theorem dX12_steer_189 : decode cX12_steer 189 = .ok (.ineg, 1) := by decide +kernel
theorem dX12_steer_190 : decode cX12_steer 190 = .ok (.goto 5, 3) := by decide +kernel
theorem dX12_steer_193 : decode cX12_steer 193 = .ok (.iload 7, 2) := by decide +kernel
theorem dX12_steer_195 : decode cX12_steer 195 = .ok (.istore 8, 2) := by decide +kernel
theorem dX12_steer_197 : decode cX12_steer 197 = .ok (.iload 7, 2) := by decide +kernel
theorem dX12_steer_199 : decode cX12_steer 199 = .ok (.ifCond .le 12, 3) := by decide +kernel
theorem dX12_steer_202 : decode cX12_steer 202 = .ok (.aload_n 0, 1) := by decide +kernel
theorem dX12_steer_203 : decode cX12_steer 203 = .ok (.getfield 223, 3) := by decide +kernel
theorem dX12_steer_206 : decode cX12_steer 206 = .ok (.iload_n 1, 1) := by decide +kernel
theorem dX12_steer_207 : decode cX12_steer 207 = .ok (.iaload, 1) := by decide +kernel
theorem dX12_steer_208 : decode cX12_steer 208 = .ok (.goto 9, 3) := by decide +kernel
theorem dX12_steer_211 : decode cX12_steer 211 = .ok (.aload_n 0, 1) := by decide +kernel
theorem dX12_steer_212 : decode cX12_steer 212 = .ok (.getfield 220, 3) := by decide +kernel
theorem dX12_steer_215 : decode cX12_steer 215 = .ok (.iload_n 1, 1) := by decide +kernel
theorem dX12_steer_216 : decode cX12_steer 216 = .ok (.iaload, 1) := by decide +kernel
theorem dX12_steer_217 : decode cX12_steer 217 = .ok (.istore 9, 2) := by decide +kernel
theorem dX12_steer_219 : decode cX12_steer 219 = .ok (.iload 9, 2) := by decide +kernel
theorem dX12_steer_221 : decode cX12_steer 221 = .ok (.iload 8, 2) := by decide +kernel
theorem dX12_steer_223 : decode cX12_steer 223 = .ok (.if_icmp .ge 8, 3) := by decide +kernel
theorem dX12_steer_226 : decode cX12_steer 226 = .ok (.iload 9, 2) := by decide +kernel
theorem dX12_steer_228 : decode cX12_steer 228 = .ok (.goto 5, 3) := by decide +kernel
theorem dX12_steer_231 : decode cX12_steer 231 = .ok (.iload 8, 2) := by decide +kernel
theorem dX12_steer_233 : decode cX12_steer 233 = .ok (.istore 10, 2) := by decide +kernel
theorem dX12_steer_235 : decode cX12_steer 235 = .ok (.iload 8, 2) := by decide +kernel
theorem dX12_steer_237 : decode cX12_steer 237 = .ok (.iload 10, 2) := by decide +kernel
theorem dX12_steer_239 : decode cX12_steer 239 = .ok (.isub, 1) := by decide +kernel
theorem dX12_steer_240 : decode cX12_steer 240 = .ok (.istore 11, 2) := by decide +kernel
theorem dX12_steer_242 : decode cX12_steer 242 = .ok (.iload 7, 2) := by decide +kernel
theorem dX12_steer_244 : decode cX12_steer 244 = .ok (.ifCond .le 51, 3) := by decide +kernel
theorem dX12_steer_247 : decode cX12_steer 247 = .ok (.aload_n 0, 1) := by decide +kernel
theorem dX12_steer_248 : decode cX12_steer 248 = .ok (.getfield 223, 3) := by decide +kernel
theorem dX12_steer_251 : decode cX12_steer 251 = .ok (.iload_n 1, 1) := by decide +kernel
theorem dX12_steer_252 : decode cX12_steer 252 = .ok (.dup2, 1) := by decide +kernel
theorem dX12_steer_253 : decode cX12_steer 253 = .ok (.iaload, 1) := by decide +kernel
theorem dX12_steer_254 : decode cX12_steer 254 = .ok (.iload 10, 2) := by decide +kernel
theorem dX12_steer_256 : decode cX12_steer 256 = .ok (.isub, 1) := by decide +kernel
theorem dX12_steer_257 : decode cX12_steer 257 = .ok (.iastore, 1) := by decide +kernel
theorem dX12_steer_258 : decode cX12_steer 258 = .ok (.aload_n 0, 1) := by decide +kernel
theorem dX12_steer_259 : decode cX12_steer 259 = .ok (.getfield 220, 3) := by decide +kernel
theorem dX12_steer_262 : decode cX12_steer 262 = .ok (.iload_n 1, 1) := by decide +kernel
theorem dX12_steer_263 : decode cX12_steer 263 = .ok (.aload_n 0, 1) := by decide +kernel
theorem dX12_steer_264 : decode cX12_steer 264 = .ok (.getfield 220, 3) := by decide +kernel
theorem dX12_steer_267 : decode cX12_steer 267 = .ok (.iload_n 1, 1) := by decide +kernel
theorem dX12_steer_268 : decode cX12_steer 268 = .ok (.iaload, 1) := by decide +kernel
theorem dX12_steer_269 : decode cX12_steer 269 = .ok (.iload 11, 2) := by decide +kernel
theorem dX12_steer_271 : decode cX12_steer 271 = .ok (.iadd, 1) := by decide +kernel
theorem dX12_steer_272 : decode cX12_steer 272 = .ok (.bipush 100, 2) := by decide +kernel
theorem dX12_steer_274 : decode cX12_steer 274 = .ok (.if_icmp .le 8, 3) := by decide +kernel
theorem dX12_steer_277 : decode cX12_steer 277 = .ok (.bipush 100, 2) := by decide +kernel
theorem dX12_steer_279 : decode cX12_steer 279 = .ok (.goto 12, 3) := by decide +kernel
theorem dX12_steer_282 : decode cX12_steer 282 = .ok (.aload_n 0, 1) := by decide +kernel
theorem dX12_steer_283 : decode cX12_steer 283 = .ok (.getfield 220, 3) := by decide +kernel
theorem dX12_steer_286 : decode cX12_steer 286 = .ok (.iload_n 1, 1) := by decide +kernel
theorem dX12_steer_287 : decode cX12_steer 287 = .ok (.iaload, 1) := by decide +kernel
theorem dX12_steer_288 : decode cX12_steer 288 = .ok (.iload 11, 2) := by decide +kernel
theorem dX12_steer_290 : decode cX12_steer 290 = .ok (.iadd, 1) := by decide +kernel
theorem dX12_steer_291 : decode cX12_steer 291 = .ok (.iastore, 1) := by decide +kernel
theorem dX12_steer_292 : decode cX12_steer 292 = .ok (.goto 48, 3) := by decide +kernel
theorem dX12_steer_295 : decode cX12_steer 295 = .ok (.aload_n 0, 1) := by decide +kernel
theorem dX12_steer_296 : decode cX12_steer 296 = .ok (.getfield 220, 3) := by decide +kernel
theorem dX12_steer_299 : decode cX12_steer 299 = .ok (.iload_n 1, 1) := by decide +kernel
theorem dX12_steer_300 : decode cX12_steer 300 = .ok (.dup2, 1) := by decide +kernel
theorem dX12_steer_301 : decode cX12_steer 301 = .ok (.iaload, 1) := by decide +kernel
theorem dX12_steer_302 : decode cX12_steer 302 = .ok (.iload 10, 2) := by decide +kernel
theorem dX12_steer_304 : decode cX12_steer 304 = .ok (.isub, 1) := by decide +kernel
theorem dX12_steer_305 : decode cX12_steer 305 = .ok (.iastore, 1) := by decide +kernel
theorem dX12_steer_306 : decode cX12_steer 306 = .ok (.aload_n 0, 1) := by decide +kernel
theorem dX12_steer_307 : decode cX12_steer 307 = .ok (.getfield 223, 3) := by decide +kernel
theorem dX12_steer_310 : decode cX12_steer 310 = .ok (.iload_n 1, 1) := by decide +kernel
theorem dX12_steer_311 : decode cX12_steer 311 = .ok (.aload_n 0, 1) := by decide +kernel
theorem dX12_steer_312 : decode cX12_steer 312 = .ok (.getfield 223, 3) := by decide +kernel
theorem dX12_steer_315 : decode cX12_steer 315 = .ok (.iload_n 1, 1) := by decide +kernel
theorem dX12_steer_316 : decode cX12_steer 316 = .ok (.iaload, 1) := by decide +kernel
theorem dX12_steer_317 : decode cX12_steer 317 = .ok (.iload 11, 2) := by decide +kernel
theorem dX12_steer_319 : decode cX12_steer 319 = .ok (.iadd, 1) := by decide +kernel
theorem dX12_steer_320 : decode cX12_steer 320 = .ok (.bipush 100, 2) := by decide +kernel
theorem dX12_steer_322 : decode cX12_steer 322 = .ok (.if_icmp .le 8, 3) := by decide +kernel
theorem dX12_steer_325 : decode cX12_steer 325 = .ok (.bipush 100, 2) := by decide +kernel
theorem dX12_steer_327 : decode cX12_steer 327 = .ok (.goto 12, 3) := by decide +kernel
theorem dX12_steer_330 : decode cX12_steer 330 = .ok (.aload_n 0, 1) := by decide +kernel
theorem dX12_steer_331 : decode cX12_steer 331 = .ok (.getfield 223, 3) := by decide +kernel
theorem dX12_steer_334 : decode cX12_steer 334 = .ok (.iload_n 1, 1) := by decide +kernel
theorem dX12_steer_335 : decode cX12_steer 335 = .ok (.iaload, 1) := by decide +kernel
theorem dX12_steer_336 : decode cX12_steer 336 = .ok (.iload 11, 2) := by decide +kernel
theorem dX12_steer_338 : decode cX12_steer 338 = .ok (.iadd, 1) := by decide +kernel
theorem dX12_steer_339 : decode cX12_steer 339 = .ok (.iastore, 1) := by decide +kernel
theorem dX12_steer_340 : decode cX12_steer 340 = .ok (.aload_n 0, 1) := by decide +kernel
theorem dX12_steer_341 : decode cX12_steer 341 = .ok (.getfield 207, 3) := by decide +kernel
theorem dX12_steer_344 : decode cX12_steer 344 = .ok (.iconst 4, 1) := by decide +kernel
theorem dX12_steer_345 : decode cX12_steer 345 = .ok (.iaload, 1) := by decide +kernel
theorem dX12_steer_346 : decode cX12_steer 346 = .ok (.iconst 1, 1) := by decide +kernel
theorem dX12_steer_347 : decode cX12_steer 347 = .ok (.if_icmp .ne 38, 3) := by decide +kernel
theorem dX12_steer_350 : decode cX12_steer 350 = .ok (.aload_n 0, 1) := by decide +kernel
theorem dX12_steer_351 : decode cX12_steer 351 = .ok (.getfield 220, 3) := by decide +kernel
theorem dX12_steer_354 : decode cX12_steer 354 = .ok (.iload_n 1, 1) := by decide +kernel
theorem dX12_steer_355 : decode cX12_steer 355 = .ok (.iaload, 1) := by decide +kernel
theorem dX12_steer_356 : decode cX12_steer 356 = .ok (.bipush 20, 2) := by decide +kernel
theorem dX12_steer_358 : decode cX12_steer 358 = .ok (.if_icmp .le 27, 3) := by decide +kernel
theorem dX12_steer_361 : decode cX12_steer 361 = .ok (.aload_n 0, 1) := by decide +kernel
theorem dX12_steer_362 : decode cX12_steer 362 = .ok (.getfield 220, 3) := by decide +kernel
theorem dX12_steer_365 : decode cX12_steer 365 = .ok (.iload_n 1, 1) := by decide +kernel
theorem dX12_steer_366 : decode cX12_steer 366 = .ok (.iload_n 2, 1) := by decide +kernel
theorem dX12_steer_367 : decode cX12_steer 367 = .ok (.bipush 10, 2) := by decide +kernel
theorem dX12_steer_369 : decode cX12_steer 369 = .ok (.isub, 1) := by decide +kernel
theorem dX12_steer_370 : decode cX12_steer 370 = .ok (.bipush 20, 2) := by decide +kernel
theorem dX12_steer_372 : decode cX12_steer 372 = .ok (.if_icmp .le 10, 3) := by decide +kernel
theorem dX12_steer_375 : decode cX12_steer 375 = .ok (.iload_n 2, 1) := by decide +kernel
theorem dX12_steer_376 : decode cX12_steer 376 = .ok (.bipush 10, 2) := by decide +kernel
theorem dX12_steer_378 : decode cX12_steer 378 = .ok (.isub, 1) := by decide +kernel
theorem dX12_steer_379 : decode cX12_steer 379 = .ok (.goto 5, 3) := by decide +kernel
theorem dX12_steer_382 : decode cX12_steer 382 = .ok (.bipush 20, 2) := by decide +kernel
theorem dX12_steer_384 : decode cX12_steer 384 = .ok (.iastore, 1) := by decide +kernel
theorem dX12_steer_385 : decode cX12_steer 385 = .ok (.return_, 1) := by decide +kernel
theorem dX12_breathe_0 : decode cX12_breathe 0 = .ok (.aload_n 0, 1) := by decide +kernel
theorem dX12_breathe_1 : decode cX12_breathe 1 = .ok (.getfield 207, 3) := by decide +kernel
theorem dX12_breathe_4 : decode cX12_breathe 4 = .ok (.iconst 0, 1) := by decide +kernel
theorem dX12_breathe_5 : decode cX12_breathe 5 = .ok (.iaload, 1) := by decide +kernel
theorem dX12_breathe_6 : decode cX12_breathe 6 = .ok (.bipush 8, 2) := by decide +kernel
theorem dX12_breathe_8 : decode cX12_breathe 8 = .ok (.idiv, 1) := by decide +kernel
theorem dX12_breathe_9 : decode cX12_breathe 9 = .ok (.iconst 5, 1) := by decide +kernel
theorem dX12_breathe_10 : decode cX12_breathe 10 = .ok (.aload_n 0, 1) := by decide +kernel
theorem dX12_breathe_11 : decode cX12_breathe 11 = .ok (.getfield 223, 3) := by decide +kernel
theorem dX12_breathe_14 : decode cX12_breathe 14 = .ok (.iload_n 1, 1) := by decide +kernel
theorem dX12_breathe_15 : decode cX12_breathe 15 = .ok (.iaload, 1) := by decide +kernel
theorem dX12_breathe_16 : decode cX12_breathe 16 = .ok (.imul, 1) := by decide +kernel
theorem dX12_breathe_17 : decode cX12_breathe 17 = .ok (.iadd, 1) := by decide +kernel
theorem dX12_breathe_18 : decode cX12_breathe 18 = .ok (.i2l, 1) := by decide +kernel
theorem dX12_breathe_19 : decode cX12_breathe 19 = .ok (.lstore_n 2, 1) := by decide +kernel
theorem dX12_breathe_20 : decode cX12_breathe 20 = .ok (.aload_n 0, 1) := by decide +kernel
theorem dX12_breathe_21 : decode cX12_breathe 21 = .ok (.getfield 212, 3) := by decide +kernel
theorem dX12_breathe_24 : decode cX12_breathe 24 = .ok (.iload_n 1, 1) := by decide +kernel
theorem dX12_breathe_25 : decode cX12_breathe 25 = .ok (.laload, 1) := by decide +kernel
theorem dX12_breathe_26 : decode cX12_breathe 26 = .ok (.aload_n 0, 1) := by decide +kernel
theorem dX12_breathe_27 : decode cX12_breathe 27 = .ok (.getfield 207, 3) := by decide +kernel
theorem dX12_breathe_30 : decode cX12_breathe 30 = .ok (.iconst 1, 1) := by decide +kernel
theorem dX12_breathe_31 : decode cX12_breathe 31 = .ok (.iaload, 1) := by decide +kernel
theorem dX12_breathe_32 : decode cX12_breathe 32 = .ok (.i2l, 1) := by decide +kernel
theorem dX12_breathe_33 : decode cX12_breathe 33 = .ok (.lsub, 1) := by decide +kernel
theorem dX12_breathe_34 : decode cX12_breathe 34 = .ok (.iconst 2, 1) := by decide +kernel
theorem dX12_breathe_35 : decode cX12_breathe 35 = .ok (.aload_n 0, 1) := by decide +kernel
theorem dX12_breathe_36 : decode cX12_breathe 36 = .ok (.getfield 220, 3) := by decide +kernel
theorem dX12_breathe_39 : decode cX12_breathe 39 = .ok (.iload_n 1, 1) := by decide +kernel
theorem dX12_breathe_40 : decode cX12_breathe 40 = .ok (.iaload, 1) := by decide +kernel
theorem dX12_breathe_41 : decode cX12_breathe 41 = .ok (.iadd, 1) := by decide +kernel
theorem dX12_breathe_42 : decode cX12_breathe 42 = .ok (.i2l, 1) := by decide +kernel
theorem dX12_breathe_43 : decode cX12_breathe 43 = .ok (.lmul, 1) := by decide +kernel
theorem dX12_breathe_44 : decode cX12_breathe 44 = .ok (.ldc2_w 684, 3) := by decide +kernel
theorem dX12_breathe_47 : decode cX12_breathe 47 = .ok (.ldiv, 1) := by decide +kernel
theorem dX12_breathe_48 : decode cX12_breathe 48 = .ok (.lstore 4, 2) := by decide +kernel
theorem dX12_breathe_50 : decode cX12_breathe 50 = .ok (.aload_n 0, 1) := by decide +kernel
theorem dX12_breathe_51 : decode cX12_breathe 51 = .ok (.getfield 212, 3) := by decide +kernel
theorem dX12_breathe_54 : decode cX12_breathe 54 = .ok (.iload_n 1, 1) := by decide +kernel
theorem dX12_breathe_55 : decode cX12_breathe 55 = .ok (.dup2, 1) := by decide +kernel
theorem dX12_breathe_56 : decode cX12_breathe 56 = .ok (.laload, 1) := by decide +kernel
theorem dX12_breathe_57 : decode cX12_breathe 57 = .ok (.lload_n 2, 1) := by decide +kernel
theorem dX12_breathe_58 : decode cX12_breathe 58 = .ok (.lload 4, 2) := by decide +kernel
theorem dX12_breathe_60 : decode cX12_breathe 60 = .ok (.lsub, 1) := by decide +kernel
theorem dX12_breathe_61 : decode cX12_breathe 61 = .ok (.ladd, 1) := by decide +kernel
theorem dX12_breathe_62 : decode cX12_breathe 62 = .ok (.lastore, 1) := by decide +kernel
theorem dX12_breathe_63 : decode cX12_breathe 63 = .ok (.bipush 12, 2) := by decide +kernel
theorem dX12_breathe_65 : decode cX12_breathe 65 = .ok (.aload_n 0, 1) := by decide +kernel
theorem dX12_breathe_66 : decode cX12_breathe 66 = .ok (.getfield 207, 3) := by decide +kernel
theorem dX12_breathe_69 : decode cX12_breathe 69 = .ok (.iconst 0, 1) := by decide +kernel
theorem dX12_breathe_70 : decode cX12_breathe 70 = .ok (.iaload, 1) := by decide +kernel
theorem dX12_breathe_71 : decode cX12_breathe 71 = .ok (.bipush 50, 2) := by decide +kernel
theorem dX12_breathe_73 : decode cX12_breathe 73 = .ok (.idiv, 1) := by decide +kernel
theorem dX12_breathe_74 : decode cX12_breathe 74 = .ok (.iadd, 1) := by decide +kernel
theorem dX12_breathe_75 : decode cX12_breathe 75 = .ok (.i2l, 1) := by decide +kernel
theorem dX12_breathe_76 : decode cX12_breathe 76 = .ok (.lstore 6, 2) := by decide +kernel
theorem dX12_breathe_78 : decode cX12_breathe 78 = .ok (.aload_n 0, 1) := by decide +kernel
theorem dX12_breathe_79 : decode cX12_breathe 79 = .ok (.getfield 217, 3) := by decide +kernel
theorem dX12_breathe_82 : decode cX12_breathe 82 = .ok (.iload_n 1, 1) := by decide +kernel
theorem dX12_breathe_83 : decode cX12_breathe 83 = .ok (.laload, 1) := by decide +kernel
theorem dX12_breathe_84 : decode cX12_breathe 84 = .ok (.aload_n 0, 1) := by decide +kernel
theorem dX12_breathe_85 : decode cX12_breathe 85 = .ok (.getfield 207, 3) := by decide +kernel
theorem dX12_breathe_88 : decode cX12_breathe 88 = .ok (.iconst 2, 1) := by decide +kernel
theorem dX12_breathe_89 : decode cX12_breathe 89 = .ok (.iaload, 1) := by decide +kernel
theorem dX12_breathe_90 : decode cX12_breathe 90 = .ok (.i2l, 1) := by decide +kernel
theorem dX12_breathe_91 : decode cX12_breathe 91 = .ok (.lsub, 1) := by decide +kernel
theorem dX12_breathe_92 : decode cX12_breathe 92 = .ok (.aload_n 0, 1) := by decide +kernel
theorem dX12_breathe_93 : decode cX12_breathe 93 = .ok (.getfield 220, 3) := by decide +kernel
theorem dX12_breathe_96 : decode cX12_breathe 96 = .ok (.iload_n 1, 1) := by decide +kernel
theorem dX12_breathe_97 : decode cX12_breathe 97 = .ok (.iaload, 1) := by decide +kernel
theorem dX12_breathe_98 : decode cX12_breathe 98 = .ok (.i2l, 1) := by decide +kernel
theorem dX12_breathe_99 : decode cX12_breathe 99 = .ok (.lmul, 1) := by decide +kernel
theorem dX12_breathe_100 : decode cX12_breathe 100 = .ok (.ldc2_w 686, 3) := by decide +kernel
theorem dX12_breathe_103 : decode cX12_breathe 103 = .ok (.ldiv, 1) := by decide +kernel
theorem dX12_breathe_104 : decode cX12_breathe 104 = .ok (.lstore 8, 2) := by decide +kernel
theorem dX12_breathe_106 : decode cX12_breathe 106 = .ok (.aload_n 0, 1) := by decide +kernel
theorem dX12_breathe_107 : decode cX12_breathe 107 = .ok (.getfield 217, 3) := by decide +kernel
theorem dX12_breathe_110 : decode cX12_breathe 110 = .ok (.iload_n 1, 1) := by decide +kernel
theorem dX12_breathe_111 : decode cX12_breathe 111 = .ok (.dup2, 1) := by decide +kernel
theorem dX12_breathe_112 : decode cX12_breathe 112 = .ok (.laload, 1) := by decide +kernel
theorem dX12_breathe_113 : decode cX12_breathe 113 = .ok (.lload 6, 2) := by decide +kernel
theorem dX12_breathe_115 : decode cX12_breathe 115 = .ok (.lload 8, 2) := by decide +kernel
theorem dX12_breathe_117 : decode cX12_breathe 117 = .ok (.lsub, 1) := by decide +kernel
theorem dX12_breathe_118 : decode cX12_breathe 118 = .ok (.ladd, 1) := by decide +kernel
theorem dX12_breathe_119 : decode cX12_breathe 119 = .ok (.lastore, 1) := by decide +kernel
theorem dX12_breathe_120 : decode cX12_breathe 120 = .ok (.aload_n 0, 1) := by decide +kernel
theorem dX12_breathe_121 : decode cX12_breathe 121 = .ok (.getfield 217, 3) := by decide +kernel
theorem dX12_breathe_124 : decode cX12_breathe 124 = .ok (.iload_n 1, 1) := by decide +kernel
theorem dX12_breathe_125 : decode cX12_breathe 125 = .ok (.laload, 1) := by decide +kernel
theorem dX12_breathe_126 : decode cX12_breathe 126 = .ok (.lconst 0, 1) := by decide +kernel
theorem dX12_breathe_127 : decode cX12_breathe 127 = .ok (.lcmp, 1) := by decide +kernel
theorem dX12_breathe_128 : decode cX12_breathe 128 = .ok (.ifCond .ge 13, 3) := by decide +kernel
theorem dX12_breathe_131 : decode cX12_breathe 131 = .ok (.aload_n 0, 1) := by decide +kernel
theorem dX12_breathe_132 : decode cX12_breathe 132 = .ok (.getfield 217, 3) := by decide +kernel
theorem dX12_breathe_135 : decode cX12_breathe 135 = .ok (.iload_n 1, 1) := by decide +kernel
theorem dX12_breathe_136 : decode cX12_breathe 136 = .ok (.laload, 1) := by decide +kernel
theorem dX12_breathe_137 : decode cX12_breathe 137 = .ok (.lneg, 1) := by decide +kernel
theorem dX12_breathe_138 : decode cX12_breathe 138 = .ok (.goto 4, 3) := by decide +kernel
theorem dX12_breathe_141 : decode cX12_breathe 141 = .ok (.lconst 0, 1) := by decide +kernel
theorem dX12_breathe_142 : decode cX12_breathe 142 = .ok (.lstore 10, 2) := by decide +kernel
theorem dX12_breathe_144 : decode cX12_breathe 144 = .ok (.aload_n 0, 1) := by decide +kernel
theorem dX12_breathe_145 : decode cX12_breathe 145 = .ok (.getfield 217, 3) := by decide +kernel
theorem dX12_breathe_148 : decode cX12_breathe 148 = .ok (.iload_n 1, 1) := by decide +kernel
theorem dX12_breathe_149 : decode cX12_breathe 149 = .ok (.dup2, 1) := by decide +kernel
theorem dX12_breathe_150 : decode cX12_breathe 150 = .ok (.laload, 1) := by decide +kernel
theorem dX12_breathe_151 : decode cX12_breathe 151 = .ok (.lload 10, 2) := by decide +kernel
theorem dX12_breathe_153 : decode cX12_breathe 153 = .ok (.ladd, 1) := by decide +kernel
theorem dX12_breathe_154 : decode cX12_breathe 154 = .ok (.lastore, 1) := by decide +kernel
theorem dX12_breathe_155 : decode cX12_breathe 155 = .ok (.aload_n 0, 1) := by decide +kernel
theorem dX12_breathe_156 : decode cX12_breathe 156 = .ok (.getfield 144, 3) := by decide +kernel
theorem dX12_breathe_159 : decode cX12_breathe 159 = .ok (.iconst 0, 1) := by decide +kernel
theorem dX12_breathe_160 : decode cX12_breathe 160 = .ok (.iaload, 1) := by decide +kernel
theorem dX12_breathe_161 : decode cX12_breathe 161 = .ok (.ifCond .ne 9, 3) := by decide +kernel
theorem dX12_breathe_164 : decode cX12_breathe 164 = .ok (.ldc2_w 688, 3) := by decide +kernel
theorem dX12_breathe_167 : decode cX12_breathe 167 = .ok (.goto 20, 3) := by decide +kernel
theorem dX12_breathe_170 : decode cX12_breathe 170 = .ok (.aload_n 0, 1) := by decide +kernel
theorem dX12_breathe_171 : decode cX12_breathe 171 = .ok (.iconst 0, 1) := by decide +kernel
theorem dX12_breathe_172 : decode cX12_breathe 172 = .ok (.aload_n 0, 1) := by decide +kernel
theorem dX12_breathe_173 : decode cX12_breathe 173 = .ok (.getfield 212, 3) := by decide +kernel
theorem dX12_breathe_176 : decode cX12_breathe 176 = .ok (.iload_n 1, 1) := by decide +kernel
theorem dX12_breathe_177 : decode cX12_breathe 177 = .ok (.laload, 1) := by decide +kernel
theorem dX12_breathe_178 : decode cX12_breathe 178 = .ok (.ldc2_w 690, 3) := by decide +kernel
theorem dX12_breathe_181 : decode cX12_breathe 181 = .ok (.ldiv, 1) := by decide +kernel
theorem dX12_breathe_182 : decode cX12_breathe 182 = .ok (.l2i, 1) := by decide +kernel
theorem dX12_breathe_183 : decode cX12_breathe 183 = .ok (.invokevirtual 627, 3) := by decide +kernel
theorem dX12_breathe_186 : decode cX12_breathe 186 = .ok (.i2l, 1) := by decide +kernel
theorem dX12_breathe_187 : decode cX12_breathe 187 = .ok (.lstore 12, 2) := by decide +kernel
theorem dX12_breathe_189 : decode cX12_breathe 189 = .ok (.lload 12, 2) := by decide +kernel
theorem dX12_breathe_191 : decode cX12_breathe 191 = .ok (.lconst 0, 1) := by decide +kernel
theorem dX12_breathe_192 : decode cX12_breathe 192 = .ok (.lcmp, 1) := by decide +kernel
theorem dX12_breathe_193 : decode cX12_breathe 193 = .ok (.ifCond .ge 7, 3) := by decide +kernel
theorem dX12_breathe_196 : decode cX12_breathe 196 = .ok (.lconst 0, 1) := by decide +kernel
theorem dX12_breathe_197 : decode cX12_breathe 197 = .ok (.goto 5, 3) := by decide +kernel
theorem dX12_breathe_200 : decode cX12_breathe 200 = .ok (.lload 12, 2) := by decide +kernel
theorem dX12_breathe_202 : decode cX12_breathe 202 = .ok (.lstore 12, 2) := by decide +kernel
theorem dX12_breathe_204 : decode cX12_breathe 204 = .ok (.aload_n 0, 1) := by decide +kernel
theorem dX12_breathe_205 : decode cX12_breathe 205 = .ok (.getfield 217, 3) := by decide +kernel
theorem dX12_breathe_208 : decode cX12_breathe 208 = .ok (.iload_n 1, 1) := by decide +kernel
theorem dX12_breathe_209 : decode cX12_breathe 209 = .ok (.laload, 1) := by decide +kernel
theorem dX12_breathe_210 : decode cX12_breathe 210 = .ok (.lload 12, 2) := by decide +kernel
theorem dX12_breathe_212 : decode cX12_breathe 212 = .ok (.lcmp, 1) := by decide +kernel
theorem dX12_breathe_213 : decode cX12_breathe 213 = .ok (.ifCond .le 15, 3) := by decide +kernel
theorem dX12_breathe_216 : decode cX12_breathe 216 = .ok (.aload_n 0, 1) := by decide +kernel
theorem dX12_breathe_217 : decode cX12_breathe 217 = .ok (.getfield 217, 3) := by decide +kernel
theorem dX12_breathe_220 : decode cX12_breathe 220 = .ok (.iload_n 1, 1) := by decide +kernel
theorem dX12_breathe_221 : decode cX12_breathe 221 = .ok (.laload, 1) := by decide +kernel
theorem dX12_breathe_222 : decode cX12_breathe 222 = .ok (.lload 12, 2) := by decide +kernel
theorem dX12_breathe_224 : decode cX12_breathe 224 = .ok (.lsub, 1) := by decide +kernel
theorem dX12_breathe_225 : decode cX12_breathe 225 = .ok (.goto 4, 3) := by decide +kernel
theorem dX12_breathe_228 : decode cX12_breathe 228 = .ok (.lconst 0, 1) := by decide +kernel
theorem dX12_breathe_229 : decode cX12_breathe 229 = .ok (.lstore 14, 2) := by decide +kernel
theorem dX12_breathe_231 : decode cX12_breathe 231 = .ok (.aload_n 0, 1) := by decide +kernel
theorem dX12_breathe_232 : decode cX12_breathe 232 = .ok (.getfield 217, 3) := by decide +kernel
theorem dX12_breathe_235 : decode cX12_breathe 235 = .ok (.iload_n 1, 1) := by decide +kernel
theorem dX12_breathe_236 : decode cX12_breathe 236 = .ok (.dup2, 1) := by decide +kernel
theorem dX12_breathe_237 : decode cX12_breathe 237 = .ok (.laload, 1) := by decide +kernel
theorem dX12_breathe_238 : decode cX12_breathe 238 = .ok (.lload 14, 2) := by decide +kernel
theorem dX12_breathe_240 : decode cX12_breathe 240 = .ok (.lsub, 1) := by decide +kernel
theorem dX12_breathe_241 : decode cX12_breathe 241 = .ok (.lastore, 1) := by decide +kernel
theorem dX12_breathe_242 : decode cX12_breathe 242 = .ok (.aload_n 0, 1) := by decide +kernel
theorem dX12_breathe_243 : decode cX12_breathe 243 = .ok (.getfield 229, 3) := by decide +kernel
theorem dX12_breathe_246 : decode cX12_breathe 246 = .ok (.bipush 6, 2) := by decide +kernel
theorem dX12_breathe_248 : decode cX12_breathe 248 = .ok (.iload_n 1, 1) := by decide +kernel
theorem dX12_breathe_249 : decode cX12_breathe 249 = .ok (.imul, 1) := by decide +kernel
theorem dX12_breathe_250 : decode cX12_breathe 250 = .ok (.dup2, 1) := by decide +kernel
theorem dX12_breathe_251 : decode cX12_breathe 251 = .ok (.laload, 1) := by decide +kernel
theorem dX12_breathe_252 : decode cX12_breathe 252 = .ok (.lload 14, 2) := by decide +kernel
theorem dX12_breathe_254 : decode cX12_breathe 254 = .ok (.ladd, 1) := by decide +kernel
theorem dX12_breathe_255 : decode cX12_breathe 255 = .ok (.lastore, 1) := by decide +kernel
theorem dX12_breathe_256 : decode cX12_breathe 256 = .ok (.aload_n 0, 1) := by decide +kernel
theorem dX12_breathe_257 : decode cX12_breathe 257 = .ok (.getfield 229, 3) := by decide +kernel
theorem dX12_breathe_260 : decode cX12_breathe 260 = .ok (.bipush 6, 2) := by decide +kernel
theorem dX12_breathe_262 : decode cX12_breathe 262 = .ok (.iload_n 1, 1) := by decide +kernel
theorem dX12_breathe_263 : decode cX12_breathe 263 = .ok (.imul, 1) := by decide +kernel
theorem dX12_breathe_264 : decode cX12_breathe 264 = .ok (.iconst 1, 1) := by decide +kernel
theorem dX12_breathe_265 : decode cX12_breathe 265 = .ok (.iadd, 1) := by decide +kernel
theorem dX12_breathe_266 : decode cX12_breathe 266 = .ok (.dup2, 1) := by decide +kernel
theorem dX12_breathe_267 : decode cX12_breathe 267 = .ok (.laload, 1) := by decide +kernel
theorem dX12_breathe_268 : decode cX12_breathe 268 = .ok (.lload_n 2, 1) := by decide +kernel
theorem dX12_breathe_269 : decode cX12_breathe 269 = .ok (.ladd, 1) := by decide +kernel
theorem dX12_breathe_270 : decode cX12_breathe 270 = .ok (.lastore, 1) := by decide +kernel
theorem dX12_breathe_271 : decode cX12_breathe 271 = .ok (.aload_n 0, 1) := by decide +kernel
theorem dX12_breathe_272 : decode cX12_breathe 272 = .ok (.getfield 229, 3) := by decide +kernel
theorem dX12_breathe_275 : decode cX12_breathe 275 = .ok (.bipush 6, 2) := by decide +kernel
theorem dX12_breathe_277 : decode cX12_breathe 277 = .ok (.iload_n 1, 1) := by decide +kernel
theorem dX12_breathe_278 : decode cX12_breathe 278 = .ok (.imul, 1) := by decide +kernel
theorem dX12_breathe_279 : decode cX12_breathe 279 = .ok (.iconst 2, 1) := by decide +kernel
theorem dX12_breathe_280 : decode cX12_breathe 280 = .ok (.iadd, 1) := by decide +kernel
theorem dX12_breathe_281 : decode cX12_breathe 281 = .ok (.dup2, 1) := by decide +kernel
theorem dX12_breathe_282 : decode cX12_breathe 282 = .ok (.laload, 1) := by decide +kernel
theorem dX12_breathe_283 : decode cX12_breathe 283 = .ok (.lload 4, 2) := by decide +kernel
theorem dX12_breathe_285 : decode cX12_breathe 285 = .ok (.ladd, 1) := by decide +kernel
theorem dX12_breathe_286 : decode cX12_breathe 286 = .ok (.lastore, 1) := by decide +kernel
theorem dX12_breathe_287 : decode cX12_breathe 287 = .ok (.aload_n 0, 1) := by decide +kernel
theorem dX12_breathe_288 : decode cX12_breathe 288 = .ok (.getfield 229, 3) := by decide +kernel
theorem dX12_breathe_291 : decode cX12_breathe 291 = .ok (.bipush 6, 2) := by decide +kernel
theorem dX12_breathe_293 : decode cX12_breathe 293 = .ok (.iload_n 1, 1) := by decide +kernel
theorem dX12_breathe_294 : decode cX12_breathe 294 = .ok (.imul, 1) := by decide +kernel
theorem dX12_breathe_295 : decode cX12_breathe 295 = .ok (.iconst 3, 1) := by decide +kernel
theorem dX12_breathe_296 : decode cX12_breathe 296 = .ok (.iadd, 1) := by decide +kernel
theorem dX12_breathe_297 : decode cX12_breathe 297 = .ok (.dup2, 1) := by decide +kernel
theorem dX12_breathe_298 : decode cX12_breathe 298 = .ok (.laload, 1) := by decide +kernel
theorem dX12_breathe_299 : decode cX12_breathe 299 = .ok (.lload 6, 2) := by decide +kernel
theorem dX12_breathe_301 : decode cX12_breathe 301 = .ok (.ladd, 1) := by decide +kernel
theorem dX12_breathe_302 : decode cX12_breathe 302 = .ok (.lastore, 1) := by decide +kernel
theorem dX12_breathe_303 : decode cX12_breathe 303 = .ok (.aload_n 0, 1) := by decide +kernel
theorem dX12_breathe_304 : decode cX12_breathe 304 = .ok (.getfield 229, 3) := by decide +kernel
theorem dX12_breathe_307 : decode cX12_breathe 307 = .ok (.bipush 6, 2) := by decide +kernel
theorem dX12_breathe_309 : decode cX12_breathe 309 = .ok (.iload_n 1, 1) := by decide +kernel
theorem dX12_breathe_310 : decode cX12_breathe 310 = .ok (.imul, 1) := by decide +kernel
theorem dX12_breathe_311 : decode cX12_breathe 311 = .ok (.iconst 4, 1) := by decide +kernel
theorem dX12_breathe_312 : decode cX12_breathe 312 = .ok (.iadd, 1) := by decide +kernel
theorem dX12_breathe_313 : decode cX12_breathe 313 = .ok (.dup2, 1) := by decide +kernel
theorem dX12_breathe_314 : decode cX12_breathe 314 = .ok (.laload, 1) := by decide +kernel
theorem dX12_breathe_315 : decode cX12_breathe 315 = .ok (.lload 8, 2) := by decide +kernel
theorem dX12_breathe_317 : decode cX12_breathe 317 = .ok (.ladd, 1) := by decide +kernel
theorem dX12_breathe_318 : decode cX12_breathe 318 = .ok (.lastore, 1) := by decide +kernel
theorem dX12_breathe_319 : decode cX12_breathe 319 = .ok (.aload_n 0, 1) := by decide +kernel
theorem dX12_breathe_320 : decode cX12_breathe 320 = .ok (.getfield 229, 3) := by decide +kernel
theorem dX12_breathe_323 : decode cX12_breathe 323 = .ok (.bipush 6, 2) := by decide +kernel
theorem dX12_breathe_325 : decode cX12_breathe 325 = .ok (.iload_n 1, 1) := by decide +kernel
theorem dX12_breathe_326 : decode cX12_breathe 326 = .ok (.imul, 1) := by decide +kernel
theorem dX12_breathe_327 : decode cX12_breathe 327 = .ok (.iconst 5, 1) := by decide +kernel
theorem dX12_breathe_328 : decode cX12_breathe 328 = .ok (.iadd, 1) := by decide +kernel
theorem dX12_breathe_329 : decode cX12_breathe 329 = .ok (.dup2, 1) := by decide +kernel
theorem dX12_breathe_330 : decode cX12_breathe 330 = .ok (.laload, 1) := by decide +kernel
theorem dX12_breathe_331 : decode cX12_breathe 331 = .ok (.lload 10, 2) := by decide +kernel
theorem dX12_breathe_333 : decode cX12_breathe 333 = .ok (.ladd, 1) := by decide +kernel
theorem dX12_breathe_334 : decode cX12_breathe 334 = .ok (.lastore, 1) := by decide +kernel
theorem dX12_breathe_335 : decode cX12_breathe 335 = .ok (.return_, 1) := by decide +kernel
theorem dX12_minute_0 : decode cX12_minute 0 = .ok (.iload_n 1, 1) := by decide +kernel
theorem dX12_minute_1 : decode cX12_minute 1 = .ok (.iconst 1, 1) := by decide +kernel
theorem dX12_minute_2 : decode cX12_minute 2 = .ok (.bipush 100, 2) := by decide +kernel
theorem dX12_minute_4 : decode cX12_minute 4 = .ok (.invokestatic 322, 3) := by decide +kernel
theorem dX12_minute_7 : decode cX12_minute 7 = .ok (.ifCond .ne 6, 3) := by decide +kernel
theorem dX12_minute_10 : decode cX12_minute 10 = .ok (.bipush (-2), 2) := by decide +kernel
theorem dX12_minute_12 : decode cX12_minute 12 = .ok (.ireturn, 1) := by decide +kernel
theorem dX12_minute_13 : decode cX12_minute 13 = .ok (.aload_n 0, 1) := by decide +kernel
theorem dX12_minute_14 : decode cX12_minute 14 = .ok (.getfield 643, 3) := by decide +kernel
theorem dX12_minute_17 : decode cX12_minute 17 = .ok (.iload_n 1, 1) := by decide +kernel
theorem dX12_minute_18 : decode cX12_minute 18 = .ok (.iadd, 1) := by decide +kernel
theorem dX12_minute_19 : decode cX12_minute 19 = .ok (.ldc_w 692, 3) := by decide +kernel
theorem dX12_minute_22 : decode cX12_minute 22 = .ok (.if_icmp .le 6, 3) := by decide +kernel
theorem dX12_minute_25 : decode cX12_minute 25 = .ok (.bipush (-4), 2) := by decide +kernel
theorem dX12_minute_27 : decode cX12_minute 27 = .ok (.ireturn, 1) := by decide +kernel
theorem dX12_minute_28 : decode cX12_minute 28 = .ok (.iconst 0, 1) := by decide +kernel
theorem dX12_minute_29 : decode cX12_minute 29 = .ok (.istore_n 2, 1) := by decide +kernel
theorem dX12_minute_30 : decode cX12_minute 30 = .ok (.iload_n 2, 1) := by decide +kernel
theorem dX12_minute_31 : decode cX12_minute 31 = .ok (.iload_n 1, 1) := by decide +kernel
theorem dX12_minute_32 : decode cX12_minute 32 = .ok (.if_icmp .ge 47, 3) := by decide +kernel
theorem dX12_minute_35 : decode cX12_minute 35 = .ok (.aload_n 0, 1) := by decide +kernel
theorem dX12_minute_36 : decode cX12_minute 36 = .ok (.dup, 1) := by decide +kernel
theorem dX12_minute_37 : decode cX12_minute 37 = .ok (.getfield 643, 3) := by decide +kernel
theorem dX12_minute_40 : decode cX12_minute 40 = .ok (.iconst 1, 1) := by decide +kernel
theorem dX12_minute_41 : decode cX12_minute 41 = .ok (.iadd, 1) := by decide +kernel
theorem dX12_minute_42 : decode cX12_minute 42 = .ok (.putfield 643, 3) := by decide +kernel
theorem dX12_minute_45 : decode cX12_minute 45 = .ok (.iconst 0, 1) := by decide +kernel
theorem dX12_minute_46 : decode cX12_minute 46 = .ok (.istore_n 3, 1) := by decide +kernel
theorem dX12_minute_47 : decode cX12_minute 47 = .ok (.iload_n 3, 1) := by decide +kernel
theorem dX12_minute_48 : decode cX12_minute 48 = .ok (.iconst 3, 1) := by decide +kernel
theorem dX12_minute_49 : decode cX12_minute 49 = .ok (.if_icmp .ge 24, 3) := by decide +kernel
theorem dX12_minute_52 : decode cX12_minute 52 = .ok (.aload_n 0, 1) := by decide +kernel
theorem dX12_minute_53 : decode cX12_minute 53 = .ok (.iload_n 3, 1) := by decide +kernel
theorem dX12_minute_54 : decode cX12_minute 54 = .ok (.invokevirtual 693, 3) := by decide +kernel
theorem dX12_minute_57 : decode cX12_minute 57 = .ok (.aload_n 0, 1) := by decide +kernel
theorem dX12_minute_58 : decode cX12_minute 58 = .ok (.iload_n 3, 1) := by decide +kernel
theorem dX12_minute_59 : decode cX12_minute 59 = .ok (.invokevirtual 696, 3) := by decide +kernel
theorem dX12_minute_62 : decode cX12_minute 62 = .ok (.aload_n 0, 1) := by decide +kernel
theorem dX12_minute_63 : decode cX12_minute 63 = .ok (.iload_n 3, 1) := by decide +kernel
theorem dX12_minute_64 : decode cX12_minute 64 = .ok (.invokevirtual 699, 3) := by decide +kernel
theorem dX12_minute_67 : decode cX12_minute 67 = .ok (.iinc 3 1, 3) := by decide +kernel
theorem dX12_minute_70 : decode cX12_minute 70 = .ok (.goto (-23), 3) := by decide +kernel
theorem dX12_minute_73 : decode cX12_minute 73 = .ok (.iinc 2 1, 3) := by decide +kernel
theorem dX12_minute_76 : decode cX12_minute 76 = .ok (.goto (-46), 3) := by decide +kernel
theorem dX12_minute_79 : decode cX12_minute 79 = .ok (.aload_n 0, 1) := by decide +kernel
theorem dX12_minute_80 : decode cX12_minute 80 = .ok (.getfield 643, 3) := by decide +kernel
theorem dX12_minute_83 : decode cX12_minute 83 = .ok (.ireturn, 1) := by decide +kernel
theorem dX12_air_0 : decode cX12_air 0 = .ok (.iload_n 1, 1) := by decide +kernel
theorem dX12_air_1 : decode cX12_air 1 = .ok (.iconst 0, 1) := by decide +kernel
theorem dX12_air_2 : decode cX12_air 2 = .ok (.iconst 2, 1) := by decide +kernel
theorem dX12_air_3 : decode cX12_air 3 = .ok (.invokestatic 322, 3) := by decide +kernel
theorem dX12_air_6 : decode cX12_air 6 = .ok (.ifCond .ne 5, 3) := by decide +kernel
theorem dX12_air_9 : decode cX12_air 9 = .ok (.lconst 0, 1) := by decide +kernel
theorem dX12_air_10 : decode cX12_air 10 = .ok (.lreturn, 1) := by decide +kernel
theorem dX12_air_11 : decode cX12_air 11 = .ok (.iload_n 2, 1) := by decide +kernel
theorem dX12_air_12 : decode cX12_air 12 = .ok (.tableswitch 88 0 5 #[40, 47, 54, 64, 72, 80], 40) := by decide +kernel
theorem dX12_air_52 : decode cX12_air 52 = .ok (.aload_n 0, 1) := by decide +kernel
theorem dX12_air_53 : decode cX12_air 53 = .ok (.getfield 212, 3) := by decide +kernel
theorem dX12_air_56 : decode cX12_air 56 = .ok (.iload_n 1, 1) := by decide +kernel
theorem dX12_air_57 : decode cX12_air 57 = .ok (.laload, 1) := by decide +kernel
theorem dX12_air_58 : decode cX12_air 58 = .ok (.lreturn, 1) := by decide +kernel
theorem dX12_air_59 : decode cX12_air 59 = .ok (.aload_n 0, 1) := by decide +kernel
theorem dX12_air_60 : decode cX12_air 60 = .ok (.getfield 217, 3) := by decide +kernel
theorem dX12_air_63 : decode cX12_air 63 = .ok (.iload_n 1, 1) := by decide +kernel
theorem dX12_air_64 : decode cX12_air 64 = .ok (.laload, 1) := by decide +kernel
theorem dX12_air_65 : decode cX12_air 65 = .ok (.lreturn, 1) := by decide +kernel
theorem dX12_air_66 : decode cX12_air 66 = .ok (.aload_n 0, 1) := by decide +kernel
theorem dX12_air_67 : decode cX12_air 67 = .ok (.getfield 229, 3) := by decide +kernel
theorem dX12_air_70 : decode cX12_air 70 = .ok (.bipush 6, 2) := by decide +kernel
theorem dX12_air_72 : decode cX12_air 72 = .ok (.iload_n 1, 1) := by decide +kernel
theorem dX12_air_73 : decode cX12_air 73 = .ok (.imul, 1) := by decide +kernel
theorem dX12_air_74 : decode cX12_air 74 = .ok (.laload, 1) := by decide +kernel
theorem dX12_air_75 : decode cX12_air 75 = .ok (.lreturn, 1) := by decide +kernel
theorem dX12_air_76 : decode cX12_air 76 = .ok (.aload_n 0, 1) := by decide +kernel
theorem dX12_air_77 : decode cX12_air 77 = .ok (.getfield 220, 3) := by decide +kernel
theorem dX12_air_80 : decode cX12_air 80 = .ok (.iload_n 1, 1) := by decide +kernel
theorem dX12_air_81 : decode cX12_air 81 = .ok (.iaload, 1) := by decide +kernel
theorem dX12_air_82 : decode cX12_air 82 = .ok (.i2l, 1) := by decide +kernel
theorem dX12_air_83 : decode cX12_air 83 = .ok (.lreturn, 1) := by decide +kernel
theorem dX12_air_84 : decode cX12_air 84 = .ok (.aload_n 0, 1) := by decide +kernel
theorem dX12_air_85 : decode cX12_air 85 = .ok (.getfield 223, 3) := by decide +kernel
theorem dX12_air_88 : decode cX12_air 88 = .ok (.iload_n 1, 1) := by decide +kernel
theorem dX12_air_89 : decode cX12_air 89 = .ok (.iaload, 1) := by decide +kernel
theorem dX12_air_90 : decode cX12_air 90 = .ok (.i2l, 1) := by decide +kernel
theorem dX12_air_91 : decode cX12_air 91 = .ok (.lreturn, 1) := by decide +kernel
theorem dX12_air_92 : decode cX12_air 92 = .ok (.aload_n 0, 1) := by decide +kernel
theorem dX12_air_93 : decode cX12_air 93 = .ok (.getfield 226, 3) := by decide +kernel
theorem dX12_air_96 : decode cX12_air 96 = .ok (.iload_n 1, 1) := by decide +kernel
theorem dX12_air_97 : decode cX12_air 97 = .ok (.iaload, 1) := by decide +kernel
theorem dX12_air_98 : decode cX12_air 98 = .ok (.i2l, 1) := by decide +kernel
theorem dX12_air_99 : decode cX12_air 99 = .ok (.lreturn, 1) := by decide +kernel
theorem dX12_air_100 : decode cX12_air 100 = .ok (.iload_n 2, 1) := by decide +kernel
theorem dX12_air_101 : decode cX12_air 101 = .ok (.bipush 6, 2) := by decide +kernel
theorem dX12_air_103 : decode cX12_air 103 = .ok (.bipush 10, 2) := by decide +kernel
theorem dX12_air_105 : decode cX12_air 105 = .ok (.invokestatic 322, 3) := by decide +kernel
theorem dX12_air_108 : decode cX12_air 108 = .ok (.ifCond .eq 19, 3) := by decide +kernel
theorem dX12_air_111 : decode cX12_air 111 = .ok (.aload_n 0, 1) := by decide +kernel
theorem dX12_air_112 : decode cX12_air 112 = .ok (.getfield 229, 3) := by decide +kernel
theorem dX12_air_115 : decode cX12_air 115 = .ok (.bipush 6, 2) := by decide +kernel
theorem dX12_air_117 : decode cX12_air 117 = .ok (.iload_n 1, 1) := by decide +kernel
theorem dX12_air_118 : decode cX12_air 118 = .ok (.imul, 1) := by decide +kernel
theorem dX12_air_119 : decode cX12_air 119 = .ok (.iload_n 2, 1) := by decide +kernel
theorem dX12_air_120 : decode cX12_air 120 = .ok (.iadd, 1) := by decide +kernel
theorem dX12_air_121 : decode cX12_air 121 = .ok (.iconst 5, 1) := by decide +kernel
theorem dX12_air_122 : decode cX12_air 122 = .ok (.isub, 1) := by decide +kernel
theorem dX12_air_123 : decode cX12_air 123 = .ok (.laload, 1) := by decide +kernel
theorem dX12_air_124 : decode cX12_air 124 = .ok (.goto 4, 3) := by decide +kernel
theorem dX12_air_127 : decode cX12_air 127 = .ok (.lconst 0, 1) := by decide +kernel
theorem dX12_air_128 : decode cX12_air 128 = .ok (.lreturn, 1) := by decide +kernel
theorem dX12_partWhole_0 : decode cX12_partWhole 0 = .ok (.lconst 0, 1) := by decide +kernel
theorem dX12_partWhole_1 : decode cX12_partWhole 1 = .ok (.lstore 4, 2) := by decide +kernel
theorem dX12_partWhole_3 : decode cX12_partWhole 3 = .ok (.iconst 0, 1) := by decide +kernel
theorem dX12_partWhole_4 : decode cX12_partWhole 4 = .ok (.istore 6, 2) := by decide +kernel
theorem dX12_partWhole_6 : decode cX12_partWhole 6 = .ok (.iload 6, 2) := by decide +kernel
theorem dX12_partWhole_8 : decode cX12_partWhole 8 = .ok (.iload_n 3, 1) := by decide +kernel
theorem dX12_partWhole_9 : decode cX12_partWhole 9 = .ok (.if_icmp .ge 21, 3) := by decide +kernel
theorem dX12_partWhole_12 : decode cX12_partWhole 12 = .ok (.lload 4, 2) := by decide +kernel
theorem dX12_partWhole_14 : decode cX12_partWhole 14 = .ok (.aload_n 0, 1) := by decide +kernel
theorem dX12_partWhole_15 : decode cX12_partWhole 15 = .ok (.getfield 247, 3) := by decide +kernel
theorem dX12_partWhole_18 : decode cX12_partWhole 18 = .ok (.iload 6, 2) := by decide +kernel
theorem dX12_partWhole_20 : decode cX12_partWhole 20 = .ok (.laload, 1) := by decide +kernel
theorem dX12_partWhole_21 : decode cX12_partWhole 21 = .ok (.ladd, 1) := by decide +kernel
theorem dX12_partWhole_22 : decode cX12_partWhole 22 = .ok (.lstore 4, 2) := by decide +kernel
theorem dX12_partWhole_24 : decode cX12_partWhole 24 = .ok (.iinc 6 1, 3) := by decide +kernel
theorem dX12_partWhole_27 : decode cX12_partWhole 27 = .ok (.goto (-21), 3) := by decide +kernel
theorem dX12_partWhole_30 : decode cX12_partWhole 30 = .ok (.lload_n 1, 1) := by decide +kernel
theorem dX12_partWhole_31 : decode cX12_partWhole 31 = .ok (.lstore 6, 2) := by decide +kernel
theorem dX12_partWhole_33 : decode cX12_partWhole 33 = .ok (.iconst 0, 1) := by decide +kernel
theorem dX12_partWhole_34 : decode cX12_partWhole 34 = .ok (.istore 8, 2) := by decide +kernel
theorem dX12_partWhole_36 : decode cX12_partWhole 36 = .ok (.iload 8, 2) := by decide +kernel
theorem dX12_partWhole_38 : decode cX12_partWhole 38 = .ok (.iload_n 3, 1) := by decide +kernel
theorem dX12_partWhole_39 : decode cX12_partWhole 39 = .ok (.if_icmp .ge 59, 3) := by decide +kernel
theorem dX12_partWhole_42 : decode cX12_partWhole 42 = .ok (.aload_n 0, 1) := by decide +kernel
theorem dX12_partWhole_43 : decode cX12_partWhole 43 = .ok (.getfield 241, 3) := by decide +kernel
theorem dX12_partWhole_46 : decode cX12_partWhole 46 = .ok (.iload 8, 2) := by decide +kernel
theorem dX12_partWhole_48 : decode cX12_partWhole 48 = .ok (.lload_n 1, 1) := by decide +kernel
theorem dX12_partWhole_49 : decode cX12_partWhole 49 = .ok (.aload_n 0, 1) := by decide +kernel
theorem dX12_partWhole_50 : decode cX12_partWhole 50 = .ok (.getfield 247, 3) := by decide +kernel
theorem dX12_partWhole_53 : decode cX12_partWhole 53 = .ok (.iload 8, 2) := by decide +kernel
theorem dX12_partWhole_55 : decode cX12_partWhole 55 = .ok (.laload, 1) := by decide +kernel
theorem dX12_partWhole_56 : decode cX12_partWhole 56 = .ok (.lmul, 1) := by decide +kernel
theorem dX12_partWhole_57 : decode cX12_partWhole 57 = .ok (.lload 4, 2) := by decide +kernel
theorem dX12_partWhole_59 : decode cX12_partWhole 59 = .ok (.ldiv, 1) := by decide +kernel
theorem dX12_partWhole_60 : decode cX12_partWhole 60 = .ok (.lastore, 1) := by decide +kernel
theorem dX12_partWhole_61 : decode cX12_partWhole 61 = .ok (.aload_n 0, 1) := by decide +kernel
theorem dX12_partWhole_62 : decode cX12_partWhole 62 = .ok (.getfield 244, 3) := by decide +kernel
theorem dX12_partWhole_65 : decode cX12_partWhole 65 = .ok (.iload 8, 2) := by decide +kernel
theorem dX12_partWhole_67 : decode cX12_partWhole 67 = .ok (.lload_n 1, 1) := by decide +kernel
theorem dX12_partWhole_68 : decode cX12_partWhole 68 = .ok (.aload_n 0, 1) := by decide +kernel
theorem dX12_partWhole_69 : decode cX12_partWhole 69 = .ok (.getfield 247, 3) := by decide +kernel
theorem dX12_partWhole_72 : decode cX12_partWhole 72 = .ok (.iload 8, 2) := by decide +kernel
theorem dX12_partWhole_74 : decode cX12_partWhole 74 = .ok (.laload, 1) := by decide +kernel
theorem dX12_partWhole_75 : decode cX12_partWhole 75 = .ok (.lmul, 1) := by decide +kernel
theorem dX12_partWhole_76 : decode cX12_partWhole 76 = .ok (.lload 4, 2) := by decide +kernel
theorem dX12_partWhole_78 : decode cX12_partWhole 78 = .ok (.lrem, 1) := by decide +kernel
theorem dX12_partWhole_79 : decode cX12_partWhole 79 = .ok (.lastore, 1) := by decide +kernel
theorem dX12_partWhole_80 : decode cX12_partWhole 80 = .ok (.lload 6, 2) := by decide +kernel
theorem dX12_partWhole_82 : decode cX12_partWhole 82 = .ok (.aload_n 0, 1) := by decide +kernel
theorem dX12_partWhole_83 : decode cX12_partWhole 83 = .ok (.getfield 241, 3) := by decide +kernel
theorem dX12_partWhole_86 : decode cX12_partWhole 86 = .ok (.iload 8, 2) := by decide +kernel
theorem dX12_partWhole_88 : decode cX12_partWhole 88 = .ok (.laload, 1) := by decide +kernel
theorem dX12_partWhole_89 : decode cX12_partWhole 89 = .ok (.lsub, 1) := by decide +kernel
theorem dX12_partWhole_90 : decode cX12_partWhole 90 = .ok (.lstore 6, 2) := by decide +kernel
theorem dX12_partWhole_92 : decode cX12_partWhole 92 = .ok (.iinc 8 1, 3) := by decide +kernel
theorem dX12_partWhole_95 : decode cX12_partWhole 95 = .ok (.goto (-59), 3) := by decide +kernel
theorem dX12_partWhole_98 : decode cX12_partWhole 98 = .ok (.lload 6, 2) := by decide +kernel
theorem dX12_partWhole_100 : decode cX12_partWhole 100 = .ok (.lconst 0, 1) := by decide +kernel
theorem dX12_partWhole_101 : decode cX12_partWhole 101 = .ok (.lcmp, 1) := by decide +kernel
theorem dX12_partWhole_102 : decode cX12_partWhole 102 = .ok (.ifCond .le 78, 3) := by decide +kernel
theorem dX12_partWhole_105 : decode cX12_partWhole 105 = .ok (.iconst 0, 1) := by decide +kernel
theorem dX12_partWhole_106 : decode cX12_partWhole 106 = .ok (.istore 8, 2) := by decide +kernel
theorem dX12_partWhole_108 : decode cX12_partWhole 108 = .ok (.iconst 1, 1) := by decide +kernel
theorem dX12_partWhole_109 : decode cX12_partWhole 109 = .ok (.istore 9, 2) := by decide +kernel
theorem dX12_partWhole_111 : decode cX12_partWhole 111 = .ok (.iload 9, 2) := by decide +kernel
theorem dX12_partWhole_113 : decode cX12_partWhole 113 = .ok (.iload_n 3, 1) := by decide +kernel
theorem dX12_partWhole_114 : decode cX12_partWhole 114 = .ok (.if_icmp .ge 36, 3) := by decide +kernel
theorem dX12_partWhole_117 : decode cX12_partWhole 117 = .ok (.aload_n 0, 1) := by decide +kernel
theorem dX12_partWhole_118 : decode cX12_partWhole 118 = .ok (.getfield 244, 3) := by decide +kernel
theorem dX12_partWhole_121 : decode cX12_partWhole 121 = .ok (.iload 9, 2) := by decide +kernel
theorem dX12_partWhole_123 : decode cX12_partWhole 123 = .ok (.laload, 1) := by decide +kernel
theorem dX12_partWhole_124 : decode cX12_partWhole 124 = .ok (.aload_n 0, 1) := by decide +kernel
theorem dX12_partWhole_125 : decode cX12_partWhole 125 = .ok (.getfield 244, 3) := by decide +kernel
theorem dX12_partWhole_128 : decode cX12_partWhole 128 = .ok (.iload 8, 2) := by decide +kernel
theorem dX12_partWhole_130 : decode cX12_partWhole 130 = .ok (.laload, 1) := by decide +kernel
theorem dX12_partWhole_131 : decode cX12_partWhole 131 = .ok (.lcmp, 1) := by decide +kernel
theorem dX12_partWhole_132 : decode cX12_partWhole 132 = .ok (.ifCond .le 8, 3) := by decide +kernel
theorem dX12_partWhole_135 : decode cX12_partWhole 135 = .ok (.iload 9, 2) := by decide +kernel
theorem dX12_partWhole_137 : decode cX12_partWhole 137 = .ok (.goto 5, 3) := by decide +kernel
theorem dX12_partWhole_140 : decode cX12_partWhole 140 = .ok (.iload 8, 2) := by decide +kernel
theorem dX12_partWhole_142 : decode cX12_partWhole 142 = .ok (.istore 8, 2) := by decide +kernel
theorem dX12_partWhole_144 : decode cX12_partWhole 144 = .ok (.iinc 9 1, 3) := by decide +kernel
theorem dX12_partWhole_147 : decode cX12_partWhole 147 = .ok (.goto (-36), 3) := by decide +kernel
theorem dX12_partWhole_150 : decode cX12_partWhole 150 = .ok (.aload_n 0, 1) := by decide +kernel
theorem dX12_partWhole_151 : decode cX12_partWhole 151 = .ok (.getfield 241, 3) := by decide +kernel
theorem dX12_partWhole_154 : decode cX12_partWhole 154 = .ok (.iload 8, 2) := by decide +kernel
theorem dX12_partWhole_156 : decode cX12_partWhole 156 = .ok (.dup2, 1) := by decide +kernel
theorem dX12_partWhole_157 : decode cX12_partWhole 157 = .ok (.laload, 1) := by decide +kernel
theorem dX12_partWhole_158 : decode cX12_partWhole 158 = .ok (.lconst 1, 1) := by decide +kernel
theorem dX12_partWhole_159 : decode cX12_partWhole 159 = .ok (.ladd, 1) := by decide +kernel
theorem dX12_partWhole_160 : decode cX12_partWhole 160 = .ok (.lastore, 1) := by decide +kernel
theorem dX12_partWhole_161 : decode cX12_partWhole 161 = .ok (.aload_n 0, 1) := by decide +kernel
theorem dX12_partWhole_162 : decode cX12_partWhole 162 = .ok (.getfield 244, 3) := by decide +kernel
theorem dX12_partWhole_165 : decode cX12_partWhole 165 = .ok (.iload 8, 2) := by decide +kernel
theorem dX12_partWhole_167 : decode cX12_partWhole 167 = .ok (.ldc2_w 634, 3) := by decide +kernel
theorem dX12_partWhole_170 : decode cX12_partWhole 170 = .ok (.lastore, 1) := by decide +kernel
theorem dX12_partWhole_171 : decode cX12_partWhole 171 = .ok (.lload 6, 2) := by decide +kernel
theorem dX12_partWhole_173 : decode cX12_partWhole 173 = .ok (.lconst 1, 1) := by decide +kernel
theorem dX12_partWhole_174 : decode cX12_partWhole 174 = .ok (.lsub, 1) := by decide +kernel
theorem dX12_partWhole_175 : decode cX12_partWhole 175 = .ok (.lstore 6, 2) := by decide +kernel
theorem dX12_partWhole_177 : decode cX12_partWhole 177 = .ok (.goto (-79), 3) := by decide +kernel
theorem dX12_partWhole_180 : decode cX12_partWhole 180 = .ok (.return_, 1) := by decide +kernel
theorem dX12_shares_0 : decode cX12_shares 0 = .ok (.iload_n 1, 1) := by decide +kernel
theorem dX12_shares_1 : decode cX12_shares 1 = .ok (.invokestatic 345, 3) := by decide +kernel
theorem dX12_shares_4 : decode cX12_shares 4 = .ok (.ifCond .eq 21, 3) := by decide +kernel
theorem dX12_shares_7 : decode cX12_shares 7 = .ok (.iload_n 3, 1) := by decide +kernel
theorem dX12_shares_8 : decode cX12_shares 8 = .ok (.invokestatic 345, 3) := by decide +kernel
theorem dX12_shares_11 : decode cX12_shares 11 = .ok (.ifCond .eq 14, 3) := by decide +kernel
theorem dX12_shares_14 : decode cX12_shares 14 = .ok (.iload_n 2, 1) := by decide +kernel
theorem dX12_shares_15 : decode cX12_shares 15 = .ok (.iconst 0, 1) := by decide +kernel
theorem dX12_shares_16 : decode cX12_shares 16 = .ok (.ldc_w 702, 3) := by decide +kernel
theorem dX12_shares_19 : decode cX12_shares 19 = .ok (.invokestatic 322, 3) := by decide +kernel
theorem dX12_shares_22 : decode cX12_shares 22 = .ok (.ifCond .ne 6, 3) := by decide +kernel
theorem dX12_shares_25 : decode cX12_shares 25 = .ok (.bipush (-2), 2) := by decide +kernel
theorem dX12_shares_27 : decode cX12_shares 27 = .ok (.ireturn, 1) := by decide +kernel
theorem dX12_shares_28 : decode cX12_shares 28 = .ok (.aload_n 0, 1) := by decide +kernel
theorem dX12_shares_29 : decode cX12_shares 29 = .ok (.getfield 9, 3) := by decide +kernel
theorem dX12_shares_32 : decode cX12_shares 32 = .ok (.iload_n 1, 1) := by decide +kernel
theorem dX12_shares_33 : decode cX12_shares 33 = .ok (.iaload, 1) := by decide +kernel
theorem dX12_shares_34 : decode cX12_shares 34 = .ok (.istore 4, 2) := by decide +kernel
theorem dX12_shares_36 : decode cX12_shares 36 = .ok (.iload 4, 2) := by decide +kernel
theorem dX12_shares_38 : decode cX12_shares 38 = .ok (.ifCond .eq 14, 3) := by decide +kernel
theorem dX12_shares_41 : decode cX12_shares 41 = .ok (.aload_n 0, 1) := by decide +kernel
theorem dX12_shares_42 : decode cX12_shares 42 = .ok (.getfield 15, 3) := by decide +kernel
theorem dX12_shares_45 : decode cX12_shares 45 = .ok (.iload 4, 2) := by decide +kernel
theorem dX12_shares_47 : decode cX12_shares 47 = .ok (.baload, 1) := by decide +kernel
theorem dX12_shares_48 : decode cX12_shares 48 = .ok (.iconst 4, 1) := by decide +kernel
theorem dX12_shares_49 : decode cX12_shares 49 = .ok (.if_icmp .eq 18, 3) := by decide +kernel
theorem dX12_shares_52 : decode cX12_shares 52 = .ok (.aload_n 0, 1) := by decide +kernel
theorem dX12_shares_53 : decode cX12_shares 53 = .ok (.iload 4, 2) := by decide +kernel
theorem dX12_shares_55 : decode cX12_shares 55 = .ok (.ifCond .ne 7, 3) := by decide +kernel
theorem dX12_shares_58 : decode cX12_shares 58 = .ok (.iconst 1, 1) := by decide +kernel
theorem dX12_shares_59 : decode cX12_shares 59 = .ok (.goto 4, 3) := by decide +kernel
theorem dX12_shares_62 : decode cX12_shares 62 = .ok (.iconst 4, 1) := by decide +kernel
theorem dX12_shares_63 : decode cX12_shares 63 = .ok (.invokevirtual 308, 3) := by decide +kernel
theorem dX12_shares_66 : decode cX12_shares 66 = .ok (.ireturn, 1) := by decide +kernel
theorem dX12_shares_67 : decode cX12_shares 67 = .ok (.iconst 1, 1) := by decide +kernel
theorem dX12_shares_68 : decode cX12_shares 68 = .ok (.istore 5, 2) := by decide +kernel
theorem dX12_shares_70 : decode cX12_shares 70 = .ok (.lconst 0, 1) := by decide +kernel
theorem dX12_shares_71 : decode cX12_shares 71 = .ok (.lstore 6, 2) := by decide +kernel
theorem dX12_shares_73 : decode cX12_shares 73 = .ok (.iconst 0, 1) := by decide +kernel
theorem dX12_shares_74 : decode cX12_shares 74 = .ok (.istore 8, 2) := by decide +kernel
theorem dX12_shares_76 : decode cX12_shares 76 = .ok (.iload 8, 2) := by decide +kernel
theorem dX12_shares_78 : decode cX12_shares 78 = .ok (.aload_n 0, 1) := by decide +kernel
theorem dX12_shares_79 : decode cX12_shares 79 = .ok (.getfield 19, 3) := by decide +kernel
theorem dX12_shares_82 : decode cX12_shares 82 = .ok (.iload 4, 2) := by decide +kernel
theorem dX12_shares_84 : decode cX12_shares 84 = .ok (.baload, 1) := by decide +kernel
theorem dX12_shares_85 : decode cX12_shares 85 = .ok (.if_icmp .ge 67, 3) := by decide +kernel
theorem dX12_shares_88 : decode cX12_shares 88 = .ok (.aload_n 0, 1) := by decide +kernel
theorem dX12_shares_89 : decode cX12_shares 89 = .ok (.getfield 247, 3) := by decide +kernel
theorem dX12_shares_92 : decode cX12_shares 92 = .ok (.iload 8, 2) := by decide +kernel
theorem dX12_shares_94 : decode cX12_shares 94 = .ok (.aload_n 0, 1) := by decide +kernel
theorem dX12_shares_95 : decode cX12_shares 95 = .ok (.getfield 26, 3) := by decide +kernel
theorem dX12_shares_98 : decode cX12_shares 98 = .ok (.aload_n 0, 1) := by decide +kernel
theorem dX12_shares_99 : decode cX12_shares 99 = .ok (.getfield 22, 3) := by decide +kernel
theorem dX12_shares_102 : decode cX12_shares 102 = .ok (.iload 4, 2) := by decide +kernel
theorem dX12_shares_104 : decode cX12_shares 104 = .ok (.iaload, 1) := by decide +kernel
theorem dX12_shares_105 : decode cX12_shares 105 = .ok (.iload 8, 2) := by decide +kernel
theorem dX12_shares_107 : decode cX12_shares 107 = .ok (.iadd, 1) := by decide +kernel
theorem dX12_shares_108 : decode cX12_shares 108 = .ok (.laload, 1) := by decide +kernel
theorem dX12_shares_109 : decode cX12_shares 109 = .ok (.lastore, 1) := by decide +kernel
theorem dX12_shares_110 : decode cX12_shares 110 = .ok (.iload 5, 2) := by decide +kernel
theorem dX12_shares_112 : decode cX12_shares 112 = .ok (.ifCond .eq 19, 3) := by decide +kernel
theorem dX12_shares_115 : decode cX12_shares 115 = .ok (.aload_n 0, 1) := by decide +kernel
theorem dX12_shares_116 : decode cX12_shares 116 = .ok (.getfield 247, 3) := by decide +kernel
theorem dX12_shares_119 : decode cX12_shares 119 = .ok (.iload 8, 2) := by decide +kernel
theorem dX12_shares_121 : decode cX12_shares 121 = .ok (.laload, 1) := by decide +kernel
theorem dX12_shares_122 : decode cX12_shares 122 = .ok (.lconst 0, 1) := by decide +kernel
theorem dX12_shares_123 : decode cX12_shares 123 = .ok (.lcmp, 1) := by decide +kernel
theorem dX12_shares_124 : decode cX12_shares 124 = .ok (.ifCond .lt 7, 3) := by decide +kernel
theorem dX12_shares_127 : decode cX12_shares 127 = .ok (.iconst 1, 1) := by decide +kernel
theorem dX12_shares_128 : decode cX12_shares 128 = .ok (.goto 4, 3) := by decide +kernel
theorem dX12_shares_131 : decode cX12_shares 131 = .ok (.iconst 0, 1) := by decide +kernel
theorem dX12_shares_132 : decode cX12_shares 132 = .ok (.istore 5, 2) := by decide +kernel
theorem dX12_shares_134 : decode cX12_shares 134 = .ok (.lload 6, 2) := by decide +kernel
theorem dX12_shares_136 : decode cX12_shares 136 = .ok (.aload_n 0, 1) := by decide +kernel
theorem dX12_shares_137 : decode cX12_shares 137 = .ok (.getfield 247, 3) := by decide +kernel
theorem dX12_shares_140 : decode cX12_shares 140 = .ok (.iload 8, 2) := by decide +kernel
theorem dX12_shares_142 : decode cX12_shares 142 = .ok (.laload, 1) := by decide +kernel
theorem dX12_shares_143 : decode cX12_shares 143 = .ok (.ladd, 1) := by decide +kernel
theorem dX12_shares_144 : decode cX12_shares 144 = .ok (.lstore 6, 2) := by decide +kernel
theorem dX12_shares_146 : decode cX12_shares 146 = .ok (.iinc 8 1, 3) := by decide +kernel
theorem dX12_shares_149 : decode cX12_shares 149 = .ok (.goto (-73), 3) := by decide +kernel
theorem dX12_shares_152 : decode cX12_shares 152 = .ok (.iload 5, 2) := by decide +kernel
theorem dX12_shares_154 : decode cX12_shares 154 = .ok (.ifCond .eq 10, 3) := by decide +kernel
theorem dX12_shares_157 : decode cX12_shares 157 = .ok (.lload 6, 2) := by decide +kernel
theorem dX12_shares_159 : decode cX12_shares 159 = .ok (.lconst 0, 1) := by decide +kernel
theorem dX12_shares_160 : decode cX12_shares 160 = .ok (.lcmp, 1) := by decide +kernel
theorem dX12_shares_161 : decode cX12_shares 161 = .ok (.ifCond .ne 6, 3) := by decide +kernel
theorem dX12_shares_164 : decode cX12_shares 164 = .ok (.bipush (-3), 2) := by decide +kernel
theorem dX12_shares_166 : decode cX12_shares 166 = .ok (.ireturn, 1) := by decide +kernel
theorem dX12_shares_167 : decode cX12_shares 167 = .ok (.aload_n 0, 1) := by decide +kernel
theorem dX12_shares_168 : decode cX12_shares 168 = .ok (.invokevirtual 349, 3) := by decide +kernel
theorem dX12_shares_171 : decode cX12_shares 171 = .ok (.ifCond .eq 6, 3) := by decide +kernel
theorem dX12_shares_174 : decode cX12_shares 174 = .ok (.bipush (-4), 2) := by decide +kernel
theorem dX12_shares_176 : decode cX12_shares 176 = .ok (.ireturn, 1) := by decide +kernel
theorem dX12_shares_177 : decode cX12_shares 177 = .ok (.aload_n 0, 1) := by decide +kernel
theorem dX12_shares_178 : decode cX12_shares 178 = .ok (.iload_n 2, 1) := by decide +kernel
theorem dX12_shares_179 : decode cX12_shares 179 = .ok (.i2l, 1) := by decide +kernel
theorem dX12_shares_180 : decode cX12_shares 180 = .ok (.aload_n 0, 1) := by decide +kernel
theorem dX12_shares_181 : decode cX12_shares 181 = .ok (.getfield 19, 3) := by decide +kernel
theorem dX12_shares_184 : decode cX12_shares 184 = .ok (.iload 4, 2) := by decide +kernel
theorem dX12_shares_186 : decode cX12_shares 186 = .ok (.baload, 1) := by decide +kernel
theorem dX12_shares_187 : decode cX12_shares 187 = .ok (.invokevirtual 703, 3) := by decide +kernel
theorem dX12_shares_190 : decode cX12_shares 190 = .ok (.aload_n 0, 1) := by decide +kernel
theorem dX12_shares_191 : decode cX12_shares 191 = .ok (.iconst 5, 1) := by decide +kernel
theorem dX12_shares_192 : decode cX12_shares 192 = .ok (.aload_n 0, 1) := by decide +kernel
theorem dX12_shares_193 : decode cX12_shares 193 = .ok (.getfield 19, 3) := by decide +kernel
theorem dX12_shares_196 : decode cX12_shares 196 = .ok (.iload 4, 2) := by decide +kernel
theorem dX12_shares_198 : decode cX12_shares 198 = .ok (.baload, 1) := by decide +kernel
theorem dX12_shares_199 : decode cX12_shares 199 = .ok (.invokevirtual 353, 3) := by decide +kernel
theorem dX12_shares_202 : decode cX12_shares 202 = .ok (.istore 8, 2) := by decide +kernel
theorem dX12_shares_204 : decode cX12_shares 204 = .ok (.iconst 0, 1) := by decide +kernel
theorem dX12_shares_205 : decode cX12_shares 205 = .ok (.istore 9, 2) := by decide +kernel
theorem dX12_shares_207 : decode cX12_shares 207 = .ok (.iload 9, 2) := by decide +kernel
theorem dX12_shares_209 : decode cX12_shares 209 = .ok (.aload_n 0, 1) := by decide +kernel
theorem dX12_shares_210 : decode cX12_shares 210 = .ok (.getfield 19, 3) := by decide +kernel
theorem dX12_shares_213 : decode cX12_shares 213 = .ok (.iload 4, 2) := by decide +kernel
theorem dX12_shares_215 : decode cX12_shares 215 = .ok (.baload, 1) := by decide +kernel
theorem dX12_shares_216 : decode cX12_shares 216 = .ok (.if_icmp .ge 31, 3) := by decide +kernel
theorem dX12_shares_219 : decode cX12_shares 219 = .ok (.aload_n 0, 1) := by decide +kernel
theorem dX12_shares_220 : decode cX12_shares 220 = .ok (.getfield 26, 3) := by decide +kernel
theorem dX12_shares_223 : decode cX12_shares 223 = .ok (.aload_n 0, 1) := by decide +kernel
theorem dX12_shares_224 : decode cX12_shares 224 = .ok (.getfield 22, 3) := by decide +kernel
theorem dX12_shares_227 : decode cX12_shares 227 = .ok (.iload 8, 2) := by decide +kernel
theorem dX12_shares_229 : decode cX12_shares 229 = .ok (.iaload, 1) := by decide +kernel
theorem dX12_shares_230 : decode cX12_shares 230 = .ok (.iload 9, 2) := by decide +kernel
theorem dX12_shares_232 : decode cX12_shares 232 = .ok (.iadd, 1) := by decide +kernel
theorem dX12_shares_233 : decode cX12_shares 233 = .ok (.aload_n 0, 1) := by decide +kernel
theorem dX12_shares_234 : decode cX12_shares 234 = .ok (.getfield 241, 3) := by decide +kernel
theorem dX12_shares_237 : decode cX12_shares 237 = .ok (.iload 9, 2) := by decide +kernel
theorem dX12_shares_239 : decode cX12_shares 239 = .ok (.laload, 1) := by decide +kernel
theorem dX12_shares_240 : decode cX12_shares 240 = .ok (.lastore, 1) := by decide +kernel
theorem dX12_shares_241 : decode cX12_shares 241 = .ok (.iinc 9 1, 3) := by decide +kernel
theorem dX12_shares_244 : decode cX12_shares 244 = .ok (.goto (-37), 3) := by decide +kernel
theorem dX12_shares_247 : decode cX12_shares 247 = .ok (.aload_n 0, 1) := by decide +kernel
theorem dX12_shares_248 : decode cX12_shares 248 = .ok (.getfield 9, 3) := by decide +kernel
theorem dX12_shares_251 : decode cX12_shares 251 = .ok (.iload_n 3, 1) := by decide +kernel
theorem dX12_shares_252 : decode cX12_shares 252 = .ok (.iload 8, 2) := by decide +kernel
theorem dX12_shares_254 : decode cX12_shares 254 = .ok (.iastore, 1) := by decide +kernel
theorem dX12_shares_255 : decode cX12_shares 255 = .ok (.iconst 1, 1) := by decide +kernel
theorem dX12_shares_256 : decode cX12_shares 256 = .ok (.ireturn, 1) := by decide +kernel
theorem dX12_quotient_0 : decode cX12_quotient 0 = .ok (.iload_n 1, 1) := by decide +kernel
theorem dX12_quotient_1 : decode cX12_quotient 1 = .ok (.iconst 4, 1) := by decide +kernel
theorem dX12_quotient_2 : decode cX12_quotient 2 = .ok (.iconst 5, 1) := by decide +kernel
theorem dX12_quotient_3 : decode cX12_quotient 3 = .ok (.invokestatic 322, 3) := by decide +kernel
theorem dX12_quotient_6 : decode cX12_quotient 6 = .ok (.ifCond .eq 13, 3) := by decide +kernel
theorem dX12_quotient_9 : decode cX12_quotient 9 = .ok (.iload 6, 2) := by decide +kernel
theorem dX12_quotient_11 : decode cX12_quotient 11 = .ok (.iconst 0, 1) := by decide +kernel
theorem dX12_quotient_12 : decode cX12_quotient 12 = .ok (.iconst 1, 1) := by decide +kernel
theorem dX12_quotient_13 : decode cX12_quotient 13 = .ok (.invokestatic 322, 3) := by decide +kernel
theorem dX12_quotient_16 : decode cX12_quotient 16 = .ok (.ifCond .ne 5, 3) := by decide +kernel
theorem dX12_quotient_19 : decode cX12_quotient 19 = .ok (.lconst 0, 1) := by decide +kernel
theorem dX12_quotient_20 : decode cX12_quotient 20 = .ok (.lreturn, 1) := by decide +kernel
theorem dX12_quotient_21 : decode cX12_quotient 21 = .ok (.iload_n 1, 1) := by decide +kernel
theorem dX12_quotient_22 : decode cX12_quotient 22 = .ok (.iconst 4, 1) := by decide +kernel
theorem dX12_quotient_23 : decode cX12_quotient 23 = .ok (.if_icmp .ne 47, 3) := by decide +kernel
theorem dX12_quotient_26 : decode cX12_quotient 26 = .ok (.lload_n 2, 1) := by decide +kernel
theorem dX12_quotient_27 : decode cX12_quotient 27 = .ok (.l2i, 1) := by decide +kernel
theorem dX12_quotient_28 : decode cX12_quotient 28 = .ok (.istore 7, 2) := by decide +kernel
theorem dX12_quotient_30 : decode cX12_quotient 30 = .ok (.lload 4, 2) := by decide +kernel
theorem dX12_quotient_32 : decode cX12_quotient 32 = .ok (.l2i, 1) := by decide +kernel
theorem dX12_quotient_33 : decode cX12_quotient 33 = .ok (.istore 8, 2) := by decide +kernel
theorem dX12_quotient_35 : decode cX12_quotient 35 = .ok (.iload 8, 2) := by decide +kernel
theorem dX12_quotient_37 : decode cX12_quotient 37 = .ok (.ifCond .ne 12, 3) := by decide +kernel
theorem dX12_quotient_40 : decode cX12_quotient 40 = .ok (.aload_n 0, 1) := by decide +kernel
theorem dX12_quotient_41 : decode cX12_quotient 41 = .ok (.bipush 6, 2) := by decide +kernel
theorem dX12_quotient_43 : decode cX12_quotient 43 = .ok (.invokevirtual 373, 3) := by decide +kernel
theorem dX12_quotient_46 : decode cX12_quotient 46 = .ok (.goto 23, 3) := by decide +kernel
theorem dX12_quotient_49 : decode cX12_quotient 49 = .ok (.iload 6, 2) := by decide +kernel
theorem dX12_quotient_51 : decode cX12_quotient 51 = .ok (.ifCond .ne 12, 3) := by decide +kernel
theorem dX12_quotient_54 : decode cX12_quotient 54 = .ok (.iload 7, 2) := by decide +kernel
theorem dX12_quotient_56 : decode cX12_quotient 56 = .ok (.iload 8, 2) := by decide +kernel
theorem dX12_quotient_58 : decode cX12_quotient 58 = .ok (.idiv, 1) := by decide +kernel
theorem dX12_quotient_59 : decode cX12_quotient 59 = .ok (.i2l, 1) := by decide +kernel
theorem dX12_quotient_60 : decode cX12_quotient 60 = .ok (.goto 9, 3) := by decide +kernel
theorem dX12_quotient_63 : decode cX12_quotient 63 = .ok (.iload 7, 2) := by decide +kernel
theorem dX12_quotient_65 : decode cX12_quotient 65 = .ok (.iload 8, 2) := by decide +kernel
theorem dX12_quotient_67 : decode cX12_quotient 67 = .ok (.irem, 1) := by decide +kernel
theorem dX12_quotient_68 : decode cX12_quotient 68 = .ok (.i2l, 1) := by decide +kernel
theorem dX12_quotient_69 : decode cX12_quotient 69 = .ok (.lreturn, 1) := by decide +kernel
theorem dX12_quotient_70 : decode cX12_quotient 70 = .ok (.lload 4, 2) := by decide +kernel
theorem dX12_quotient_72 : decode cX12_quotient 72 = .ok (.lconst 0, 1) := by decide +kernel
theorem dX12_quotient_73 : decode cX12_quotient 73 = .ok (.lcmp, 1) := by decide +kernel
theorem dX12_quotient_74 : decode cX12_quotient 74 = .ok (.ifCond .ne 12, 3) := by decide +kernel
theorem dX12_quotient_77 : decode cX12_quotient 77 = .ok (.aload_n 0, 1) := by decide +kernel
theorem dX12_quotient_78 : decode cX12_quotient 78 = .ok (.bipush 6, 2) := by decide +kernel
theorem dX12_quotient_80 : decode cX12_quotient 80 = .ok (.invokevirtual 373, 3) := by decide +kernel
theorem dX12_quotient_83 : decode cX12_quotient 83 = .ok (.goto 19, 3) := by decide +kernel
theorem dX12_quotient_86 : decode cX12_quotient 86 = .ok (.iload 6, 2) := by decide +kernel
theorem dX12_quotient_88 : decode cX12_quotient 88 = .ok (.ifCond .ne 10, 3) := by decide +kernel
theorem dX12_quotient_91 : decode cX12_quotient 91 = .ok (.lload_n 2, 1) := by decide +kernel
theorem dX12_quotient_92 : decode cX12_quotient 92 = .ok (.lload 4, 2) := by decide +kernel
theorem dX12_quotient_94 : decode cX12_quotient 94 = .ok (.ldiv, 1) := by decide +kernel
theorem dX12_quotient_95 : decode cX12_quotient 95 = .ok (.goto 7, 3) := by decide +kernel
theorem dX12_quotient_98 : decode cX12_quotient 98 = .ok (.lload_n 2, 1) := by decide +kernel
theorem dX12_quotient_99 : decode cX12_quotient 99 = .ok (.lload 4, 2) := by decide +kernel
theorem dX12_quotient_101 : decode cX12_quotient 101 = .ok (.lrem, 1) := by decide +kernel
theorem dX12_quotient_102 : decode cX12_quotient 102 = .ok (.lreturn, 1) := by decide +kernel
theorem dX12_realOf_0 : decode cX12_realOf 0 = .ok (.iload_n 0, 1) := by decide +kernel
theorem dX12_realOf_1 : decode cX12_realOf 1 = .ok (.bipush 6, 2) := by decide +kernel
theorem dX12_realOf_3 : decode cX12_realOf 3 = .ok (.if_icmp .ne 11, 3) := by decide +kernel
theorem dX12_realOf_6 : decode cX12_realOf 6 = .ok (.lload_n 1, 1) := by decide +kernel
theorem dX12_realOf_7 : decode cX12_realOf 7 = .ok (.l2i, 1) := by decide +kernel
theorem dX12_realOf_8 : decode cX12_realOf 8 = .ok (.invokestatic 707, 3) := by decide +kernel
theorem dX12_realOf_11 : decode cX12_realOf 11 = .ok (.goto 7, 3) := by decide +kernel
theorem dX12_realOf_14 : decode cX12_realOf 14 = .ok (.lload_n 1, 1) := by decide +kernel
theorem dX12_realOf_15 : decode cX12_realOf 15 = .ok (.invokestatic 630, 3) := by decide +kernel
theorem dX12_realOf_18 : decode cX12_realOf 18 = .ok (.dreturn, 1) := by decide +kernel
theorem dX12_compare_0 : decode cX12_compare 0 = .ok (.iload_n 1, 1) := by decide +kernel
theorem dX12_compare_1 : decode cX12_compare 1 = .ok (.bipush 6, 2) := by decide +kernel
theorem dX12_compare_3 : decode cX12_compare 3 = .ok (.bipush 7, 2) := by decide +kernel
theorem dX12_compare_5 : decode cX12_compare 5 = .ok (.invokestatic 322, 3) := by decide +kernel
theorem dX12_compare_8 : decode cX12_compare 8 = .ok (.ifCond .eq 18, 3) := by decide +kernel
theorem dX12_compare_11 : decode cX12_compare 11 = .ok (.iload_n 2, 1) := by decide +kernel
theorem dX12_compare_12 : decode cX12_compare 12 = .ok (.invokestatic 345, 3) := by decide +kernel
theorem dX12_compare_15 : decode cX12_compare 15 = .ok (.ifCond .eq 11, 3) := by decide +kernel
theorem dX12_compare_18 : decode cX12_compare 18 = .ok (.iload 4, 2) := by decide +kernel
theorem dX12_compare_20 : decode cX12_compare 20 = .ok (.invokestatic 345, 3) := by decide +kernel
theorem dX12_compare_23 : decode cX12_compare 23 = .ok (.ifCond .ne 6, 3) := by decide +kernel
theorem dX12_compare_26 : decode cX12_compare 26 = .ok (.bipush (-2), 2) := by decide +kernel
theorem dX12_compare_28 : decode cX12_compare 28 = .ok (.ireturn, 1) := by decide +kernel
theorem dX12_compare_29 : decode cX12_compare 29 = .ok (.aload_n 0, 1) := by decide +kernel
theorem dX12_compare_30 : decode cX12_compare 30 = .ok (.getfield 9, 3) := by decide +kernel
theorem dX12_compare_33 : decode cX12_compare 33 = .ok (.iload_n 2, 1) := by decide +kernel
theorem dX12_compare_34 : decode cX12_compare 34 = .ok (.iaload, 1) := by decide +kernel
theorem dX12_compare_35 : decode cX12_compare 35 = .ok (.istore 6, 2) := by decide +kernel
theorem dX12_compare_37 : decode cX12_compare 37 = .ok (.aload_n 0, 1) := by decide +kernel
theorem dX12_compare_38 : decode cX12_compare 38 = .ok (.getfield 9, 3) := by decide +kernel
theorem dX12_compare_41 : decode cX12_compare 41 = .ok (.iload 4, 2) := by decide +kernel
theorem dX12_compare_43 : decode cX12_compare 43 = .ok (.iaload, 1) := by decide +kernel
theorem dX12_compare_44 : decode cX12_compare 44 = .ok (.istore 7, 2) := by decide +kernel
theorem dX12_compare_46 : decode cX12_compare 46 = .ok (.aload_n 0, 1) := by decide +kernel
theorem dX12_compare_47 : decode cX12_compare 47 = .ok (.iload 6, 2) := by decide +kernel
theorem dX12_compare_49 : decode cX12_compare 49 = .ok (.iload_n 1, 1) := by decide +kernel
theorem dX12_compare_50 : decode cX12_compare 50 = .ok (.invokevirtual 363, 3) := by decide +kernel
theorem dX12_compare_53 : decode cX12_compare 53 = .ok (.ifCond .eq 23, 3) := by decide +kernel
theorem dX12_compare_56 : decode cX12_compare 56 = .ok (.aload_n 0, 1) := by decide +kernel
theorem dX12_compare_57 : decode cX12_compare 57 = .ok (.iload 7, 2) := by decide +kernel
theorem dX12_compare_59 : decode cX12_compare 59 = .ok (.iload_n 1, 1) := by decide +kernel
theorem dX12_compare_60 : decode cX12_compare 60 = .ok (.invokevirtual 363, 3) := by decide +kernel
theorem dX12_compare_63 : decode cX12_compare 63 = .ok (.ifCond .eq 13, 3) := by decide +kernel
theorem dX12_compare_66 : decode cX12_compare 66 = .ok (.aload_n 0, 1) := by decide +kernel
theorem dX12_compare_67 : decode cX12_compare 67 = .ok (.iload 6, 2) := by decide +kernel
theorem dX12_compare_69 : decode cX12_compare 69 = .ok (.iload_n 3, 1) := by decide +kernel
theorem dX12_compare_70 : decode cX12_compare 70 = .ok (.invokevirtual 366, 3) := by decide +kernel
theorem dX12_compare_73 : decode cX12_compare 73 = .ok (.goto 4, 3) := by decide +kernel
theorem dX12_compare_76 : decode cX12_compare 76 = .ok (.iconst 4, 1) := by decide +kernel
theorem dX12_compare_77 : decode cX12_compare 77 = .ok (.istore 8, 2) := by decide +kernel
theorem dX12_compare_79 : decode cX12_compare 79 = .ok (.iload 8, 2) := by decide +kernel
theorem dX12_compare_81 : decode cX12_compare 81 = .ok (.ifCond .ne 14, 3) := by decide +kernel
theorem dX12_compare_84 : decode cX12_compare 84 = .ok (.aload_n 0, 1) := by decide +kernel
theorem dX12_compare_85 : decode cX12_compare 85 = .ok (.iload 7, 2) := by decide +kernel
theorem dX12_compare_87 : decode cX12_compare 87 = .ok (.iload 5, 2) := by decide +kernel
theorem dX12_compare_89 : decode cX12_compare 89 = .ok (.invokevirtual 366, 3) := by decide +kernel
theorem dX12_compare_92 : decode cX12_compare 92 = .ok (.goto 5, 3) := by decide +kernel
theorem dX12_compare_95 : decode cX12_compare 95 = .ok (.iload 8, 2) := by decide +kernel
theorem dX12_compare_97 : decode cX12_compare 97 = .ok (.istore 8, 2) := by decide +kernel
theorem dX12_compare_99 : decode cX12_compare 99 = .ok (.iload 8, 2) := by decide +kernel
theorem dX12_compare_101 : decode cX12_compare 101 = .ok (.ifCond .eq 10, 3) := by decide +kernel
theorem dX12_compare_104 : decode cX12_compare 104 = .ok (.aload_n 0, 1) := by decide +kernel
theorem dX12_compare_105 : decode cX12_compare 105 = .ok (.iload 8, 2) := by decide +kernel
theorem dX12_compare_107 : decode cX12_compare 107 = .ok (.invokevirtual 308, 3) := by decide +kernel
theorem dX12_compare_110 : decode cX12_compare 110 = .ok (.ireturn, 1) := by decide +kernel
theorem dX12_compare_111 : decode cX12_compare 111 = .ok (.iload_n 1, 1) := by decide +kernel
theorem dX12_compare_112 : decode cX12_compare 112 = .ok (.aload_n 0, 1) := by decide +kernel
theorem dX12_compare_113 : decode cX12_compare 113 = .ok (.getfield 26, 3) := by decide +kernel
theorem dX12_compare_116 : decode cX12_compare 116 = .ok (.aload_n 0, 1) := by decide +kernel
theorem dX12_compare_117 : decode cX12_compare 117 = .ok (.getfield 22, 3) := by decide +kernel
theorem dX12_compare_120 : decode cX12_compare 120 = .ok (.iload 6, 2) := by decide +kernel
theorem dX12_compare_122 : decode cX12_compare 122 = .ok (.iaload, 1) := by decide +kernel
theorem dX12_compare_123 : decode cX12_compare 123 = .ok (.iload_n 3, 1) := by decide +kernel
theorem dX12_compare_124 : decode cX12_compare 124 = .ok (.iadd, 1) := by decide +kernel
theorem dX12_compare_125 : decode cX12_compare 125 = .ok (.laload, 1) := by decide +kernel
theorem dX12_compare_126 : decode cX12_compare 126 = .ok (.invokestatic 711, 3) := by decide +kernel
theorem dX12_compare_129 : decode cX12_compare 129 = .ok (.dstore 9, 2) := by decide +kernel
theorem dX12_compare_131 : decode cX12_compare 131 = .ok (.iload_n 1, 1) := by decide +kernel
theorem dX12_compare_132 : decode cX12_compare 132 = .ok (.aload_n 0, 1) := by decide +kernel
theorem dX12_compare_133 : decode cX12_compare 133 = .ok (.getfield 26, 3) := by decide +kernel
theorem dX12_compare_136 : decode cX12_compare 136 = .ok (.aload_n 0, 1) := by decide +kernel
theorem dX12_compare_137 : decode cX12_compare 137 = .ok (.getfield 22, 3) := by decide +kernel
theorem dX12_compare_140 : decode cX12_compare 140 = .ok (.iload 7, 2) := by decide +kernel
theorem dX12_compare_142 : decode cX12_compare 142 = .ok (.iaload, 1) := by decide +kernel
theorem dX12_compare_143 : decode cX12_compare 143 = .ok (.iload 5, 2) := by decide +kernel
theorem dX12_compare_145 : decode cX12_compare 145 = .ok (.iadd, 1) := by decide +kernel
theorem dX12_compare_146 : decode cX12_compare 146 = .ok (.laload, 1) := by decide +kernel
theorem dX12_compare_147 : decode cX12_compare 147 = .ok (.invokestatic 711, 3) := by decide +kernel
theorem dX12_compare_150 : decode cX12_compare 150 = .ok (.dstore 11, 2) := by decide +kernel
theorem dX12_compare_152 : decode cX12_compare 152 = .ok (.dload 9, 2) := by decide +kernel
theorem dX12_compare_154 : decode cX12_compare 154 = .ok (.dload 11, 2) := by decide +kernel
theorem dX12_compare_156 : decode cX12_compare 156 = .ok (.dcmp .g, 1) := by decide +kernel
theorem dX12_compare_157 : decode cX12_compare 157 = .ok (.ifCond .ge 8, 3) := by decide +kernel
theorem dX12_compare_160 : decode cX12_compare 160 = .ok (.bipush 35, 2) := by decide +kernel
theorem dX12_compare_162 : decode cX12_compare 162 = .ok (.goto 31, 3) := by decide +kernel
theorem dX12_compare_165 : decode cX12_compare 165 = .ok (.dload 9, 2) := by decide +kernel
theorem dX12_compare_167 : decode cX12_compare 167 = .ok (.dload 11, 2) := by decide +kernel
theorem dX12_compare_169 : decode cX12_compare 169 = .ok (.dcmp .l, 1) := by decide +kernel
theorem dX12_compare_170 : decode cX12_compare 170 = .ok (.ifCond .le 8, 3) := by decide +kernel
theorem dX12_compare_173 : decode cX12_compare 173 = .ok (.bipush 44, 2) := by decide +kernel
theorem dX12_compare_175 : decode cX12_compare 175 = .ok (.goto 18, 3) := by decide +kernel
theorem dX12_compare_178 : decode cX12_compare 178 = .ok (.dload 9, 2) := by decide +kernel
theorem dX12_compare_180 : decode cX12_compare 180 = .ok (.dload 11, 2) := by decide +kernel
theorem dX12_compare_182 : decode cX12_compare 182 = .ok (.dcmp .l, 1) := by decide +kernel
theorem dX12_compare_183 : decode cX12_compare 183 = .ok (.ifCond .ne 8, 3) := by decide +kernel
theorem dX12_compare_186 : decode cX12_compare 186 = .ok (.bipush 26, 2) := by decide +kernel
theorem dX12_compare_188 : decode cX12_compare 188 = .ok (.goto 5, 3) := by decide +kernel
theorem dX12_compare_191 : decode cX12_compare 191 = .ok (.bipush 32, 2) := by decide +kernel
theorem dX12_compare_193 : decode cX12_compare 193 = .ok (.ireturn, 1) := by decide +kernel
theorem dX12_isLess_0 : decode cX12_isLess 0 = .ok (.dload_n 0, 1) := by decide +kernel
theorem dX12_isLess_1 : decode cX12_isLess 1 = .ok (.dload_n 2, 1) := by decide +kernel
theorem dX12_isLess_2 : decode cX12_isLess 2 = .ok (.dcmp .g, 1) := by decide +kernel
theorem dX12_isLess_3 : decode cX12_isLess 3 = .ok (.ifCond .lt 23, 3) := by decide +kernel
theorem dX12_isLess_6 : decode cX12_isLess 6 = .ok (.dload_n 0, 1) := by decide +kernel
theorem dX12_isLess_7 : decode cX12_isLess 7 = .ok (.dload_n 2, 1) := by decide +kernel
theorem dX12_isLess_8 : decode cX12_isLess 8 = .ok (.dcmp .l, 1) := by decide +kernel
theorem dX12_isLess_9 : decode cX12_isLess 9 = .ok (.ifCond .ne 21, 3) := by decide +kernel
theorem dX12_isLess_12 : decode cX12_isLess 12 = .ok (.dload_n 0, 1) := by decide +kernel
theorem dX12_isLess_13 : decode cX12_isLess 13 = .ok (.invokestatic 715, 3) := by decide +kernel
theorem dX12_isLess_16 : decode cX12_isLess 16 = .ok (.ifCond .eq 14, 3) := by decide +kernel
theorem dX12_isLess_19 : decode cX12_isLess 19 = .ok (.dload_n 2, 1) := by decide +kernel
theorem dX12_isLess_20 : decode cX12_isLess 20 = .ok (.invokestatic 715, 3) := by decide +kernel
theorem dX12_isLess_23 : decode cX12_isLess 23 = .ok (.ifCond .ne 7, 3) := by decide +kernel
theorem dX12_isLess_26 : decode cX12_isLess 26 = .ok (.iconst 1, 1) := by decide +kernel
theorem dX12_isLess_27 : decode cX12_isLess 27 = .ok (.goto 4, 3) := by decide +kernel
theorem dX12_isLess_30 : decode cX12_isLess 30 = .ok (.iconst 0, 1) := by decide +kernel
theorem dX12_isLess_31 : decode cX12_isLess 31 = .ok (.ireturn, 1) := by decide +kernel
theorem dX12_real_0 : decode cX12_real 0 = .ok (.iload_n 1, 1) := by decide +kernel
theorem dX12_real_1 : decode cX12_real 1 = .ok (.bipush 6, 2) := by decide +kernel
theorem dX12_real_3 : decode cX12_real 3 = .ok (.bipush 7, 2) := by decide +kernel
theorem dX12_real_5 : decode cX12_real 5 = .ok (.invokestatic 322, 3) := by decide +kernel
theorem dX12_real_8 : decode cX12_real 8 = .ok (.ifCond .eq 19, 3) := by decide +kernel
theorem dX12_real_11 : decode cX12_real 11 = .ok (.iload_n 2, 1) := by decide +kernel
theorem dX12_real_12 : decode cX12_real 12 = .ok (.invokestatic 345, 3) := by decide +kernel
theorem dX12_real_15 : decode cX12_real 15 = .ok (.ifCond .eq 12, 3) := by decide +kernel
theorem dX12_real_18 : decode cX12_real 18 = .ok (.iload_n 3, 1) := by decide +kernel
theorem dX12_real_19 : decode cX12_real 19 = .ok (.iconst 0, 1) := by decide +kernel
theorem dX12_real_20 : decode cX12_real 20 = .ok (.iconst 3, 1) := by decide +kernel
theorem dX12_real_21 : decode cX12_real 21 = .ok (.invokestatic 322, 3) := by decide +kernel
theorem dX12_real_24 : decode cX12_real 24 = .ok (.ifCond .ne 5, 3) := by decide +kernel
theorem dX12_real_27 : decode cX12_real 27 = .ok (.lconst 0, 1) := by decide +kernel
theorem dX12_real_28 : decode cX12_real 28 = .ok (.lreturn, 1) := by decide +kernel
theorem dX12_real_29 : decode cX12_real 29 = .ok (.aload_n 0, 1) := by decide +kernel
theorem dX12_real_30 : decode cX12_real 30 = .ok (.getfield 9, 3) := by decide +kernel
theorem dX12_real_33 : decode cX12_real 33 = .ok (.iload_n 2, 1) := by decide +kernel
theorem dX12_real_34 : decode cX12_real 34 = .ok (.iaload, 1) := by decide +kernel
theorem dX12_real_35 : decode cX12_real 35 = .ok (.istore 4, 2) := by decide +kernel
theorem dX12_real_37 : decode cX12_real 37 = .ok (.iload 4, 2) := by decide +kernel
theorem dX12_real_39 : decode cX12_real 39 = .ok (.ifCond .eq 14, 3) := by decide +kernel
theorem dX12_real_42 : decode cX12_real 42 = .ok (.aload_n 0, 1) := by decide +kernel
theorem dX12_real_43 : decode cX12_real 43 = .ok (.getfield 15, 3) := by decide +kernel
theorem dX12_real_46 : decode cX12_real 46 = .ok (.iload 4, 2) := by decide +kernel
theorem dX12_real_48 : decode cX12_real 48 = .ok (.baload, 1) := by decide +kernel
theorem dX12_real_49 : decode cX12_real 49 = .ok (.iload_n 1, 1) := by decide +kernel
theorem dX12_real_50 : decode cX12_real 50 = .ok (.if_icmp .eq 18, 3) := by decide +kernel
theorem dX12_real_53 : decode cX12_real 53 = .ok (.aload_n 0, 1) := by decide +kernel
theorem dX12_real_54 : decode cX12_real 54 = .ok (.iload 4, 2) := by decide +kernel
theorem dX12_real_56 : decode cX12_real 56 = .ok (.ifCond .ne 7, 3) := by decide +kernel
theorem dX12_real_59 : decode cX12_real 59 = .ok (.iconst 1, 1) := by decide +kernel
theorem dX12_real_60 : decode cX12_real 60 = .ok (.goto 4, 3) := by decide +kernel
theorem dX12_real_63 : decode cX12_real 63 = .ok (.iconst 4, 1) := by decide +kernel
theorem dX12_real_64 : decode cX12_real 64 = .ok (.invokevirtual 373, 3) := by decide +kernel
theorem dX12_real_67 : decode cX12_real 67 = .ok (.lreturn, 1) := by decide +kernel
theorem dX12_real_68 : decode cX12_real 68 = .ok (.iconst 0, 1) := by decide +kernel
theorem dX12_real_69 : decode cX12_real 69 = .ok (.istore 5, 2) := by decide +kernel
theorem dX12_real_71 : decode cX12_real 71 = .ok (.dconst 0, 1) := by decide +kernel
theorem dX12_real_72 : decode cX12_real 72 = .ok (.dstore 6, 2) := by decide +kernel
theorem dX12_real_74 : decode cX12_real 74 = .ok (.iconst 0, 1) := by decide +kernel
theorem dX12_real_75 : decode cX12_real 75 = .ok (.istore 8, 2) := by decide +kernel
theorem dX12_real_77 : decode cX12_real 77 = .ok (.iload 8, 2) := by decide +kernel
theorem dX12_real_79 : decode cX12_real 79 = .ok (.aload_n 0, 1) := by decide +kernel
theorem dX12_real_80 : decode cX12_real 80 = .ok (.getfield 19, 3) := by decide +kernel
theorem dX12_real_83 : decode cX12_real 83 = .ok (.iload 4, 2) := by decide +kernel
theorem dX12_real_85 : decode cX12_real 85 = .ok (.baload, 1) := by decide +kernel
theorem dX12_real_86 : decode cX12_real 86 = .ok (.if_icmp .ge 107, 3) := by decide +kernel
theorem dX12_real_89 : decode cX12_real 89 = .ok (.iload_n 1, 1) := by decide +kernel
theorem dX12_real_90 : decode cX12_real 90 = .ok (.aload_n 0, 1) := by decide +kernel
theorem dX12_real_91 : decode cX12_real 91 = .ok (.getfield 26, 3) := by decide +kernel
theorem dX12_real_94 : decode cX12_real 94 = .ok (.aload_n 0, 1) := by decide +kernel
theorem dX12_real_95 : decode cX12_real 95 = .ok (.getfield 22, 3) := by decide +kernel
theorem dX12_real_98 : decode cX12_real 98 = .ok (.iload 4, 2) := by decide +kernel
theorem dX12_real_100 : decode cX12_real 100 = .ok (.iaload, 1) := by decide +kernel
theorem dX12_real_101 : decode cX12_real 101 = .ok (.iload 8, 2) := by decide +kernel
theorem dX12_real_103 : decode cX12_real 103 = .ok (.iadd, 1) := by decide +kernel
theorem dX12_real_104 : decode cX12_real 104 = .ok (.laload, 1) := by decide +kernel
theorem dX12_real_105 : decode cX12_real 105 = .ok (.invokestatic 711, 3) := by decide +kernel
theorem dX12_real_108 : decode cX12_real 108 = .ok (.dstore 9, 2) := by decide +kernel
theorem dX12_real_110 : decode cX12_real 110 = .ok (.dload 9, 2) := by decide +kernel
theorem dX12_real_112 : decode cX12_real 112 = .ok (.dload 9, 2) := by decide +kernel
theorem dX12_real_114 : decode cX12_real 114 = .ok (.dcmp .l, 1) := by decide +kernel
theorem dX12_real_115 : decode cX12_real 115 = .ok (.ifCond .ne 72, 3) := by decide +kernel
theorem dX12_real_118 : decode cX12_real 118 = .ok (.dload 6, 2) := by decide +kernel
theorem dX12_real_120 : decode cX12_real 120 = .ok (.dload 9, 2) := by decide +kernel
theorem dX12_real_122 : decode cX12_real 122 = .ok (.invokestatic 719, 3) := by decide +kernel
theorem dX12_real_125 : decode cX12_real 125 = .ok (.dstore 6, 2) := by decide +kernel
theorem dX12_real_127 : decode cX12_real 127 = .ok (.iload 5, 2) := by decide +kernel
theorem dX12_real_129 : decode cX12_real 129 = .ok (.istore 11, 2) := by decide +kernel
theorem dX12_real_131 : decode cX12_real 131 = .ok (.iload 11, 2) := by decide +kernel
theorem dX12_real_133 : decode cX12_real 133 = .ok (.ifCond .le 42, 3) := by decide +kernel
theorem dX12_real_136 : decode cX12_real 136 = .ok (.dload 9, 2) := by decide +kernel
theorem dX12_real_138 : decode cX12_real 138 = .ok (.aload_n 0, 1) := by decide +kernel
theorem dX12_real_139 : decode cX12_real 139 = .ok (.getfield 250, 3) := by decide +kernel
theorem dX12_real_142 : decode cX12_real 142 = .ok (.iload 11, 2) := by decide +kernel
theorem dX12_real_144 : decode cX12_real 144 = .ok (.iconst 1, 1) := by decide +kernel
theorem dX12_real_145 : decode cX12_real 145 = .ok (.isub, 1) := by decide +kernel
theorem dX12_real_146 : decode cX12_real 146 = .ok (.daload, 1) := by decide +kernel
theorem dX12_real_147 : decode cX12_real 147 = .ok (.invokestatic 723, 3) := by decide +kernel
theorem dX12_real_150 : decode cX12_real 150 = .ok (.ifCond .eq 25, 3) := by decide +kernel
theorem dX12_real_153 : decode cX12_real 153 = .ok (.aload_n 0, 1) := by decide +kernel
theorem dX12_real_154 : decode cX12_real 154 = .ok (.getfield 250, 3) := by decide +kernel
theorem dX12_real_157 : decode cX12_real 157 = .ok (.iload 11, 2) := by decide +kernel
theorem dX12_real_159 : decode cX12_real 159 = .ok (.aload_n 0, 1) := by decide +kernel
theorem dX12_real_160 : decode cX12_real 160 = .ok (.getfield 250, 3) := by decide +kernel
theorem dX12_real_163 : decode cX12_real 163 = .ok (.iload 11, 2) := by decide +kernel
theorem dX12_real_165 : decode cX12_real 165 = .ok (.iconst 1, 1) := by decide +kernel
theorem dX12_real_166 : decode cX12_real 166 = .ok (.isub, 1) := by decide +kernel
theorem dX12_real_167 : decode cX12_real 167 = .ok (.daload, 1) := by decide +kernel
theorem dX12_real_168 : decode cX12_real 168 = .ok (.dastore, 1) := by decide +kernel
theorem dX12_real_169 : decode cX12_real 169 = .ok (.iinc 11 (-1), 3) := by decide +kernel
theorem dX12_real_172 : decode cX12_real 172 = .ok (.goto (-41), 3) := by decide +kernel
theorem dX12_real_175 : decode cX12_real 175 = .ok (.aload_n 0, 1) := by decide +kernel
theorem dX12_real_176 : decode cX12_real 176 = .ok (.getfield 250, 3) := by decide +kernel
theorem dX12_real_179 : decode cX12_real 179 = .ok (.iload 11, 2) := by decide +kernel
theorem dX12_real_181 : decode cX12_real 181 = .ok (.dload 9, 2) := by decide +kernel
theorem dX12_real_183 : decode cX12_real 183 = .ok (.dastore, 1) := by decide +kernel
theorem dX12_real_184 : decode cX12_real 184 = .ok (.iinc 5 1, 3) := by decide +kernel
theorem dX12_real_187 : decode cX12_real 187 = .ok (.iinc 8 1, 3) := by decide +kernel
theorem dX12_real_190 : decode cX12_real 190 = .ok (.goto (-113), 3) := by decide +kernel
theorem dX12_real_193 : decode cX12_real 193 = .ok (.iload 5, 2) := by decide +kernel
theorem dX12_real_195 : decode cX12_real 195 = .ok (.ifCond .ne 7, 3) := by decide +kernel
theorem dX12_real_198 : decode cX12_real 198 = .ok (.ldc2_w 172, 3) := by decide +kernel
theorem dX12_real_201 : decode cX12_real 201 = .ok (.lreturn, 1) := by decide +kernel
theorem dX12_real_202 : decode cX12_real 202 = .ok (.aload_n 0, 1) := by decide +kernel
theorem dX12_real_203 : decode cX12_real 203 = .ok (.iload_n 3, 1) := by decide +kernel
theorem dX12_real_204 : decode cX12_real 204 = .ok (.ifCond .ne 12, 3) := by decide +kernel
theorem dX12_real_207 : decode cX12_real 207 = .ok (.aload_n 0, 1) := by decide +kernel
theorem dX12_real_208 : decode cX12_real 208 = .ok (.getfield 250, 3) := by decide +kernel
theorem dX12_real_211 : decode cX12_real 211 = .ok (.iconst 0, 1) := by decide +kernel
theorem dX12_real_212 : decode cX12_real 212 = .ok (.daload, 1) := by decide +kernel
theorem dX12_real_213 : decode cX12_real 213 = .ok (.goto 47, 3) := by decide +kernel
theorem dX12_real_216 : decode cX12_real 216 = .ok (.iload_n 3, 1) := by decide +kernel
theorem dX12_real_217 : decode cX12_real 217 = .ok (.iconst 1, 1) := by decide +kernel
theorem dX12_real_218 : decode cX12_real 218 = .ok (.if_icmp .ne 15, 3) := by decide +kernel
theorem dX12_real_221 : decode cX12_real 221 = .ok (.aload_n 0, 1) := by decide +kernel
theorem dX12_real_222 : decode cX12_real 222 = .ok (.getfield 250, 3) := by decide +kernel
theorem dX12_real_225 : decode cX12_real 225 = .ok (.iload 5, 2) := by decide +kernel
theorem dX12_real_227 : decode cX12_real 227 = .ok (.iconst 1, 1) := by decide +kernel
theorem dX12_real_228 : decode cX12_real 228 = .ok (.isub, 1) := by decide +kernel
theorem dX12_real_229 : decode cX12_real 229 = .ok (.daload, 1) := by decide +kernel
theorem dX12_real_230 : decode cX12_real 230 = .ok (.goto 30, 3) := by decide +kernel
theorem dX12_real_233 : decode cX12_real 233 = .ok (.iload_n 3, 1) := by decide +kernel
theorem dX12_real_234 : decode cX12_real 234 = .ok (.iconst 2, 1) := by decide +kernel
theorem dX12_real_235 : decode cX12_real 235 = .ok (.if_icmp .ne 14, 3) := by decide +kernel
theorem dX12_real_238 : decode cX12_real 238 = .ok (.dload 6, 2) := by decide +kernel
theorem dX12_real_240 : decode cX12_real 240 = .ok (.iload 5, 2) := by decide +kernel
theorem dX12_real_242 : decode cX12_real 242 = .ok (.i2d, 1) := by decide +kernel
theorem dX12_real_243 : decode cX12_real 243 = .ok (.invokestatic 727, 3) := by decide +kernel
theorem dX12_real_246 : decode cX12_real 246 = .ok (.goto 14, 3) := by decide +kernel
theorem dX12_real_249 : decode cX12_real 249 = .ok (.aload_n 0, 1) := by decide +kernel
theorem dX12_real_250 : decode cX12_real 250 = .ok (.getfield 250, 3) := by decide +kernel
theorem dX12_real_253 : decode cX12_real 253 = .ok (.iload 5, 2) := by decide +kernel
theorem dX12_real_255 : decode cX12_real 255 = .ok (.iconst 1, 1) := by decide +kernel
theorem dX12_real_256 : decode cX12_real 256 = .ok (.isub, 1) := by decide +kernel
theorem dX12_real_257 : decode cX12_real 257 = .ok (.iconst 2, 1) := by decide +kernel
theorem dX12_real_258 : decode cX12_real 258 = .ok (.idiv, 1) := by decide +kernel
theorem dX12_real_259 : decode cX12_real 259 = .ok (.daload, 1) := by decide +kernel
theorem dX12_real_260 : decode cX12_real 260 = .ok (.invokevirtual 730, 3) := by decide +kernel
theorem dX12_real_263 : decode cX12_real 263 = .ok (.lreturn, 1) := by decide +kernel
theorem dX12_wholeMean_0 : decode cX12_wholeMean 0 = .ok (.iload_n 1, 1) := by decide +kernel
theorem dX12_wholeMean_1 : decode cX12_wholeMean 1 = .ok (.invokestatic 345, 3) := by decide +kernel
theorem dX12_wholeMean_4 : decode cX12_wholeMean 4 = .ok (.ifCond .ne 6, 3) := by decide +kernel
theorem dX12_wholeMean_7 : decode cX12_wholeMean 7 = .ok (.bipush (-2), 2) := by decide +kernel
theorem dX12_wholeMean_9 : decode cX12_wholeMean 9 = .ok (.ireturn, 1) := by decide +kernel
theorem dX12_wholeMean_10 : decode cX12_wholeMean 10 = .ok (.aload_n 0, 1) := by decide +kernel
theorem dX12_wholeMean_11 : decode cX12_wholeMean 11 = .ok (.getfield 9, 3) := by decide +kernel
theorem dX12_wholeMean_14 : decode cX12_wholeMean 14 = .ok (.iload_n 1, 1) := by decide +kernel
theorem dX12_wholeMean_15 : decode cX12_wholeMean 15 = .ok (.iaload, 1) := by decide +kernel
theorem dX12_wholeMean_16 : decode cX12_wholeMean 16 = .ok (.istore_n 2, 1) := by decide +kernel
theorem dX12_wholeMean_17 : decode cX12_wholeMean 17 = .ok (.aload_n 0, 1) := by decide +kernel
theorem dX12_wholeMean_18 : decode cX12_wholeMean 18 = .ok (.iload_n 2, 1) := by decide +kernel
theorem dX12_wholeMean_19 : decode cX12_wholeMean 19 = .ok (.iconst 4, 1) := by decide +kernel
theorem dX12_wholeMean_20 : decode cX12_wholeMean 20 = .ok (.invokevirtual 363, 3) := by decide +kernel
theorem dX12_wholeMean_23 : decode cX12_wholeMean 23 = .ok (.ifCond .ne 7, 3) := by decide +kernel
theorem dX12_wholeMean_26 : decode cX12_wholeMean 26 = .ok (.iconst 4, 1) := by decide +kernel
theorem dX12_wholeMean_27 : decode cX12_wholeMean 27 = .ok (.goto 26, 3) := by decide +kernel
theorem dX12_wholeMean_30 : decode cX12_wholeMean 30 = .ok (.iload_n 2, 1) := by decide +kernel
theorem dX12_wholeMean_31 : decode cX12_wholeMean 31 = .ok (.ifCond .ne 7, 3) := by decide +kernel
theorem dX12_wholeMean_34 : decode cX12_wholeMean 34 = .ok (.iconst 1, 1) := by decide +kernel
theorem dX12_wholeMean_35 : decode cX12_wholeMean 35 = .ok (.goto 18, 3) := by decide +kernel
theorem dX12_wholeMean_38 : decode cX12_wholeMean 38 = .ok (.aload_n 0, 1) := by decide +kernel
theorem dX12_wholeMean_39 : decode cX12_wholeMean 39 = .ok (.getfield 19, 3) := by decide +kernel
theorem dX12_wholeMean_42 : decode cX12_wholeMean 42 = .ok (.iload_n 2, 1) := by decide +kernel
theorem dX12_wholeMean_43 : decode cX12_wholeMean 43 = .ok (.baload, 1) := by decide +kernel
theorem dX12_wholeMean_44 : decode cX12_wholeMean 44 = .ok (.ifCond .ne 8, 3) := by decide +kernel
theorem dX12_wholeMean_47 : decode cX12_wholeMean 47 = .ok (.bipush 6, 2) := by decide +kernel
theorem dX12_wholeMean_49 : decode cX12_wholeMean 49 = .ok (.goto 4, 3) := by decide +kernel
theorem dX12_wholeMean_52 : decode cX12_wholeMean 52 = .ok (.iconst 0, 1) := by decide +kernel
theorem dX12_wholeMean_53 : decode cX12_wholeMean 53 = .ok (.istore_n 3, 1) := by decide +kernel
theorem dX12_wholeMean_54 : decode cX12_wholeMean 54 = .ok (.iload_n 3, 1) := by decide +kernel
theorem dX12_wholeMean_55 : decode cX12_wholeMean 55 = .ok (.ifCond .eq 9, 3) := by decide +kernel
theorem dX12_wholeMean_58 : decode cX12_wholeMean 58 = .ok (.aload_n 0, 1) := by decide +kernel
theorem dX12_wholeMean_59 : decode cX12_wholeMean 59 = .ok (.iload_n 3, 1) := by decide +kernel
theorem dX12_wholeMean_60 : decode cX12_wholeMean 60 = .ok (.invokevirtual 308, 3) := by decide +kernel
theorem dX12_wholeMean_63 : decode cX12_wholeMean 63 = .ok (.ireturn, 1) := by decide +kernel
theorem dX12_wholeMean_64 : decode cX12_wholeMean 64 = .ok (.lconst 0, 1) := by decide +kernel
theorem dX12_wholeMean_65 : decode cX12_wholeMean 65 = .ok (.lstore 4, 2) := by decide +kernel
theorem dX12_wholeMean_67 : decode cX12_wholeMean 67 = .ok (.iconst 0, 1) := by decide +kernel
theorem dX12_wholeMean_68 : decode cX12_wholeMean 68 = .ok (.istore 6, 2) := by decide +kernel
theorem dX12_wholeMean_70 : decode cX12_wholeMean 70 = .ok (.iload 6, 2) := by decide +kernel
theorem dX12_wholeMean_72 : decode cX12_wholeMean 72 = .ok (.aload_n 0, 1) := by decide +kernel
theorem dX12_wholeMean_73 : decode cX12_wholeMean 73 = .ok (.getfield 19, 3) := by decide +kernel
theorem dX12_wholeMean_76 : decode cX12_wholeMean 76 = .ok (.iload_n 2, 1) := by decide +kernel
theorem dX12_wholeMean_77 : decode cX12_wholeMean 77 = .ok (.baload, 1) := by decide +kernel
theorem dX12_wholeMean_78 : decode cX12_wholeMean 78 = .ok (.if_icmp .ge 28, 3) := by decide +kernel
theorem dX12_wholeMean_81 : decode cX12_wholeMean 81 = .ok (.lload 4, 2) := by decide +kernel
theorem dX12_wholeMean_83 : decode cX12_wholeMean 83 = .ok (.aload_n 0, 1) := by decide +kernel
theorem dX12_wholeMean_84 : decode cX12_wholeMean 84 = .ok (.getfield 26, 3) := by decide +kernel
theorem dX12_wholeMean_87 : decode cX12_wholeMean 87 = .ok (.aload_n 0, 1) := by decide +kernel
theorem dX12_wholeMean_88 : decode cX12_wholeMean 88 = .ok (.getfield 22, 3) := by decide +kernel
theorem dX12_wholeMean_91 : decode cX12_wholeMean 91 = .ok (.iload_n 2, 1) := by decide +kernel
theorem dX12_wholeMean_92 : decode cX12_wholeMean 92 = .ok (.iaload, 1) := by decide +kernel
theorem dX12_wholeMean_93 : decode cX12_wholeMean 93 = .ok (.iload 6, 2) := by decide +kernel
theorem dX12_wholeMean_95 : decode cX12_wholeMean 95 = .ok (.iadd, 1) := by decide +kernel
theorem dX12_wholeMean_96 : decode cX12_wholeMean 96 = .ok (.laload, 1) := by decide +kernel
theorem dX12_wholeMean_97 : decode cX12_wholeMean 97 = .ok (.ladd, 1) := by decide +kernel
theorem dX12_wholeMean_98 : decode cX12_wholeMean 98 = .ok (.lstore 4, 2) := by decide +kernel
theorem dX12_wholeMean_100 : decode cX12_wholeMean 100 = .ok (.iinc 6 1, 3) := by decide +kernel
theorem dX12_wholeMean_103 : decode cX12_wholeMean 103 = .ok (.goto (-33), 3) := by decide +kernel
theorem dX12_wholeMean_106 : decode cX12_wholeMean 106 = .ok (.aload_n 0, 1) := by decide +kernel
theorem dX12_wholeMean_107 : decode cX12_wholeMean 107 = .ok (.lload 4, 2) := by decide +kernel
theorem dX12_wholeMean_109 : decode cX12_wholeMean 109 = .ok (.aload_n 0, 1) := by decide +kernel
theorem dX12_wholeMean_110 : decode cX12_wholeMean 110 = .ok (.getfield 19, 3) := by decide +kernel
theorem dX12_wholeMean_113 : decode cX12_wholeMean 113 = .ok (.iload_n 2, 1) := by decide +kernel
theorem dX12_wholeMean_114 : decode cX12_wholeMean 114 = .ok (.baload, 1) := by decide +kernel
theorem dX12_wholeMean_115 : decode cX12_wholeMean 115 = .ok (.i2l, 1) := by decide +kernel
theorem dX12_wholeMean_116 : decode cX12_wholeMean 116 = .ok (.ldiv, 1) := by decide +kernel
theorem dX12_wholeMean_117 : decode cX12_wholeMean 117 = .ok (.l2i, 1) := by decide +kernel
theorem dX12_wholeMean_118 : decode cX12_wholeMean 118 = .ok (.putfield 466, 3) := by decide +kernel
theorem dX12_wholeMean_121 : decode cX12_wholeMean 121 = .ok (.iconst 1, 1) := by decide +kernel
theorem dX12_wholeMean_122 : decode cX12_wholeMean 122 = .ok (.ireturn, 1) := by decide +kernel
theorem dX12_salt_0 : decode cX12_salt 0 = .ok (.iload_n 1, 1) := by decide +kernel
theorem dX12_salt_1 : decode cX12_salt 1 = .ok (.iconst 0, 1) := by decide +kernel
theorem dX12_salt_2 : decode cX12_salt 2 = .ok (.iconst 5, 1) := by decide +kernel
theorem dX12_salt_3 : decode cX12_salt 3 = .ok (.invokestatic 322, 3) := by decide +kernel
theorem dX12_salt_6 : decode cX12_salt 6 = .ok (.ifCond .eq 33, 3) := by decide +kernel
theorem dX12_salt_9 : decode cX12_salt 9 = .ok (.iload_n 2, 1) := by decide +kernel
theorem dX12_salt_10 : decode cX12_salt 10 = .ok (.iconst 0, 1) := by decide +kernel
theorem dX12_salt_11 : decode cX12_salt 11 = .ok (.iconst 2, 1) := by decide +kernel
theorem dX12_salt_12 : decode cX12_salt 12 = .ok (.invokestatic 322, 3) := by decide +kernel
theorem dX12_salt_15 : decode cX12_salt 15 = .ok (.ifCond .eq 24, 3) := by decide +kernel
theorem dX12_salt_18 : decode cX12_salt 18 = .ok (.iload_n 3, 1) := by decide +kernel
theorem dX12_salt_19 : decode cX12_salt 19 = .ok (.iconst 0, 1) := by decide +kernel
theorem dX12_salt_20 : decode cX12_salt 20 = .ok (.iload_n 1, 1) := by decide +kernel
theorem dX12_salt_21 : decode cX12_salt 21 = .ok (.iconst 4, 1) := by decide +kernel
theorem dX12_salt_22 : decode cX12_salt 22 = .ok (.if_icmp .ge 8, 3) := by decide +kernel
theorem dX12_salt_25 : decode cX12_salt 25 = .ok (.bipush 99, 2) := by decide +kernel
theorem dX12_salt_27 : decode cX12_salt 27 = .ok (.goto 6, 3) := by decide +kernel
theorem dX12_salt_30 : decode cX12_salt 30 = .ok (.sipush 999, 3) := by decide +kernel
theorem dX12_salt_33 : decode cX12_salt 33 = .ok (.invokestatic 322, 3) := by decide +kernel
theorem dX12_salt_36 : decode cX12_salt 36 = .ok (.ifCond .ne 6, 3) := by decide +kernel
theorem dX12_salt_39 : decode cX12_salt 39 = .ok (.bipush (-2), 2) := by decide +kernel
theorem dX12_salt_41 : decode cX12_salt 41 = .ok (.ireturn, 1) := by decide +kernel
theorem dX12_salt_42 : decode cX12_salt 42 = .ok (.aload_n 0, 1) := by decide +kernel
theorem dX12_salt_43 : decode cX12_salt 43 = .ok (.getfield 254, 3) := by decide +kernel
theorem dX12_salt_46 : decode cX12_salt 46 = .ok (.iconst 3, 1) := by decide +kernel
theorem dX12_salt_47 : decode cX12_salt 47 = .ok (.iload_n 1, 1) := by decide +kernel
theorem dX12_salt_48 : decode cX12_salt 48 = .ok (.imul, 1) := by decide +kernel
theorem dX12_salt_49 : decode cX12_salt 49 = .ok (.iload_n 2, 1) := by decide +kernel
theorem dX12_salt_50 : decode cX12_salt 50 = .ok (.iadd, 1) := by decide +kernel
theorem dX12_salt_51 : decode cX12_salt 51 = .ok (.iaload, 1) := by decide +kernel
theorem dX12_salt_52 : decode cX12_salt 52 = .ok (.istore 4, 2) := by decide +kernel
theorem dX12_salt_54 : decode cX12_salt 54 = .ok (.aload_n 0, 1) := by decide +kernel
theorem dX12_salt_55 : decode cX12_salt 55 = .ok (.getfield 254, 3) := by decide +kernel
theorem dX12_salt_58 : decode cX12_salt 58 = .ok (.iconst 3, 1) := by decide +kernel
theorem dX12_salt_59 : decode cX12_salt 59 = .ok (.iload_n 1, 1) := by decide +kernel
theorem dX12_salt_60 : decode cX12_salt 60 = .ok (.imul, 1) := by decide +kernel
theorem dX12_salt_61 : decode cX12_salt 61 = .ok (.iload_n 2, 1) := by decide +kernel
theorem dX12_salt_62 : decode cX12_salt 62 = .ok (.iadd, 1) := by decide +kernel
theorem dX12_salt_63 : decode cX12_salt 63 = .ok (.iload_n 3, 1) := by decide +kernel
theorem dX12_salt_64 : decode cX12_salt 64 = .ok (.iastore, 1) := by decide +kernel
theorem dX12_salt_65 : decode cX12_salt 65 = .ok (.iload 4, 2) := by decide +kernel
theorem dX12_salt_67 : decode cX12_salt 67 = .ok (.ireturn, 1) := by decide +kernel
theorem dX12_common_0 : decode cX12_common 0 = .ok (.lload_n 0, 1) := by decide +kernel
theorem dX12_common_1 : decode cX12_common 1 = .ok (.lconst 0, 1) := by decide +kernel
theorem dX12_common_2 : decode cX12_common 2 = .ok (.lcmp, 1) := by decide +kernel
theorem dX12_common_3 : decode cX12_common 3 = .ok (.ifCond .ge 8, 3) := by decide +kernel
theorem dX12_common_6 : decode cX12_common 6 = .ok (.lload_n 0, 1) := by decide +kernel
theorem dX12_common_7 : decode cX12_common 7 = .ok (.lneg, 1) := by decide +kernel
theorem dX12_common_8 : decode cX12_common 8 = .ok (.goto 4, 3) := by decide +kernel
theorem dX12_common_11 : decode cX12_common 11 = .ok (.lload_n 0, 1) := by decide +kernel
theorem dX12_common_12 : decode cX12_common 12 = .ok (.lstore 4, 2) := by decide +kernel
theorem dX12_common_14 : decode cX12_common 14 = .ok (.lload_n 2, 1) := by decide +kernel
theorem dX12_common_15 : decode cX12_common 15 = .ok (.lconst 0, 1) := by decide +kernel
theorem dX12_common_16 : decode cX12_common 16 = .ok (.lcmp, 1) := by decide +kernel
theorem dX12_common_17 : decode cX12_common 17 = .ok (.ifCond .ge 8, 3) := by decide +kernel
theorem dX12_common_20 : decode cX12_common 20 = .ok (.lload_n 2, 1) := by decide +kernel
theorem dX12_common_21 : decode cX12_common 21 = .ok (.lneg, 1) := by decide +kernel
theorem dX12_common_22 : decode cX12_common 22 = .ok (.goto 4, 3) := by decide +kernel
theorem dX12_common_25 : decode cX12_common 25 = .ok (.lload_n 2, 1) := by decide +kernel
theorem dX12_common_26 : decode cX12_common 26 = .ok (.lstore 6, 2) := by decide +kernel
theorem dX12_common_28 : decode cX12_common 28 = .ok (.lload 6, 2) := by decide +kernel
theorem dX12_common_30 : decode cX12_common 30 = .ok (.lconst 0, 1) := by decide +kernel
theorem dX12_common_31 : decode cX12_common 31 = .ok (.lcmp, 1) := by decide +kernel
theorem dX12_common_32 : decode cX12_common 32 = .ok (.ifCond .eq 21, 3) := by decide +kernel
theorem dX12_common_35 : decode cX12_common 35 = .ok (.lload 4, 2) := by decide +kernel
theorem dX12_common_37 : decode cX12_common 37 = .ok (.lload 6, 2) := by decide +kernel
theorem dX12_common_39 : decode cX12_common 39 = .ok (.lrem, 1) := by decide +kernel
theorem dX12_common_40 : decode cX12_common 40 = .ok (.lstore 8, 2) := by decide +kernel
theorem dX12_common_42 : decode cX12_common 42 = .ok (.lload 6, 2) := by decide +kernel
theorem dX12_common_44 : decode cX12_common 44 = .ok (.lstore 4, 2) := by decide +kernel
theorem dX12_common_46 : decode cX12_common 46 = .ok (.lload 8, 2) := by decide +kernel
theorem dX12_common_48 : decode cX12_common 48 = .ok (.lstore 6, 2) := by decide +kernel
theorem dX12_common_50 : decode cX12_common 50 = .ok (.goto (-22), 3) := by decide +kernel
theorem dX12_common_53 : decode cX12_common 53 = .ok (.lload 4, 2) := by decide +kernel
theorem dX12_common_55 : decode cX12_common 55 = .ok (.lreturn, 1) := by decide +kernel
theorem dX12_fraction_0 : decode cX12_fraction 0 = .ok (.lload_n 2, 1) := by decide +kernel
theorem dX12_fraction_1 : decode cX12_fraction 1 = .ok (.lload 4, 2) := by decide +kernel
theorem dX12_fraction_3 : decode cX12_fraction 3 = .ok (.invokestatic 734, 3) := by decide +kernel
theorem dX12_fraction_6 : decode cX12_fraction 6 = .ok (.lstore 6, 2) := by decide +kernel
theorem dX12_fraction_8 : decode cX12_fraction 8 = .ok (.lload 4, 2) := by decide +kernel
theorem dX12_fraction_10 : decode cX12_fraction 10 = .ok (.lconst 0, 1) := by decide +kernel
theorem dX12_fraction_11 : decode cX12_fraction 11 = .ok (.lcmp, 1) := by decide +kernel
theorem dX12_fraction_12 : decode cX12_fraction 12 = .ok (.ifCond .ge 9, 3) := by decide +kernel
theorem dX12_fraction_15 : decode cX12_fraction 15 = .ok (.lload 6, 2) := by decide +kernel
theorem dX12_fraction_17 : decode cX12_fraction 17 = .ok (.lneg, 1) := by decide +kernel
theorem dX12_fraction_18 : decode cX12_fraction 18 = .ok (.goto 5, 3) := by decide +kernel
theorem dX12_fraction_21 : decode cX12_fraction 21 = .ok (.lload 6, 2) := by decide +kernel
theorem dX12_fraction_23 : decode cX12_fraction 23 = .ok (.lstore 6, 2) := by decide +kernel
theorem dX12_fraction_25 : decode cX12_fraction 25 = .ok (.aload_n 0, 1) := by decide +kernel
theorem dX12_fraction_26 : decode cX12_fraction 26 = .ok (.getfield 257, 3) := by decide +kernel
theorem dX12_fraction_29 : decode cX12_fraction 29 = .ok (.iload_n 1, 1) := by decide +kernel
theorem dX12_fraction_30 : decode cX12_fraction 30 = .ok (.lload_n 2, 1) := by decide +kernel
theorem dX12_fraction_31 : decode cX12_fraction 31 = .ok (.lload 6, 2) := by decide +kernel
theorem dX12_fraction_33 : decode cX12_fraction 33 = .ok (.ldiv, 1) := by decide +kernel
theorem dX12_fraction_34 : decode cX12_fraction 34 = .ok (.lastore, 1) := by decide +kernel
theorem dX12_fraction_35 : decode cX12_fraction 35 = .ok (.aload_n 0, 1) := by decide +kernel
theorem dX12_fraction_36 : decode cX12_fraction 36 = .ok (.getfield 260, 3) := by decide +kernel
theorem dX12_fraction_39 : decode cX12_fraction 39 = .ok (.iload_n 1, 1) := by decide +kernel
theorem dX12_fraction_40 : decode cX12_fraction 40 = .ok (.lload 4, 2) := by decide +kernel
theorem dX12_fraction_42 : decode cX12_fraction 42 = .ok (.lload 6, 2) := by decide +kernel
theorem dX12_fraction_44 : decode cX12_fraction 44 = .ok (.ldiv, 1) := by decide +kernel
theorem dX12_fraction_45 : decode cX12_fraction 45 = .ok (.lastore, 1) := by decide +kernel
theorem dX12_fraction_46 : decode cX12_fraction 46 = .ok (.return_, 1) := by decide +kernel
theorem dX12_less_0 : decode cX12_less 0 = .ok (.lload_n 2, 1) := by decide +kernel
theorem dX12_less_1 : decode cX12_less 1 = .ok (.aload_n 0, 1) := by decide +kernel
theorem dX12_less_2 : decode cX12_less 2 = .ok (.getfield 260, 3) := by decide +kernel
theorem dX12_less_5 : decode cX12_less 5 = .ok (.iload 6, 2) := by decide +kernel
theorem dX12_less_7 : decode cX12_less 7 = .ok (.laload, 1) := by decide +kernel
theorem dX12_less_8 : decode cX12_less 8 = .ok (.invokestatic 734, 3) := by decide +kernel
theorem dX12_less_11 : decode cX12_less 11 = .ok (.lstore 7, 2) := by decide +kernel
theorem dX12_less_13 : decode cX12_less 13 = .ok (.aload_n 0, 1) := by decide +kernel
theorem dX12_less_14 : decode cX12_less 14 = .ok (.getfield 257, 3) := by decide +kernel
theorem dX12_less_17 : decode cX12_less 17 = .ok (.iload 6, 2) := by decide +kernel
theorem dX12_less_19 : decode cX12_less 19 = .ok (.laload, 1) := by decide +kernel
theorem dX12_less_20 : decode cX12_less 20 = .ok (.lload 4, 2) := by decide +kernel
theorem dX12_less_22 : decode cX12_less 22 = .ok (.invokestatic 734, 3) := by decide +kernel
theorem dX12_less_25 : decode cX12_less 25 = .ok (.lstore 9, 2) := by decide +kernel
theorem dX12_less_27 : decode cX12_less 27 = .ok (.lload 7, 2) := by decide +kernel
theorem dX12_less_29 : decode cX12_less 29 = .ok (.lconst 0, 1) := by decide +kernel
theorem dX12_less_30 : decode cX12_less 30 = .ok (.lcmp, 1) := by decide +kernel
theorem dX12_less_31 : decode cX12_less 31 = .ok (.ifCond .ne 7, 3) := by decide +kernel
theorem dX12_less_34 : decode cX12_less 34 = .ok (.lconst 1, 1) := by decide +kernel
theorem dX12_less_35 : decode cX12_less 35 = .ok (.goto 5, 3) := by decide +kernel
theorem dX12_less_38 : decode cX12_less 38 = .ok (.lload 7, 2) := by decide +kernel
theorem dX12_less_40 : decode cX12_less 40 = .ok (.lstore 7, 2) := by decide +kernel
theorem dX12_less_42 : decode cX12_less 42 = .ok (.lload 9, 2) := by decide +kernel
theorem dX12_less_44 : decode cX12_less 44 = .ok (.lconst 0, 1) := by decide +kernel
theorem dX12_less_45 : decode cX12_less 45 = .ok (.lcmp, 1) := by decide +kernel
theorem dX12_less_46 : decode cX12_less 46 = .ok (.ifCond .ne 7, 3) := by decide +kernel
theorem dX12_less_49 : decode cX12_less 49 = .ok (.lconst 1, 1) := by decide +kernel
theorem dX12_less_50 : decode cX12_less 50 = .ok (.goto 5, 3) := by decide +kernel
theorem dX12_less_53 : decode cX12_less 53 = .ok (.lload 9, 2) := by decide +kernel
theorem dX12_less_55 : decode cX12_less 55 = .ok (.lstore 9, 2) := by decide +kernel
theorem dX12_less_57 : decode cX12_less 57 = .ok (.lload_n 2, 1) := by decide +kernel
theorem dX12_less_58 : decode cX12_less 58 = .ok (.lload 7, 2) := by decide +kernel
theorem dX12_less_60 : decode cX12_less 60 = .ok (.ldiv, 1) := by decide +kernel
theorem dX12_less_61 : decode cX12_less 61 = .ok (.aload_n 0, 1) := by decide +kernel
theorem dX12_less_62 : decode cX12_less 62 = .ok (.getfield 257, 3) := by decide +kernel
theorem dX12_less_65 : decode cX12_less 65 = .ok (.iload 6, 2) := by decide +kernel
theorem dX12_less_67 : decode cX12_less 67 = .ok (.laload, 1) := by decide +kernel
theorem dX12_less_68 : decode cX12_less 68 = .ok (.lload 9, 2) := by decide +kernel
theorem dX12_less_70 : decode cX12_less 70 = .ok (.ldiv, 1) := by decide +kernel
theorem dX12_less_71 : decode cX12_less 71 = .ok (.lmul, 1) := by decide +kernel
theorem dX12_less_72 : decode cX12_less 72 = .ok (.lstore 11, 2) := by decide +kernel
theorem dX12_less_74 : decode cX12_less 74 = .ok (.lload 4, 2) := by decide +kernel
theorem dX12_less_76 : decode cX12_less 76 = .ok (.lload 9, 2) := by decide +kernel
theorem dX12_less_78 : decode cX12_less 78 = .ok (.ldiv, 1) := by decide +kernel
theorem dX12_less_79 : decode cX12_less 79 = .ok (.aload_n 0, 1) := by decide +kernel
theorem dX12_less_80 : decode cX12_less 80 = .ok (.getfield 260, 3) := by decide +kernel
theorem dX12_less_83 : decode cX12_less 83 = .ok (.iload 6, 2) := by decide +kernel
theorem dX12_less_85 : decode cX12_less 85 = .ok (.laload, 1) := by decide +kernel
theorem dX12_less_86 : decode cX12_less 86 = .ok (.lload 7, 2) := by decide +kernel
theorem dX12_less_88 : decode cX12_less 88 = .ok (.ldiv, 1) := by decide +kernel
theorem dX12_less_89 : decode cX12_less 89 = .ok (.lmul, 1) := by decide +kernel
theorem dX12_less_90 : decode cX12_less 90 = .ok (.lstore 13, 2) := by decide +kernel
theorem dX12_less_92 : decode cX12_less 92 = .ok (.aload_n 0, 1) := by decide +kernel
theorem dX12_less_93 : decode cX12_less 93 = .ok (.getfield 260, 3) := by decide +kernel
theorem dX12_less_96 : decode cX12_less 96 = .ok (.iload_n 1, 1) := by decide +kernel
theorem dX12_less_97 : decode cX12_less 97 = .ok (.laload, 1) := by decide +kernel
theorem dX12_less_98 : decode cX12_less 98 = .ok (.lload 13, 2) := by decide +kernel
theorem dX12_less_100 : decode cX12_less 100 = .ok (.invokestatic 734, 3) := by decide +kernel
theorem dX12_less_103 : decode cX12_less 103 = .ok (.lstore 15, 2) := by decide +kernel
theorem dX12_less_105 : decode cX12_less 105 = .ok (.aload_n 0, 1) := by decide +kernel
theorem dX12_less_106 : decode cX12_less 106 = .ok (.iload_n 1, 1) := by decide +kernel
theorem dX12_less_107 : decode cX12_less 107 = .ok (.aload_n 0, 1) := by decide +kernel
theorem dX12_less_108 : decode cX12_less 108 = .ok (.getfield 257, 3) := by decide +kernel
theorem dX12_less_111 : decode cX12_less 111 = .ok (.iload_n 1, 1) := by decide +kernel
theorem dX12_less_112 : decode cX12_less 112 = .ok (.laload, 1) := by decide +kernel
theorem dX12_less_113 : decode cX12_less 113 = .ok (.lload 13, 2) := by decide +kernel
theorem dX12_less_115 : decode cX12_less 115 = .ok (.lload 15, 2) := by decide +kernel
theorem dX12_less_117 : decode cX12_less 117 = .ok (.ldiv, 1) := by decide +kernel
theorem dX12_less_118 : decode cX12_less 118 = .ok (.lmul, 1) := by decide +kernel
theorem dX12_less_119 : decode cX12_less 119 = .ok (.lload 11, 2) := by decide +kernel
theorem dX12_less_121 : decode cX12_less 121 = .ok (.aload_n 0, 1) := by decide +kernel
theorem dX12_less_122 : decode cX12_less 122 = .ok (.getfield 260, 3) := by decide +kernel
theorem dX12_less_125 : decode cX12_less 125 = .ok (.iload_n 1, 1) := by decide +kernel
theorem dX12_less_126 : decode cX12_less 126 = .ok (.laload, 1) := by decide +kernel
theorem dX12_less_127 : decode cX12_less 127 = .ok (.lload 15, 2) := by decide +kernel
theorem dX12_less_129 : decode cX12_less 129 = .ok (.ldiv, 1) := by decide +kernel
theorem dX12_less_130 : decode cX12_less 130 = .ok (.lmul, 1) := by decide +kernel
theorem dX12_less_131 : decode cX12_less 131 = .ok (.lsub, 1) := by decide +kernel
theorem dX12_less_132 : decode cX12_less 132 = .ok (.aload_n 0, 1) := by decide +kernel
theorem dX12_less_133 : decode cX12_less 133 = .ok (.getfield 260, 3) := by decide +kernel
theorem dX12_less_136 : decode cX12_less 136 = .ok (.iload_n 1, 1) := by decide +kernel
theorem dX12_less_137 : decode cX12_less 137 = .ok (.laload, 1) := by decide +kernel
theorem dX12_less_138 : decode cX12_less 138 = .ok (.lload 15, 2) := by decide +kernel
theorem dX12_less_140 : decode cX12_less 140 = .ok (.ldiv, 1) := by decide +kernel
theorem dX12_less_141 : decode cX12_less 141 = .ok (.lload 13, 2) := by decide +kernel
theorem dX12_less_143 : decode cX12_less 143 = .ok (.lmul, 1) := by decide +kernel
theorem dX12_less_144 : decode cX12_less 144 = .ok (.invokevirtual 737, 3) := by decide +kernel
theorem dX12_less_147 : decode cX12_less 147 = .ok (.return_, 1) := by decide +kernel
theorem dX12_liftRow_0 : decode cX12_liftRow 0 = .ok (.iconst 0, 1) := by decide +kernel
theorem dX12_liftRow_1 : decode cX12_liftRow 1 = .ok (.istore_n 2, 1) := by decide +kernel
theorem dX12_liftRow_2 : decode cX12_liftRow 2 = .ok (.iload_n 2, 1) := by decide +kernel
theorem dX12_liftRow_3 : decode cX12_liftRow 3 = .ok (.bipush 8, 2) := by decide +kernel
theorem dX12_liftRow_5 : decode cX12_liftRow 5 = .ok (.if_icmp .ge 115, 3) := by decide +kernel
theorem dX12_liftRow_8 : decode cX12_liftRow 8 = .ok (.aload_n 0, 1) := by decide +kernel
theorem dX12_liftRow_9 : decode cX12_liftRow 9 = .ok (.getfield 257, 3) := by decide +kernel
theorem dX12_liftRow_12 : decode cX12_liftRow 12 = .ok (.bipush 8, 2) := by decide +kernel
theorem dX12_liftRow_14 : decode cX12_liftRow 14 = .ok (.iload_n 1, 1) := by decide +kernel
theorem dX12_liftRow_15 : decode cX12_liftRow 15 = .ok (.imul, 1) := by decide +kernel
theorem dX12_liftRow_16 : decode cX12_liftRow 16 = .ok (.iload_n 2, 1) := by decide +kernel
theorem dX12_liftRow_17 : decode cX12_liftRow 17 = .ok (.iadd, 1) := by decide +kernel
theorem dX12_liftRow_18 : decode cX12_liftRow 18 = .ok (.laload, 1) := by decide +kernel
theorem dX12_liftRow_19 : decode cX12_liftRow 19 = .ok (.lstore_n 3, 1) := by decide +kernel
theorem dX12_liftRow_20 : decode cX12_liftRow 20 = .ok (.aload_n 0, 1) := by decide +kernel
theorem dX12_liftRow_21 : decode cX12_liftRow 21 = .ok (.getfield 260, 3) := by decide +kernel
theorem dX12_liftRow_24 : decode cX12_liftRow 24 = .ok (.bipush 8, 2) := by decide +kernel
theorem dX12_liftRow_26 : decode cX12_liftRow 26 = .ok (.iload_n 1, 1) := by decide +kernel
theorem dX12_liftRow_27 : decode cX12_liftRow 27 = .ok (.imul, 1) := by decide +kernel
theorem dX12_liftRow_28 : decode cX12_liftRow 28 = .ok (.iload_n 2, 1) := by decide +kernel
theorem dX12_liftRow_29 : decode cX12_liftRow 29 = .ok (.iadd, 1) := by decide +kernel
theorem dX12_liftRow_30 : decode cX12_liftRow 30 = .ok (.laload, 1) := by decide +kernel
theorem dX12_liftRow_31 : decode cX12_liftRow 31 = .ok (.lstore 5, 2) := by decide +kernel
theorem dX12_liftRow_33 : decode cX12_liftRow 33 = .ok (.aload_n 0, 1) := by decide +kernel
theorem dX12_liftRow_34 : decode cX12_liftRow 34 = .ok (.getfield 257, 3) := by decide +kernel
theorem dX12_liftRow_37 : decode cX12_liftRow 37 = .ok (.bipush 8, 2) := by decide +kernel
theorem dX12_liftRow_39 : decode cX12_liftRow 39 = .ok (.iload_n 1, 1) := by decide +kernel
theorem dX12_liftRow_40 : decode cX12_liftRow 40 = .ok (.imul, 1) := by decide +kernel
theorem dX12_liftRow_41 : decode cX12_liftRow 41 = .ok (.iload_n 2, 1) := by decide +kernel
theorem dX12_liftRow_42 : decode cX12_liftRow 42 = .ok (.iadd, 1) := by decide +kernel
theorem dX12_liftRow_43 : decode cX12_liftRow 43 = .ok (.aload_n 0, 1) := by decide +kernel
theorem dX12_liftRow_44 : decode cX12_liftRow 44 = .ok (.getfield 257, 3) := by decide +kernel
theorem dX12_liftRow_47 : decode cX12_liftRow 47 = .ok (.bipush 8, 2) := by decide +kernel
theorem dX12_liftRow_49 : decode cX12_liftRow 49 = .ok (.aload_n 0, 1) := by decide +kernel
theorem dX12_liftRow_50 : decode cX12_liftRow 50 = .ok (.getfield 741, 3) := by decide +kernel
theorem dX12_liftRow_53 : decode cX12_liftRow 53 = .ok (.imul, 1) := by decide +kernel
theorem dX12_liftRow_54 : decode cX12_liftRow 54 = .ok (.iload_n 2, 1) := by decide +kernel
theorem dX12_liftRow_55 : decode cX12_liftRow 55 = .ok (.iadd, 1) := by decide +kernel
theorem dX12_liftRow_56 : decode cX12_liftRow 56 = .ok (.laload, 1) := by decide +kernel
theorem dX12_liftRow_57 : decode cX12_liftRow 57 = .ok (.lastore, 1) := by decide +kernel
theorem dX12_liftRow_58 : decode cX12_liftRow 58 = .ok (.aload_n 0, 1) := by decide +kernel
theorem dX12_liftRow_59 : decode cX12_liftRow 59 = .ok (.getfield 260, 3) := by decide +kernel
theorem dX12_liftRow_62 : decode cX12_liftRow 62 = .ok (.bipush 8, 2) := by decide +kernel
theorem dX12_liftRow_64 : decode cX12_liftRow 64 = .ok (.iload_n 1, 1) := by decide +kernel
theorem dX12_liftRow_65 : decode cX12_liftRow 65 = .ok (.imul, 1) := by decide +kernel
theorem dX12_liftRow_66 : decode cX12_liftRow 66 = .ok (.iload_n 2, 1) := by decide +kernel
theorem dX12_liftRow_67 : decode cX12_liftRow 67 = .ok (.iadd, 1) := by decide +kernel
theorem dX12_liftRow_68 : decode cX12_liftRow 68 = .ok (.aload_n 0, 1) := by decide +kernel
theorem dX12_liftRow_69 : decode cX12_liftRow 69 = .ok (.getfield 260, 3) := by decide +kernel
theorem dX12_liftRow_72 : decode cX12_liftRow 72 = .ok (.bipush 8, 2) := by decide +kernel
theorem dX12_liftRow_74 : decode cX12_liftRow 74 = .ok (.aload_n 0, 1) := by decide +kernel
theorem dX12_liftRow_75 : decode cX12_liftRow 75 = .ok (.getfield 741, 3) := by decide +kernel
theorem dX12_liftRow_78 : decode cX12_liftRow 78 = .ok (.imul, 1) := by decide +kernel
theorem dX12_liftRow_79 : decode cX12_liftRow 79 = .ok (.iload_n 2, 1) := by decide +kernel
theorem dX12_liftRow_80 : decode cX12_liftRow 80 = .ok (.iadd, 1) := by decide +kernel
theorem dX12_liftRow_81 : decode cX12_liftRow 81 = .ok (.laload, 1) := by decide +kernel
theorem dX12_liftRow_82 : decode cX12_liftRow 82 = .ok (.lastore, 1) := by decide +kernel
theorem dX12_liftRow_83 : decode cX12_liftRow 83 = .ok (.aload_n 0, 1) := by decide +kernel
theorem dX12_liftRow_84 : decode cX12_liftRow 84 = .ok (.getfield 257, 3) := by decide +kernel
theorem dX12_liftRow_87 : decode cX12_liftRow 87 = .ok (.bipush 8, 2) := by decide +kernel
theorem dX12_liftRow_89 : decode cX12_liftRow 89 = .ok (.aload_n 0, 1) := by decide +kernel
theorem dX12_liftRow_90 : decode cX12_liftRow 90 = .ok (.getfield 741, 3) := by decide +kernel
theorem dX12_liftRow_93 : decode cX12_liftRow 93 = .ok (.imul, 1) := by decide +kernel
theorem dX12_liftRow_94 : decode cX12_liftRow 94 = .ok (.iload_n 2, 1) := by decide +kernel
theorem dX12_liftRow_95 : decode cX12_liftRow 95 = .ok (.iadd, 1) := by decide +kernel
theorem dX12_liftRow_96 : decode cX12_liftRow 96 = .ok (.lload_n 3, 1) := by decide +kernel
theorem dX12_liftRow_97 : decode cX12_liftRow 97 = .ok (.lastore, 1) := by decide +kernel
theorem dX12_liftRow_98 : decode cX12_liftRow 98 = .ok (.aload_n 0, 1) := by decide +kernel
theorem dX12_liftRow_99 : decode cX12_liftRow 99 = .ok (.getfield 260, 3) := by decide +kernel
theorem dX12_liftRow_102 : decode cX12_liftRow 102 = .ok (.bipush 8, 2) := by decide +kernel
theorem dX12_liftRow_104 : decode cX12_liftRow 104 = .ok (.aload_n 0, 1) := by decide +kernel
theorem dX12_liftRow_105 : decode cX12_liftRow 105 = .ok (.getfield 741, 3) := by decide +kernel
theorem dX12_liftRow_108 : decode cX12_liftRow 108 = .ok (.imul, 1) := by decide +kernel
theorem dX12_liftRow_109 : decode cX12_liftRow 109 = .ok (.iload_n 2, 1) := by decide +kernel
theorem dX12_liftRow_110 : decode cX12_liftRow 110 = .ok (.iadd, 1) := by decide +kernel
theorem dX12_liftRow_111 : decode cX12_liftRow 111 = .ok (.lload 5, 2) := by decide +kernel
theorem dX12_liftRow_113 : decode cX12_liftRow 113 = .ok (.lastore, 1) := by decide +kernel
theorem dX12_liftRow_114 : decode cX12_liftRow 114 = .ok (.iinc 2 1, 3) := by decide +kernel
theorem dX12_liftRow_117 : decode cX12_liftRow 117 = .ok (.goto (-115), 3) := by decide +kernel
theorem dX12_liftRow_120 : decode cX12_liftRow 120 = .ok (.return_, 1) := by decide +kernel
theorem dX12_clear_0 : decode cX12_clear 0 = .ok (.aload_n 0, 1) := by decide +kernel
theorem dX12_clear_1 : decode cX12_clear 1 = .ok (.getfield 257, 3) := by decide +kernel
theorem dX12_clear_4 : decode cX12_clear 4 = .ok (.bipush 8, 2) := by decide +kernel
theorem dX12_clear_6 : decode cX12_clear 6 = .ok (.aload_n 0, 1) := by decide +kernel
theorem dX12_clear_7 : decode cX12_clear 7 = .ok (.getfield 741, 3) := by decide +kernel
theorem dX12_clear_10 : decode cX12_clear 10 = .ok (.imul, 1) := by decide +kernel
theorem dX12_clear_11 : decode cX12_clear 11 = .ok (.iload_n 1, 1) := by decide +kernel
theorem dX12_clear_12 : decode cX12_clear 12 = .ok (.iadd, 1) := by decide +kernel
theorem dX12_clear_13 : decode cX12_clear 13 = .ok (.laload, 1) := by decide +kernel
theorem dX12_clear_14 : decode cX12_clear 14 = .ok (.lstore_n 2, 1) := by decide +kernel
theorem dX12_clear_15 : decode cX12_clear 15 = .ok (.aload_n 0, 1) := by decide +kernel
theorem dX12_clear_16 : decode cX12_clear 16 = .ok (.getfield 260, 3) := by decide +kernel
theorem dX12_clear_19 : decode cX12_clear 19 = .ok (.bipush 8, 2) := by decide +kernel
theorem dX12_clear_21 : decode cX12_clear 21 = .ok (.aload_n 0, 1) := by decide +kernel
theorem dX12_clear_22 : decode cX12_clear 22 = .ok (.getfield 741, 3) := by decide +kernel
theorem dX12_clear_25 : decode cX12_clear 25 = .ok (.imul, 1) := by decide +kernel
theorem dX12_clear_26 : decode cX12_clear 26 = .ok (.iload_n 1, 1) := by decide +kernel
theorem dX12_clear_27 : decode cX12_clear 27 = .ok (.iadd, 1) := by decide +kernel
theorem dX12_clear_28 : decode cX12_clear 28 = .ok (.laload, 1) := by decide +kernel
theorem dX12_clear_29 : decode cX12_clear 29 = .ok (.lstore 4, 2) := by decide +kernel
theorem dX12_clear_31 : decode cX12_clear 31 = .ok (.iconst 0, 1) := by decide +kernel
theorem dX12_clear_32 : decode cX12_clear 32 = .ok (.istore 6, 2) := by decide +kernel
theorem dX12_clear_34 : decode cX12_clear 34 = .ok (.iload 6, 2) := by decide +kernel
theorem dX12_clear_36 : decode cX12_clear 36 = .ok (.bipush 8, 2) := by decide +kernel
theorem dX12_clear_38 : decode cX12_clear 38 = .ok (.if_icmp .ge 113, 3) := by decide +kernel
theorem dX12_clear_41 : decode cX12_clear 41 = .ok (.aload_n 0, 1) := by decide +kernel
theorem dX12_clear_42 : decode cX12_clear 42 = .ok (.getfield 257, 3) := by decide +kernel
theorem dX12_clear_45 : decode cX12_clear 45 = .ok (.bipush 8, 2) := by decide +kernel
theorem dX12_clear_47 : decode cX12_clear 47 = .ok (.aload_n 0, 1) := by decide +kernel
theorem dX12_clear_48 : decode cX12_clear 48 = .ok (.getfield 741, 3) := by decide +kernel
theorem dX12_clear_51 : decode cX12_clear 51 = .ok (.imul, 1) := by decide +kernel
theorem dX12_clear_52 : decode cX12_clear 52 = .ok (.iload 6, 2) := by decide +kernel
theorem dX12_clear_54 : decode cX12_clear 54 = .ok (.iadd, 1) := by decide +kernel
theorem dX12_clear_55 : decode cX12_clear 55 = .ok (.laload, 1) := by decide +kernel
theorem dX12_clear_56 : decode cX12_clear 56 = .ok (.lload_n 2, 1) := by decide +kernel
theorem dX12_clear_57 : decode cX12_clear 57 = .ok (.invokestatic 734, 3) := by decide +kernel
theorem dX12_clear_60 : decode cX12_clear 60 = .ok (.lstore 7, 2) := by decide +kernel
theorem dX12_clear_62 : decode cX12_clear 62 = .ok (.lload 4, 2) := by decide +kernel
theorem dX12_clear_64 : decode cX12_clear 64 = .ok (.aload_n 0, 1) := by decide +kernel
theorem dX12_clear_65 : decode cX12_clear 65 = .ok (.getfield 260, 3) := by decide +kernel
theorem dX12_clear_68 : decode cX12_clear 68 = .ok (.bipush 8, 2) := by decide +kernel
theorem dX12_clear_70 : decode cX12_clear 70 = .ok (.aload_n 0, 1) := by decide +kernel
theorem dX12_clear_71 : decode cX12_clear 71 = .ok (.getfield 741, 3) := by decide +kernel
theorem dX12_clear_74 : decode cX12_clear 74 = .ok (.imul, 1) := by decide +kernel
theorem dX12_clear_75 : decode cX12_clear 75 = .ok (.iload 6, 2) := by decide +kernel
theorem dX12_clear_77 : decode cX12_clear 77 = .ok (.iadd, 1) := by decide +kernel
theorem dX12_clear_78 : decode cX12_clear 78 = .ok (.laload, 1) := by decide +kernel
theorem dX12_clear_79 : decode cX12_clear 79 = .ok (.invokestatic 734, 3) := by decide +kernel
theorem dX12_clear_82 : decode cX12_clear 82 = .ok (.lstore 9, 2) := by decide +kernel
theorem dX12_clear_84 : decode cX12_clear 84 = .ok (.aload_n 0, 1) := by decide +kernel
theorem dX12_clear_85 : decode cX12_clear 85 = .ok (.bipush 8, 2) := by decide +kernel
theorem dX12_clear_87 : decode cX12_clear 87 = .ok (.aload_n 0, 1) := by decide +kernel
theorem dX12_clear_88 : decode cX12_clear 88 = .ok (.getfield 741, 3) := by decide +kernel
theorem dX12_clear_91 : decode cX12_clear 91 = .ok (.imul, 1) := by decide +kernel
theorem dX12_clear_92 : decode cX12_clear 92 = .ok (.iload 6, 2) := by decide +kernel
theorem dX12_clear_94 : decode cX12_clear 94 = .ok (.iadd, 1) := by decide +kernel
theorem dX12_clear_95 : decode cX12_clear 95 = .ok (.aload_n 0, 1) := by decide +kernel
theorem dX12_clear_96 : decode cX12_clear 96 = .ok (.getfield 257, 3) := by decide +kernel
theorem dX12_clear_99 : decode cX12_clear 99 = .ok (.bipush 8, 2) := by decide +kernel
theorem dX12_clear_101 : decode cX12_clear 101 = .ok (.aload_n 0, 1) := by decide +kernel
theorem dX12_clear_102 : decode cX12_clear 102 = .ok (.getfield 741, 3) := by decide +kernel
theorem dX12_clear_105 : decode cX12_clear 105 = .ok (.imul, 1) := by decide +kernel
theorem dX12_clear_106 : decode cX12_clear 106 = .ok (.iload 6, 2) := by decide +kernel
theorem dX12_clear_108 : decode cX12_clear 108 = .ok (.iadd, 1) := by decide +kernel
theorem dX12_clear_109 : decode cX12_clear 109 = .ok (.laload, 1) := by decide +kernel
theorem dX12_clear_110 : decode cX12_clear 110 = .ok (.lload 7, 2) := by decide +kernel
theorem dX12_clear_112 : decode cX12_clear 112 = .ok (.ldiv, 1) := by decide +kernel
theorem dX12_clear_113 : decode cX12_clear 113 = .ok (.lload 4, 2) := by decide +kernel
theorem dX12_clear_115 : decode cX12_clear 115 = .ok (.lload 9, 2) := by decide +kernel
theorem dX12_clear_117 : decode cX12_clear 117 = .ok (.ldiv, 1) := by decide +kernel
theorem dX12_clear_118 : decode cX12_clear 118 = .ok (.lmul, 1) := by decide +kernel
theorem dX12_clear_119 : decode cX12_clear 119 = .ok (.aload_n 0, 1) := by decide +kernel
theorem dX12_clear_120 : decode cX12_clear 120 = .ok (.getfield 260, 3) := by decide +kernel
theorem dX12_clear_123 : decode cX12_clear 123 = .ok (.bipush 8, 2) := by decide +kernel
theorem dX12_clear_125 : decode cX12_clear 125 = .ok (.aload_n 0, 1) := by decide +kernel
theorem dX12_clear_126 : decode cX12_clear 126 = .ok (.getfield 741, 3) := by decide +kernel
theorem dX12_clear_129 : decode cX12_clear 129 = .ok (.imul, 1) := by decide +kernel
theorem dX12_clear_130 : decode cX12_clear 130 = .ok (.iload 6, 2) := by decide +kernel
theorem dX12_clear_132 : decode cX12_clear 132 = .ok (.iadd, 1) := by decide +kernel
theorem dX12_clear_133 : decode cX12_clear 133 = .ok (.laload, 1) := by decide +kernel
theorem dX12_clear_134 : decode cX12_clear 134 = .ok (.lload 9, 2) := by decide +kernel
theorem dX12_clear_136 : decode cX12_clear 136 = .ok (.ldiv, 1) := by decide +kernel
theorem dX12_clear_137 : decode cX12_clear 137 = .ok (.lload_n 2, 1) := by decide +kernel
theorem dX12_clear_138 : decode cX12_clear 138 = .ok (.lload 7, 2) := by decide +kernel
theorem dX12_clear_140 : decode cX12_clear 140 = .ok (.ldiv, 1) := by decide +kernel
theorem dX12_clear_141 : decode cX12_clear 141 = .ok (.lmul, 1) := by decide +kernel
theorem dX12_clear_142 : decode cX12_clear 142 = .ok (.invokevirtual 737, 3) := by decide +kernel
theorem dX12_clear_145 : decode cX12_clear 145 = .ok (.iinc 6 1, 3) := by decide +kernel
theorem dX12_clear_148 : decode cX12_clear 148 = .ok (.goto (-114), 3) := by decide +kernel
theorem dX12_clear_151 : decode cX12_clear 151 = .ok (.iconst 0, 1) := by decide +kernel
theorem dX12_clear_152 : decode cX12_clear 152 = .ok (.istore 6, 2) := by decide +kernel
theorem dX12_clear_154 : decode cX12_clear 154 = .ok (.iload 6, 2) := by decide +kernel
theorem dX12_clear_156 : decode cX12_clear 156 = .ok (.iconst 3, 1) := by decide +kernel
theorem dX12_clear_157 : decode cX12_clear 157 = .ok (.if_icmp .ge 95, 3) := by decide +kernel
theorem dX12_clear_160 : decode cX12_clear 160 = .ok (.aload_n 0, 1) := by decide +kernel
theorem dX12_clear_161 : decode cX12_clear 161 = .ok (.getfield 257, 3) := by decide +kernel
theorem dX12_clear_164 : decode cX12_clear 164 = .ok (.bipush 8, 2) := by decide +kernel
theorem dX12_clear_166 : decode cX12_clear 166 = .ok (.iload 6, 2) := by decide +kernel
theorem dX12_clear_168 : decode cX12_clear 168 = .ok (.imul, 1) := by decide +kernel
theorem dX12_clear_169 : decode cX12_clear 169 = .ok (.iload_n 1, 1) := by decide +kernel
theorem dX12_clear_170 : decode cX12_clear 170 = .ok (.iadd, 1) := by decide +kernel
theorem dX12_clear_171 : decode cX12_clear 171 = .ok (.laload, 1) := by decide +kernel
theorem dX12_clear_172 : decode cX12_clear 172 = .ok (.lstore 7, 2) := by decide +kernel
theorem dX12_clear_174 : decode cX12_clear 174 = .ok (.aload_n 0, 1) := by decide +kernel
theorem dX12_clear_175 : decode cX12_clear 175 = .ok (.getfield 260, 3) := by decide +kernel
theorem dX12_clear_178 : decode cX12_clear 178 = .ok (.bipush 8, 2) := by decide +kernel
theorem dX12_clear_180 : decode cX12_clear 180 = .ok (.iload 6, 2) := by decide +kernel
theorem dX12_clear_182 : decode cX12_clear 182 = .ok (.imul, 1) := by decide +kernel
theorem dX12_clear_183 : decode cX12_clear 183 = .ok (.iload_n 1, 1) := by decide +kernel
theorem dX12_clear_184 : decode cX12_clear 184 = .ok (.iadd, 1) := by decide +kernel
theorem dX12_clear_185 : decode cX12_clear 185 = .ok (.laload, 1) := by decide +kernel
theorem dX12_clear_186 : decode cX12_clear 186 = .ok (.lstore 9, 2) := by decide +kernel
theorem dX12_clear_188 : decode cX12_clear 188 = .ok (.iconst 0, 1) := by decide +kernel
theorem dX12_clear_189 : decode cX12_clear 189 = .ok (.istore 11, 2) := by decide +kernel
theorem dX12_clear_191 : decode cX12_clear 191 = .ok (.iload 11, 2) := by decide +kernel
theorem dX12_clear_193 : decode cX12_clear 193 = .ok (.bipush 8, 2) := by decide +kernel
theorem dX12_clear_195 : decode cX12_clear 195 = .ok (.if_icmp .ge 51, 3) := by decide +kernel
theorem dX12_clear_198 : decode cX12_clear 198 = .ok (.iload 6, 2) := by decide +kernel
theorem dX12_clear_200 : decode cX12_clear 200 = .ok (.aload_n 0, 1) := by decide +kernel
theorem dX12_clear_201 : decode cX12_clear 201 = .ok (.getfield 741, 3) := by decide +kernel
theorem dX12_clear_204 : decode cX12_clear 204 = .ok (.if_icmp .eq 42, 3) := by decide +kernel
theorem dX12_clear_207 : decode cX12_clear 207 = .ok (.lload 7, 2) := by decide +kernel
theorem dX12_clear_209 : decode cX12_clear 209 = .ok (.lconst 0, 1) := by decide +kernel
theorem dX12_clear_210 : decode cX12_clear 210 = .ok (.lcmp, 1) := by decide +kernel
theorem dX12_clear_211 : decode cX12_clear 211 = .ok (.ifCond .eq 35, 3) := by decide +kernel
theorem dX12_clear_214 : decode cX12_clear 214 = .ok (.aload_n 0, 1) := by decide +kernel
theorem dX12_clear_215 : decode cX12_clear 215 = .ok (.bipush 8, 2) := by decide +kernel
theorem dX12_clear_217 : decode cX12_clear 217 = .ok (.iload 6, 2) := by decide +kernel
theorem dX12_clear_219 : decode cX12_clear 219 = .ok (.imul, 1) := by decide +kernel
theorem dX12_clear_220 : decode cX12_clear 220 = .ok (.iload 11, 2) := by decide +kernel
theorem dX12_clear_222 : decode cX12_clear 222 = .ok (.iadd, 1) := by decide +kernel
theorem dX12_clear_223 : decode cX12_clear 223 = .ok (.lload 7, 2) := by decide +kernel
theorem dX12_clear_225 : decode cX12_clear 225 = .ok (.lload 9, 2) := by decide +kernel
theorem dX12_clear_227 : decode cX12_clear 227 = .ok (.bipush 8, 2) := by decide +kernel
theorem dX12_clear_229 : decode cX12_clear 229 = .ok (.aload_n 0, 1) := by decide +kernel
theorem dX12_clear_230 : decode cX12_clear 230 = .ok (.getfield 741, 3) := by decide +kernel
theorem dX12_clear_233 : decode cX12_clear 233 = .ok (.imul, 1) := by decide +kernel
theorem dX12_clear_234 : decode cX12_clear 234 = .ok (.iload 11, 2) := by decide +kernel
theorem dX12_clear_236 : decode cX12_clear 236 = .ok (.iadd, 1) := by decide +kernel
theorem dX12_clear_237 : decode cX12_clear 237 = .ok (.invokevirtual 744, 3) := by decide +kernel
theorem dX12_clear_240 : decode cX12_clear 240 = .ok (.iinc 11 1, 3) := by decide +kernel
theorem dX12_clear_243 : decode cX12_clear 243 = .ok (.goto (-52), 3) := by decide +kernel
theorem dX12_clear_246 : decode cX12_clear 246 = .ok (.iinc 6 1, 3) := by decide +kernel
theorem dX12_clear_249 : decode cX12_clear 249 = .ok (.goto (-95), 3) := by decide +kernel
theorem dX12_clear_252 : decode cX12_clear 252 = .ok (.aload_n 0, 1) := by decide +kernel
theorem dX12_clear_253 : decode cX12_clear 253 = .ok (.getfield 263, 3) := by decide +kernel
theorem dX12_clear_256 : decode cX12_clear 256 = .ok (.aload_n 0, 1) := by decide +kernel
theorem dX12_clear_257 : decode cX12_clear 257 = .ok (.getfield 741, 3) := by decide +kernel
theorem dX12_clear_260 : decode cX12_clear 260 = .ok (.iload_n 1, 1) := by decide +kernel
theorem dX12_clear_261 : decode cX12_clear 261 = .ok (.iastore, 1) := by decide +kernel
theorem dX12_clear_262 : decode cX12_clear 262 = .ok (.aload_n 0, 1) := by decide +kernel
theorem dX12_clear_263 : decode cX12_clear 263 = .ok (.dup, 1) := by decide +kernel
theorem dX12_clear_264 : decode cX12_clear 264 = .ok (.getfield 741, 3) := by decide +kernel
theorem dX12_clear_267 : decode cX12_clear 267 = .ok (.iconst 1, 1) := by decide +kernel
theorem dX12_clear_268 : decode cX12_clear 268 = .ok (.iadd, 1) := by decide +kernel
theorem dX12_clear_269 : decode cX12_clear 269 = .ok (.putfield 741, 3) := by decide +kernel
theorem dX12_clear_272 : decode cX12_clear 272 = .ok (.return_, 1) := by decide +kernel
theorem dX12_makeWitness_0 : decode cX12_makeWitness 0 = .ok (.lconst 1, 1) := by decide +kernel
theorem dX12_makeWitness_1 : decode cX12_makeWitness 1 = .ok (.lstore_n 2, 1) := by decide +kernel
theorem dX12_makeWitness_2 : decode cX12_makeWitness 2 = .ok (.iconst 0, 1) := by decide +kernel
theorem dX12_makeWitness_3 : decode cX12_makeWitness 3 = .ok (.istore 4, 2) := by decide +kernel
theorem dX12_makeWitness_5 : decode cX12_makeWitness 5 = .ok (.iload 4, 2) := by decide +kernel
theorem dX12_makeWitness_7 : decode cX12_makeWitness 7 = .ok (.iconst 3, 1) := by decide +kernel
theorem dX12_makeWitness_8 : decode cX12_makeWitness 8 = .ok (.if_icmp .ge 37, 3) := by decide +kernel
theorem dX12_makeWitness_11 : decode cX12_makeWitness 11 = .ok (.aload_n 0, 1) := by decide +kernel
theorem dX12_makeWitness_12 : decode cX12_makeWitness 12 = .ok (.getfield 260, 3) := by decide +kernel
theorem dX12_makeWitness_15 : decode cX12_makeWitness 15 = .ok (.bipush 8, 2) := by decide +kernel
theorem dX12_makeWitness_17 : decode cX12_makeWitness 17 = .ok (.iload_n 1, 1) := by decide +kernel
theorem dX12_makeWitness_18 : decode cX12_makeWitness 18 = .ok (.imul, 1) := by decide +kernel
theorem dX12_makeWitness_19 : decode cX12_makeWitness 19 = .ok (.iconst 5, 1) := by decide +kernel
theorem dX12_makeWitness_20 : decode cX12_makeWitness 20 = .ok (.iadd, 1) := by decide +kernel
theorem dX12_makeWitness_21 : decode cX12_makeWitness 21 = .ok (.iload 4, 2) := by decide +kernel
theorem dX12_makeWitness_23 : decode cX12_makeWitness 23 = .ok (.iadd, 1) := by decide +kernel
theorem dX12_makeWitness_24 : decode cX12_makeWitness 24 = .ok (.laload, 1) := by decide +kernel
theorem dX12_makeWitness_25 : decode cX12_makeWitness 25 = .ok (.lstore 5, 2) := by decide +kernel
theorem dX12_makeWitness_27 : decode cX12_makeWitness 27 = .ok (.lload_n 2, 1) := by decide +kernel
theorem dX12_makeWitness_28 : decode cX12_makeWitness 28 = .ok (.lload_n 2, 1) := by decide +kernel
theorem dX12_makeWitness_29 : decode cX12_makeWitness 29 = .ok (.lload 5, 2) := by decide +kernel
theorem dX12_makeWitness_31 : decode cX12_makeWitness 31 = .ok (.invokestatic 734, 3) := by decide +kernel
theorem dX12_makeWitness_34 : decode cX12_makeWitness 34 = .ok (.ldiv, 1) := by decide +kernel
theorem dX12_makeWitness_35 : decode cX12_makeWitness 35 = .ok (.lload 5, 2) := by decide +kernel
theorem dX12_makeWitness_37 : decode cX12_makeWitness 37 = .ok (.lmul, 1) := by decide +kernel
theorem dX12_makeWitness_38 : decode cX12_makeWitness 38 = .ok (.lstore_n 2, 1) := by decide +kernel
theorem dX12_makeWitness_39 : decode cX12_makeWitness 39 = .ok (.iinc 4 1, 3) := by decide +kernel
theorem dX12_makeWitness_42 : decode cX12_makeWitness 42 = .ok (.goto (-37), 3) := by decide +kernel
theorem dX12_makeWitness_45 : decode cX12_makeWitness 45 = .ok (.lconst 0, 1) := by decide +kernel
theorem dX12_makeWitness_46 : decode cX12_makeWitness 46 = .ok (.lstore 4, 2) := by decide +kernel
theorem dX12_makeWitness_48 : decode cX12_makeWitness 48 = .ok (.lconst 0, 1) := by decide +kernel
theorem dX12_makeWitness_49 : decode cX12_makeWitness 49 = .ok (.lstore 6, 2) := by decide +kernel
theorem dX12_makeWitness_51 : decode cX12_makeWitness 51 = .ok (.iconst 0, 1) := by decide +kernel
theorem dX12_makeWitness_52 : decode cX12_makeWitness 52 = .ok (.istore 8, 2) := by decide +kernel
theorem dX12_makeWitness_54 : decode cX12_makeWitness 54 = .ok (.iload 8, 2) := by decide +kernel
theorem dX12_makeWitness_56 : decode cX12_makeWitness 56 = .ok (.iconst 3, 1) := by decide +kernel
theorem dX12_makeWitness_57 : decode cX12_makeWitness 57 = .ok (.if_icmp .ge 82, 3) := by decide +kernel
theorem dX12_makeWitness_60 : decode cX12_makeWitness 60 = .ok (.aload_n 0, 1) := by decide +kernel
theorem dX12_makeWitness_61 : decode cX12_makeWitness 61 = .ok (.getfield 272, 3) := by decide +kernel
theorem dX12_makeWitness_64 : decode cX12_makeWitness 64 = .ok (.iload 8, 2) := by decide +kernel
theorem dX12_makeWitness_66 : decode cX12_makeWitness 66 = .ok (.aload_n 0, 1) := by decide +kernel
theorem dX12_makeWitness_67 : decode cX12_makeWitness 67 = .ok (.getfield 257, 3) := by decide +kernel
theorem dX12_makeWitness_70 : decode cX12_makeWitness 70 = .ok (.bipush 8, 2) := by decide +kernel
theorem dX12_makeWitness_72 : decode cX12_makeWitness 72 = .ok (.iload_n 1, 1) := by decide +kernel
theorem dX12_makeWitness_73 : decode cX12_makeWitness 73 = .ok (.imul, 1) := by decide +kernel
theorem dX12_makeWitness_74 : decode cX12_makeWitness 74 = .ok (.iconst 5, 1) := by decide +kernel
theorem dX12_makeWitness_75 : decode cX12_makeWitness 75 = .ok (.iadd, 1) := by decide +kernel
theorem dX12_makeWitness_76 : decode cX12_makeWitness 76 = .ok (.iload 8, 2) := by decide +kernel
theorem dX12_makeWitness_78 : decode cX12_makeWitness 78 = .ok (.iadd, 1) := by decide +kernel
theorem dX12_makeWitness_79 : decode cX12_makeWitness 79 = .ok (.laload, 1) := by decide +kernel
theorem dX12_makeWitness_80 : decode cX12_makeWitness 80 = .ok (.lload_n 2, 1) := by decide +kernel
theorem dX12_makeWitness_81 : decode cX12_makeWitness 81 = .ok (.aload_n 0, 1) := by decide +kernel
theorem dX12_makeWitness_82 : decode cX12_makeWitness 82 = .ok (.getfield 260, 3) := by decide +kernel
theorem dX12_makeWitness_85 : decode cX12_makeWitness 85 = .ok (.bipush 8, 2) := by decide +kernel
theorem dX12_makeWitness_87 : decode cX12_makeWitness 87 = .ok (.iload_n 1, 1) := by decide +kernel
theorem dX12_makeWitness_88 : decode cX12_makeWitness 88 = .ok (.imul, 1) := by decide +kernel
theorem dX12_makeWitness_89 : decode cX12_makeWitness 89 = .ok (.iconst 5, 1) := by decide +kernel
theorem dX12_makeWitness_90 : decode cX12_makeWitness 90 = .ok (.iadd, 1) := by decide +kernel
theorem dX12_makeWitness_91 : decode cX12_makeWitness 91 = .ok (.iload 8, 2) := by decide +kernel
theorem dX12_makeWitness_93 : decode cX12_makeWitness 93 = .ok (.iadd, 1) := by decide +kernel
theorem dX12_makeWitness_94 : decode cX12_makeWitness 94 = .ok (.laload, 1) := by decide +kernel
theorem dX12_makeWitness_95 : decode cX12_makeWitness 95 = .ok (.ldiv, 1) := by decide +kernel
theorem dX12_makeWitness_96 : decode cX12_makeWitness 96 = .ok (.lmul, 1) := by decide +kernel
theorem dX12_makeWitness_97 : decode cX12_makeWitness 97 = .ok (.lastore, 1) := by decide +kernel
theorem dX12_makeWitness_98 : decode cX12_makeWitness 98 = .ok (.lload 4, 2) := by decide +kernel
theorem dX12_makeWitness_100 : decode cX12_makeWitness 100 = .ok (.aload_n 0, 1) := by decide +kernel
theorem dX12_makeWitness_101 : decode cX12_makeWitness 101 = .ok (.getfield 272, 3) := by decide +kernel
theorem dX12_makeWitness_104 : decode cX12_makeWitness 104 = .ok (.iload 8, 2) := by decide +kernel
theorem dX12_makeWitness_106 : decode cX12_makeWitness 106 = .ok (.laload, 1) := by decide +kernel
theorem dX12_makeWitness_107 : decode cX12_makeWitness 107 = .ok (.invokestatic 734, 3) := by decide +kernel
theorem dX12_makeWitness_110 : decode cX12_makeWitness 110 = .ok (.lstore 4, 2) := by decide +kernel
theorem dX12_makeWitness_112 : decode cX12_makeWitness 112 = .ok (.lload 6, 2) := by decide +kernel
theorem dX12_makeWitness_114 : decode cX12_makeWitness 114 = .ok (.lconst 0, 1) := by decide +kernel
theorem dX12_makeWitness_115 : decode cX12_makeWitness 115 = .ok (.lcmp, 1) := by decide +kernel
theorem dX12_makeWitness_116 : decode cX12_makeWitness 116 = .ok (.ifCond .ne 13, 3) := by decide +kernel
theorem dX12_makeWitness_119 : decode cX12_makeWitness 119 = .ok (.aload_n 0, 1) := by decide +kernel
theorem dX12_makeWitness_120 : decode cX12_makeWitness 120 = .ok (.getfield 272, 3) := by decide +kernel
theorem dX12_makeWitness_123 : decode cX12_makeWitness 123 = .ok (.iload 8, 2) := by decide +kernel
theorem dX12_makeWitness_125 : decode cX12_makeWitness 125 = .ok (.laload, 1) := by decide +kernel
theorem dX12_makeWitness_126 : decode cX12_makeWitness 126 = .ok (.goto 5, 3) := by decide +kernel
theorem dX12_makeWitness_129 : decode cX12_makeWitness 129 = .ok (.lload 6, 2) := by decide +kernel
theorem dX12_makeWitness_131 : decode cX12_makeWitness 131 = .ok (.lstore 6, 2) := by decide +kernel
theorem dX12_makeWitness_133 : decode cX12_makeWitness 133 = .ok (.iinc 8 1, 3) := by decide +kernel
theorem dX12_makeWitness_136 : decode cX12_makeWitness 136 = .ok (.goto (-82), 3) := by decide +kernel
theorem dX12_makeWitness_139 : decode cX12_makeWitness 139 = .ok (.iconst 0, 1) := by decide +kernel
theorem dX12_makeWitness_140 : decode cX12_makeWitness 140 = .ok (.istore 8, 2) := by decide +kernel
theorem dX12_makeWitness_142 : decode cX12_makeWitness 142 = .ok (.iload 8, 2) := by decide +kernel
theorem dX12_makeWitness_144 : decode cX12_makeWitness 144 = .ok (.iconst 3, 1) := by decide +kernel
theorem dX12_makeWitness_145 : decode cX12_makeWitness 145 = .ok (.if_icmp .ge 41, 3) := by decide +kernel
theorem dX12_makeWitness_148 : decode cX12_makeWitness 148 = .ok (.aload_n 0, 1) := by decide +kernel
theorem dX12_makeWitness_149 : decode cX12_makeWitness 149 = .ok (.getfield 272, 3) := by decide +kernel
theorem dX12_makeWitness_152 : decode cX12_makeWitness 152 = .ok (.iload 8, 2) := by decide +kernel
theorem dX12_makeWitness_154 : decode cX12_makeWitness 154 = .ok (.aload_n 0, 1) := by decide +kernel
theorem dX12_makeWitness_155 : decode cX12_makeWitness 155 = .ok (.getfield 272, 3) := by decide +kernel
theorem dX12_makeWitness_158 : decode cX12_makeWitness 158 = .ok (.iload 8, 2) := by decide +kernel
theorem dX12_makeWitness_160 : decode cX12_makeWitness 160 = .ok (.laload, 1) := by decide +kernel
theorem dX12_makeWitness_161 : decode cX12_makeWitness 161 = .ok (.lload 4, 2) := by decide +kernel
theorem dX12_makeWitness_163 : decode cX12_makeWitness 163 = .ok (.ldiv, 1) := by decide +kernel
theorem dX12_makeWitness_164 : decode cX12_makeWitness 164 = .ok (.lload 6, 2) := by decide +kernel
theorem dX12_makeWitness_166 : decode cX12_makeWitness 166 = .ok (.lconst 0, 1) := by decide +kernel
theorem dX12_makeWitness_167 : decode cX12_makeWitness 167 = .ok (.lcmp, 1) := by decide +kernel
theorem dX12_makeWitness_168 : decode cX12_makeWitness 168 = .ok (.ifCond .ge 9, 3) := by decide +kernel
theorem dX12_makeWitness_171 : decode cX12_makeWitness 171 = .ok (.ldc2_w 634, 3) := by decide +kernel
theorem dX12_makeWitness_174 : decode cX12_makeWitness 174 = .ok (.goto 4, 3) := by decide +kernel
theorem dX12_makeWitness_177 : decode cX12_makeWitness 177 = .ok (.lconst 1, 1) := by decide +kernel
theorem dX12_makeWitness_178 : decode cX12_makeWitness 178 = .ok (.lmul, 1) := by decide +kernel
theorem dX12_makeWitness_179 : decode cX12_makeWitness 179 = .ok (.lastore, 1) := by decide +kernel
theorem dX12_makeWitness_180 : decode cX12_makeWitness 180 = .ok (.iinc 8 1, 3) := by decide +kernel
theorem dX12_makeWitness_183 : decode cX12_makeWitness 183 = .ok (.goto (-41), 3) := by decide +kernel
theorem dX12_makeWitness_186 : decode cX12_makeWitness 186 = .ok (.return_, 1) := by decide +kernel
theorem dX12_work_0 : decode cX12_work 0 = .ok (.iconst 0, 1) := by decide +kernel
theorem dX12_work_1 : decode cX12_work 1 = .ok (.istore_n 1, 1) := by decide +kernel
theorem dX12_work_2 : decode cX12_work 2 = .ok (.iload_n 1, 1) := by decide +kernel
theorem dX12_work_3 : decode cX12_work 3 = .ok (.iconst 3, 1) := by decide +kernel
theorem dX12_work_4 : decode cX12_work 4 = .ok (.if_icmp .ge 105, 3) := by decide +kernel
theorem dX12_work_7 : decode cX12_work 7 = .ok (.iconst 0, 1) := by decide +kernel
theorem dX12_work_8 : decode cX12_work 8 = .ok (.istore_n 2, 1) := by decide +kernel
theorem dX12_work_9 : decode cX12_work 9 = .ok (.iload_n 2, 1) := by decide +kernel
theorem dX12_work_10 : decode cX12_work 10 = .ok (.bipush 8, 2) := by decide +kernel
theorem dX12_work_12 : decode cX12_work 12 = .ok (.if_icmp .ge 91, 3) := by decide +kernel
theorem dX12_work_15 : decode cX12_work 15 = .ok (.aload_n 0, 1) := by decide +kernel
theorem dX12_work_16 : decode cX12_work 16 = .ok (.getfield 257, 3) := by decide +kernel
theorem dX12_work_19 : decode cX12_work 19 = .ok (.bipush 8, 2) := by decide +kernel
theorem dX12_work_21 : decode cX12_work 21 = .ok (.iload_n 1, 1) := by decide +kernel
theorem dX12_work_22 : decode cX12_work 22 = .ok (.imul, 1) := by decide +kernel
theorem dX12_work_23 : decode cX12_work 23 = .ok (.iload_n 2, 1) := by decide +kernel
theorem dX12_work_24 : decode cX12_work 24 = .ok (.iadd, 1) := by decide +kernel
theorem dX12_work_25 : decode cX12_work 25 = .ok (.iload_n 2, 1) := by decide +kernel
theorem dX12_work_26 : decode cX12_work 26 = .ok (.iconst 4, 1) := by decide +kernel
theorem dX12_work_27 : decode cX12_work 27 = .ok (.if_icmp .ge 17, 3) := by decide +kernel
theorem dX12_work_30 : decode cX12_work 30 = .ok (.aload_n 0, 1) := by decide +kernel
theorem dX12_work_31 : decode cX12_work 31 = .ok (.getfield 254, 3) := by decide +kernel
theorem dX12_work_34 : decode cX12_work 34 = .ok (.iconst 3, 1) := by decide +kernel
theorem dX12_work_35 : decode cX12_work 35 = .ok (.iload_n 2, 1) := by decide +kernel
theorem dX12_work_36 : decode cX12_work 36 = .ok (.imul, 1) := by decide +kernel
theorem dX12_work_37 : decode cX12_work 37 = .ok (.iload_n 1, 1) := by decide +kernel
theorem dX12_work_38 : decode cX12_work 38 = .ok (.iadd, 1) := by decide +kernel
theorem dX12_work_39 : decode cX12_work 39 = .ok (.iaload, 1) := by decide +kernel
theorem dX12_work_40 : decode cX12_work 40 = .ok (.i2l, 1) := by decide +kernel
theorem dX12_work_41 : decode cX12_work 41 = .ok (.goto 43, 3) := by decide +kernel
theorem dX12_work_44 : decode cX12_work 44 = .ok (.iload_n 2, 1) := by decide +kernel
theorem dX12_work_45 : decode cX12_work 45 = .ok (.iconst 4, 1) := by decide +kernel
theorem dX12_work_46 : decode cX12_work 46 = .ok (.if_icmp .ne 26, 3) := by decide +kernel
theorem dX12_work_49 : decode cX12_work 49 = .ok (.aload_n 0, 1) := by decide +kernel
theorem dX12_work_50 : decode cX12_work 50 = .ok (.getfield 254, 3) := by decide +kernel
theorem dX12_work_53 : decode cX12_work 53 = .ok (.bipush 12, 2) := by decide +kernel
theorem dX12_work_55 : decode cX12_work 55 = .ok (.iload_n 1, 1) := by decide +kernel
theorem dX12_work_56 : decode cX12_work 56 = .ok (.iadd, 1) := by decide +kernel
theorem dX12_work_57 : decode cX12_work 57 = .ok (.iaload, 1) := by decide +kernel
theorem dX12_work_58 : decode cX12_work 58 = .ok (.aload_n 0, 1) := by decide +kernel
theorem dX12_work_59 : decode cX12_work 59 = .ok (.getfield 254, 3) := by decide +kernel
theorem dX12_work_62 : decode cX12_work 62 = .ok (.bipush 15, 2) := by decide +kernel
theorem dX12_work_64 : decode cX12_work 64 = .ok (.iload_n 1, 1) := by decide +kernel
theorem dX12_work_65 : decode cX12_work 65 = .ok (.iadd, 1) := by decide +kernel
theorem dX12_work_66 : decode cX12_work 66 = .ok (.iaload, 1) := by decide +kernel
theorem dX12_work_67 : decode cX12_work 67 = .ok (.isub, 1) := by decide +kernel
theorem dX12_work_68 : decode cX12_work 68 = .ok (.i2l, 1) := by decide +kernel
theorem dX12_work_69 : decode cX12_work 69 = .ok (.goto 15, 3) := by decide +kernel
theorem dX12_work_72 : decode cX12_work 72 = .ok (.iload_n 2, 1) := by decide +kernel
theorem dX12_work_73 : decode cX12_work 73 = .ok (.iconst 5, 1) := by decide +kernel
theorem dX12_work_74 : decode cX12_work 74 = .ok (.isub, 1) := by decide +kernel
theorem dX12_work_75 : decode cX12_work 75 = .ok (.iload_n 1, 1) := by decide +kernel
theorem dX12_work_76 : decode cX12_work 76 = .ok (.if_icmp .ne 7, 3) := by decide +kernel
theorem dX12_work_79 : decode cX12_work 79 = .ok (.lconst 1, 1) := by decide +kernel
theorem dX12_work_80 : decode cX12_work 80 = .ok (.goto 4, 3) := by decide +kernel
theorem dX12_work_83 : decode cX12_work 83 = .ok (.lconst 0, 1) := by decide +kernel
theorem dX12_work_84 : decode cX12_work 84 = .ok (.lastore, 1) := by decide +kernel
theorem dX12_work_85 : decode cX12_work 85 = .ok (.aload_n 0, 1) := by decide +kernel
theorem dX12_work_86 : decode cX12_work 86 = .ok (.getfield 260, 3) := by decide +kernel
theorem dX12_work_89 : decode cX12_work 89 = .ok (.bipush 8, 2) := by decide +kernel
theorem dX12_work_91 : decode cX12_work 91 = .ok (.iload_n 1, 1) := by decide +kernel
theorem dX12_work_92 : decode cX12_work 92 = .ok (.imul, 1) := by decide +kernel
theorem dX12_work_93 : decode cX12_work 93 = .ok (.iload_n 2, 1) := by decide +kernel
theorem dX12_work_94 : decode cX12_work 94 = .ok (.iadd, 1) := by decide +kernel
theorem dX12_work_95 : decode cX12_work 95 = .ok (.lconst 1, 1) := by decide +kernel
theorem dX12_work_96 : decode cX12_work 96 = .ok (.lastore, 1) := by decide +kernel
theorem dX12_work_97 : decode cX12_work 97 = .ok (.iinc 2 1, 3) := by decide +kernel
theorem dX12_work_100 : decode cX12_work 100 = .ok (.goto (-91), 3) := by decide +kernel
theorem dX12_work_103 : decode cX12_work 103 = .ok (.iinc 1 1, 3) := by decide +kernel
theorem dX12_work_106 : decode cX12_work 106 = .ok (.goto (-104), 3) := by decide +kernel
theorem dX12_work_109 : decode cX12_work 109 = .ok (.aload_n 0, 1) := by decide +kernel
theorem dX12_work_110 : decode cX12_work 110 = .ok (.iconst 0, 1) := by decide +kernel
theorem dX12_work_111 : decode cX12_work 111 = .ok (.putfield 741, 3) := by decide +kernel
theorem dX12_work_114 : decode cX12_work 114 = .ok (.iconst 0, 1) := by decide +kernel
theorem dX12_work_115 : decode cX12_work 115 = .ok (.istore_n 1, 1) := by decide +kernel
theorem dX12_work_116 : decode cX12_work 116 = .ok (.iload_n 1, 1) := by decide +kernel
theorem dX12_work_117 : decode cX12_work 117 = .ok (.iconst 4, 1) := by decide +kernel
theorem dX12_work_118 : decode cX12_work 118 = .ok (.if_icmp .ge 56, 3) := by decide +kernel
theorem dX12_work_121 : decode cX12_work 121 = .ok (.aload_n 0, 1) := by decide +kernel
theorem dX12_work_122 : decode cX12_work 122 = .ok (.getfield 741, 3) := by decide +kernel
theorem dX12_work_125 : decode cX12_work 125 = .ok (.istore_n 2, 1) := by decide +kernel
theorem dX12_work_126 : decode cX12_work 126 = .ok (.iload_n 2, 1) := by decide +kernel
theorem dX12_work_127 : decode cX12_work 127 = .ok (.iconst 3, 1) := by decide +kernel
theorem dX12_work_128 : decode cX12_work 128 = .ok (.if_icmp .ge 25, 3) := by decide +kernel
theorem dX12_work_131 : decode cX12_work 131 = .ok (.aload_n 0, 1) := by decide +kernel
theorem dX12_work_132 : decode cX12_work 132 = .ok (.getfield 257, 3) := by decide +kernel
theorem dX12_work_135 : decode cX12_work 135 = .ok (.bipush 8, 2) := by decide +kernel
theorem dX12_work_137 : decode cX12_work 137 = .ok (.iload_n 2, 1) := by decide +kernel
theorem dX12_work_138 : decode cX12_work 138 = .ok (.imul, 1) := by decide +kernel
theorem dX12_work_139 : decode cX12_work 139 = .ok (.iload_n 1, 1) := by decide +kernel
theorem dX12_work_140 : decode cX12_work 140 = .ok (.iadd, 1) := by decide +kernel
theorem dX12_work_141 : decode cX12_work 141 = .ok (.laload, 1) := by decide +kernel
theorem dX12_work_142 : decode cX12_work 142 = .ok (.lconst 0, 1) := by decide +kernel
theorem dX12_work_143 : decode cX12_work 143 = .ok (.lcmp, 1) := by decide +kernel
theorem dX12_work_144 : decode cX12_work 144 = .ok (.ifCond .ne 9, 3) := by decide +kernel
theorem dX12_work_147 : decode cX12_work 147 = .ok (.iinc 2 1, 3) := by decide +kernel
theorem dX12_work_150 : decode cX12_work 150 = .ok (.goto (-24), 3) := by decide +kernel
theorem dX12_work_153 : decode cX12_work 153 = .ok (.iload_n 2, 1) := by decide +kernel
theorem dX12_work_154 : decode cX12_work 154 = .ok (.iconst 3, 1) := by decide +kernel
theorem dX12_work_155 : decode cX12_work 155 = .ok (.if_icmp .ge 13, 3) := by decide +kernel
theorem dX12_work_158 : decode cX12_work 158 = .ok (.aload_n 0, 1) := by decide +kernel
theorem dX12_work_159 : decode cX12_work 159 = .ok (.iload_n 2, 1) := by decide +kernel
theorem dX12_work_160 : decode cX12_work 160 = .ok (.invokevirtual 748, 3) := by decide +kernel
theorem dX12_work_163 : decode cX12_work 163 = .ok (.aload_n 0, 1) := by decide +kernel
theorem dX12_work_164 : decode cX12_work 164 = .ok (.iload_n 1, 1) := by decide +kernel
theorem dX12_work_165 : decode cX12_work 165 = .ok (.invokevirtual 751, 3) := by decide +kernel
theorem dX12_work_168 : decode cX12_work 168 = .ok (.iinc 1 1, 3) := by decide +kernel
theorem dX12_work_171 : decode cX12_work 171 = .ok (.goto (-55), 3) := by decide +kernel
theorem dX12_work_174 : decode cX12_work 174 = .ok (.aload_n 0, 1) := by decide +kernel
theorem dX12_work_175 : decode cX12_work 175 = .ok (.iconst 1, 1) := by decide +kernel
theorem dX12_work_176 : decode cX12_work 176 = .ok (.putfield 754, 3) := by decide +kernel
theorem dX12_work_179 : decode cX12_work 179 = .ok (.aload_n 0, 1) := by decide +kernel
theorem dX12_work_180 : decode cX12_work 180 = .ok (.iconst 0, 1) := by decide +kernel
theorem dX12_work_181 : decode cX12_work 181 = .ok (.putfield 758, 3) := by decide +kernel
theorem dX12_work_184 : decode cX12_work 184 = .ok (.aload_n 0, 1) := by decide +kernel
theorem dX12_work_185 : decode cX12_work 185 = .ok (.getfield 741, 3) := by decide +kernel
theorem dX12_work_188 : decode cX12_work 188 = .ok (.istore_n 1, 1) := by decide +kernel
theorem dX12_work_189 : decode cX12_work 189 = .ok (.iload_n 1, 1) := by decide +kernel
theorem dX12_work_190 : decode cX12_work 190 = .ok (.iconst 3, 1) := by decide +kernel
theorem dX12_work_191 : decode cX12_work 191 = .ok (.if_icmp .ge 42, 3) := by decide +kernel
theorem dX12_work_194 : decode cX12_work 194 = .ok (.aload_n 0, 1) := by decide +kernel
theorem dX12_work_195 : decode cX12_work 195 = .ok (.getfield 758, 3) := by decide +kernel
theorem dX12_work_198 : decode cX12_work 198 = .ok (.ifCond .ne 35, 3) := by decide +kernel
theorem dX12_work_201 : decode cX12_work 201 = .ok (.aload_n 0, 1) := by decide +kernel
theorem dX12_work_202 : decode cX12_work 202 = .ok (.getfield 257, 3) := by decide +kernel
theorem dX12_work_205 : decode cX12_work 205 = .ok (.bipush 8, 2) := by decide +kernel
theorem dX12_work_207 : decode cX12_work 207 = .ok (.iload_n 1, 1) := by decide +kernel
theorem dX12_work_208 : decode cX12_work 208 = .ok (.imul, 1) := by decide +kernel
theorem dX12_work_209 : decode cX12_work 209 = .ok (.iconst 4, 1) := by decide +kernel
theorem dX12_work_210 : decode cX12_work 210 = .ok (.iadd, 1) := by decide +kernel
theorem dX12_work_211 : decode cX12_work 211 = .ok (.laload, 1) := by decide +kernel
theorem dX12_work_212 : decode cX12_work 212 = .ok (.lconst 0, 1) := by decide +kernel
theorem dX12_work_213 : decode cX12_work 213 = .ok (.lcmp, 1) := by decide +kernel
theorem dX12_work_214 : decode cX12_work 214 = .ok (.ifCond .eq 13, 3) := by decide +kernel
theorem dX12_work_217 : decode cX12_work 217 = .ok (.aload_n 0, 1) := by decide +kernel
theorem dX12_work_218 : decode cX12_work 218 = .ok (.iconst 1, 1) := by decide +kernel
theorem dX12_work_219 : decode cX12_work 219 = .ok (.putfield 758, 3) := by decide +kernel
theorem dX12_work_222 : decode cX12_work 222 = .ok (.aload_n 0, 1) := by decide +kernel
theorem dX12_work_223 : decode cX12_work 223 = .ok (.iload_n 1, 1) := by decide +kernel
theorem dX12_work_224 : decode cX12_work 224 = .ok (.invokevirtual 761, 3) := by decide +kernel
theorem dX12_work_227 : decode cX12_work 227 = .ok (.iinc 1 1, 3) := by decide +kernel
theorem dX12_work_230 : decode cX12_work 230 = .ok (.goto (-41), 3) := by decide +kernel
theorem dX12_work_233 : decode cX12_work 233 = .ok (.aload_n 0, 1) := by decide +kernel
theorem dX12_work_234 : decode cX12_work 234 = .ok (.getfield 758, 3) := by decide +kernel
theorem dX12_work_237 : decode cX12_work 237 = .ok (.ifCond .eq 5, 3) := by decide +kernel
theorem dX12_work_240 : decode cX12_work 240 = .ok (.iconst 0, 1) := by decide +kernel
theorem dX12_work_241 : decode cX12_work 241 = .ok (.ireturn, 1) := by decide +kernel
theorem dX12_work_242 : decode cX12_work 242 = .ok (.iconst 0, 1) := by decide +kernel
theorem dX12_work_243 : decode cX12_work 243 = .ok (.istore_n 1, 1) := by decide +kernel
theorem dX12_work_244 : decode cX12_work 244 = .ok (.iconst 0, 1) := by decide +kernel
theorem dX12_work_245 : decode cX12_work 245 = .ok (.istore_n 2, 1) := by decide +kernel
theorem dX12_work_246 : decode cX12_work 246 = .ok (.iload_n 2, 1) := by decide +kernel
theorem dX12_work_247 : decode cX12_work 247 = .ok (.iconst 4, 1) := by decide +kernel
theorem dX12_work_248 : decode cX12_work 248 = .ok (.if_icmp .ge 23, 3) := by decide +kernel
theorem dX12_work_251 : decode cX12_work 251 = .ok (.aload_n 0, 1) := by decide +kernel
theorem dX12_work_252 : decode cX12_work 252 = .ok (.getfield 266, 3) := by decide +kernel
theorem dX12_work_255 : decode cX12_work 255 = .ok (.iload_n 2, 1) := by decide +kernel
theorem dX12_work_256 : decode cX12_work 256 = .ok (.lconst 0, 1) := by decide +kernel
theorem dX12_work_257 : decode cX12_work 257 = .ok (.lastore, 1) := by decide +kernel
theorem dX12_work_258 : decode cX12_work 258 = .ok (.aload_n 0, 1) := by decide +kernel
theorem dX12_work_259 : decode cX12_work 259 = .ok (.getfield 269, 3) := by decide +kernel
theorem dX12_work_262 : decode cX12_work 262 = .ok (.iload_n 2, 1) := by decide +kernel
theorem dX12_work_263 : decode cX12_work 263 = .ok (.lconst 1, 1) := by decide +kernel
theorem dX12_work_264 : decode cX12_work 264 = .ok (.lastore, 1) := by decide +kernel
theorem dX12_work_265 : decode cX12_work 265 = .ok (.iinc 2 1, 3) := by decide +kernel
theorem dX12_work_268 : decode cX12_work 268 = .ok (.goto (-22), 3) := by decide +kernel
theorem dX12_work_271 : decode cX12_work 271 = .ok (.iconst 0, 1) := by decide +kernel
theorem dX12_work_272 : decode cX12_work 272 = .ok (.istore_n 2, 1) := by decide +kernel
theorem dX12_work_273 : decode cX12_work 273 = .ok (.iload_n 2, 1) := by decide +kernel
theorem dX12_work_274 : decode cX12_work 274 = .ok (.aload_n 0, 1) := by decide +kernel
theorem dX12_work_275 : decode cX12_work 275 = .ok (.getfield 741, 3) := by decide +kernel
theorem dX12_work_278 : decode cX12_work 278 = .ok (.if_icmp .ge 79, 3) := by decide +kernel
theorem dX12_work_281 : decode cX12_work 281 = .ok (.aload_n 0, 1) := by decide +kernel
theorem dX12_work_282 : decode cX12_work 282 = .ok (.getfield 266, 3) := by decide +kernel
theorem dX12_work_285 : decode cX12_work 285 = .ok (.aload_n 0, 1) := by decide +kernel
theorem dX12_work_286 : decode cX12_work 286 = .ok (.getfield 263, 3) := by decide +kernel
theorem dX12_work_289 : decode cX12_work 289 = .ok (.iload_n 2, 1) := by decide +kernel
theorem dX12_work_290 : decode cX12_work 290 = .ok (.iaload, 1) := by decide +kernel
theorem dX12_work_291 : decode cX12_work 291 = .ok (.aload_n 0, 1) := by decide +kernel
theorem dX12_work_292 : decode cX12_work 292 = .ok (.getfield 257, 3) := by decide +kernel
theorem dX12_work_295 : decode cX12_work 295 = .ok (.bipush 8, 2) := by decide +kernel
theorem dX12_work_297 : decode cX12_work 297 = .ok (.iload_n 2, 1) := by decide +kernel
theorem dX12_work_298 : decode cX12_work 298 = .ok (.imul, 1) := by decide +kernel
theorem dX12_work_299 : decode cX12_work 299 = .ok (.iconst 4, 1) := by decide +kernel
theorem dX12_work_300 : decode cX12_work 300 = .ok (.iadd, 1) := by decide +kernel
theorem dX12_work_301 : decode cX12_work 301 = .ok (.laload, 1) := by decide +kernel
theorem dX12_work_302 : decode cX12_work 302 = .ok (.lastore, 1) := by decide +kernel
theorem dX12_work_303 : decode cX12_work 303 = .ok (.aload_n 0, 1) := by decide +kernel
theorem dX12_work_304 : decode cX12_work 304 = .ok (.getfield 269, 3) := by decide +kernel
theorem dX12_work_307 : decode cX12_work 307 = .ok (.aload_n 0, 1) := by decide +kernel
theorem dX12_work_308 : decode cX12_work 308 = .ok (.getfield 263, 3) := by decide +kernel
theorem dX12_work_311 : decode cX12_work 311 = .ok (.iload_n 2, 1) := by decide +kernel
theorem dX12_work_312 : decode cX12_work 312 = .ok (.iaload, 1) := by decide +kernel
theorem dX12_work_313 : decode cX12_work 313 = .ok (.aload_n 0, 1) := by decide +kernel
theorem dX12_work_314 : decode cX12_work 314 = .ok (.getfield 260, 3) := by decide +kernel
theorem dX12_work_317 : decode cX12_work 317 = .ok (.bipush 8, 2) := by decide +kernel
theorem dX12_work_319 : decode cX12_work 319 = .ok (.iload_n 2, 1) := by decide +kernel
theorem dX12_work_320 : decode cX12_work 320 = .ok (.imul, 1) := by decide +kernel
theorem dX12_work_321 : decode cX12_work 321 = .ok (.iconst 4, 1) := by decide +kernel
theorem dX12_work_322 : decode cX12_work 322 = .ok (.iadd, 1) := by decide +kernel
theorem dX12_work_323 : decode cX12_work 323 = .ok (.laload, 1) := by decide +kernel
theorem dX12_work_324 : decode cX12_work 324 = .ok (.lastore, 1) := by decide +kernel
theorem dX12_work_325 : decode cX12_work 325 = .ok (.iload_n 1, 1) := by decide +kernel
theorem dX12_work_326 : decode cX12_work 326 = .ok (.ifCond .ne 19, 3) := by decide +kernel
theorem dX12_work_329 : decode cX12_work 329 = .ok (.aload_n 0, 1) := by decide +kernel
theorem dX12_work_330 : decode cX12_work 330 = .ok (.getfield 257, 3) := by decide +kernel
theorem dX12_work_333 : decode cX12_work 333 = .ok (.bipush 8, 2) := by decide +kernel
theorem dX12_work_335 : decode cX12_work 335 = .ok (.iload_n 2, 1) := by decide +kernel
theorem dX12_work_336 : decode cX12_work 336 = .ok (.imul, 1) := by decide +kernel
theorem dX12_work_337 : decode cX12_work 337 = .ok (.iconst 4, 1) := by decide +kernel
theorem dX12_work_338 : decode cX12_work 338 = .ok (.iadd, 1) := by decide +kernel
theorem dX12_work_339 : decode cX12_work 339 = .ok (.laload, 1) := by decide +kernel
theorem dX12_work_340 : decode cX12_work 340 = .ok (.lconst 0, 1) := by decide +kernel
theorem dX12_work_341 : decode cX12_work 341 = .ok (.lcmp, 1) := by decide +kernel
theorem dX12_work_342 : decode cX12_work 342 = .ok (.ifCond .ge 7, 3) := by decide +kernel
theorem dX12_work_345 : decode cX12_work 345 = .ok (.iconst 1, 1) := by decide +kernel
theorem dX12_work_346 : decode cX12_work 346 = .ok (.goto 4, 3) := by decide +kernel
theorem dX12_work_349 : decode cX12_work 349 = .ok (.iconst 0, 1) := by decide +kernel
theorem dX12_work_350 : decode cX12_work 350 = .ok (.istore_n 1, 1) := by decide +kernel
theorem dX12_work_351 : decode cX12_work 351 = .ok (.iinc 2 1, 3) := by decide +kernel
theorem dX12_work_354 : decode cX12_work 354 = .ok (.goto (-81), 3) := by decide +kernel
theorem dX12_work_357 : decode cX12_work 357 = .ok (.iload_n 1, 1) := by decide +kernel
theorem dX12_work_358 : decode cX12_work 358 = .ok (.ifCond .eq 7, 3) := by decide +kernel
theorem dX12_work_361 : decode cX12_work 361 = .ok (.iconst 2, 1) := by decide +kernel
theorem dX12_work_362 : decode cX12_work 362 = .ok (.goto 4, 3) := by decide +kernel
theorem dX12_work_365 : decode cX12_work 365 = .ok (.iconst 1, 1) := by decide +kernel
theorem dX12_work_366 : decode cX12_work 366 = .ok (.ireturn, 1) := by decide +kernel
theorem dX12_worked_0 : decode cX12_worked 0 = .ok (.aload_n 0, 1) := by decide +kernel
theorem dX12_worked_1 : decode cX12_worked 1 = .ok (.getfield 754, 3) := by decide +kernel
theorem dX12_worked_4 : decode cX12_worked 4 = .ok (.ifCond .ne 5, 3) := by decide +kernel
theorem dX12_worked_7 : decode cX12_worked 7 = .ok (.lconst 0, 1) := by decide +kernel
theorem dX12_worked_8 : decode cX12_worked 8 = .ok (.lreturn, 1) := by decide +kernel
theorem dX12_worked_9 : decode cX12_worked 9 = .ok (.iload_n 1, 1) := by decide +kernel
theorem dX12_worked_10 : decode cX12_worked 10 = .ok (.tableswitch 117 0 3 #[30, 57, 84, 111], 30) := by decide +kernel
theorem dX12_worked_40 : decode cX12_worked 40 = .ok (.aload_n 0, 1) := by decide +kernel
theorem dX12_worked_41 : decode cX12_worked 41 = .ok (.getfield 758, 3) := by decide +kernel
theorem dX12_worked_44 : decode cX12_worked 44 = .ok (.ifCond .ne 21, 3) := by decide +kernel
theorem dX12_worked_47 : decode cX12_worked 47 = .ok (.iload_n 2, 1) := by decide +kernel
theorem dX12_worked_48 : decode cX12_worked 48 = .ok (.iconst 0, 1) := by decide +kernel
theorem dX12_worked_49 : decode cX12_worked 49 = .ok (.iconst 3, 1) := by decide +kernel
theorem dX12_worked_50 : decode cX12_worked 50 = .ok (.invokestatic 322, 3) := by decide +kernel
theorem dX12_worked_53 : decode cX12_worked 53 = .ok (.ifCond .eq 12, 3) := by decide +kernel
theorem dX12_worked_56 : decode cX12_worked 56 = .ok (.aload_n 0, 1) := by decide +kernel
theorem dX12_worked_57 : decode cX12_worked 57 = .ok (.getfield 266, 3) := by decide +kernel
theorem dX12_worked_60 : decode cX12_worked 60 = .ok (.iload_n 2, 1) := by decide +kernel
theorem dX12_worked_61 : decode cX12_worked 61 = .ok (.laload, 1) := by decide +kernel
theorem dX12_worked_62 : decode cX12_worked 62 = .ok (.goto 4, 3) := by decide +kernel
theorem dX12_worked_65 : decode cX12_worked 65 = .ok (.lconst 0, 1) := by decide +kernel
theorem dX12_worked_66 : decode cX12_worked 66 = .ok (.lreturn, 1) := by decide +kernel
theorem dX12_worked_67 : decode cX12_worked 67 = .ok (.aload_n 0, 1) := by decide +kernel
theorem dX12_worked_68 : decode cX12_worked 68 = .ok (.getfield 758, 3) := by decide +kernel
theorem dX12_worked_71 : decode cX12_worked 71 = .ok (.ifCond .ne 21, 3) := by decide +kernel
theorem dX12_worked_74 : decode cX12_worked 74 = .ok (.iload_n 2, 1) := by decide +kernel
theorem dX12_worked_75 : decode cX12_worked 75 = .ok (.iconst 0, 1) := by decide +kernel
theorem dX12_worked_76 : decode cX12_worked 76 = .ok (.iconst 3, 1) := by decide +kernel
theorem dX12_worked_77 : decode cX12_worked 77 = .ok (.invokestatic 322, 3) := by decide +kernel
theorem dX12_worked_80 : decode cX12_worked 80 = .ok (.ifCond .eq 12, 3) := by decide +kernel
theorem dX12_worked_83 : decode cX12_worked 83 = .ok (.aload_n 0, 1) := by decide +kernel
theorem dX12_worked_84 : decode cX12_worked 84 = .ok (.getfield 269, 3) := by decide +kernel
theorem dX12_worked_87 : decode cX12_worked 87 = .ok (.iload_n 2, 1) := by decide +kernel
theorem dX12_worked_88 : decode cX12_worked 88 = .ok (.laload, 1) := by decide +kernel
theorem dX12_worked_89 : decode cX12_worked 89 = .ok (.goto 4, 3) := by decide +kernel
theorem dX12_worked_92 : decode cX12_worked 92 = .ok (.lconst 0, 1) := by decide +kernel
theorem dX12_worked_93 : decode cX12_worked 93 = .ok (.lreturn, 1) := by decide +kernel
theorem dX12_worked_94 : decode cX12_worked 94 = .ok (.aload_n 0, 1) := by decide +kernel
theorem dX12_worked_95 : decode cX12_worked 95 = .ok (.getfield 758, 3) := by decide +kernel
theorem dX12_worked_98 : decode cX12_worked 98 = .ok (.ifCond .eq 21, 3) := by decide +kernel
theorem dX12_worked_101 : decode cX12_worked 101 = .ok (.iload_n 2, 1) := by decide +kernel
theorem dX12_worked_102 : decode cX12_worked 102 = .ok (.iconst 0, 1) := by decide +kernel
theorem dX12_worked_103 : decode cX12_worked 103 = .ok (.iconst 2, 1) := by decide +kernel
theorem dX12_worked_104 : decode cX12_worked 104 = .ok (.invokestatic 322, 3) := by decide +kernel
theorem dX12_worked_107 : decode cX12_worked 107 = .ok (.ifCond .eq 12, 3) := by decide +kernel
theorem dX12_worked_110 : decode cX12_worked 110 = .ok (.aload_n 0, 1) := by decide +kernel
theorem dX12_worked_111 : decode cX12_worked 111 = .ok (.getfield 272, 3) := by decide +kernel
theorem dX12_worked_114 : decode cX12_worked 114 = .ok (.iload_n 2, 1) := by decide +kernel
theorem dX12_worked_115 : decode cX12_worked 115 = .ok (.laload, 1) := by decide +kernel
theorem dX12_worked_116 : decode cX12_worked 116 = .ok (.goto 4, 3) := by decide +kernel
theorem dX12_worked_119 : decode cX12_worked 119 = .ok (.lconst 0, 1) := by decide +kernel
theorem dX12_worked_120 : decode cX12_worked 120 = .ok (.lreturn, 1) := by decide +kernel
theorem dX12_worked_121 : decode cX12_worked 121 = .ok (.aload_n 0, 1) := by decide +kernel
theorem dX12_worked_122 : decode cX12_worked 122 = .ok (.getfield 741, 3) := by decide +kernel
theorem dX12_worked_125 : decode cX12_worked 125 = .ok (.i2l, 1) := by decide +kernel
theorem dX12_worked_126 : decode cX12_worked 126 = .ok (.lreturn, 1) := by decide +kernel
theorem dX12_worked_127 : decode cX12_worked 127 = .ok (.lconst 0, 1) := by decide +kernel
theorem dX12_worked_128 : decode cX12_worked 128 = .ok (.lreturn, 1) := by decide +kernel
theorem dX12_isStage_0 : decode cX12_isStage 0 = .ok (.iload_n 0, 1) := by decide +kernel
theorem dX12_isStage_1 : decode cX12_isStage 1 = .ok (.iconst 0, 1) := by decide +kernel
theorem dX12_isStage_2 : decode cX12_isStage 2 = .ok (.iconst 1, 1) := by decide +kernel
theorem dX12_isStage_3 : decode cX12_isStage 3 = .ok (.invokestatic 322, 3) := by decide +kernel
theorem dX12_isStage_6 : decode cX12_isStage 6 = .ok (.ifCond .eq 16, 3) := by decide +kernel
theorem dX12_isStage_9 : decode cX12_isStage 9 = .ok (.iload_n 1, 1) := by decide +kernel
theorem dX12_isStage_10 : decode cX12_isStage 10 = .ok (.iconst 0, 1) := by decide +kernel
theorem dX12_isStage_11 : decode cX12_isStage 11 = .ok (.iconst 3, 1) := by decide +kernel
theorem dX12_isStage_12 : decode cX12_isStage 12 = .ok (.invokestatic 322, 3) := by decide +kernel
theorem dX12_isStage_15 : decode cX12_isStage 15 = .ok (.ifCond .eq 7, 3) := by decide +kernel
theorem dX12_isStage_18 : decode cX12_isStage 18 = .ok (.iconst 1, 1) := by decide +kernel
theorem dX12_isStage_19 : decode cX12_isStage 19 = .ok (.goto 4, 3) := by decide +kernel
theorem dX12_isStage_22 : decode cX12_isStage 22 = .ok (.iconst 0, 1) := by decide +kernel
theorem dX12_isStage_23 : decode cX12_isStage 23 = .ok (.ireturn, 1) := by decide +kernel
theorem dX12_count_0 : decode cX12_count 0 = .ok (.iload_n 1, 1) := by decide +kernel
theorem dX12_count_1 : decode cX12_count 1 = .ok (.iload_n 2, 1) := by decide +kernel
theorem dX12_count_2 : decode cX12_count 2 = .ok (.invokestatic 764, 3) := by decide +kernel
theorem dX12_count_5 : decode cX12_count 5 = .ok (.ifCond .eq 14, 3) := by decide +kernel
theorem dX12_count_8 : decode cX12_count 8 = .ok (.iload_n 3, 1) := by decide +kernel
theorem dX12_count_9 : decode cX12_count 9 = .ok (.iconst 0, 1) := by decide +kernel
theorem dX12_count_10 : decode cX12_count 10 = .ok (.ldc_w 702, 3) := by decide +kernel
theorem dX12_count_13 : decode cX12_count 13 = .ok (.invokestatic 322, 3) := by decide +kernel
theorem dX12_count_16 : decode cX12_count 16 = .ok (.ifCond .ne 6, 3) := by decide +kernel
theorem dX12_count_19 : decode cX12_count 19 = .ok (.bipush (-2), 2) := by decide +kernel
theorem dX12_count_21 : decode cX12_count 21 = .ok (.ireturn, 1) := by decide +kernel
theorem dX12_count_22 : decode cX12_count 22 = .ok (.aload_n 0, 1) := by decide +kernel
theorem dX12_count_23 : decode cX12_count 23 = .ok (.getfield 275, 3) := by decide +kernel
theorem dX12_count_26 : decode cX12_count 26 = .ok (.iconst 4, 1) := by decide +kernel
theorem dX12_count_27 : decode cX12_count 27 = .ok (.iload_n 1, 1) := by decide +kernel
theorem dX12_count_28 : decode cX12_count 28 = .ok (.imul, 1) := by decide +kernel
theorem dX12_count_29 : decode cX12_count 29 = .ok (.iload_n 2, 1) := by decide +kernel
theorem dX12_count_30 : decode cX12_count 30 = .ok (.iadd, 1) := by decide +kernel
theorem dX12_count_31 : decode cX12_count 31 = .ok (.iload_n 3, 1) := by decide +kernel
theorem dX12_count_32 : decode cX12_count 32 = .ok (.i2l, 1) := by decide +kernel
theorem dX12_count_33 : decode cX12_count 33 = .ok (.lastore, 1) := by decide +kernel
theorem dX12_count_34 : decode cX12_count 34 = .ok (.iconst 1, 1) := by decide +kernel
theorem dX12_count_35 : decode cX12_count 35 = .ok (.ireturn, 1) := by decide +kernel
theorem dX12_parts_0 : decode cX12_parts 0 = .ok (.iload_n 1, 1) := by decide +kernel
theorem dX12_parts_1 : decode cX12_parts 1 = .ok (.iload_n 2, 1) := by decide +kernel
theorem dX12_parts_2 : decode cX12_parts 2 = .ok (.invokestatic 764, 3) := by decide +kernel
theorem dX12_parts_5 : decode cX12_parts 5 = .ok (.ifCond .eq 38, 3) := by decide +kernel
theorem dX12_parts_8 : decode cX12_parts 8 = .ok (.iload_n 3, 1) := by decide +kernel
theorem dX12_parts_9 : decode cX12_parts 9 = .ok (.iconst 0, 1) := by decide +kernel
theorem dX12_parts_10 : decode cX12_parts 10 = .ok (.sipush 1000, 3) := by decide +kernel
theorem dX12_parts_13 : decode cX12_parts 13 = .ok (.invokestatic 322, 3) := by decide +kernel
theorem dX12_parts_16 : decode cX12_parts 16 = .ok (.ifCond .eq 27, 3) := by decide +kernel
theorem dX12_parts_19 : decode cX12_parts 19 = .ok (.iload 4, 2) := by decide +kernel
theorem dX12_parts_21 : decode cX12_parts 21 = .ok (.iconst 0, 1) := by decide +kernel
theorem dX12_parts_22 : decode cX12_parts 22 = .ok (.sipush 1000, 3) := by decide +kernel
theorem dX12_parts_25 : decode cX12_parts 25 = .ok (.invokestatic 322, 3) := by decide +kernel
theorem dX12_parts_28 : decode cX12_parts 28 = .ok (.ifCond .eq 15, 3) := by decide +kernel
theorem dX12_parts_31 : decode cX12_parts 31 = .ok (.iload 5, 2) := by decide +kernel
theorem dX12_parts_33 : decode cX12_parts 33 = .ok (.iconst 0, 1) := by decide +kernel
theorem dX12_parts_34 : decode cX12_parts 34 = .ok (.sipush 1000, 3) := by decide +kernel
theorem dX12_parts_37 : decode cX12_parts 37 = .ok (.invokestatic 322, 3) := by decide +kernel
theorem dX12_parts_40 : decode cX12_parts 40 = .ok (.ifCond .ne 6, 3) := by decide +kernel
theorem dX12_parts_43 : decode cX12_parts 43 = .ok (.bipush (-2), 2) := by decide +kernel
theorem dX12_parts_45 : decode cX12_parts 45 = .ok (.ireturn, 1) := by decide +kernel
theorem dX12_parts_46 : decode cX12_parts 46 = .ok (.aload_n 0, 1) := by decide +kernel
theorem dX12_parts_47 : decode cX12_parts 47 = .ok (.getfield 278, 3) := by decide +kernel
theorem dX12_parts_50 : decode cX12_parts 50 = .ok (.iconst 4, 1) := by decide +kernel
theorem dX12_parts_51 : decode cX12_parts 51 = .ok (.iload_n 1, 1) := by decide +kernel
theorem dX12_parts_52 : decode cX12_parts 52 = .ok (.imul, 1) := by decide +kernel
theorem dX12_parts_53 : decode cX12_parts 53 = .ok (.iload_n 2, 1) := by decide +kernel
theorem dX12_parts_54 : decode cX12_parts 54 = .ok (.iadd, 1) := by decide +kernel
theorem dX12_parts_55 : decode cX12_parts 55 = .ok (.iload_n 3, 1) := by decide +kernel
theorem dX12_parts_56 : decode cX12_parts 56 = .ok (.iastore, 1) := by decide +kernel
theorem dX12_parts_57 : decode cX12_parts 57 = .ok (.aload_n 0, 1) := by decide +kernel
theorem dX12_parts_58 : decode cX12_parts 58 = .ok (.getfield 281, 3) := by decide +kernel
theorem dX12_parts_61 : decode cX12_parts 61 = .ok (.iconst 4, 1) := by decide +kernel
theorem dX12_parts_62 : decode cX12_parts 62 = .ok (.iload_n 1, 1) := by decide +kernel
theorem dX12_parts_63 : decode cX12_parts 63 = .ok (.imul, 1) := by decide +kernel
theorem dX12_parts_64 : decode cX12_parts 64 = .ok (.iload_n 2, 1) := by decide +kernel
theorem dX12_parts_65 : decode cX12_parts 65 = .ok (.iadd, 1) := by decide +kernel
theorem dX12_parts_66 : decode cX12_parts 66 = .ok (.iload 4, 2) := by decide +kernel
theorem dX12_parts_68 : decode cX12_parts 68 = .ok (.iastore, 1) := by decide +kernel
theorem dX12_parts_69 : decode cX12_parts 69 = .ok (.aload_n 0, 1) := by decide +kernel
theorem dX12_parts_70 : decode cX12_parts 70 = .ok (.getfield 284, 3) := by decide +kernel
theorem dX12_parts_73 : decode cX12_parts 73 = .ok (.iconst 4, 1) := by decide +kernel
theorem dX12_parts_74 : decode cX12_parts 74 = .ok (.iload_n 1, 1) := by decide +kernel
theorem dX12_parts_75 : decode cX12_parts 75 = .ok (.imul, 1) := by decide +kernel
theorem dX12_parts_76 : decode cX12_parts 76 = .ok (.iload_n 2, 1) := by decide +kernel
theorem dX12_parts_77 : decode cX12_parts 77 = .ok (.iadd, 1) := by decide +kernel
theorem dX12_parts_78 : decode cX12_parts 78 = .ok (.iload 5, 2) := by decide +kernel
theorem dX12_parts_80 : decode cX12_parts 80 = .ok (.iastore, 1) := by decide +kernel
theorem dX12_parts_81 : decode cX12_parts 81 = .ok (.iconst 1, 1) := by decide +kernel
theorem dX12_parts_82 : decode cX12_parts 82 = .ok (.ireturn, 1) := by decide +kernel
theorem dX12_oneDay_0 : decode cX12_oneDay 0 = .ok (.iconst 0, 1) := by decide +kernel
theorem dX12_oneDay_1 : decode cX12_oneDay 1 = .ok (.istore_n 2, 1) := by decide +kernel
theorem dX12_oneDay_2 : decode cX12_oneDay 2 = .ok (.iload_n 2, 1) := by decide +kernel
theorem dX12_oneDay_3 : decode cX12_oneDay 3 = .ok (.iconst 4, 1) := by decide +kernel
theorem dX12_oneDay_4 : decode cX12_oneDay 4 = .ok (.if_icmp .ge 20, 3) := by decide +kernel
theorem dX12_oneDay_7 : decode cX12_oneDay 7 = .ok (.aload_n 0, 1) := by decide +kernel
theorem dX12_oneDay_8 : decode cX12_oneDay 8 = .ok (.getfield 287, 3) := by decide +kernel
theorem dX12_oneDay_11 : decode cX12_oneDay 11 = .ok (.iconst 4, 1) := by decide +kernel
theorem dX12_oneDay_12 : decode cX12_oneDay 12 = .ok (.iload_n 1, 1) := by decide +kernel
theorem dX12_oneDay_13 : decode cX12_oneDay 13 = .ok (.imul, 1) := by decide +kernel
theorem dX12_oneDay_14 : decode cX12_oneDay 14 = .ok (.iload_n 2, 1) := by decide +kernel
theorem dX12_oneDay_15 : decode cX12_oneDay 15 = .ok (.iadd, 1) := by decide +kernel
theorem dX12_oneDay_16 : decode cX12_oneDay 16 = .ok (.lconst 0, 1) := by decide +kernel
theorem dX12_oneDay_17 : decode cX12_oneDay 17 = .ok (.lastore, 1) := by decide +kernel
theorem dX12_oneDay_18 : decode cX12_oneDay 18 = .ok (.iinc 2 1, 3) := by decide +kernel
theorem dX12_oneDay_21 : decode cX12_oneDay 21 = .ok (.goto (-19), 3) := by decide +kernel
theorem dX12_oneDay_24 : decode cX12_oneDay 24 = .ok (.iconst 0, 1) := by decide +kernel
theorem dX12_oneDay_25 : decode cX12_oneDay 25 = .ok (.istore_n 2, 1) := by decide +kernel
theorem dX12_oneDay_26 : decode cX12_oneDay 26 = .ok (.iload_n 2, 1) := by decide +kernel
theorem dX12_oneDay_27 : decode cX12_oneDay 27 = .ok (.iconst 4, 1) := by decide +kernel
theorem dX12_oneDay_28 : decode cX12_oneDay 28 = .ok (.if_icmp .ge 113, 3) := by decide +kernel
theorem dX12_oneDay_31 : decode cX12_oneDay 31 = .ok (.iconst 4, 1) := by decide +kernel
theorem dX12_oneDay_32 : decode cX12_oneDay 32 = .ok (.iload_n 1, 1) := by decide +kernel
theorem dX12_oneDay_33 : decode cX12_oneDay 33 = .ok (.imul, 1) := by decide +kernel
theorem dX12_oneDay_34 : decode cX12_oneDay 34 = .ok (.iload_n 2, 1) := by decide +kernel
theorem dX12_oneDay_35 : decode cX12_oneDay 35 = .ok (.iadd, 1) := by decide +kernel
theorem dX12_oneDay_36 : decode cX12_oneDay 36 = .ok (.istore_n 3, 1) := by decide +kernel
theorem dX12_oneDay_37 : decode cX12_oneDay 37 = .ok (.aload_n 0, 1) := by decide +kernel
theorem dX12_oneDay_38 : decode cX12_oneDay 38 = .ok (.getfield 247, 3) := by decide +kernel
theorem dX12_oneDay_41 : decode cX12_oneDay 41 = .ok (.iconst 0, 1) := by decide +kernel
theorem dX12_oneDay_42 : decode cX12_oneDay 42 = .ok (.aload_n 0, 1) := by decide +kernel
theorem dX12_oneDay_43 : decode cX12_oneDay 43 = .ok (.getfield 278, 3) := by decide +kernel
theorem dX12_oneDay_46 : decode cX12_oneDay 46 = .ok (.iload_n 3, 1) := by decide +kernel
theorem dX12_oneDay_47 : decode cX12_oneDay 47 = .ok (.iaload, 1) := by decide +kernel
theorem dX12_oneDay_48 : decode cX12_oneDay 48 = .ok (.i2l, 1) := by decide +kernel
theorem dX12_oneDay_49 : decode cX12_oneDay 49 = .ok (.lastore, 1) := by decide +kernel
theorem dX12_oneDay_50 : decode cX12_oneDay 50 = .ok (.aload_n 0, 1) := by decide +kernel
theorem dX12_oneDay_51 : decode cX12_oneDay 51 = .ok (.getfield 247, 3) := by decide +kernel
theorem dX12_oneDay_54 : decode cX12_oneDay 54 = .ok (.iconst 1, 1) := by decide +kernel
theorem dX12_oneDay_55 : decode cX12_oneDay 55 = .ok (.aload_n 0, 1) := by decide +kernel
theorem dX12_oneDay_56 : decode cX12_oneDay 56 = .ok (.getfield 281, 3) := by decide +kernel
theorem dX12_oneDay_59 : decode cX12_oneDay 59 = .ok (.iload_n 3, 1) := by decide +kernel
theorem dX12_oneDay_60 : decode cX12_oneDay 60 = .ok (.iaload, 1) := by decide +kernel
theorem dX12_oneDay_61 : decode cX12_oneDay 61 = .ok (.i2l, 1) := by decide +kernel
theorem dX12_oneDay_62 : decode cX12_oneDay 62 = .ok (.lastore, 1) := by decide +kernel
theorem dX12_oneDay_63 : decode cX12_oneDay 63 = .ok (.aload_n 0, 1) := by decide +kernel
theorem dX12_oneDay_64 : decode cX12_oneDay 64 = .ok (.getfield 247, 3) := by decide +kernel
theorem dX12_oneDay_67 : decode cX12_oneDay 67 = .ok (.iconst 2, 1) := by decide +kernel
theorem dX12_oneDay_68 : decode cX12_oneDay 68 = .ok (.sipush 2000, 3) := by decide +kernel
theorem dX12_oneDay_71 : decode cX12_oneDay 71 = .ok (.aload_n 0, 1) := by decide +kernel
theorem dX12_oneDay_72 : decode cX12_oneDay 72 = .ok (.getfield 278, 3) := by decide +kernel
theorem dX12_oneDay_75 : decode cX12_oneDay 75 = .ok (.iload_n 3, 1) := by decide +kernel
theorem dX12_oneDay_76 : decode cX12_oneDay 76 = .ok (.iaload, 1) := by decide +kernel
theorem dX12_oneDay_77 : decode cX12_oneDay 77 = .ok (.isub, 1) := by decide +kernel
theorem dX12_oneDay_78 : decode cX12_oneDay 78 = .ok (.aload_n 0, 1) := by decide +kernel
theorem dX12_oneDay_79 : decode cX12_oneDay 79 = .ok (.getfield 281, 3) := by decide +kernel
theorem dX12_oneDay_82 : decode cX12_oneDay 82 = .ok (.iload_n 3, 1) := by decide +kernel
theorem dX12_oneDay_83 : decode cX12_oneDay 83 = .ok (.iaload, 1) := by decide +kernel
theorem dX12_oneDay_84 : decode cX12_oneDay 84 = .ok (.isub, 1) := by decide +kernel
theorem dX12_oneDay_85 : decode cX12_oneDay 85 = .ok (.i2l, 1) := by decide +kernel
theorem dX12_oneDay_86 : decode cX12_oneDay 86 = .ok (.lastore, 1) := by decide +kernel
theorem dX12_oneDay_87 : decode cX12_oneDay 87 = .ok (.aload_n 0, 1) := by decide +kernel
theorem dX12_oneDay_88 : decode cX12_oneDay 88 = .ok (.aload_n 0, 1) := by decide +kernel
theorem dX12_oneDay_89 : decode cX12_oneDay 89 = .ok (.getfield 275, 3) := by decide +kernel
theorem dX12_oneDay_92 : decode cX12_oneDay 92 = .ok (.iload_n 3, 1) := by decide +kernel
theorem dX12_oneDay_93 : decode cX12_oneDay 93 = .ok (.laload, 1) := by decide +kernel
theorem dX12_oneDay_94 : decode cX12_oneDay 94 = .ok (.iconst 3, 1) := by decide +kernel
theorem dX12_oneDay_95 : decode cX12_oneDay 95 = .ok (.invokevirtual 703, 3) := by decide +kernel
theorem dX12_oneDay_98 : decode cX12_oneDay 98 = .ok (.aload_n 0, 1) := by decide +kernel
theorem dX12_oneDay_99 : decode cX12_oneDay 99 = .ok (.getfield 287, 3) := by decide +kernel
theorem dX12_oneDay_102 : decode cX12_oneDay 102 = .ok (.iload_n 3, 1) := by decide +kernel
theorem dX12_oneDay_103 : decode cX12_oneDay 103 = .ok (.dup2, 1) := by decide +kernel
theorem dX12_oneDay_104 : decode cX12_oneDay 104 = .ok (.laload, 1) := by decide +kernel
theorem dX12_oneDay_105 : decode cX12_oneDay 105 = .ok (.aload_n 0, 1) := by decide +kernel
theorem dX12_oneDay_106 : decode cX12_oneDay 106 = .ok (.getfield 241, 3) := by decide +kernel
theorem dX12_oneDay_109 : decode cX12_oneDay 109 = .ok (.iconst 1, 1) := by decide +kernel
theorem dX12_oneDay_110 : decode cX12_oneDay 110 = .ok (.laload, 1) := by decide +kernel
theorem dX12_oneDay_111 : decode cX12_oneDay 111 = .ok (.ladd, 1) := by decide +kernel
theorem dX12_oneDay_112 : decode cX12_oneDay 112 = .ok (.lastore, 1) := by decide +kernel
theorem dX12_oneDay_113 : decode cX12_oneDay 113 = .ok (.iload_n 2, 1) := by decide +kernel
theorem dX12_oneDay_114 : decode cX12_oneDay 114 = .ok (.iconst 3, 1) := by decide +kernel
theorem dX12_oneDay_115 : decode cX12_oneDay 115 = .ok (.if_icmp .ge 20, 3) := by decide +kernel
theorem dX12_oneDay_118 : decode cX12_oneDay 118 = .ok (.aload_n 0, 1) := by decide +kernel
theorem dX12_oneDay_119 : decode cX12_oneDay 119 = .ok (.getfield 287, 3) := by decide +kernel
theorem dX12_oneDay_122 : decode cX12_oneDay 122 = .ok (.iload_n 3, 1) := by decide +kernel
theorem dX12_oneDay_123 : decode cX12_oneDay 123 = .ok (.iconst 1, 1) := by decide +kernel
theorem dX12_oneDay_124 : decode cX12_oneDay 124 = .ok (.iadd, 1) := by decide +kernel
theorem dX12_oneDay_125 : decode cX12_oneDay 125 = .ok (.dup2, 1) := by decide +kernel
theorem dX12_oneDay_126 : decode cX12_oneDay 126 = .ok (.laload, 1) := by decide +kernel
theorem dX12_oneDay_127 : decode cX12_oneDay 127 = .ok (.aload_n 0, 1) := by decide +kernel
theorem dX12_oneDay_128 : decode cX12_oneDay 128 = .ok (.getfield 241, 3) := by decide +kernel
theorem dX12_oneDay_131 : decode cX12_oneDay 131 = .ok (.iconst 0, 1) := by decide +kernel
theorem dX12_oneDay_132 : decode cX12_oneDay 132 = .ok (.laload, 1) := by decide +kernel
theorem dX12_oneDay_133 : decode cX12_oneDay 133 = .ok (.ladd, 1) := by decide +kernel
theorem dX12_oneDay_134 : decode cX12_oneDay 134 = .ok (.lastore, 1) := by decide +kernel
theorem dX12_oneDay_135 : decode cX12_oneDay 135 = .ok (.iinc 2 1, 3) := by decide +kernel
theorem dX12_oneDay_138 : decode cX12_oneDay 138 = .ok (.goto (-112), 3) := by decide +kernel
theorem dX12_oneDay_141 : decode cX12_oneDay 141 = .ok (.aload_n 0, 1) := by decide +kernel
theorem dX12_oneDay_142 : decode cX12_oneDay 142 = .ok (.getfield 287, 3) := by decide +kernel
theorem dX12_oneDay_145 : decode cX12_oneDay 145 = .ok (.iconst 4, 1) := by decide +kernel
theorem dX12_oneDay_146 : decode cX12_oneDay 146 = .ok (.iload_n 1, 1) := by decide +kernel
theorem dX12_oneDay_147 : decode cX12_oneDay 147 = .ok (.imul, 1) := by decide +kernel
theorem dX12_oneDay_148 : decode cX12_oneDay 148 = .ok (.dup2, 1) := by decide +kernel
theorem dX12_oneDay_149 : decode cX12_oneDay 149 = .ok (.laload, 1) := by decide +kernel
theorem dX12_oneDay_150 : decode cX12_oneDay 150 = .ok (.aload_n 0, 1) := by decide +kernel
theorem dX12_oneDay_151 : decode cX12_oneDay 151 = .ok (.getfield 275, 3) := by decide +kernel
theorem dX12_oneDay_154 : decode cX12_oneDay 154 = .ok (.iconst 4, 1) := by decide +kernel
theorem dX12_oneDay_155 : decode cX12_oneDay 155 = .ok (.iload_n 1, 1) := by decide +kernel
theorem dX12_oneDay_156 : decode cX12_oneDay 156 = .ok (.imul, 1) := by decide +kernel
theorem dX12_oneDay_157 : decode cX12_oneDay 157 = .ok (.iconst 3, 1) := by decide +kernel
theorem dX12_oneDay_158 : decode cX12_oneDay 158 = .ok (.iadd, 1) := by decide +kernel
theorem dX12_oneDay_159 : decode cX12_oneDay 159 = .ok (.laload, 1) := by decide +kernel
theorem dX12_oneDay_160 : decode cX12_oneDay 160 = .ok (.aload_n 0, 1) := by decide +kernel
theorem dX12_oneDay_161 : decode cX12_oneDay 161 = .ok (.getfield 284, 3) := by decide +kernel
theorem dX12_oneDay_164 : decode cX12_oneDay 164 = .ok (.iconst 4, 1) := by decide +kernel
theorem dX12_oneDay_165 : decode cX12_oneDay 165 = .ok (.iload_n 1, 1) := by decide +kernel
theorem dX12_oneDay_166 : decode cX12_oneDay 166 = .ok (.imul, 1) := by decide +kernel
theorem dX12_oneDay_167 : decode cX12_oneDay 167 = .ok (.iconst 3, 1) := by decide +kernel
theorem dX12_oneDay_168 : decode cX12_oneDay 168 = .ok (.iadd, 1) := by decide +kernel
theorem dX12_oneDay_169 : decode cX12_oneDay 169 = .ok (.iaload, 1) := by decide +kernel
theorem dX12_oneDay_170 : decode cX12_oneDay 170 = .ok (.i2l, 1) := by decide +kernel
theorem dX12_oneDay_171 : decode cX12_oneDay 171 = .ok (.lmul, 1) := by decide +kernel
theorem dX12_oneDay_172 : decode cX12_oneDay 172 = .ok (.ldc2_w 767, 3) := by decide +kernel
theorem dX12_oneDay_175 : decode cX12_oneDay 175 = .ok (.ldiv, 1) := by decide +kernel
theorem dX12_oneDay_176 : decode cX12_oneDay 176 = .ok (.ladd, 1) := by decide +kernel
theorem dX12_oneDay_177 : decode cX12_oneDay 177 = .ok (.lastore, 1) := by decide +kernel
theorem dX12_oneDay_178 : decode cX12_oneDay 178 = .ok (.iconst 0, 1) := by decide +kernel
theorem dX12_oneDay_179 : decode cX12_oneDay 179 = .ok (.istore_n 2, 1) := by decide +kernel
theorem dX12_oneDay_180 : decode cX12_oneDay 180 = .ok (.iload_n 2, 1) := by decide +kernel
theorem dX12_oneDay_181 : decode cX12_oneDay 181 = .ok (.iconst 4, 1) := by decide +kernel
theorem dX12_oneDay_182 : decode cX12_oneDay 182 = .ok (.if_icmp .ge 52, 3) := by decide +kernel
theorem dX12_oneDay_185 : decode cX12_oneDay 185 = .ok (.aload_n 0, 1) := by decide +kernel
theorem dX12_oneDay_186 : decode cX12_oneDay 186 = .ok (.getfield 275, 3) := by decide +kernel
theorem dX12_oneDay_189 : decode cX12_oneDay 189 = .ok (.iconst 4, 1) := by decide +kernel
theorem dX12_oneDay_190 : decode cX12_oneDay 190 = .ok (.iload_n 1, 1) := by decide +kernel
theorem dX12_oneDay_191 : decode cX12_oneDay 191 = .ok (.imul, 1) := by decide +kernel
theorem dX12_oneDay_192 : decode cX12_oneDay 192 = .ok (.iload_n 2, 1) := by decide +kernel
theorem dX12_oneDay_193 : decode cX12_oneDay 193 = .ok (.iadd, 1) := by decide +kernel
theorem dX12_oneDay_194 : decode cX12_oneDay 194 = .ok (.aload_n 0, 1) := by decide +kernel
theorem dX12_oneDay_195 : decode cX12_oneDay 195 = .ok (.getfield 287, 3) := by decide +kernel
theorem dX12_oneDay_198 : decode cX12_oneDay 198 = .ok (.iconst 4, 1) := by decide +kernel
theorem dX12_oneDay_199 : decode cX12_oneDay 199 = .ok (.iload_n 1, 1) := by decide +kernel
theorem dX12_oneDay_200 : decode cX12_oneDay 200 = .ok (.imul, 1) := by decide +kernel
theorem dX12_oneDay_201 : decode cX12_oneDay 201 = .ok (.iload_n 2, 1) := by decide +kernel
theorem dX12_oneDay_202 : decode cX12_oneDay 202 = .ok (.iadd, 1) := by decide +kernel
theorem dX12_oneDay_203 : decode cX12_oneDay 203 = .ok (.laload, 1) := by decide +kernel
theorem dX12_oneDay_204 : decode cX12_oneDay 204 = .ok (.ldc2_w 669, 3) := by decide +kernel
theorem dX12_oneDay_207 : decode cX12_oneDay 207 = .ok (.lcmp, 1) := by decide +kernel
theorem dX12_oneDay_208 : decode cX12_oneDay 208 = .ok (.ifCond .le 9, 3) := by decide +kernel
theorem dX12_oneDay_211 : decode cX12_oneDay 211 = .ok (.ldc2_w 669, 3) := by decide +kernel
theorem dX12_oneDay_214 : decode cX12_oneDay 214 = .ok (.goto 13, 3) := by decide +kernel
theorem dX12_oneDay_217 : decode cX12_oneDay 217 = .ok (.aload_n 0, 1) := by decide +kernel
theorem dX12_oneDay_218 : decode cX12_oneDay 218 = .ok (.getfield 287, 3) := by decide +kernel
theorem dX12_oneDay_221 : decode cX12_oneDay 221 = .ok (.iconst 4, 1) := by decide +kernel
theorem dX12_oneDay_222 : decode cX12_oneDay 222 = .ok (.iload_n 1, 1) := by decide +kernel
theorem dX12_oneDay_223 : decode cX12_oneDay 223 = .ok (.imul, 1) := by decide +kernel
theorem dX12_oneDay_224 : decode cX12_oneDay 224 = .ok (.iload_n 2, 1) := by decide +kernel
theorem dX12_oneDay_225 : decode cX12_oneDay 225 = .ok (.iadd, 1) := by decide +kernel
theorem dX12_oneDay_226 : decode cX12_oneDay 226 = .ok (.laload, 1) := by decide +kernel
theorem dX12_oneDay_227 : decode cX12_oneDay 227 = .ok (.lastore, 1) := by decide +kernel
theorem dX12_oneDay_228 : decode cX12_oneDay 228 = .ok (.iinc 2 1, 3) := by decide +kernel
theorem dX12_oneDay_231 : decode cX12_oneDay 231 = .ok (.goto (-51), 3) := by decide +kernel
theorem dX12_oneDay_234 : decode cX12_oneDay 234 = .ok (.return_, 1) := by decide +kernel
theorem dX12_day_0 : decode cX12_day 0 = .ok (.iload_n 1, 1) := by decide +kernel
theorem dX12_day_1 : decode cX12_day 1 = .ok (.iconst 1, 1) := by decide +kernel
theorem dX12_day_2 : decode cX12_day 2 = .ok (.bipush 50, 2) := by decide +kernel
theorem dX12_day_4 : decode cX12_day 4 = .ok (.invokestatic 322, 3) := by decide +kernel
theorem dX12_day_7 : decode cX12_day 7 = .ok (.ifCond .ne 6, 3) := by decide +kernel
theorem dX12_day_10 : decode cX12_day 10 = .ok (.bipush (-2), 2) := by decide +kernel
theorem dX12_day_12 : decode cX12_day 12 = .ok (.ireturn, 1) := by decide +kernel
theorem dX12_day_13 : decode cX12_day 13 = .ok (.aload_n 0, 1) := by decide +kernel
theorem dX12_day_14 : decode cX12_day 14 = .ok (.getfield 769, 3) := by decide +kernel
theorem dX12_day_17 : decode cX12_day 17 = .ok (.iload_n 1, 1) := by decide +kernel
theorem dX12_day_18 : decode cX12_day 18 = .ok (.iadd, 1) := by decide +kernel
theorem dX12_day_19 : decode cX12_day 19 = .ok (.sipush 10000, 3) := by decide +kernel
theorem dX12_day_22 : decode cX12_day 22 = .ok (.if_icmp .le 6, 3) := by decide +kernel
theorem dX12_day_25 : decode cX12_day 25 = .ok (.bipush (-4), 2) := by decide +kernel
theorem dX12_day_27 : decode cX12_day 27 = .ok (.ireturn, 1) := by decide +kernel
theorem dX12_day_28 : decode cX12_day 28 = .ok (.iconst 0, 1) := by decide +kernel
theorem dX12_day_29 : decode cX12_day 29 = .ok (.istore_n 2, 1) := by decide +kernel
theorem dX12_day_30 : decode cX12_day 30 = .ok (.iload_n 2, 1) := by decide +kernel
theorem dX12_day_31 : decode cX12_day 31 = .ok (.iload_n 1, 1) := by decide +kernel
theorem dX12_day_32 : decode cX12_day 32 = .ok (.if_icmp .ge 50, 3) := by decide +kernel
theorem dX12_day_35 : decode cX12_day 35 = .ok (.aload_n 0, 1) := by decide +kernel
theorem dX12_day_36 : decode cX12_day 36 = .ok (.iconst 0, 1) := by decide +kernel
theorem dX12_day_37 : decode cX12_day 37 = .ok (.invokevirtual 772, 3) := by decide +kernel
theorem dX12_day_40 : decode cX12_day 40 = .ok (.aload_n 0, 1) := by decide +kernel
theorem dX12_day_41 : decode cX12_day 41 = .ok (.iconst 1, 1) := by decide +kernel
theorem dX12_day_42 : decode cX12_day 42 = .ok (.invokevirtual 772, 3) := by decide +kernel
theorem dX12_day_45 : decode cX12_day 45 = .ok (.aload_n 0, 1) := by decide +kernel
theorem dX12_day_46 : decode cX12_day 46 = .ok (.dup, 1) := by decide +kernel
theorem dX12_day_47 : decode cX12_day 47 = .ok (.getfield 769, 3) := by decide +kernel
theorem dX12_day_50 : decode cX12_day 50 = .ok (.iconst 1, 1) := by decide +kernel
theorem dX12_day_51 : decode cX12_day 51 = .ok (.iadd, 1) := by decide +kernel
theorem dX12_day_52 : decode cX12_day 52 = .ok (.putfield 769, 3) := by decide +kernel
theorem dX12_day_55 : decode cX12_day 55 = .ok (.aload_n 0, 1) := by decide +kernel
theorem dX12_day_56 : decode cX12_day 56 = .ok (.dup, 1) := by decide +kernel
theorem dX12_day_57 : decode cX12_day 57 = .ok (.getfield 775, 3) := by decide +kernel
theorem dX12_day_60 : decode cX12_day 60 = .ok (.aload_n 0, 1) := by decide +kernel
theorem dX12_day_61 : decode cX12_day 61 = .ok (.getfield 775, 3) := by decide +kernel
theorem dX12_day_64 : decode cX12_day 64 = .ok (.ifCond .le 7, 3) := by decide +kernel
theorem dX12_day_67 : decode cX12_day 67 = .ok (.iconst 1, 1) := by decide +kernel
theorem dX12_day_68 : decode cX12_day 68 = .ok (.goto 4, 3) := by decide +kernel
theorem dX12_day_71 : decode cX12_day 71 = .ok (.iconst 0, 1) := by decide +kernel
theorem dX12_day_72 : decode cX12_day 72 = .ok (.isub, 1) := by decide +kernel
theorem dX12_day_73 : decode cX12_day 73 = .ok (.putfield 775, 3) := by decide +kernel
theorem dX12_day_76 : decode cX12_day 76 = .ok (.iinc 2 1, 3) := by decide +kernel
theorem dX12_day_79 : decode cX12_day 79 = .ok (.goto (-49), 3) := by decide +kernel
theorem dX12_day_82 : decode cX12_day 82 = .ok (.aload_n 0, 1) := by decide +kernel
theorem dX12_day_83 : decode cX12_day 83 = .ok (.getfield 769, 3) := by decide +kernel
theorem dX12_day_86 : decode cX12_day 86 = .ok (.ireturn, 1) := by decide +kernel
theorem dX12_spray_0 : decode cX12_spray 0 = .ok (.iload_n 1, 1) := by decide +kernel
theorem dX12_spray_1 : decode cX12_spray 1 = .ok (.iconst 0, 1) := by decide +kernel
theorem dX12_spray_2 : decode cX12_spray 2 = .ok (.iconst 1, 1) := by decide +kernel
theorem dX12_spray_3 : decode cX12_spray 3 = .ok (.invokestatic 322, 3) := by decide +kernel
theorem dX12_spray_6 : decode cX12_spray 6 = .ok (.ifCond .ne 6, 3) := by decide +kernel
theorem dX12_spray_9 : decode cX12_spray 9 = .ok (.bipush (-2), 2) := by decide +kernel
theorem dX12_spray_11 : decode cX12_spray 11 = .ok (.ireturn, 1) := by decide +kernel
theorem dX12_spray_12 : decode cX12_spray 12 = .ok (.iconst 0, 1) := by decide +kernel
theorem dX12_spray_13 : decode cX12_spray 13 = .ok (.istore_n 2, 1) := by decide +kernel
theorem dX12_spray_14 : decode cX12_spray 14 = .ok (.iload_n 2, 1) := by decide +kernel
theorem dX12_spray_15 : decode cX12_spray 15 = .ok (.iconst 4, 1) := by decide +kernel
theorem dX12_spray_16 : decode cX12_spray 16 = .ok (.if_icmp .ge 33, 3) := by decide +kernel
theorem dX12_spray_19 : decode cX12_spray 19 = .ok (.aload_n 0, 1) := by decide +kernel
theorem dX12_spray_20 : decode cX12_spray 20 = .ok (.getfield 275, 3) := by decide +kernel
theorem dX12_spray_23 : decode cX12_spray 23 = .ok (.iconst 4, 1) := by decide +kernel
theorem dX12_spray_24 : decode cX12_spray 24 = .ok (.iload_n 1, 1) := by decide +kernel
theorem dX12_spray_25 : decode cX12_spray 25 = .ok (.imul, 1) := by decide +kernel
theorem dX12_spray_26 : decode cX12_spray 26 = .ok (.iload_n 2, 1) := by decide +kernel
theorem dX12_spray_27 : decode cX12_spray 27 = .ok (.iadd, 1) := by decide +kernel
theorem dX12_spray_28 : decode cX12_spray 28 = .ok (.aload_n 0, 1) := by decide +kernel
theorem dX12_spray_29 : decode cX12_spray 29 = .ok (.getfield 275, 3) := by decide +kernel
theorem dX12_spray_32 : decode cX12_spray 32 = .ok (.iconst 4, 1) := by decide +kernel
theorem dX12_spray_33 : decode cX12_spray 33 = .ok (.iload_n 1, 1) := by decide +kernel
theorem dX12_spray_34 : decode cX12_spray 34 = .ok (.imul, 1) := by decide +kernel
theorem dX12_spray_35 : decode cX12_spray 35 = .ok (.iload_n 2, 1) := by decide +kernel
theorem dX12_spray_36 : decode cX12_spray 36 = .ok (.iadd, 1) := by decide +kernel
theorem dX12_spray_37 : decode cX12_spray 37 = .ok (.laload, 1) := by decide +kernel
theorem dX12_spray_38 : decode cX12_spray 38 = .ok (.ldc2_w 778, 3) := by decide +kernel
theorem dX12_spray_41 : decode cX12_spray 41 = .ok (.ldiv, 1) := by decide +kernel
theorem dX12_spray_42 : decode cX12_spray 42 = .ok (.lastore, 1) := by decide +kernel
theorem dX12_spray_43 : decode cX12_spray 43 = .ok (.iinc 2 1, 3) := by decide +kernel
theorem dX12_spray_46 : decode cX12_spray 46 = .ok (.goto (-32), 3) := by decide +kernel
theorem dX12_spray_49 : decode cX12_spray 49 = .ok (.aload_n 0, 1) := by decide +kernel
theorem dX12_spray_50 : decode cX12_spray 50 = .ok (.bipush 7, 2) := by decide +kernel
theorem dX12_spray_52 : decode cX12_spray 52 = .ok (.putfield 775, 3) := by decide +kernel
theorem dX12_spray_55 : decode cX12_spray 55 = .ok (.iconst 1, 1) := by decide +kernel
theorem dX12_spray_56 : decode cX12_spray 56 = .ok (.ireturn, 1) := by decide +kernel
theorem dX12_pest_0 : decode cX12_pest 0 = .ok (.iload_n 1, 1) := by decide +kernel
theorem dX12_pest_1 : decode cX12_pest 1 = .ok (.iload_n 2, 1) := by decide +kernel
theorem dX12_pest_2 : decode cX12_pest 2 = .ok (.invokestatic 764, 3) := by decide +kernel
theorem dX12_pest_5 : decode cX12_pest 5 = .ok (.ifCond .eq 17, 3) := by decide +kernel
theorem dX12_pest_8 : decode cX12_pest 8 = .ok (.aload_n 0, 1) := by decide +kernel
theorem dX12_pest_9 : decode cX12_pest 9 = .ok (.getfield 275, 3) := by decide +kernel
theorem dX12_pest_12 : decode cX12_pest 12 = .ok (.iconst 4, 1) := by decide +kernel
theorem dX12_pest_13 : decode cX12_pest 13 = .ok (.iload_n 1, 1) := by decide +kernel
theorem dX12_pest_14 : decode cX12_pest 14 = .ok (.imul, 1) := by decide +kernel
theorem dX12_pest_15 : decode cX12_pest 15 = .ok (.iload_n 2, 1) := by decide +kernel
theorem dX12_pest_16 : decode cX12_pest 16 = .ok (.iadd, 1) := by decide +kernel
theorem dX12_pest_17 : decode cX12_pest 17 = .ok (.laload, 1) := by decide +kernel
theorem dX12_pest_18 : decode cX12_pest 18 = .ok (.l2i, 1) := by decide +kernel
theorem dX12_pest_19 : decode cX12_pest 19 = .ok (.goto 5, 3) := by decide +kernel
theorem dX12_pest_22 : decode cX12_pest 22 = .ok (.bipush (-2), 2) := by decide +kernel
theorem dX12_pest_24 : decode cX12_pest 24 = .ok (.ireturn, 1) := by decide +kernel
theorem dX12_wait1_0 : decode cX12_wait1 0 = .ok (.aload_n 0, 1) := by decide +kernel
theorem dX12_wait1_1 : decode cX12_wait1 1 = .ok (.getfield 775, 3) := by decide +kernel
theorem dX12_wait1_4 : decode cX12_wait1 4 = .ok (.ireturn, 1) := by decide +kernel
theorem dX12_sumOf_0 : decode cX12_sumOf 0 = .ok (.iconst 0, 1) := by decide +kernel
theorem dX12_sumOf_1 : decode cX12_sumOf 1 = .ok (.istore_n 2, 1) := by decide +kernel
theorem dX12_sumOf_2 : decode cX12_sumOf 2 = .ok (.iconst 0, 1) := by decide +kernel
theorem dX12_sumOf_3 : decode cX12_sumOf 3 = .ok (.istore_n 3, 1) := by decide +kernel
theorem dX12_sumOf_4 : decode cX12_sumOf 4 = .ok (.iload_n 3, 1) := by decide +kernel
theorem dX12_sumOf_5 : decode cX12_sumOf 5 = .ok (.bipush 60, 2) := by decide +kernel
theorem dX12_sumOf_7 : decode cX12_sumOf 7 = .ok (.if_icmp .ge 34, 3) := by decide +kernel
theorem dX12_sumOf_10 : decode cX12_sumOf 10 = .ok (.iload_n 2, 1) := by decide +kernel
theorem dX12_sumOf_11 : decode cX12_sumOf 11 = .ok (.aload_n 0, 1) := by decide +kernel
theorem dX12_sumOf_12 : decode cX12_sumOf 12 = .ok (.iload_n 1, 1) := by decide +kernel
theorem dX12_sumOf_13 : decode cX12_sumOf 13 = .ok (.iload_n 3, 1) := by decide +kernel
theorem dX12_sumOf_14 : decode cX12_sumOf 14 = .ok (.iadd, 1) := by decide +kernel
theorem dX12_sumOf_15 : decode cX12_sumOf 15 = .ok (.iaload, 1) := by decide +kernel
theorem dX12_sumOf_16 : decode cX12_sumOf 16 = .ok (.ixor, 1) := by decide +kernel
theorem dX12_sumOf_17 : decode cX12_sumOf 17 = .ok (.istore 4, 2) := by decide +kernel
theorem dX12_sumOf_19 : decode cX12_sumOf 19 = .ok (.iload 4, 2) := by decide +kernel
theorem dX12_sumOf_21 : decode cX12_sumOf 21 = .ok (.bipush 11, 2) := by decide +kernel
theorem dX12_sumOf_23 : decode cX12_sumOf 23 = .ok (.ishl, 1) := by decide +kernel
theorem dX12_sumOf_24 : decode cX12_sumOf 24 = .ok (.iload 4, 2) := by decide +kernel
theorem dX12_sumOf_26 : decode cX12_sumOf 26 = .ok (.bipush 21, 2) := by decide +kernel
theorem dX12_sumOf_28 : decode cX12_sumOf 28 = .ok (.iushr, 1) := by decide +kernel
theorem dX12_sumOf_29 : decode cX12_sumOf 29 = .ok (.ior, 1) := by decide +kernel
theorem dX12_sumOf_30 : decode cX12_sumOf 30 = .ok (.ldc_w 780, 3) := by decide +kernel
theorem dX12_sumOf_33 : decode cX12_sumOf 33 = .ok (.imul, 1) := by decide +kernel
theorem dX12_sumOf_34 : decode cX12_sumOf 34 = .ok (.istore_n 2, 1) := by decide +kernel
theorem dX12_sumOf_35 : decode cX12_sumOf 35 = .ok (.iinc 3 1, 3) := by decide +kernel
theorem dX12_sumOf_38 : decode cX12_sumOf 38 = .ok (.goto (-34), 3) := by decide +kernel
theorem dX12_sumOf_41 : decode cX12_sumOf 41 = .ok (.iload_n 2, 1) := by decide +kernel
theorem dX12_sumOf_42 : decode cX12_sumOf 42 = .ok (.ireturn, 1) := by decide +kernel
theorem dX12_wide_0 : decode cX12_wide 0 = .ok (.lconst 0, 1) := by decide +kernel
theorem dX12_wide_1 : decode cX12_wide 1 = .ok (.lstore_n 3, 1) := by decide +kernel
theorem dX12_wide_2 : decode cX12_wide 2 = .ok (.iconst 0, 1) := by decide +kernel
theorem dX12_wide_3 : decode cX12_wide 3 = .ok (.istore 5, 2) := by decide +kernel
theorem dX12_wide_5 : decode cX12_wide 5 = .ok (.iload 5, 2) := by decide +kernel
theorem dX12_wide_7 : decode cX12_wide 7 = .ok (.iload_n 2, 1) := by decide +kernel
theorem dX12_wide_8 : decode cX12_wide 8 = .ok (.if_icmp .ge 22, 3) := by decide +kernel
theorem dX12_wide_11 : decode cX12_wide 11 = .ok (.lload_n 3, 1) := by decide +kernel
theorem dX12_wide_12 : decode cX12_wide 12 = .ok (.bipush 8, 2) := by decide +kernel
theorem dX12_wide_14 : decode cX12_wide 14 = .ok (.lshl, 1) := by decide +kernel
theorem dX12_wide_15 : decode cX12_wide 15 = .ok (.aload_n 0, 1) := by decide +kernel
theorem dX12_wide_16 : decode cX12_wide 16 = .ok (.iload_n 1, 1) := by decide +kernel
theorem dX12_wide_17 : decode cX12_wide 17 = .ok (.iload 5, 2) := by decide +kernel
theorem dX12_wide_19 : decode cX12_wide 19 = .ok (.iadd, 1) := by decide +kernel
theorem dX12_wide_20 : decode cX12_wide 20 = .ok (.iaload, 1) := by decide +kernel
theorem dX12_wide_21 : decode cX12_wide 21 = .ok (.i2l, 1) := by decide +kernel
theorem dX12_wide_22 : decode cX12_wide 22 = .ok (.lor, 1) := by decide +kernel
theorem dX12_wide_23 : decode cX12_wide 23 = .ok (.lstore_n 3, 1) := by decide +kernel
theorem dX12_wide_24 : decode cX12_wide 24 = .ok (.iinc 5 1, 3) := by decide +kernel
theorem dX12_wide_27 : decode cX12_wide 27 = .ok (.goto (-22), 3) := by decide +kernel
theorem dX12_wide_30 : decode cX12_wide 30 = .ok (.lload_n 3, 1) := by decide +kernel
theorem dX12_wide_31 : decode cX12_wide 31 = .ok (.lreturn, 1) := by decide +kernel
theorem dX12_layWide_0 : decode cX12_layWide 0 = .ok (.iconst 0, 1) := by decide +kernel
theorem dX12_layWide_1 : decode cX12_layWide 1 = .ok (.istore 5, 2) := by decide +kernel
theorem dX12_layWide_3 : decode cX12_layWide 3 = .ok (.iload 5, 2) := by decide +kernel
theorem dX12_layWide_5 : decode cX12_layWide 5 = .ok (.iload_n 2, 1) := by decide +kernel
theorem dX12_layWide_6 : decode cX12_layWide 6 = .ok (.if_icmp .ge 34, 3) := by decide +kernel
theorem dX12_layWide_9 : decode cX12_layWide 9 = .ok (.aload_n 0, 1) := by decide +kernel
theorem dX12_layWide_10 : decode cX12_layWide 10 = .ok (.getfield 293, 3) := by decide +kernel
theorem dX12_layWide_13 : decode cX12_layWide 13 = .ok (.iload_n 1, 1) := by decide +kernel
theorem dX12_layWide_14 : decode cX12_layWide 14 = .ok (.iload 5, 2) := by decide +kernel
theorem dX12_layWide_16 : decode cX12_layWide 16 = .ok (.iadd, 1) := by decide +kernel
theorem dX12_layWide_17 : decode cX12_layWide 17 = .ok (.lload_n 3, 1) := by decide +kernel
theorem dX12_layWide_18 : decode cX12_layWide 18 = .ok (.bipush 8, 2) := by decide +kernel
theorem dX12_layWide_20 : decode cX12_layWide 20 = .ok (.iload_n 2, 1) := by decide +kernel
theorem dX12_layWide_21 : decode cX12_layWide 21 = .ok (.iconst 1, 1) := by decide +kernel
theorem dX12_layWide_22 : decode cX12_layWide 22 = .ok (.isub, 1) := by decide +kernel
theorem dX12_layWide_23 : decode cX12_layWide 23 = .ok (.iload 5, 2) := by decide +kernel
theorem dX12_layWide_25 : decode cX12_layWide 25 = .ok (.isub, 1) := by decide +kernel
theorem dX12_layWide_26 : decode cX12_layWide 26 = .ok (.imul, 1) := by decide +kernel
theorem dX12_layWide_27 : decode cX12_layWide 27 = .ok (.lshr, 1) := by decide +kernel
theorem dX12_layWide_28 : decode cX12_layWide 28 = .ok (.ldc2_w 781, 3) := by decide +kernel
theorem dX12_layWide_31 : decode cX12_layWide 31 = .ok (.land, 1) := by decide +kernel
theorem dX12_layWide_32 : decode cX12_layWide 32 = .ok (.l2i, 1) := by decide +kernel
theorem dX12_layWide_33 : decode cX12_layWide 33 = .ok (.iastore, 1) := by decide +kernel
theorem dX12_layWide_34 : decode cX12_layWide 34 = .ok (.iinc 5 1, 3) := by decide +kernel
theorem dX12_layWide_37 : decode cX12_layWide 37 = .ok (.goto (-34), 3) := by decide +kernel
theorem dX12_layWide_40 : decode cX12_layWide 40 = .ok (.return_, 1) := by decide +kernel
theorem dX12_isPageLane_0 : decode cX12_isPageLane 0 = .ok (.iload_n 0, 1) := by decide +kernel
theorem dX12_isPageLane_1 : decode cX12_isPageLane 1 = .ok (.iconst 1, 1) := by decide +kernel
theorem dX12_isPageLane_2 : decode cX12_isPageLane 2 = .ok (.if_icmp .eq 13, 3) := by decide +kernel
theorem dX12_isPageLane_5 : decode cX12_isPageLane 5 = .ok (.iload_n 0, 1) := by decide +kernel
theorem dX12_isPageLane_6 : decode cX12_isPageLane 6 = .ok (.iconst 3, 1) := by decide +kernel
theorem dX12_isPageLane_7 : decode cX12_isPageLane 7 = .ok (.if_icmp .lt 12, 3) := by decide +kernel
theorem dX12_isPageLane_10 : decode cX12_isPageLane 10 = .ok (.iload_n 0, 1) := by decide +kernel
theorem dX12_isPageLane_11 : decode cX12_isPageLane 11 = .ok (.iconst 5, 1) := by decide +kernel
theorem dX12_isPageLane_12 : decode cX12_isPageLane 12 = .ok (.if_icmp .gt 7, 3) := by decide +kernel
theorem dX12_isPageLane_15 : decode cX12_isPageLane 15 = .ok (.iconst 1, 1) := by decide +kernel
theorem dX12_isPageLane_16 : decode cX12_isPageLane 16 = .ok (.goto 4, 3) := by decide +kernel
theorem dX12_isPageLane_19 : decode cX12_isPageLane 19 = .ok (.iconst 0, 1) := by decide +kernel
theorem dX12_isPageLane_20 : decode cX12_isPageLane 20 = .ok (.ireturn, 1) := by decide +kernel
theorem dX12_write_0 : decode cX12_write 0 = .ok (.iload_n 1, 1) := by decide +kernel
theorem dX12_write_1 : decode cX12_write 1 = .ok (.invokestatic 345, 3) := by decide +kernel
theorem dX12_write_4 : decode cX12_write 4 = .ok (.ifCond .ne 6, 3) := by decide +kernel
theorem dX12_write_7 : decode cX12_write 7 = .ok (.bipush (-2), 2) := by decide +kernel
theorem dX12_write_9 : decode cX12_write 9 = .ok (.ireturn, 1) := by decide +kernel
theorem dX12_write_10 : decode cX12_write 10 = .ok (.aload_n 0, 1) := by decide +kernel
theorem dX12_write_11 : decode cX12_write 11 = .ok (.getfield 9, 3) := by decide +kernel
theorem dX12_write_14 : decode cX12_write 14 = .ok (.iload_n 1, 1) := by decide +kernel
theorem dX12_write_15 : decode cX12_write 15 = .ok (.iaload, 1) := by decide +kernel
theorem dX12_write_16 : decode cX12_write 16 = .ok (.istore_n 2, 1) := by decide +kernel
theorem dX12_write_17 : decode cX12_write 17 = .ok (.iload_n 2, 1) := by decide +kernel
theorem dX12_write_18 : decode cX12_write 18 = .ok (.ifCond .eq 15, 3) := by decide +kernel
theorem dX12_write_21 : decode cX12_write 21 = .ok (.aload_n 0, 1) := by decide +kernel
theorem dX12_write_22 : decode cX12_write 22 = .ok (.getfield 15, 3) := by decide +kernel
theorem dX12_write_25 : decode cX12_write 25 = .ok (.iload_n 2, 1) := by decide +kernel
theorem dX12_write_26 : decode cX12_write 26 = .ok (.baload, 1) := by decide +kernel
theorem dX12_write_27 : decode cX12_write 27 = .ok (.invokestatic 783, 3) := by decide +kernel
theorem dX12_write_30 : decode cX12_write 30 = .ok (.ifCond .ne 17, 3) := by decide +kernel
theorem dX12_write_33 : decode cX12_write 33 = .ok (.aload_n 0, 1) := by decide +kernel
theorem dX12_write_34 : decode cX12_write 34 = .ok (.iload_n 2, 1) := by decide +kernel
theorem dX12_write_35 : decode cX12_write 35 = .ok (.ifCond .ne 7, 3) := by decide +kernel
theorem dX12_write_38 : decode cX12_write 38 = .ok (.iconst 1, 1) := by decide +kernel
theorem dX12_write_39 : decode cX12_write 39 = .ok (.goto 4, 3) := by decide +kernel
theorem dX12_write_42 : decode cX12_write 42 = .ok (.iconst 4, 1) := by decide +kernel
theorem dX12_write_43 : decode cX12_write 43 = .ok (.invokevirtual 308, 3) := by decide +kernel
theorem dX12_write_46 : decode cX12_write 46 = .ok (.ireturn, 1) := by decide +kernel
theorem dX12_write_47 : decode cX12_write 47 = .ok (.aload_n 0, 1) := by decide +kernel
theorem dX12_write_48 : decode cX12_write 48 = .ok (.getfield 786, 3) := by decide +kernel
theorem dX12_write_51 : decode cX12_write 51 = .ok (.ifCond .eq 6, 3) := by decide +kernel
theorem dX12_write_54 : decode cX12_write 54 = .ok (.bipush (-3), 2) := by decide +kernel
theorem dX12_write_56 : decode cX12_write 56 = .ok (.ireturn, 1) := by decide +kernel
theorem dX12_write_57 : decode cX12_write 57 = .ok (.aload_n 0, 1) := by decide +kernel
theorem dX12_write_58 : decode cX12_write 58 = .ok (.getfield 19, 3) := by decide +kernel
theorem dX12_write_61 : decode cX12_write 61 = .ok (.iload_n 2, 1) := by decide +kernel
theorem dX12_write_62 : decode cX12_write 62 = .ok (.baload, 1) := by decide +kernel
theorem dX12_write_63 : decode cX12_write 63 = .ok (.bipush 6, 2) := by decide +kernel
theorem dX12_write_65 : decode cX12_write 65 = .ok (.if_icmp .gt 22, 3) := by decide +kernel
theorem dX12_write_68 : decode cX12_write 68 = .ok (.aload_n 0, 1) := by decide +kernel
theorem dX12_write_69 : decode cX12_write 69 = .ok (.getfield 789, 3) := by decide +kernel
theorem dX12_write_72 : decode cX12_write 72 = .ok (.bipush 20, 2) := by decide +kernel
theorem dX12_write_74 : decode cX12_write 74 = .ok (.if_icmp .eq 13, 3) := by decide +kernel
theorem dX12_write_77 : decode cX12_write 77 = .ok (.aload_n 0, 1) := by decide +kernel
theorem dX12_write_78 : decode cX12_write 78 = .ok (.getfield 792, 3) := by decide +kernel
theorem dX12_write_81 : decode cX12_write 81 = .ok (.ldc_w 795, 3) := by decide +kernel
theorem dX12_write_84 : decode cX12_write 84 = .ok (.if_icmp .ne 6, 3) := by decide +kernel
theorem dX12_write_87 : decode cX12_write 87 = .ok (.bipush (-4), 2) := by decide +kernel
theorem dX12_write_89 : decode cX12_write 89 = .ok (.ireturn, 1) := by decide +kernel
theorem dX12_write_90 : decode cX12_write 90 = .ok (.iconst 0, 1) := by decide +kernel
theorem dX12_write_91 : decode cX12_write 91 = .ok (.istore_n 3, 1) := by decide +kernel
theorem dX12_write_92 : decode cX12_write 92 = .ok (.iload_n 3, 1) := by decide +kernel
theorem dX12_write_93 : decode cX12_write 93 = .ok (.bipush 64, 2) := by decide +kernel
theorem dX12_write_95 : decode cX12_write 95 = .ok (.if_icmp .ge 16, 3) := by decide +kernel
theorem dX12_write_98 : decode cX12_write 98 = .ok (.aload_n 0, 1) := by decide +kernel
theorem dX12_write_99 : decode cX12_write 99 = .ok (.getfield 293, 3) := by decide +kernel
theorem dX12_write_102 : decode cX12_write 102 = .ok (.iload_n 3, 1) := by decide +kernel
theorem dX12_write_103 : decode cX12_write 103 = .ok (.iconst 0, 1) := by decide +kernel
theorem dX12_write_104 : decode cX12_write 104 = .ok (.iastore, 1) := by decide +kernel
theorem dX12_write_105 : decode cX12_write 105 = .ok (.iinc 3 1, 3) := by decide +kernel
theorem dX12_write_108 : decode cX12_write 108 = .ok (.goto (-16), 3) := by decide +kernel
theorem dX12_write_111 : decode cX12_write 111 = .ok (.aload_n 0, 1) := by decide +kernel
theorem dX12_write_112 : decode cX12_write 112 = .ok (.iconst 0, 1) := by decide +kernel
theorem dX12_write_113 : decode cX12_write 113 = .ok (.iconst 4, 1) := by decide +kernel
theorem dX12_write_114 : decode cX12_write 114 = .ok (.aload_n 0, 1) := by decide +kernel
theorem dX12_write_115 : decode cX12_write 115 = .ok (.getfield 792, 3) := by decide +kernel
theorem dX12_write_118 : decode cX12_write 118 = .ok (.iconst 1, 1) := by decide +kernel
theorem dX12_write_119 : decode cX12_write 119 = .ok (.iadd, 1) := by decide +kernel
theorem dX12_write_120 : decode cX12_write 120 = .ok (.i2l, 1) := by decide +kernel
theorem dX12_write_121 : decode cX12_write 121 = .ok (.invokevirtual 796, 3) := by decide +kernel
theorem dX12_write_124 : decode cX12_write 124 = .ok (.aload_n 0, 1) := by decide +kernel
theorem dX12_write_125 : decode cX12_write 125 = .ok (.getfield 293, 3) := by decide +kernel
theorem dX12_write_128 : decode cX12_write 128 = .ok (.iconst 4, 1) := by decide +kernel
theorem dX12_write_129 : decode cX12_write 129 = .ok (.aload_n 0, 1) := by decide +kernel
theorem dX12_write_130 : decode cX12_write 130 = .ok (.getfield 15, 3) := by decide +kernel
theorem dX12_write_133 : decode cX12_write 133 = .ok (.iload_n 2, 1) := by decide +kernel
theorem dX12_write_134 : decode cX12_write 134 = .ok (.baload, 1) := by decide +kernel
theorem dX12_write_135 : decode cX12_write 135 = .ok (.iastore, 1) := by decide +kernel
theorem dX12_write_136 : decode cX12_write 136 = .ok (.aload_n 0, 1) := by decide +kernel
theorem dX12_write_137 : decode cX12_write 137 = .ok (.getfield 293, 3) := by decide +kernel
theorem dX12_write_140 : decode cX12_write 140 = .ok (.iconst 5, 1) := by decide +kernel
theorem dX12_write_141 : decode cX12_write 141 = .ok (.aload_n 0, 1) := by decide +kernel
theorem dX12_write_142 : decode cX12_write 142 = .ok (.getfield 19, 3) := by decide +kernel
theorem dX12_write_145 : decode cX12_write 145 = .ok (.iload_n 2, 1) := by decide +kernel
theorem dX12_write_146 : decode cX12_write 146 = .ok (.baload, 1) := by decide +kernel
theorem dX12_write_147 : decode cX12_write 147 = .ok (.iastore, 1) := by decide +kernel
theorem dX12_write_148 : decode cX12_write 148 = .ok (.iconst 0, 1) := by decide +kernel
theorem dX12_write_149 : decode cX12_write 149 = .ok (.istore_n 3, 1) := by decide +kernel
theorem dX12_write_150 : decode cX12_write 150 = .ok (.iload_n 3, 1) := by decide +kernel
theorem dX12_write_151 : decode cX12_write 151 = .ok (.aload_n 0, 1) := by decide +kernel
theorem dX12_write_152 : decode cX12_write 152 = .ok (.getfield 19, 3) := by decide +kernel
theorem dX12_write_155 : decode cX12_write 155 = .ok (.iload_n 2, 1) := by decide +kernel
theorem dX12_write_156 : decode cX12_write 156 = .ok (.baload, 1) := by decide +kernel
theorem dX12_write_157 : decode cX12_write 157 = .ok (.if_icmp .ge 35, 3) := by decide +kernel
theorem dX12_write_160 : decode cX12_write 160 = .ok (.aload_n 0, 1) := by decide +kernel
theorem dX12_write_161 : decode cX12_write 161 = .ok (.bipush 12, 2) := by decide +kernel
theorem dX12_write_163 : decode cX12_write 163 = .ok (.bipush 8, 2) := by decide +kernel
theorem dX12_write_165 : decode cX12_write 165 = .ok (.iload_n 3, 1) := by decide +kernel
theorem dX12_write_166 : decode cX12_write 166 = .ok (.imul, 1) := by decide +kernel
theorem dX12_write_167 : decode cX12_write 167 = .ok (.iadd, 1) := by decide +kernel
theorem dX12_write_168 : decode cX12_write 168 = .ok (.bipush 8, 2) := by decide +kernel
theorem dX12_write_170 : decode cX12_write 170 = .ok (.aload_n 0, 1) := by decide +kernel
theorem dX12_write_171 : decode cX12_write 171 = .ok (.getfield 26, 3) := by decide +kernel
theorem dX12_write_174 : decode cX12_write 174 = .ok (.aload_n 0, 1) := by decide +kernel
theorem dX12_write_175 : decode cX12_write 175 = .ok (.getfield 22, 3) := by decide +kernel
theorem dX12_write_178 : decode cX12_write 178 = .ok (.iload_n 2, 1) := by decide +kernel
theorem dX12_write_179 : decode cX12_write 179 = .ok (.iaload, 1) := by decide +kernel
theorem dX12_write_180 : decode cX12_write 180 = .ok (.iload_n 3, 1) := by decide +kernel
theorem dX12_write_181 : decode cX12_write 181 = .ok (.iadd, 1) := by decide +kernel
theorem dX12_write_182 : decode cX12_write 182 = .ok (.laload, 1) := by decide +kernel
theorem dX12_write_183 : decode cX12_write 183 = .ok (.invokevirtual 796, 3) := by decide +kernel
theorem dX12_write_186 : decode cX12_write 186 = .ok (.iinc 3 1, 3) := by decide +kernel
theorem dX12_write_189 : decode cX12_write 189 = .ok (.goto (-39), 3) := by decide +kernel
theorem dX12_write_192 : decode cX12_write 192 = .ok (.aload_n 0, 1) := by decide +kernel
theorem dX12_write_193 : decode cX12_write 193 = .ok (.bipush 60, 2) := by decide +kernel
theorem dX12_write_195 : decode cX12_write 195 = .ok (.iconst 4, 1) := by decide +kernel
theorem dX12_write_196 : decode cX12_write 196 = .ok (.aload_n 0, 1) := by decide +kernel
theorem dX12_write_197 : decode cX12_write 197 = .ok (.getfield 293, 3) := by decide +kernel
theorem dX12_write_200 : decode cX12_write 200 = .ok (.iconst 0, 1) := by decide +kernel
theorem dX12_write_201 : decode cX12_write 201 = .ok (.invokestatic 800, 3) := by decide +kernel
theorem dX12_write_204 : decode cX12_write 204 = .ok (.i2l, 1) := by decide +kernel
theorem dX12_write_205 : decode cX12_write 205 = .ok (.invokevirtual 796, 3) := by decide +kernel
theorem dX12_write_208 : decode cX12_write 208 = .ok (.bipush 64, 2) := by decide +kernel
theorem dX12_write_210 : decode cX12_write 210 = .ok (.aload_n 0, 1) := by decide +kernel
theorem dX12_write_211 : decode cX12_write 211 = .ok (.getfield 789, 3) := by decide +kernel
theorem dX12_write_214 : decode cX12_write 214 = .ok (.imul, 1) := by decide +kernel
theorem dX12_write_215 : decode cX12_write 215 = .ok (.istore_n 3, 1) := by decide +kernel
theorem dX12_write_216 : decode cX12_write 216 = .ok (.iconst 0, 1) := by decide +kernel
theorem dX12_write_217 : decode cX12_write 217 = .ok (.istore 4, 2) := by decide +kernel
theorem dX12_write_219 : decode cX12_write 219 = .ok (.iload 4, 2) := by decide +kernel
theorem dX12_write_221 : decode cX12_write 221 = .ok (.bipush 64, 2) := by decide +kernel
theorem dX12_write_223 : decode cX12_write 223 = .ok (.if_icmp .ge 85, 3) := by decide +kernel
theorem dX12_write_226 : decode cX12_write 226 = .ok (.aload_n 0, 1) := by decide +kernel
theorem dX12_write_227 : decode cX12_write 227 = .ok (.getfield 296, 3) := by decide +kernel
theorem dX12_write_230 : decode cX12_write 230 = .ok (.ifCond .ne 35, 3) := by decide +kernel
theorem dX12_write_233 : decode cX12_write 233 = .ok (.aload_n 0, 1) := by decide +kernel
theorem dX12_write_234 : decode cX12_write 234 = .ok (.iconst 1, 1) := by decide +kernel
theorem dX12_write_235 : decode cX12_write 235 = .ok (.putfield 786, 3) := by decide +kernel
theorem dX12_write_238 : decode cX12_write 238 = .ok (.aload_n 0, 1) := by decide +kernel
theorem dX12_write_239 : decode cX12_write 239 = .ok (.iconst (-1), 1) := by decide +kernel
theorem dX12_write_240 : decode cX12_write 240 = .ok (.putfield 296, 3) := by decide +kernel
theorem dX12_write_243 : decode cX12_write 243 = .ok (.aload_n 0, 1) := by decide +kernel
theorem dX12_write_244 : decode cX12_write 244 = .ok (.dup, 1) := by decide +kernel
theorem dX12_write_245 : decode cX12_write 245 = .ok (.getfield 789, 3) := by decide +kernel
theorem dX12_write_248 : decode cX12_write 248 = .ok (.iload 4, 2) := by decide +kernel
theorem dX12_write_250 : decode cX12_write 250 = .ok (.ifCond .le 7, 3) := by decide +kernel
theorem dX12_write_253 : decode cX12_write 253 = .ok (.iconst 1, 1) := by decide +kernel
theorem dX12_write_254 : decode cX12_write 254 = .ok (.goto 4, 3) := by decide +kernel
theorem dX12_write_257 : decode cX12_write 257 = .ok (.iconst 0, 1) := by decide +kernel
theorem dX12_write_258 : decode cX12_write 258 = .ok (.iadd, 1) := by decide +kernel
theorem dX12_write_259 : decode cX12_write 259 = .ok (.putfield 789, 3) := by decide +kernel
theorem dX12_write_262 : decode cX12_write 262 = .ok (.bipush (-3), 2) := by decide +kernel
theorem dX12_write_264 : decode cX12_write 264 = .ok (.ireturn, 1) := by decide +kernel
theorem dX12_write_265 : decode cX12_write 265 = .ok (.aload_n 0, 1) := by decide +kernel
theorem dX12_write_266 : decode cX12_write 266 = .ok (.dup, 1) := by decide +kernel
theorem dX12_write_267 : decode cX12_write 267 = .ok (.getfield 296, 3) := by decide +kernel
theorem dX12_write_270 : decode cX12_write 270 = .ok (.aload_n 0, 1) := by decide +kernel
theorem dX12_write_271 : decode cX12_write 271 = .ok (.getfield 296, 3) := by decide +kernel
theorem dX12_write_274 : decode cX12_write 274 = .ok (.ifCond .le 7, 3) := by decide +kernel
theorem dX12_write_277 : decode cX12_write 277 = .ok (.iconst 1, 1) := by decide +kernel
theorem dX12_write_278 : decode cX12_write 278 = .ok (.goto 4, 3) := by decide +kernel
theorem dX12_write_281 : decode cX12_write 281 = .ok (.iconst 0, 1) := by decide +kernel
theorem dX12_write_282 : decode cX12_write 282 = .ok (.isub, 1) := by decide +kernel
theorem dX12_write_283 : decode cX12_write 283 = .ok (.putfield 296, 3) := by decide +kernel
theorem dX12_write_286 : decode cX12_write 286 = .ok (.aload_n 0, 1) := by decide +kernel
theorem dX12_write_287 : decode cX12_write 287 = .ok (.getfield 290, 3) := by decide +kernel
theorem dX12_write_290 : decode cX12_write 290 = .ok (.iload_n 3, 1) := by decide +kernel
theorem dX12_write_291 : decode cX12_write 291 = .ok (.iload 4, 2) := by decide +kernel
theorem dX12_write_293 : decode cX12_write 293 = .ok (.iadd, 1) := by decide +kernel
theorem dX12_write_294 : decode cX12_write 294 = .ok (.aload_n 0, 1) := by decide +kernel
theorem dX12_write_295 : decode cX12_write 295 = .ok (.getfield 293, 3) := by decide +kernel
theorem dX12_write_298 : decode cX12_write 298 = .ok (.iload 4, 2) := by decide +kernel
theorem dX12_write_300 : decode cX12_write 300 = .ok (.iaload, 1) := by decide +kernel
theorem dX12_write_301 : decode cX12_write 301 = .ok (.iastore, 1) := by decide +kernel
theorem dX12_write_302 : decode cX12_write 302 = .ok (.iinc 4 1, 3) := by decide +kernel
theorem dX12_write_305 : decode cX12_write 305 = .ok (.goto (-86), 3) := by decide +kernel
theorem dX12_write_308 : decode cX12_write 308 = .ok (.aload_n 0, 1) := by decide +kernel
theorem dX12_write_309 : decode cX12_write 309 = .ok (.dup, 1) := by decide +kernel
theorem dX12_write_310 : decode cX12_write 310 = .ok (.getfield 789, 3) := by decide +kernel
theorem dX12_write_313 : decode cX12_write 313 = .ok (.iconst 1, 1) := by decide +kernel
theorem dX12_write_314 : decode cX12_write 314 = .ok (.iadd, 1) := by decide +kernel
theorem dX12_write_315 : decode cX12_write 315 = .ok (.putfield 789, 3) := by decide +kernel
theorem dX12_write_318 : decode cX12_write 318 = .ok (.aload_n 0, 1) := by decide +kernel
theorem dX12_write_319 : decode cX12_write 319 = .ok (.dup, 1) := by decide +kernel
theorem dX12_write_320 : decode cX12_write 320 = .ok (.getfield 792, 3) := by decide +kernel
theorem dX12_write_323 : decode cX12_write 323 = .ok (.iconst 1, 1) := by decide +kernel
theorem dX12_write_324 : decode cX12_write 324 = .ok (.iadd, 1) := by decide +kernel
theorem dX12_write_325 : decode cX12_write 325 = .ok (.putfield 792, 3) := by decide +kernel
theorem dX12_write_328 : decode cX12_write 328 = .ok (.aload_n 0, 1) := by decide +kernel
theorem dX12_write_329 : decode cX12_write 329 = .ok (.getfield 792, 3) := by decide +kernel
theorem dX12_write_332 : decode cX12_write 332 = .ok (.ireturn, 1) := by decide +kernel
theorem dX12_power_0 : decode cX12_power 0 = .ok (.iload_n 1, 1) := by decide +kernel
theorem dX12_power_1 : decode cX12_power 1 = .ok (.iconst (-1), 1) := by decide +kernel
theorem dX12_power_2 : decode cX12_power 2 = .ok (.sipush 200, 3) := by decide +kernel
theorem dX12_power_5 : decode cX12_power 5 = .ok (.invokestatic 322, 3) := by decide +kernel
theorem dX12_power_8 : decode cX12_power 8 = .ok (.ifCond .ne 6, 3) := by decide +kernel
theorem dX12_power_11 : decode cX12_power 11 = .ok (.bipush (-2), 2) := by decide +kernel
theorem dX12_power_13 : decode cX12_power 13 = .ok (.ireturn, 1) := by decide +kernel
theorem dX12_power_14 : decode cX12_power 14 = .ok (.aload_n 0, 1) := by decide +kernel
theorem dX12_power_15 : decode cX12_power 15 = .ok (.getfield 786, 3) := by decide +kernel
theorem dX12_power_18 : decode cX12_power 18 = .ok (.ifCond .eq 6, 3) := by decide +kernel
theorem dX12_power_21 : decode cX12_power 21 = .ok (.bipush (-3), 2) := by decide +kernel
theorem dX12_power_23 : decode cX12_power 23 = .ok (.ireturn, 1) := by decide +kernel
theorem dX12_power_24 : decode cX12_power 24 = .ok (.aload_n 0, 1) := by decide +kernel
theorem dX12_power_25 : decode cX12_power 25 = .ok (.iload_n 1, 1) := by decide +kernel
theorem dX12_power_26 : decode cX12_power 26 = .ok (.putfield 296, 3) := by decide +kernel
theorem dX12_power_29 : decode cX12_power 29 = .ok (.iconst 1, 1) := by decide +kernel
theorem dX12_power_30 : decode cX12_power 30 = .ok (.ireturn, 1) := by decide +kernel
theorem dX12_numberOf_0 : decode cX12_numberOf 0 = .ok (.aload_n 0, 1) := by decide +kernel
theorem dX12_numberOf_1 : decode cX12_numberOf 1 = .ok (.getfield 290, 3) := by decide +kernel
theorem dX12_numberOf_4 : decode cX12_numberOf 4 = .ok (.bipush 64, 2) := by decide +kernel
theorem dX12_numberOf_6 : decode cX12_numberOf 6 = .ok (.iload_n 1, 1) := by decide +kernel
theorem dX12_numberOf_7 : decode cX12_numberOf 7 = .ok (.imul, 1) := by decide +kernel
theorem dX12_numberOf_8 : decode cX12_numberOf 8 = .ok (.iconst 4, 1) := by decide +kernel
theorem dX12_numberOf_9 : decode cX12_numberOf 9 = .ok (.invokestatic 804, 3) := by decide +kernel
theorem dX12_numberOf_12 : decode cX12_numberOf 12 = .ok (.l2i, 1) := by decide +kernel
theorem dX12_numberOf_13 : decode cX12_numberOf 13 = .ok (.ireturn, 1) := by decide +kernel
theorem dX12_isWhole_0 : decode cX12_isWhole 0 = .ok (.bipush 64, 2) := by decide +kernel
theorem dX12_isWhole_2 : decode cX12_isWhole 2 = .ok (.iload_n 1, 1) := by decide +kernel
theorem dX12_isWhole_3 : decode cX12_isWhole 3 = .ok (.imul, 1) := by decide +kernel
theorem dX12_isWhole_4 : decode cX12_isWhole 4 = .ok (.istore_n 2, 1) := by decide +kernel
theorem dX12_isWhole_5 : decode cX12_isWhole 5 = .ok (.aload_n 0, 1) := by decide +kernel
theorem dX12_isWhole_6 : decode cX12_isWhole 6 = .ok (.getfield 290, 3) := by decide +kernel
theorem dX12_isWhole_9 : decode cX12_isWhole 9 = .ok (.iload_n 2, 1) := by decide +kernel
theorem dX12_isWhole_10 : decode cX12_isWhole 10 = .ok (.iconst 4, 1) := by decide +kernel
theorem dX12_isWhole_11 : decode cX12_isWhole 11 = .ok (.iadd, 1) := by decide +kernel
theorem dX12_isWhole_12 : decode cX12_isWhole 12 = .ok (.iaload, 1) := by decide +kernel
theorem dX12_isWhole_13 : decode cX12_isWhole 13 = .ok (.istore_n 3, 1) := by decide +kernel
theorem dX12_isWhole_14 : decode cX12_isWhole 14 = .ok (.aload_n 0, 1) := by decide +kernel
theorem dX12_isWhole_15 : decode cX12_isWhole 15 = .ok (.getfield 290, 3) := by decide +kernel
theorem dX12_isWhole_18 : decode cX12_isWhole 18 = .ok (.iload_n 2, 1) := by decide +kernel
theorem dX12_isWhole_19 : decode cX12_isWhole 19 = .ok (.iconst 5, 1) := by decide +kernel
theorem dX12_isWhole_20 : decode cX12_isWhole 20 = .ok (.iadd, 1) := by decide +kernel
theorem dX12_isWhole_21 : decode cX12_isWhole 21 = .ok (.iaload, 1) := by decide +kernel
theorem dX12_isWhole_22 : decode cX12_isWhole 22 = .ok (.istore 4, 2) := by decide +kernel
theorem dX12_isWhole_24 : decode cX12_isWhole 24 = .ok (.aload_n 0, 1) := by decide +kernel
theorem dX12_isWhole_25 : decode cX12_isWhole 25 = .ok (.iload_n 1, 1) := by decide +kernel
theorem dX12_isWhole_26 : decode cX12_isWhole 26 = .ok (.invokevirtual 808, 3) := by decide +kernel
theorem dX12_isWhole_29 : decode cX12_isWhole 29 = .ok (.iconst 1, 1) := by decide +kernel
theorem dX12_isWhole_30 : decode cX12_isWhole 30 = .ok (.if_icmp .lt 41, 3) := by decide +kernel
theorem dX12_isWhole_33 : decode cX12_isWhole 33 = .ok (.iload_n 3, 1) := by decide +kernel
theorem dX12_isWhole_34 : decode cX12_isWhole 34 = .ok (.invokestatic 783, 3) := by decide +kernel
theorem dX12_isWhole_37 : decode cX12_isWhole 37 = .ok (.ifCond .eq 34, 3) := by decide +kernel
theorem dX12_isWhole_40 : decode cX12_isWhole 40 = .ok (.iload 4, 2) := by decide +kernel
theorem dX12_isWhole_42 : decode cX12_isWhole 42 = .ok (.bipush 6, 2) := by decide +kernel
theorem dX12_isWhole_44 : decode cX12_isWhole 44 = .ok (.if_icmp .gt 27, 3) := by decide +kernel
theorem dX12_isWhole_47 : decode cX12_isWhole 47 = .ok (.aload_n 0, 1) := by decide +kernel
theorem dX12_isWhole_48 : decode cX12_isWhole 48 = .ok (.getfield 290, 3) := by decide +kernel
theorem dX12_isWhole_51 : decode cX12_isWhole 51 = .ok (.iload_n 2, 1) := by decide +kernel
theorem dX12_isWhole_52 : decode cX12_isWhole 52 = .ok (.bipush 60, 2) := by decide +kernel
theorem dX12_isWhole_54 : decode cX12_isWhole 54 = .ok (.iadd, 1) := by decide +kernel
theorem dX12_isWhole_55 : decode cX12_isWhole 55 = .ok (.iconst 4, 1) := by decide +kernel
theorem dX12_isWhole_56 : decode cX12_isWhole 56 = .ok (.invokestatic 804, 3) := by decide +kernel
theorem dX12_isWhole_59 : decode cX12_isWhole 59 = .ok (.l2i, 1) := by decide +kernel
theorem dX12_isWhole_60 : decode cX12_isWhole 60 = .ok (.aload_n 0, 1) := by decide +kernel
theorem dX12_isWhole_61 : decode cX12_isWhole 61 = .ok (.getfield 290, 3) := by decide +kernel
theorem dX12_isWhole_64 : decode cX12_isWhole 64 = .ok (.iload_n 2, 1) := by decide +kernel
theorem dX12_isWhole_65 : decode cX12_isWhole 65 = .ok (.invokestatic 800, 3) := by decide +kernel
theorem dX12_isWhole_68 : decode cX12_isWhole 68 = .ok (.if_icmp .eq 5, 3) := by decide +kernel
theorem dX12_isWhole_71 : decode cX12_isWhole 71 = .ok (.iconst 0, 1) := by decide +kernel
theorem dX12_isWhole_72 : decode cX12_isWhole 72 = .ok (.ireturn, 1) := by decide +kernel
theorem dX12_isWhole_73 : decode cX12_isWhole 73 = .ok (.iconst 1, 1) := by decide +kernel
theorem dX12_isWhole_74 : decode cX12_isWhole 74 = .ok (.istore 5, 2) := by decide +kernel
theorem dX12_isWhole_76 : decode cX12_isWhole 76 = .ok (.bipush 6, 2) := by decide +kernel
theorem dX12_isWhole_78 : decode cX12_isWhole 78 = .ok (.istore 6, 2) := by decide +kernel
theorem dX12_isWhole_80 : decode cX12_isWhole 80 = .ok (.iload 6, 2) := by decide +kernel
theorem dX12_isWhole_82 : decode cX12_isWhole 82 = .ok (.bipush 60, 2) := by decide +kernel
theorem dX12_isWhole_84 : decode cX12_isWhole 84 = .ok (.if_icmp .ge 53, 3) := by decide +kernel
theorem dX12_isWhole_87 : decode cX12_isWhole 87 = .ok (.iload 5, 2) := by decide +kernel
theorem dX12_isWhole_89 : decode cX12_isWhole 89 = .ok (.ifCond .eq 39, 3) := by decide +kernel
theorem dX12_isWhole_92 : decode cX12_isWhole 92 = .ok (.aload_n 0, 1) := by decide +kernel
theorem dX12_isWhole_93 : decode cX12_isWhole 93 = .ok (.getfield 290, 3) := by decide +kernel
theorem dX12_isWhole_96 : decode cX12_isWhole 96 = .ok (.iload_n 2, 1) := by decide +kernel
theorem dX12_isWhole_97 : decode cX12_isWhole 97 = .ok (.iload 6, 2) := by decide +kernel
theorem dX12_isWhole_99 : decode cX12_isWhole 99 = .ok (.iadd, 1) := by decide +kernel
theorem dX12_isWhole_100 : decode cX12_isWhole 100 = .ok (.iaload, 1) := by decide +kernel
theorem dX12_isWhole_101 : decode cX12_isWhole 101 = .ok (.ifCond .eq 23, 3) := by decide +kernel
theorem dX12_isWhole_104 : decode cX12_isWhole 104 = .ok (.iload 6, 2) := by decide +kernel
theorem dX12_isWhole_106 : decode cX12_isWhole 106 = .ok (.bipush 12, 2) := by decide +kernel
theorem dX12_isWhole_108 : decode cX12_isWhole 108 = .ok (.if_icmp .lt 20, 3) := by decide +kernel
theorem dX12_isWhole_111 : decode cX12_isWhole 111 = .ok (.iload 6, 2) := by decide +kernel
theorem dX12_isWhole_113 : decode cX12_isWhole 113 = .ok (.bipush 12, 2) := by decide +kernel
theorem dX12_isWhole_115 : decode cX12_isWhole 115 = .ok (.bipush 8, 2) := by decide +kernel
theorem dX12_isWhole_117 : decode cX12_isWhole 117 = .ok (.iload 4, 2) := by decide +kernel
theorem dX12_isWhole_119 : decode cX12_isWhole 119 = .ok (.imul, 1) := by decide +kernel
theorem dX12_isWhole_120 : decode cX12_isWhole 120 = .ok (.iadd, 1) := by decide +kernel
theorem dX12_isWhole_121 : decode cX12_isWhole 121 = .ok (.if_icmp .ge 7, 3) := by decide +kernel
theorem dX12_isWhole_124 : decode cX12_isWhole 124 = .ok (.iconst 1, 1) := by decide +kernel
theorem dX12_isWhole_125 : decode cX12_isWhole 125 = .ok (.goto 4, 3) := by decide +kernel
theorem dX12_isWhole_128 : decode cX12_isWhole 128 = .ok (.iconst 0, 1) := by decide +kernel
theorem dX12_isWhole_129 : decode cX12_isWhole 129 = .ok (.istore 5, 2) := by decide +kernel
theorem dX12_isWhole_131 : decode cX12_isWhole 131 = .ok (.iinc 6 1, 3) := by decide +kernel
theorem dX12_isWhole_134 : decode cX12_isWhole 134 = .ok (.goto (-54), 3) := by decide +kernel
theorem dX12_isWhole_137 : decode cX12_isWhole 137 = .ok (.iconst 0, 1) := by decide +kernel
theorem dX12_isWhole_138 : decode cX12_isWhole 138 = .ok (.istore 6, 2) := by decide +kernel
theorem dX12_isWhole_140 : decode cX12_isWhole 140 = .ok (.iload 6, 2) := by decide +kernel
theorem dX12_isWhole_142 : decode cX12_isWhole 142 = .ok (.iload 4, 2) := by decide +kernel
theorem dX12_isWhole_144 : decode cX12_isWhole 144 = .ok (.if_icmp .ge 54, 3) := by decide +kernel
theorem dX12_isWhole_147 : decode cX12_isWhole 147 = .ok (.aload_n 0, 1) := by decide +kernel
theorem dX12_isWhole_148 : decode cX12_isWhole 148 = .ok (.getfield 290, 3) := by decide +kernel
theorem dX12_isWhole_151 : decode cX12_isWhole 151 = .ok (.iload_n 2, 1) := by decide +kernel
theorem dX12_isWhole_152 : decode cX12_isWhole 152 = .ok (.bipush 12, 2) := by decide +kernel
theorem dX12_isWhole_154 : decode cX12_isWhole 154 = .ok (.iadd, 1) := by decide +kernel
theorem dX12_isWhole_155 : decode cX12_isWhole 155 = .ok (.bipush 8, 2) := by decide +kernel
theorem dX12_isWhole_157 : decode cX12_isWhole 157 = .ok (.iload 6, 2) := by decide +kernel
theorem dX12_isWhole_159 : decode cX12_isWhole 159 = .ok (.imul, 1) := by decide +kernel
theorem dX12_isWhole_160 : decode cX12_isWhole 160 = .ok (.iadd, 1) := by decide +kernel
theorem dX12_isWhole_161 : decode cX12_isWhole 161 = .ok (.bipush 8, 2) := by decide +kernel
theorem dX12_isWhole_163 : decode cX12_isWhole 163 = .ok (.invokestatic 804, 3) := by decide +kernel
theorem dX12_isWhole_166 : decode cX12_isWhole 166 = .ok (.lstore 7, 2) := by decide +kernel
theorem dX12_isWhole_168 : decode cX12_isWhole 168 = .ok (.iload 5, 2) := by decide +kernel
theorem dX12_isWhole_170 : decode cX12_isWhole 170 = .ok (.ifCond .eq 19, 3) := by decide +kernel
theorem dX12_isWhole_173 : decode cX12_isWhole 173 = .ok (.iload_n 3, 1) := by decide +kernel
theorem dX12_isWhole_174 : decode cX12_isWhole 174 = .ok (.lload 7, 2) := by decide +kernel
theorem dX12_isWhole_176 : decode cX12_isWhole 176 = .ok (.invokestatic 377, 3) := by decide +kernel
theorem dX12_isWhole_179 : decode cX12_isWhole 179 = .ok (.lload 7, 2) := by decide +kernel
theorem dX12_isWhole_181 : decode cX12_isWhole 181 = .ok (.lcmp, 1) := by decide +kernel
theorem dX12_isWhole_182 : decode cX12_isWhole 182 = .ok (.ifCond .ne 7, 3) := by decide +kernel
theorem dX12_isWhole_185 : decode cX12_isWhole 185 = .ok (.iconst 1, 1) := by decide +kernel
theorem dX12_isWhole_186 : decode cX12_isWhole 186 = .ok (.goto 4, 3) := by decide +kernel
theorem dX12_isWhole_189 : decode cX12_isWhole 189 = .ok (.iconst 0, 1) := by decide +kernel
theorem dX12_isWhole_190 : decode cX12_isWhole 190 = .ok (.istore 5, 2) := by decide +kernel
theorem dX12_isWhole_192 : decode cX12_isWhole 192 = .ok (.iinc 6 1, 3) := by decide +kernel
theorem dX12_isWhole_195 : decode cX12_isWhole 195 = .ok (.goto (-55), 3) := by decide +kernel
theorem dX12_isWhole_198 : decode cX12_isWhole 198 = .ok (.iload 5, 2) := by decide +kernel
theorem dX12_isWhole_200 : decode cX12_isWhole 200 = .ok (.ireturn, 1) := by decide +kernel
theorem dX12_pageOf_0 : decode cX12_pageOf 0 = .ok (.iconst 0, 1) := by decide +kernel
theorem dX12_pageOf_1 : decode cX12_pageOf 1 = .ok (.istore_n 2, 1) := by decide +kernel
theorem dX12_pageOf_2 : decode cX12_pageOf 2 = .ok (.iload_n 2, 1) := by decide +kernel
theorem dX12_pageOf_3 : decode cX12_pageOf 3 = .ok (.bipush 20, 2) := by decide +kernel
theorem dX12_pageOf_5 : decode cX12_pageOf 5 = .ok (.if_icmp .ge 28, 3) := by decide +kernel
theorem dX12_pageOf_8 : decode cX12_pageOf 8 = .ok (.aload_n 0, 1) := by decide +kernel
theorem dX12_pageOf_9 : decode cX12_pageOf 9 = .ok (.iload_n 2, 1) := by decide +kernel
theorem dX12_pageOf_10 : decode cX12_pageOf 10 = .ok (.invokevirtual 811, 3) := by decide +kernel
theorem dX12_pageOf_13 : decode cX12_pageOf 13 = .ok (.ifCond .eq 14, 3) := by decide +kernel
theorem dX12_pageOf_16 : decode cX12_pageOf 16 = .ok (.aload_n 0, 1) := by decide +kernel
theorem dX12_pageOf_17 : decode cX12_pageOf 17 = .ok (.iload_n 2, 1) := by decide +kernel
theorem dX12_pageOf_18 : decode cX12_pageOf 18 = .ok (.invokevirtual 808, 3) := by decide +kernel
theorem dX12_pageOf_21 : decode cX12_pageOf 21 = .ok (.iload_n 1, 1) := by decide +kernel
theorem dX12_pageOf_22 : decode cX12_pageOf 22 = .ok (.if_icmp .ne 5, 3) := by decide +kernel
theorem dX12_pageOf_25 : decode cX12_pageOf 25 = .ok (.iload_n 2, 1) := by decide +kernel
theorem dX12_pageOf_26 : decode cX12_pageOf 26 = .ok (.ireturn, 1) := by decide +kernel
theorem dX12_pageOf_27 : decode cX12_pageOf 27 = .ok (.iinc 2 1, 3) := by decide +kernel
theorem dX12_pageOf_30 : decode cX12_pageOf 30 = .ok (.goto (-28), 3) := by decide +kernel
theorem dX12_pageOf_33 : decode cX12_pageOf 33 = .ok (.iconst (-1), 1) := by decide +kernel
theorem dX12_pageOf_34 : decode cX12_pageOf 34 = .ok (.ireturn, 1) := by decide +kernel
theorem dX12_above_0 : decode cX12_above 0 = .ok (.iconst 0, 1) := by decide +kernel
theorem dX12_above_1 : decode cX12_above 1 = .ok (.istore_n 2, 1) := by decide +kernel
theorem dX12_above_2 : decode cX12_above 2 = .ok (.iconst 0, 1) := by decide +kernel
theorem dX12_above_3 : decode cX12_above 3 = .ok (.istore_n 3, 1) := by decide +kernel
theorem dX12_above_4 : decode cX12_above 4 = .ok (.iload_n 3, 1) := by decide +kernel
theorem dX12_above_5 : decode cX12_above 5 = .ok (.bipush 20, 2) := by decide +kernel
theorem dX12_above_7 : decode cX12_above 7 = .ok (.if_icmp .ge 51, 3) := by decide +kernel
theorem dX12_above_10 : decode cX12_above 10 = .ok (.aload_n 0, 1) := by decide +kernel
theorem dX12_above_11 : decode cX12_above 11 = .ok (.iload_n 3, 1) := by decide +kernel
theorem dX12_above_12 : decode cX12_above 12 = .ok (.invokevirtual 811, 3) := by decide +kernel
theorem dX12_above_15 : decode cX12_above 15 = .ok (.ifCond .eq 11, 3) := by decide +kernel
theorem dX12_above_18 : decode cX12_above 18 = .ok (.aload_n 0, 1) := by decide +kernel
theorem dX12_above_19 : decode cX12_above 19 = .ok (.iload_n 3, 1) := by decide +kernel
theorem dX12_above_20 : decode cX12_above 20 = .ok (.invokevirtual 808, 3) := by decide +kernel
theorem dX12_above_23 : decode cX12_above 23 = .ok (.goto 4, 3) := by decide +kernel
theorem dX12_above_26 : decode cX12_above 26 = .ok (.iconst 0, 1) := by decide +kernel
theorem dX12_above_27 : decode cX12_above 27 = .ok (.istore 4, 2) := by decide +kernel
theorem dX12_above_29 : decode cX12_above 29 = .ok (.iload 4, 2) := by decide +kernel
theorem dX12_above_31 : decode cX12_above 31 = .ok (.iload_n 1, 1) := by decide +kernel
theorem dX12_above_32 : decode cX12_above 32 = .ok (.if_icmp .le 18, 3) := by decide +kernel
theorem dX12_above_35 : decode cX12_above 35 = .ok (.iload_n 2, 1) := by decide +kernel
theorem dX12_above_36 : decode cX12_above 36 = .ok (.ifCond .eq 9, 3) := by decide +kernel
theorem dX12_above_39 : decode cX12_above 39 = .ok (.iload 4, 2) := by decide +kernel
theorem dX12_above_41 : decode cX12_above 41 = .ok (.iload_n 2, 1) := by decide +kernel
theorem dX12_above_42 : decode cX12_above 42 = .ok (.if_icmp .ge 8, 3) := by decide +kernel
theorem dX12_above_45 : decode cX12_above 45 = .ok (.iload 4, 2) := by decide +kernel
theorem dX12_above_47 : decode cX12_above 47 = .ok (.goto 4, 3) := by decide +kernel
theorem dX12_above_50 : decode cX12_above 50 = .ok (.iload_n 2, 1) := by decide +kernel
theorem dX12_above_51 : decode cX12_above 51 = .ok (.istore_n 2, 1) := by decide +kernel
theorem dX12_above_52 : decode cX12_above 52 = .ok (.iinc 3 1, 3) := by decide +kernel
theorem dX12_above_55 : decode cX12_above 55 = .ok (.goto (-51), 3) := by decide +kernel
theorem dX12_above_58 : decode cX12_above 58 = .ok (.iload_n 2, 1) := by decide +kernel
theorem dX12_above_59 : decode cX12_above 59 = .ok (.ireturn, 1) := by decide +kernel
theorem dX12_readMany_0 : decode cX12_readMany 0 = .ok (.iconst 0, 1) := by decide +kernel
theorem dX12_readMany_1 : decode cX12_readMany 1 = .ok (.istore_n 1, 1) := by decide +kernel
theorem dX12_readMany_2 : decode cX12_readMany 2 = .ok (.aload_n 0, 1) := by decide +kernel
theorem dX12_readMany_3 : decode cX12_readMany 3 = .ok (.iconst 0, 1) := by decide +kernel
theorem dX12_readMany_4 : decode cX12_readMany 4 = .ok (.invokevirtual 814, 3) := by decide +kernel
theorem dX12_readMany_7 : decode cX12_readMany 7 = .ok (.istore_n 2, 1) := by decide +kernel
theorem dX12_readMany_8 : decode cX12_readMany 8 = .ok (.iload_n 2, 1) := by decide +kernel
theorem dX12_readMany_9 : decode cX12_readMany 9 = .ok (.ifCond .le 15, 3) := by decide +kernel
theorem dX12_readMany_12 : decode cX12_readMany 12 = .ok (.iinc 1 1, 3) := by decide +kernel
theorem dX12_readMany_15 : decode cX12_readMany 15 = .ok (.aload_n 0, 1) := by decide +kernel
theorem dX12_readMany_16 : decode cX12_readMany 16 = .ok (.iload_n 2, 1) := by decide +kernel
theorem dX12_readMany_17 : decode cX12_readMany 17 = .ok (.invokevirtual 814, 3) := by decide +kernel
theorem dX12_readMany_20 : decode cX12_readMany 20 = .ok (.istore_n 2, 1) := by decide +kernel
theorem dX12_readMany_21 : decode cX12_readMany 21 = .ok (.goto (-13), 3) := by decide +kernel
theorem dX12_readMany_24 : decode cX12_readMany 24 = .ok (.iload_n 1, 1) := by decide +kernel
theorem dX12_readMany_25 : decode cX12_readMany 25 = .ok (.ireturn, 1) := by decide +kernel
theorem dX12_open1_0 : decode cX12_open1 0 = .ok (.aload_n 0, 1) := by decide +kernel
theorem dX12_open1_1 : decode cX12_open1 1 = .ok (.iconst 0, 1) := by decide +kernel
theorem dX12_open1_2 : decode cX12_open1 2 = .ok (.putfield 786, 3) := by decide +kernel
theorem dX12_open1_5 : decode cX12_open1 5 = .ok (.aload_n 0, 1) := by decide +kernel
theorem dX12_open1_6 : decode cX12_open1 6 = .ok (.iconst (-1), 1) := by decide +kernel
theorem dX12_open1_7 : decode cX12_open1 7 = .ok (.putfield 296, 3) := by decide +kernel
theorem dX12_open1_10 : decode cX12_open1 10 = .ok (.aload_n 0, 1) := by decide +kernel
theorem dX12_open1_11 : decode cX12_open1 11 = .ok (.iconst 0, 1) := by decide +kernel
theorem dX12_open1_12 : decode cX12_open1 12 = .ok (.putfield 792, 3) := by decide +kernel
theorem dX12_open1_15 : decode cX12_open1 15 = .ok (.aload_n 0, 1) := by decide +kernel
theorem dX12_open1_16 : decode cX12_open1 16 = .ok (.iconst 0, 1) := by decide +kernel
theorem dX12_open1_17 : decode cX12_open1 17 = .ok (.putfield 789, 3) := by decide +kernel
theorem dX12_open1_20 : decode cX12_open1 20 = .ok (.iconst 0, 1) := by decide +kernel
theorem dX12_open1_21 : decode cX12_open1 21 = .ok (.istore_n 1, 1) := by decide +kernel
theorem dX12_open1_22 : decode cX12_open1 22 = .ok (.iload_n 1, 1) := by decide +kernel
theorem dX12_open1_23 : decode cX12_open1 23 = .ok (.bipush 20, 2) := by decide +kernel
theorem dX12_open1_25 : decode cX12_open1 25 = .ok (.if_icmp .ge 103, 3) := by decide +kernel
theorem dX12_open1_28 : decode cX12_open1 28 = .ok (.iconst 0, 1) := by decide +kernel
theorem dX12_open1_29 : decode cX12_open1 29 = .ok (.istore_n 2, 1) := by decide +kernel
theorem dX12_open1_30 : decode cX12_open1 30 = .ok (.iconst 0, 1) := by decide +kernel
theorem dX12_open1_31 : decode cX12_open1 31 = .ok (.istore_n 3, 1) := by decide +kernel
theorem dX12_open1_32 : decode cX12_open1 32 = .ok (.iload_n 3, 1) := by decide +kernel
theorem dX12_open1_33 : decode cX12_open1 33 = .ok (.bipush 64, 2) := by decide +kernel
theorem dX12_open1_35 : decode cX12_open1 35 = .ok (.if_icmp .ge 33, 3) := by decide +kernel
theorem dX12_open1_38 : decode cX12_open1 38 = .ok (.iload_n 2, 1) := by decide +kernel
theorem dX12_open1_39 : decode cX12_open1 39 = .ok (.ifCond .ne 17, 3) := by decide +kernel
theorem dX12_open1_42 : decode cX12_open1 42 = .ok (.aload_n 0, 1) := by decide +kernel
theorem dX12_open1_43 : decode cX12_open1 43 = .ok (.getfield 290, 3) := by decide +kernel
theorem dX12_open1_46 : decode cX12_open1 46 = .ok (.bipush 64, 2) := by decide +kernel
theorem dX12_open1_48 : decode cX12_open1 48 = .ok (.iload_n 1, 1) := by decide +kernel
theorem dX12_open1_49 : decode cX12_open1 49 = .ok (.imul, 1) := by decide +kernel
theorem dX12_open1_50 : decode cX12_open1 50 = .ok (.iload_n 3, 1) := by decide +kernel
theorem dX12_open1_51 : decode cX12_open1 51 = .ok (.iadd, 1) := by decide +kernel
theorem dX12_open1_52 : decode cX12_open1 52 = .ok (.iaload, 1) := by decide +kernel
theorem dX12_open1_53 : decode cX12_open1 53 = .ok (.ifCond .eq 7, 3) := by decide +kernel
theorem dX12_open1_56 : decode cX12_open1 56 = .ok (.iconst 1, 1) := by decide +kernel
theorem dX12_open1_57 : decode cX12_open1 57 = .ok (.goto 4, 3) := by decide +kernel
theorem dX12_open1_60 : decode cX12_open1 60 = .ok (.iconst 0, 1) := by decide +kernel
theorem dX12_open1_61 : decode cX12_open1 61 = .ok (.istore_n 2, 1) := by decide +kernel
theorem dX12_open1_62 : decode cX12_open1 62 = .ok (.iinc 3 1, 3) := by decide +kernel
theorem dX12_open1_65 : decode cX12_open1 65 = .ok (.goto (-33), 3) := by decide +kernel
theorem dX12_open1_68 : decode cX12_open1 68 = .ok (.aload_n 0, 1) := by decide +kernel
theorem dX12_open1_69 : decode cX12_open1 69 = .ok (.iload_n 2, 1) := by decide +kernel
theorem dX12_open1_70 : decode cX12_open1 70 = .ok (.ifCond .eq 9, 3) := by decide +kernel
theorem dX12_open1_73 : decode cX12_open1 73 = .ok (.iload_n 1, 1) := by decide +kernel
theorem dX12_open1_74 : decode cX12_open1 74 = .ok (.iconst 1, 1) := by decide +kernel
theorem dX12_open1_75 : decode cX12_open1 75 = .ok (.iadd, 1) := by decide +kernel
theorem dX12_open1_76 : decode cX12_open1 76 = .ok (.goto 7, 3) := by decide +kernel
theorem dX12_open1_79 : decode cX12_open1 79 = .ok (.aload_n 0, 1) := by decide +kernel
theorem dX12_open1_80 : decode cX12_open1 80 = .ok (.getfield 789, 3) := by decide +kernel
theorem dX12_open1_83 : decode cX12_open1 83 = .ok (.putfield 789, 3) := by decide +kernel
theorem dX12_open1_86 : decode cX12_open1 86 = .ok (.aload_n 0, 1) := by decide +kernel
theorem dX12_open1_87 : decode cX12_open1 87 = .ok (.aload_n 0, 1) := by decide +kernel
theorem dX12_open1_88 : decode cX12_open1 88 = .ok (.iload_n 1, 1) := by decide +kernel
theorem dX12_open1_89 : decode cX12_open1 89 = .ok (.invokevirtual 811, 3) := by decide +kernel
theorem dX12_open1_92 : decode cX12_open1 92 = .ok (.ifCond .eq 23, 3) := by decide +kernel
theorem dX12_open1_95 : decode cX12_open1 95 = .ok (.aload_n 0, 1) := by decide +kernel
theorem dX12_open1_96 : decode cX12_open1 96 = .ok (.iload_n 1, 1) := by decide +kernel
theorem dX12_open1_97 : decode cX12_open1 97 = .ok (.invokevirtual 808, 3) := by decide +kernel
theorem dX12_open1_100 : decode cX12_open1 100 = .ok (.aload_n 0, 1) := by decide +kernel
theorem dX12_open1_101 : decode cX12_open1 101 = .ok (.getfield 792, 3) := by decide +kernel
theorem dX12_open1_104 : decode cX12_open1 104 = .ok (.if_icmp .le 11, 3) := by decide +kernel
theorem dX12_open1_107 : decode cX12_open1 107 = .ok (.aload_n 0, 1) := by decide +kernel
theorem dX12_open1_108 : decode cX12_open1 108 = .ok (.iload_n 1, 1) := by decide +kernel
theorem dX12_open1_109 : decode cX12_open1 109 = .ok (.invokevirtual 808, 3) := by decide +kernel
theorem dX12_open1_112 : decode cX12_open1 112 = .ok (.goto 7, 3) := by decide +kernel
theorem dX12_open1_115 : decode cX12_open1 115 = .ok (.aload_n 0, 1) := by decide +kernel
theorem dX12_open1_116 : decode cX12_open1 116 = .ok (.getfield 792, 3) := by decide +kernel
theorem dX12_open1_119 : decode cX12_open1 119 = .ok (.putfield 792, 3) := by decide +kernel
theorem dX12_open1_122 : decode cX12_open1 122 = .ok (.iinc 1 1, 3) := by decide +kernel
theorem dX12_open1_125 : decode cX12_open1 125 = .ok (.goto (-103), 3) := by decide +kernel
theorem dX12_open1_128 : decode cX12_open1 128 = .ok (.aload_n 0, 1) := by decide +kernel
theorem dX12_open1_129 : decode cX12_open1 129 = .ok (.invokevirtual 817, 3) := by decide +kernel
theorem dX12_open1_132 : decode cX12_open1 132 = .ok (.ireturn, 1) := by decide +kernel
theorem dX12_page_0 : decode cX12_page 0 = .ok (.iload_n 1, 1) := by decide +kernel
theorem dX12_page_1 : decode cX12_page 1 = .ok (.ifCond .ge 7, 3) := by decide +kernel
theorem dX12_page_4 : decode cX12_page 4 = .ok (.ldc2_w 634, 3) := by decide +kernel
theorem dX12_page_7 : decode cX12_page 7 = .ok (.lreturn, 1) := by decide +kernel
theorem dX12_page_8 : decode cX12_page 8 = .ok (.aload_n 0, 1) := by decide +kernel
theorem dX12_page_9 : decode cX12_page 9 = .ok (.iconst 0, 1) := by decide +kernel
theorem dX12_page_10 : decode cX12_page 10 = .ok (.invokevirtual 814, 3) := by decide +kernel
theorem dX12_page_13 : decode cX12_page 13 = .ok (.istore_n 3, 1) := by decide +kernel
theorem dX12_page_14 : decode cX12_page 14 = .ok (.iconst 0, 1) := by decide +kernel
theorem dX12_page_15 : decode cX12_page 15 = .ok (.istore 4, 2) := by decide +kernel
theorem dX12_page_17 : decode cX12_page 17 = .ok (.iload 4, 2) := by decide +kernel
theorem dX12_page_19 : decode cX12_page 19 = .ok (.iload_n 1, 1) := by decide +kernel
theorem dX12_page_20 : decode cX12_page 20 = .ok (.if_icmp .ge 19, 3) := by decide +kernel
theorem dX12_page_23 : decode cX12_page 23 = .ok (.iload_n 3, 1) := by decide +kernel
theorem dX12_page_24 : decode cX12_page 24 = .ok (.ifCond .le 15, 3) := by decide +kernel
theorem dX12_page_27 : decode cX12_page 27 = .ok (.aload_n 0, 1) := by decide +kernel
theorem dX12_page_28 : decode cX12_page 28 = .ok (.iload_n 3, 1) := by decide +kernel
theorem dX12_page_29 : decode cX12_page 29 = .ok (.invokevirtual 814, 3) := by decide +kernel
theorem dX12_page_32 : decode cX12_page 32 = .ok (.istore_n 3, 1) := by decide +kernel
theorem dX12_page_33 : decode cX12_page 33 = .ok (.iinc 4 1, 3) := by decide +kernel
theorem dX12_page_36 : decode cX12_page 36 = .ok (.goto (-19), 3) := by decide +kernel
theorem dX12_page_39 : decode cX12_page 39 = .ok (.iload_n 3, 1) := by decide +kernel
theorem dX12_page_40 : decode cX12_page 40 = .ok (.ifCond .ne 7, 3) := by decide +kernel
theorem dX12_page_43 : decode cX12_page 43 = .ok (.ldc2_w 634, 3) := by decide +kernel
theorem dX12_page_46 : decode cX12_page 46 = .ok (.lreturn, 1) := by decide +kernel
theorem dX12_page_47 : decode cX12_page 47 = .ok (.aload_n 0, 1) := by decide +kernel
theorem dX12_page_48 : decode cX12_page 48 = .ok (.iload_n 3, 1) := by decide +kernel
theorem dX12_page_49 : decode cX12_page 49 = .ok (.invokevirtual 820, 3) := by decide +kernel
theorem dX12_page_52 : decode cX12_page 52 = .ok (.istore 4, 2) := by decide +kernel
theorem dX12_page_54 : decode cX12_page 54 = .ok (.aload_n 0, 1) := by decide +kernel
theorem dX12_page_55 : decode cX12_page 55 = .ok (.getfield 290, 3) := by decide +kernel
theorem dX12_page_58 : decode cX12_page 58 = .ok (.bipush 64, 2) := by decide +kernel
theorem dX12_page_60 : decode cX12_page 60 = .ok (.iload 4, 2) := by decide +kernel
theorem dX12_page_62 : decode cX12_page 62 = .ok (.imul, 1) := by decide +kernel
theorem dX12_page_63 : decode cX12_page 63 = .ok (.iconst 5, 1) := by decide +kernel
theorem dX12_page_64 : decode cX12_page 64 = .ok (.iadd, 1) := by decide +kernel
theorem dX12_page_65 : decode cX12_page 65 = .ok (.iaload, 1) := by decide +kernel
theorem dX12_page_66 : decode cX12_page 66 = .ok (.istore 5, 2) := by decide +kernel
theorem dX12_page_68 : decode cX12_page 68 = .ok (.iload_n 2, 1) := by decide +kernel
theorem dX12_page_69 : decode cX12_page 69 = .ok (.bipush 10, 2) := by decide +kernel
theorem dX12_page_71 : decode cX12_page 71 = .ok (.if_icmp .lt 38, 3) := by decide +kernel
theorem dX12_page_74 : decode cX12_page 74 = .ok (.iload_n 2, 1) := by decide +kernel
theorem dX12_page_75 : decode cX12_page 75 = .ok (.bipush 10, 2) := by decide +kernel
theorem dX12_page_77 : decode cX12_page 77 = .ok (.isub, 1) := by decide +kernel
theorem dX12_page_78 : decode cX12_page 78 = .ok (.iload 5, 2) := by decide +kernel
theorem dX12_page_80 : decode cX12_page 80 = .ok (.if_icmp .ge 29, 3) := by decide +kernel
theorem dX12_page_83 : decode cX12_page 83 = .ok (.aload_n 0, 1) := by decide +kernel
theorem dX12_page_84 : decode cX12_page 84 = .ok (.getfield 290, 3) := by decide +kernel
theorem dX12_page_87 : decode cX12_page 87 = .ok (.bipush 64, 2) := by decide +kernel
theorem dX12_page_89 : decode cX12_page 89 = .ok (.iload 4, 2) := by decide +kernel
theorem dX12_page_91 : decode cX12_page 91 = .ok (.imul, 1) := by decide +kernel
theorem dX12_page_92 : decode cX12_page 92 = .ok (.bipush 12, 2) := by decide +kernel
theorem dX12_page_94 : decode cX12_page 94 = .ok (.iadd, 1) := by decide +kernel
theorem dX12_page_95 : decode cX12_page 95 = .ok (.bipush 8, 2) := by decide +kernel
theorem dX12_page_97 : decode cX12_page 97 = .ok (.iload_n 2, 1) := by decide +kernel
theorem dX12_page_98 : decode cX12_page 98 = .ok (.bipush 10, 2) := by decide +kernel
theorem dX12_page_100 : decode cX12_page 100 = .ok (.isub, 1) := by decide +kernel
theorem dX12_page_101 : decode cX12_page 101 = .ok (.imul, 1) := by decide +kernel
theorem dX12_page_102 : decode cX12_page 102 = .ok (.iadd, 1) := by decide +kernel
theorem dX12_page_103 : decode cX12_page 103 = .ok (.bipush 8, 2) := by decide +kernel
theorem dX12_page_105 : decode cX12_page 105 = .ok (.invokestatic 804, 3) := by decide +kernel
theorem dX12_page_108 : decode cX12_page 108 = .ok (.lreturn, 1) := by decide +kernel
theorem dX12_page_109 : decode cX12_page 109 = .ok (.iload_n 2, 1) := by decide +kernel
theorem dX12_page_110 : decode cX12_page 110 = .ok (.ifCond .ne 9, 3) := by decide +kernel
theorem dX12_page_113 : decode cX12_page 113 = .ok (.iload 4, 2) := by decide +kernel
theorem dX12_page_115 : decode cX12_page 115 = .ok (.i2l, 1) := by decide +kernel
theorem dX12_page_116 : decode cX12_page 116 = .ok (.goto 48, 3) := by decide +kernel
theorem dX12_page_119 : decode cX12_page 119 = .ok (.iload_n 2, 1) := by decide +kernel
theorem dX12_page_120 : decode cX12_page 120 = .ok (.iconst 1, 1) := by decide +kernel
theorem dX12_page_121 : decode cX12_page 121 = .ok (.if_icmp .ne 8, 3) := by decide +kernel
theorem dX12_page_124 : decode cX12_page 124 = .ok (.iload_n 3, 1) := by decide +kernel
theorem dX12_page_125 : decode cX12_page 125 = .ok (.i2l, 1) := by decide +kernel
theorem dX12_page_126 : decode cX12_page 126 = .ok (.goto 38, 3) := by decide +kernel
theorem dX12_page_129 : decode cX12_page 129 = .ok (.iload_n 2, 1) := by decide +kernel
theorem dX12_page_130 : decode cX12_page 130 = .ok (.iconst 2, 1) := by decide +kernel
theorem dX12_page_131 : decode cX12_page 131 = .ok (.if_icmp .ne 19, 3) := by decide +kernel
theorem dX12_page_134 : decode cX12_page 134 = .ok (.aload_n 0, 1) := by decide +kernel
theorem dX12_page_135 : decode cX12_page 135 = .ok (.getfield 290, 3) := by decide +kernel
theorem dX12_page_138 : decode cX12_page 138 = .ok (.bipush 64, 2) := by decide +kernel
theorem dX12_page_140 : decode cX12_page 140 = .ok (.iload 4, 2) := by decide +kernel
theorem dX12_page_142 : decode cX12_page 142 = .ok (.imul, 1) := by decide +kernel
theorem dX12_page_143 : decode cX12_page 143 = .ok (.iconst 4, 1) := by decide +kernel
theorem dX12_page_144 : decode cX12_page 144 = .ok (.iadd, 1) := by decide +kernel
theorem dX12_page_145 : decode cX12_page 145 = .ok (.iaload, 1) := by decide +kernel
theorem dX12_page_146 : decode cX12_page 146 = .ok (.i2l, 1) := by decide +kernel
theorem dX12_page_147 : decode cX12_page 147 = .ok (.goto 17, 3) := by decide +kernel
theorem dX12_page_150 : decode cX12_page 150 = .ok (.iload_n 2, 1) := by decide +kernel
theorem dX12_page_151 : decode cX12_page 151 = .ok (.iconst 3, 1) := by decide +kernel
theorem dX12_page_152 : decode cX12_page 152 = .ok (.if_icmp .ne 9, 3) := by decide +kernel
theorem dX12_page_155 : decode cX12_page 155 = .ok (.iload 5, 2) := by decide +kernel
theorem dX12_page_157 : decode cX12_page 157 = .ok (.i2l, 1) := by decide +kernel
theorem dX12_page_158 : decode cX12_page 158 = .ok (.goto 6, 3) := by decide +kernel
theorem dX12_page_161 : decode cX12_page 161 = .ok (.ldc2_w 634, 3) := by decide +kernel
theorem dX12_page_164 : decode cX12_page 164 = .ok (.lreturn, 1) := by decide +kernel
theorem dX12_clash_0 : decode cX12_clash 0 = .ok (.iconst 0, 1) := by decide +kernel
theorem dX12_clash_1 : decode cX12_clash 1 = .ok (.istore_n 1, 1) := by decide +kernel
theorem dX12_clash_2 : decode cX12_clash 2 = .ok (.iconst 0, 1) := by decide +kernel
theorem dX12_clash_3 : decode cX12_clash 3 = .ok (.istore_n 2, 1) := by decide +kernel
theorem dX12_clash_4 : decode cX12_clash 4 = .ok (.iload_n 2, 1) := by decide +kernel
theorem dX12_clash_5 : decode cX12_clash 5 = .ok (.bipush 20, 2) := by decide +kernel
theorem dX12_clash_7 : decode cX12_clash 7 = .ok (.if_icmp .ge 98, 3) := by decide +kernel
theorem dX12_clash_10 : decode cX12_clash 10 = .ok (.aload_n 0, 1) := by decide +kernel
theorem dX12_clash_11 : decode cX12_clash 11 = .ok (.iload_n 2, 1) := by decide +kernel
theorem dX12_clash_12 : decode cX12_clash 12 = .ok (.invokevirtual 811, 3) := by decide +kernel
theorem dX12_clash_15 : decode cX12_clash 15 = .ok (.ifCond .eq 84, 3) := by decide +kernel
theorem dX12_clash_18 : decode cX12_clash 18 = .ok (.aload_n 0, 1) := by decide +kernel
theorem dX12_clash_19 : decode cX12_clash 19 = .ok (.aload_n 0, 1) := by decide +kernel
theorem dX12_clash_20 : decode cX12_clash 20 = .ok (.iload_n 2, 1) := by decide +kernel
theorem dX12_clash_21 : decode cX12_clash 21 = .ok (.invokevirtual 808, 3) := by decide +kernel
theorem dX12_clash_24 : decode cX12_clash 24 = .ok (.invokevirtual 820, 3) := by decide +kernel
theorem dX12_clash_27 : decode cX12_clash 27 = .ok (.istore_n 3, 1) := by decide +kernel
theorem dX12_clash_28 : decode cX12_clash 28 = .ok (.iconst 0, 1) := by decide +kernel
theorem dX12_clash_29 : decode cX12_clash 29 = .ok (.istore 4, 2) := by decide +kernel
theorem dX12_clash_31 : decode cX12_clash 31 = .ok (.iconst 0, 1) := by decide +kernel
theorem dX12_clash_32 : decode cX12_clash 32 = .ok (.istore 5, 2) := by decide +kernel
theorem dX12_clash_34 : decode cX12_clash 34 = .ok (.iload 5, 2) := by decide +kernel
theorem dX12_clash_36 : decode cX12_clash 36 = .ok (.bipush 64, 2) := by decide +kernel
theorem dX12_clash_38 : decode cX12_clash 38 = .ok (.if_icmp .ge 48, 3) := by decide +kernel
theorem dX12_clash_41 : decode cX12_clash 41 = .ok (.iload 4, 2) := by decide +kernel
theorem dX12_clash_43 : decode cX12_clash 43 = .ok (.ifCond .ne 30, 3) := by decide +kernel
theorem dX12_clash_46 : decode cX12_clash 46 = .ok (.aload_n 0, 1) := by decide +kernel
theorem dX12_clash_47 : decode cX12_clash 47 = .ok (.getfield 290, 3) := by decide +kernel
theorem dX12_clash_50 : decode cX12_clash 50 = .ok (.bipush 64, 2) := by decide +kernel
theorem dX12_clash_52 : decode cX12_clash 52 = .ok (.iload_n 2, 1) := by decide +kernel
theorem dX12_clash_53 : decode cX12_clash 53 = .ok (.imul, 1) := by decide +kernel
theorem dX12_clash_54 : decode cX12_clash 54 = .ok (.iload 5, 2) := by decide +kernel
theorem dX12_clash_56 : decode cX12_clash 56 = .ok (.iadd, 1) := by decide +kernel
theorem dX12_clash_57 : decode cX12_clash 57 = .ok (.iaload, 1) := by decide +kernel
theorem dX12_clash_58 : decode cX12_clash 58 = .ok (.aload_n 0, 1) := by decide +kernel
theorem dX12_clash_59 : decode cX12_clash 59 = .ok (.getfield 290, 3) := by decide +kernel
theorem dX12_clash_62 : decode cX12_clash 62 = .ok (.bipush 64, 2) := by decide +kernel
theorem dX12_clash_64 : decode cX12_clash 64 = .ok (.iload_n 3, 1) := by decide +kernel
theorem dX12_clash_65 : decode cX12_clash 65 = .ok (.imul, 1) := by decide +kernel
theorem dX12_clash_66 : decode cX12_clash 66 = .ok (.iload 5, 2) := by decide +kernel
theorem dX12_clash_68 : decode cX12_clash 68 = .ok (.iadd, 1) := by decide +kernel
theorem dX12_clash_69 : decode cX12_clash 69 = .ok (.iaload, 1) := by decide +kernel
theorem dX12_clash_70 : decode cX12_clash 70 = .ok (.if_icmp .eq 7, 3) := by decide +kernel
theorem dX12_clash_73 : decode cX12_clash 73 = .ok (.iconst 1, 1) := by decide +kernel
theorem dX12_clash_74 : decode cX12_clash 74 = .ok (.goto 4, 3) := by decide +kernel
theorem dX12_clash_77 : decode cX12_clash 77 = .ok (.iconst 0, 1) := by decide +kernel
theorem dX12_clash_78 : decode cX12_clash 78 = .ok (.istore 4, 2) := by decide +kernel
theorem dX12_clash_80 : decode cX12_clash 80 = .ok (.iinc 5 1, 3) := by decide +kernel
theorem dX12_clash_83 : decode cX12_clash 83 = .ok (.goto (-49), 3) := by decide +kernel
theorem dX12_clash_86 : decode cX12_clash 86 = .ok (.iload_n 1, 1) := by decide +kernel
theorem dX12_clash_87 : decode cX12_clash 87 = .ok (.iload 4, 2) := by decide +kernel
theorem dX12_clash_89 : decode cX12_clash 89 = .ok (.ifCond .eq 7, 3) := by decide +kernel
theorem dX12_clash_92 : decode cX12_clash 92 = .ok (.iconst 1, 1) := by decide +kernel
theorem dX12_clash_93 : decode cX12_clash 93 = .ok (.goto 4, 3) := by decide +kernel
theorem dX12_clash_96 : decode cX12_clash 96 = .ok (.iconst 0, 1) := by decide +kernel
theorem dX12_clash_97 : decode cX12_clash 97 = .ok (.iadd, 1) := by decide +kernel
theorem dX12_clash_98 : decode cX12_clash 98 = .ok (.istore_n 1, 1) := by decide +kernel
theorem dX12_clash_99 : decode cX12_clash 99 = .ok (.iinc 2 1, 3) := by decide +kernel
theorem dX12_clash_102 : decode cX12_clash 102 = .ok (.goto (-98), 3) := by decide +kernel
theorem dX12_clash_105 : decode cX12_clash 105 = .ok (.iload_n 1, 1) := by decide +kernel
theorem dX12_clash_106 : decode cX12_clash 106 = .ok (.ireturn, 1) := by decide +kernel
theorem dX12_octet_0 : decode cX12_octet 0 = .ok (.iload_n 1, 1) := by decide +kernel
theorem dX12_octet_1 : decode cX12_octet 1 = .ok (.iconst 0, 1) := by decide +kernel
theorem dX12_octet_2 : decode cX12_octet 2 = .ok (.bipush 19, 2) := by decide +kernel
theorem dX12_octet_4 : decode cX12_octet 4 = .ok (.invokestatic 322, 3) := by decide +kernel
theorem dX12_octet_7 : decode cX12_octet 7 = .ok (.ifCond .eq 27, 3) := by decide +kernel
theorem dX12_octet_10 : decode cX12_octet 10 = .ok (.iload_n 2, 1) := by decide +kernel
theorem dX12_octet_11 : decode cX12_octet 11 = .ok (.iconst 0, 1) := by decide +kernel
theorem dX12_octet_12 : decode cX12_octet 12 = .ok (.bipush 63, 2) := by decide +kernel
theorem dX12_octet_14 : decode cX12_octet 14 = .ok (.invokestatic 322, 3) := by decide +kernel
theorem dX12_octet_17 : decode cX12_octet 17 = .ok (.ifCond .eq 17, 3) := by decide +kernel
theorem dX12_octet_20 : decode cX12_octet 20 = .ok (.aload_n 0, 1) := by decide +kernel
theorem dX12_octet_21 : decode cX12_octet 21 = .ok (.getfield 290, 3) := by decide +kernel
theorem dX12_octet_24 : decode cX12_octet 24 = .ok (.bipush 64, 2) := by decide +kernel
theorem dX12_octet_26 : decode cX12_octet 26 = .ok (.iload_n 1, 1) := by decide +kernel
theorem dX12_octet_27 : decode cX12_octet 27 = .ok (.imul, 1) := by decide +kernel
theorem dX12_octet_28 : decode cX12_octet 28 = .ok (.iload_n 2, 1) := by decide +kernel
theorem dX12_octet_29 : decode cX12_octet 29 = .ok (.iadd, 1) := by decide +kernel
theorem dX12_octet_30 : decode cX12_octet 30 = .ok (.iaload, 1) := by decide +kernel
theorem dX12_octet_31 : decode cX12_octet 31 = .ok (.goto 5, 3) := by decide +kernel
theorem dX12_octet_34 : decode cX12_octet 34 = .ok (.bipush (-2), 2) := by decide +kernel
theorem dX12_octet_36 : decode cX12_octet 36 = .ok (.ireturn, 1) := by decide +kernel
theorem dX12_damage_0 : decode cX12_damage 0 = .ok (.iload_n 1, 1) := by decide +kernel
theorem dX12_damage_1 : decode cX12_damage 1 = .ok (.iconst 0, 1) := by decide +kernel
theorem dX12_damage_2 : decode cX12_damage 2 = .ok (.bipush 19, 2) := by decide +kernel
theorem dX12_damage_4 : decode cX12_damage 4 = .ok (.invokestatic 322, 3) := by decide +kernel
theorem dX12_damage_7 : decode cX12_damage 7 = .ok (.ifCond .eq 24, 3) := by decide +kernel
theorem dX12_damage_10 : decode cX12_damage 10 = .ok (.iload_n 2, 1) := by decide +kernel
theorem dX12_damage_11 : decode cX12_damage 11 = .ok (.iconst 0, 1) := by decide +kernel
theorem dX12_damage_12 : decode cX12_damage 12 = .ok (.bipush 63, 2) := by decide +kernel
theorem dX12_damage_14 : decode cX12_damage 14 = .ok (.invokestatic 322, 3) := by decide +kernel
theorem dX12_damage_17 : decode cX12_damage 17 = .ok (.ifCond .eq 14, 3) := by decide +kernel
theorem dX12_damage_20 : decode cX12_damage 20 = .ok (.iload_n 3, 1) := by decide +kernel
theorem dX12_damage_21 : decode cX12_damage 21 = .ok (.iconst 0, 1) := by decide +kernel
theorem dX12_damage_22 : decode cX12_damage 22 = .ok (.sipush 255, 3) := by decide +kernel
theorem dX12_damage_25 : decode cX12_damage 25 = .ok (.invokestatic 322, 3) := by decide +kernel
theorem dX12_damage_28 : decode cX12_damage 28 = .ok (.ifCond .ne 6, 3) := by decide +kernel
theorem dX12_damage_31 : decode cX12_damage 31 = .ok (.bipush (-2), 2) := by decide +kernel
theorem dX12_damage_33 : decode cX12_damage 33 = .ok (.ireturn, 1) := by decide +kernel
theorem dX12_damage_34 : decode cX12_damage 34 = .ok (.aload_n 0, 1) := by decide +kernel
theorem dX12_damage_35 : decode cX12_damage 35 = .ok (.getfield 290, 3) := by decide +kernel
theorem dX12_damage_38 : decode cX12_damage 38 = .ok (.bipush 64, 2) := by decide +kernel
theorem dX12_damage_40 : decode cX12_damage 40 = .ok (.iload_n 1, 1) := by decide +kernel
theorem dX12_damage_41 : decode cX12_damage 41 = .ok (.imul, 1) := by decide +kernel
theorem dX12_damage_42 : decode cX12_damage 42 = .ok (.iload_n 2, 1) := by decide +kernel
theorem dX12_damage_43 : decode cX12_damage 43 = .ok (.iadd, 1) := by decide +kernel
theorem dX12_damage_44 : decode cX12_damage 44 = .ok (.aload_n 0, 1) := by decide +kernel
theorem dX12_damage_45 : decode cX12_damage 45 = .ok (.getfield 290, 3) := by decide +kernel
theorem dX12_damage_48 : decode cX12_damage 48 = .ok (.bipush 64, 2) := by decide +kernel
theorem dX12_damage_50 : decode cX12_damage 50 = .ok (.iload_n 1, 1) := by decide +kernel
theorem dX12_damage_51 : decode cX12_damage 51 = .ok (.imul, 1) := by decide +kernel
theorem dX12_damage_52 : decode cX12_damage 52 = .ok (.iload_n 2, 1) := by decide +kernel
theorem dX12_damage_53 : decode cX12_damage 53 = .ok (.iadd, 1) := by decide +kernel
theorem dX12_damage_54 : decode cX12_damage 54 = .ok (.iaload, 1) := by decide +kernel
theorem dX12_damage_55 : decode cX12_damage 55 = .ok (.iload_n 3, 1) := by decide +kernel
theorem dX12_damage_56 : decode cX12_damage 56 = .ok (.ixor, 1) := by decide +kernel
theorem dX12_damage_57 : decode cX12_damage 57 = .ok (.iastore, 1) := by decide +kernel
theorem dX12_damage_58 : decode cX12_damage 58 = .ok (.aload_n 0, 1) := by decide +kernel
theorem dX12_damage_59 : decode cX12_damage 59 = .ok (.getfield 290, 3) := by decide +kernel
theorem dX12_damage_62 : decode cX12_damage 62 = .ok (.bipush 64, 2) := by decide +kernel
theorem dX12_damage_64 : decode cX12_damage 64 = .ok (.iload_n 1, 1) := by decide +kernel
theorem dX12_damage_65 : decode cX12_damage 65 = .ok (.imul, 1) := by decide +kernel
theorem dX12_damage_66 : decode cX12_damage 66 = .ok (.iload_n 2, 1) := by decide +kernel
theorem dX12_damage_67 : decode cX12_damage 67 = .ok (.iadd, 1) := by decide +kernel
theorem dX12_damage_68 : decode cX12_damage 68 = .ok (.iaload, 1) := by decide +kernel
theorem dX12_damage_69 : decode cX12_damage 69 = .ok (.ireturn, 1) := by decide +kernel
theorem dX12_told_0 : decode cX12_told 0 = .ok (.iload_n 1, 1) := by decide +kernel
theorem dX12_told_1 : decode cX12_told 1 = .ok (.tableswitch 145 0 10 #[59, 64, 69, 74, 79, 84, 97, 102, 107, 112, 140], 59) := by decide +kernel
theorem dX12_told_60 : decode cX12_told 60 = .ok (.aload_n 0, 1) := by decide +kernel
theorem dX12_told_61 : decode cX12_told 61 = .ok (.getfield 643, 3) := by decide +kernel
theorem dX12_told_64 : decode cX12_told 64 = .ok (.ireturn, 1) := by decide +kernel
theorem dX12_told_65 : decode cX12_told 65 = .ok (.aload_n 0, 1) := by decide +kernel
theorem dX12_told_66 : decode cX12_told 66 = .ok (.getfield 302, 3) := by decide +kernel
theorem dX12_told_69 : decode cX12_told 69 = .ok (.ireturn, 1) := by decide +kernel
theorem dX12_told_70 : decode cX12_told 70 = .ok (.aload_n 0, 1) := by decide +kernel
theorem dX12_told_71 : decode cX12_told 71 = .ok (.getfield 299, 3) := by decide +kernel
theorem dX12_told_74 : decode cX12_told 74 = .ok (.ireturn, 1) := by decide +kernel
