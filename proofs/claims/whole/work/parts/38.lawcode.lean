theorem d_La_law_0 : decode b_La_law 0 = .ok (.new 8, 3) := by decide +kernel
theorem d_La_law_3 : decode b_La_law 3 = .ok (.dup, 1) := by decide +kernel
theorem d_La_law_4 : decode b_La_law 4 = .ok (.invokespecial 61, 3) := by decide +kernel
theorem d_La_law_7 : decode b_La_law 7 = .ok (.astore_n 1, 1) := by decide +kernel
theorem d_La_law_8 : decode b_La_law 8 = .ok (.new 62, 3) := by decide +kernel
theorem d_La_law_11 : decode b_La_law 11 = .ok (.dup, 1) := by decide +kernel
theorem d_La_law_12 : decode b_La_law 12 = .ok (.invokespecial 64, 3) := by decide +kernel
theorem d_La_law_15 : decode b_La_law 15 = .ok (.astore_n 2, 1) := by decide +kernel
theorem d_La_law_16 : decode b_La_law 16 = .ok (.iconst 1, 1) := by decide +kernel
theorem d_La_law_17 : decode b_La_law 17 = .ok (.newarray .long, 2) := by decide +kernel
theorem d_La_law_19 : decode b_La_law 19 = .ok (.astore_n 3, 1) := by decide +kernel
theorem d_La_law_20 : decode b_La_law 20 = .ok (.iconst 0, 1) := by decide +kernel
theorem d_La_law_21 : decode b_La_law 21 = .ok (.istore 4, 2) := by decide +kernel
theorem d_La_law_23 : decode b_La_law 23 = .ok (.iload 4, 2) := by decide +kernel
theorem d_La_law_25 : decode b_La_law 25 = .ok (.aload_n 0, 1) := by decide +kernel
theorem d_La_law_26 : decode b_La_law 26 = .ok (.arraylength, 1) := by decide +kernel
theorem d_La_law_27 : decode b_La_law 27 = .ok (.bipush 6, 2) := by decide +kernel
theorem d_La_law_29 : decode b_La_law 29 = .ok (.isub, 1) := by decide +kernel
theorem d_La_law_30 : decode b_La_law 30 = .ok (.if_icmp .gt 1045, 3) := by decide +kernel
theorem d_La_law_33 : decode b_La_law 33 = .ok (.aload_n 0, 1) := by decide +kernel
theorem d_La_law_34 : decode b_La_law 34 = .ok (.iload 4, 2) := by decide +kernel
theorem d_La_law_36 : decode b_La_law 36 = .ok (.iaload, 1) := by decide +kernel
theorem d_La_law_37 : decode b_La_law 37 = .ok (.bipush 15, 2) := by decide +kernel
theorem d_La_law_39 : decode b_La_law 39 = .ok (.iand, 1) := by decide +kernel
theorem d_La_law_40 : decode b_La_law 40 = .ok (.tableswitch 1029 0 14 #[76, 180, 240, 296, 364, 460, 528, 608, 621, 696, 752, 765, 873, 929, 973], 76) := by decide +kernel
theorem d_La_law_116 : decode b_La_law 116 = .ok (.aload_n 1, 1) := by decide +kernel
theorem d_La_law_117 : decode b_La_law 117 = .ok (.aload_n 0, 1) := by decide +kernel
theorem d_La_law_118 : decode b_La_law 118 = .ok (.iload 4, 2) := by decide +kernel
theorem d_La_law_120 : decode b_La_law 120 = .ok (.iconst 1, 1) := by decide +kernel
theorem d_La_law_121 : decode b_La_law 121 = .ok (.iadd, 1) := by decide +kernel
theorem d_La_law_122 : decode b_La_law 122 = .ok (.iaload, 1) := by decide +kernel
theorem d_La_law_123 : decode b_La_law 123 = .ok (.aload_n 0, 1) := by decide +kernel
theorem d_La_law_124 : decode b_La_law 124 = .ok (.iload 4, 2) := by decide +kernel
theorem d_La_law_126 : decode b_La_law 126 = .ok (.iconst 2, 1) := by decide +kernel
theorem d_La_law_127 : decode b_La_law 127 = .ok (.iadd, 1) := by decide +kernel
theorem d_La_law_128 : decode b_La_law 128 = .ok (.iaload, 1) := by decide +kernel
theorem d_La_law_129 : decode b_La_law 129 = .ok (.aload_n 0, 1) := by decide +kernel
theorem d_La_law_130 : decode b_La_law 130 = .ok (.iload 4, 2) := by decide +kernel
theorem d_La_law_132 : decode b_La_law 132 = .ok (.iconst 3, 1) := by decide +kernel
theorem d_La_law_133 : decode b_La_law 133 = .ok (.iadd, 1) := by decide +kernel
theorem d_La_law_134 : decode b_La_law 134 = .ok (.iaload, 1) := by decide +kernel
theorem d_La_law_135 : decode b_La_law 135 = .ok (.aload_n 0, 1) := by decide +kernel
theorem d_La_law_136 : decode b_La_law 136 = .ok (.iload 4, 2) := by decide +kernel
theorem d_La_law_138 : decode b_La_law 138 = .ok (.iconst 4, 1) := by decide +kernel
theorem d_La_law_139 : decode b_La_law 139 = .ok (.iadd, 1) := by decide +kernel
theorem d_La_law_140 : decode b_La_law 140 = .ok (.iaload, 1) := by decide +kernel
theorem d_La_law_141 : decode b_La_law 141 = .ok (.aload_n 0, 1) := by decide +kernel
theorem d_La_law_142 : decode b_La_law 142 = .ok (.iload 4, 2) := by decide +kernel
theorem d_La_law_144 : decode b_La_law 144 = .ok (.iconst 5, 1) := by decide +kernel
theorem d_La_law_145 : decode b_La_law 145 = .ok (.iadd, 1) := by decide +kernel
theorem d_La_law_146 : decode b_La_law 146 = .ok (.iaload, 1) := by decide +kernel
theorem d_La_law_147 : decode b_La_law 147 = .ok (.aload_n 3, 1) := by decide +kernel
theorem d_La_law_148 : decode b_La_law 148 = .ok (.invokestatic 65, 3) := by decide +kernel
theorem d_La_law_151 : decode b_La_law 151 = .ok (.istore 5, 2) := by decide +kernel
theorem d_La_law_153 : decode b_La_law 153 = .ok (.aload_n 2, 1) := by decide +kernel
theorem d_La_law_154 : decode b_La_law 154 = .ok (.aload_n 0, 1) := by decide +kernel
theorem d_La_law_155 : decode b_La_law 155 = .ok (.iload 4, 2) := by decide +kernel
theorem d_La_law_157 : decode b_La_law 157 = .ok (.iconst 1, 1) := by decide +kernel
theorem d_La_law_158 : decode b_La_law 158 = .ok (.iadd, 1) := by decide +kernel
theorem d_La_law_159 : decode b_La_law 159 = .ok (.iaload, 1) := by decide +kernel
theorem d_La_law_160 : decode b_La_law 160 = .ok (.aload_n 0, 1) := by decide +kernel
theorem d_La_law_161 : decode b_La_law 161 = .ok (.iload 4, 2) := by decide +kernel
theorem d_La_law_163 : decode b_La_law 163 = .ok (.iconst 2, 1) := by decide +kernel
theorem d_La_law_164 : decode b_La_law 164 = .ok (.iadd, 1) := by decide +kernel
theorem d_La_law_165 : decode b_La_law 165 = .ok (.iaload, 1) := by decide +kernel
theorem d_La_law_166 : decode b_La_law 166 = .ok (.aload_n 0, 1) := by decide +kernel
theorem d_La_law_167 : decode b_La_law 167 = .ok (.iload 4, 2) := by decide +kernel
theorem d_La_law_169 : decode b_La_law 169 = .ok (.iconst 3, 1) := by decide +kernel
theorem d_La_law_170 : decode b_La_law 170 = .ok (.iadd, 1) := by decide +kernel
theorem d_La_law_171 : decode b_La_law 171 = .ok (.iaload, 1) := by decide +kernel
theorem d_La_law_172 : decode b_La_law 172 = .ok (.aload_n 0, 1) := by decide +kernel
theorem d_La_law_173 : decode b_La_law 173 = .ok (.iload 4, 2) := by decide +kernel
theorem d_La_law_175 : decode b_La_law 175 = .ok (.iconst 4, 1) := by decide +kernel
theorem d_La_law_176 : decode b_La_law 176 = .ok (.iadd, 1) := by decide +kernel
theorem d_La_law_177 : decode b_La_law 177 = .ok (.iaload, 1) := by decide +kernel
theorem d_La_law_178 : decode b_La_law 178 = .ok (.aload_n 0, 1) := by decide +kernel
theorem d_La_law_179 : decode b_La_law 179 = .ok (.iload 4, 2) := by decide +kernel
theorem d_La_law_181 : decode b_La_law 181 = .ok (.iconst 5, 1) := by decide +kernel
theorem d_La_law_182 : decode b_La_law 182 = .ok (.iadd, 1) := by decide +kernel
theorem d_La_law_183 : decode b_La_law 183 = .ok (.iaload, 1) := by decide +kernel
theorem d_La_law_184 : decode b_La_law 184 = .ok (.invokevirtual 70, 3) := by decide +kernel
theorem d_La_law_187 : decode b_La_law 187 = .ok (.istore 6, 2) := by decide +kernel
theorem d_La_law_189 : decode b_La_law 189 = .ok (.aload_n 2, 1) := by decide +kernel
theorem d_La_law_190 : decode b_La_law 190 = .ok (.invokevirtual 71, 3) := by decide +kernel
theorem d_La_law_193 : decode b_La_law 193 = .ok (.iload 5, 2) := by decide +kernel
theorem d_La_law_195 : decode b_La_law 195 = .ok (.if_icmp .eq 5, 3) := by decide +kernel
theorem d_La_law_198 : decode b_La_law 198 = .ok (.iconst 0, 1) := by decide +kernel
theorem d_La_law_199 : decode b_La_law 199 = .ok (.ireturn, 1) := by decide +kernel
theorem d_La_law_200 : decode b_La_law 200 = .ok (.iload 5, 2) := by decide +kernel
theorem d_La_law_202 : decode b_La_law 202 = .ok (.ifCond .ne 15, 3) := by decide +kernel
theorem d_La_law_205 : decode b_La_law 205 = .ok (.aload_n 3, 1) := by decide +kernel
theorem d_La_law_206 : decode b_La_law 206 = .ok (.iconst 0, 1) := by decide +kernel
theorem d_La_law_207 : decode b_La_law 207 = .ok (.laload, 1) := by decide +kernel
theorem d_La_law_208 : decode b_La_law 208 = .ok (.iload 6, 2) := by decide +kernel
theorem d_La_law_210 : decode b_La_law 210 = .ok (.i2l, 1) := by decide +kernel
theorem d_La_law_211 : decode b_La_law 211 = .ok (.lcmp, 1) := by decide +kernel
theorem d_La_law_212 : decode b_La_law 212 = .ok (.ifCond .eq 5, 3) := by decide +kernel
theorem d_La_law_215 : decode b_La_law 215 = .ok (.iconst 0, 1) := by decide +kernel
theorem d_La_law_216 : decode b_La_law 216 = .ok (.ireturn, 1) := by decide +kernel
theorem d_La_law_217 : decode b_La_law 217 = .ok (.goto 852, 3) := by decide +kernel
theorem d_La_law_220 : decode b_La_law 220 = .ok (.aload_n 1, 1) := by decide +kernel
theorem d_La_law_221 : decode b_La_law 221 = .ok (.aload_n 0, 1) := by decide +kernel
theorem d_La_law_222 : decode b_La_law 222 = .ok (.iload 4, 2) := by decide +kernel
theorem d_La_law_224 : decode b_La_law 224 = .ok (.iconst 1, 1) := by decide +kernel
theorem d_La_law_225 : decode b_La_law 225 = .ok (.iadd, 1) := by decide +kernel
theorem d_La_law_226 : decode b_La_law 226 = .ok (.iaload, 1) := by decide +kernel
theorem d_La_law_227 : decode b_La_law 227 = .ok (.aload_n 0, 1) := by decide +kernel
theorem d_La_law_228 : decode b_La_law 228 = .ok (.iload 4, 2) := by decide +kernel
theorem d_La_law_230 : decode b_La_law 230 = .ok (.iconst 2, 1) := by decide +kernel
theorem d_La_law_231 : decode b_La_law 231 = .ok (.iadd, 1) := by decide +kernel
theorem d_La_law_232 : decode b_La_law 232 = .ok (.iaload, 1) := by decide +kernel
theorem d_La_law_233 : decode b_La_law 233 = .ok (.aload_n 0, 1) := by decide +kernel
theorem d_La_law_234 : decode b_La_law 234 = .ok (.iload 4, 2) := by decide +kernel
theorem d_La_law_236 : decode b_La_law 236 = .ok (.iconst 3, 1) := by decide +kernel
theorem d_La_law_237 : decode b_La_law 237 = .ok (.iadd, 1) := by decide +kernel
theorem d_La_law_238 : decode b_La_law 238 = .ok (.iaload, 1) := by decide +kernel
theorem d_La_law_239 : decode b_La_law 239 = .ok (.invokestatic 74, 3) := by decide +kernel
theorem d_La_law_242 : decode b_La_law 242 = .ok (.istore 5, 2) := by decide +kernel
theorem d_La_law_244 : decode b_La_law 244 = .ok (.aload_n 2, 1) := by decide +kernel
theorem d_La_law_245 : decode b_La_law 245 = .ok (.aload_n 0, 1) := by decide +kernel
theorem d_La_law_246 : decode b_La_law 246 = .ok (.iload 4, 2) := by decide +kernel
theorem d_La_law_248 : decode b_La_law 248 = .ok (.iconst 1, 1) := by decide +kernel
theorem d_La_law_249 : decode b_La_law 249 = .ok (.iadd, 1) := by decide +kernel
theorem d_La_law_250 : decode b_La_law 250 = .ok (.iaload, 1) := by decide +kernel
theorem d_La_law_251 : decode b_La_law 251 = .ok (.aload_n 0, 1) := by decide +kernel
theorem d_La_law_252 : decode b_La_law 252 = .ok (.iload 4, 2) := by decide +kernel
theorem d_La_law_254 : decode b_La_law 254 = .ok (.iconst 2, 1) := by decide +kernel
theorem d_La_law_255 : decode b_La_law 255 = .ok (.iadd, 1) := by decide +kernel
theorem d_La_law_256 : decode b_La_law 256 = .ok (.iaload, 1) := by decide +kernel
theorem d_La_law_257 : decode b_La_law 257 = .ok (.aload_n 0, 1) := by decide +kernel
theorem d_La_law_258 : decode b_La_law 258 = .ok (.iload 4, 2) := by decide +kernel
theorem d_La_law_260 : decode b_La_law 260 = .ok (.iconst 3, 1) := by decide +kernel
theorem d_La_law_261 : decode b_La_law 261 = .ok (.iadd, 1) := by decide +kernel
theorem d_La_law_262 : decode b_La_law 262 = .ok (.iaload, 1) := by decide +kernel
theorem d_La_law_263 : decode b_La_law 263 = .ok (.invokevirtual 77, 3) := by decide +kernel
theorem d_La_law_266 : decode b_La_law 266 = .ok (.aload_n 2, 1) := by decide +kernel
theorem d_La_law_267 : decode b_La_law 267 = .ok (.invokevirtual 71, 3) := by decide +kernel
theorem d_La_law_270 : decode b_La_law 270 = .ok (.iload 5, 2) := by decide +kernel
theorem d_La_law_272 : decode b_La_law 272 = .ok (.if_icmp .eq 5, 3) := by decide +kernel
theorem d_La_law_275 : decode b_La_law 275 = .ok (.iconst 0, 1) := by decide +kernel
theorem d_La_law_276 : decode b_La_law 276 = .ok (.ireturn, 1) := by decide +kernel
theorem d_La_law_277 : decode b_La_law 277 = .ok (.goto 792, 3) := by decide +kernel
theorem d_La_law_280 : decode b_La_law 280 = .ok (.aload_n 1, 1) := by decide +kernel
theorem d_La_law_281 : decode b_La_law 281 = .ok (.aload_n 0, 1) := by decide +kernel
theorem d_La_law_282 : decode b_La_law 282 = .ok (.iload 4, 2) := by decide +kernel
theorem d_La_law_284 : decode b_La_law 284 = .ok (.iconst 1, 1) := by decide +kernel
theorem d_La_law_285 : decode b_La_law 285 = .ok (.iadd, 1) := by decide +kernel
theorem d_La_law_286 : decode b_La_law 286 = .ok (.iaload, 1) := by decide +kernel
theorem d_La_law_287 : decode b_La_law 287 = .ok (.aload_n 3, 1) := by decide +kernel
theorem d_La_law_288 : decode b_La_law 288 = .ok (.invokestatic 78, 3) := by decide +kernel
theorem d_La_law_291 : decode b_La_law 291 = .ok (.istore 5, 2) := by decide +kernel
theorem d_La_law_293 : decode b_La_law 293 = .ok (.aload_n 2, 1) := by decide +kernel
theorem d_La_law_294 : decode b_La_law 294 = .ok (.aload_n 0, 1) := by decide +kernel
theorem d_La_law_295 : decode b_La_law 295 = .ok (.iload 4, 2) := by decide +kernel
theorem d_La_law_297 : decode b_La_law 297 = .ok (.iconst 1, 1) := by decide +kernel
theorem d_La_law_298 : decode b_La_law 298 = .ok (.iadd, 1) := by decide +kernel
theorem d_La_law_299 : decode b_La_law 299 = .ok (.iaload, 1) := by decide +kernel
theorem d_La_law_300 : decode b_La_law 300 = .ok (.invokevirtual 81, 3) := by decide +kernel
theorem d_La_law_303 : decode b_La_law 303 = .ok (.istore 6, 2) := by decide +kernel
theorem d_La_law_305 : decode b_La_law 305 = .ok (.aload_n 2, 1) := by decide +kernel
theorem d_La_law_306 : decode b_La_law 306 = .ok (.invokevirtual 71, 3) := by decide +kernel
theorem d_La_law_309 : decode b_La_law 309 = .ok (.iload 5, 2) := by decide +kernel
theorem d_La_law_311 : decode b_La_law 311 = .ok (.if_icmp .eq 5, 3) := by decide +kernel
theorem d_La_law_314 : decode b_La_law 314 = .ok (.iconst 0, 1) := by decide +kernel
theorem d_La_law_315 : decode b_La_law 315 = .ok (.ireturn, 1) := by decide +kernel
theorem d_La_law_316 : decode b_La_law 316 = .ok (.iload 5, 2) := by decide +kernel
theorem d_La_law_318 : decode b_La_law 318 = .ok (.ifCond .ne 15, 3) := by decide +kernel
theorem d_La_law_321 : decode b_La_law 321 = .ok (.aload_n 3, 1) := by decide +kernel
theorem d_La_law_322 : decode b_La_law 322 = .ok (.iconst 0, 1) := by decide +kernel
theorem d_La_law_323 : decode b_La_law 323 = .ok (.laload, 1) := by decide +kernel
theorem d_La_law_324 : decode b_La_law 324 = .ok (.iload 6, 2) := by decide +kernel
theorem d_La_law_326 : decode b_La_law 326 = .ok (.i2l, 1) := by decide +kernel
theorem d_La_law_327 : decode b_La_law 327 = .ok (.lcmp, 1) := by decide +kernel
theorem d_La_law_328 : decode b_La_law 328 = .ok (.ifCond .eq 5, 3) := by decide +kernel
theorem d_La_law_331 : decode b_La_law 331 = .ok (.iconst 0, 1) := by decide +kernel
theorem d_La_law_332 : decode b_La_law 332 = .ok (.ireturn, 1) := by decide +kernel
theorem d_La_law_333 : decode b_La_law 333 = .ok (.goto 736, 3) := by decide +kernel
theorem d_La_law_336 : decode b_La_law 336 = .ok (.aload_n 1, 1) := by decide +kernel
theorem d_La_law_337 : decode b_La_law 337 = .ok (.aload_n 0, 1) := by decide +kernel
theorem d_La_law_338 : decode b_La_law 338 = .ok (.iload 4, 2) := by decide +kernel
theorem d_La_law_340 : decode b_La_law 340 = .ok (.iconst 1, 1) := by decide +kernel
theorem d_La_law_341 : decode b_La_law 341 = .ok (.iadd, 1) := by decide +kernel
theorem d_La_law_342 : decode b_La_law 342 = .ok (.iaload, 1) := by decide +kernel
theorem d_La_law_343 : decode b_La_law 343 = .ok (.aload_n 0, 1) := by decide +kernel
theorem d_La_law_344 : decode b_La_law 344 = .ok (.iload 4, 2) := by decide +kernel
theorem d_La_law_346 : decode b_La_law 346 = .ok (.iconst 2, 1) := by decide +kernel
theorem d_La_law_347 : decode b_La_law 347 = .ok (.iadd, 1) := by decide +kernel
theorem d_La_law_348 : decode b_La_law 348 = .ok (.iaload, 1) := by decide +kernel
theorem d_La_law_349 : decode b_La_law 349 = .ok (.aload_n 3, 1) := by decide +kernel
theorem d_La_law_350 : decode b_La_law 350 = .ok (.invokestatic 82, 3) := by decide +kernel
theorem d_La_law_353 : decode b_La_law 353 = .ok (.istore 5, 2) := by decide +kernel
theorem d_La_law_355 : decode b_La_law 355 = .ok (.aload_n 2, 1) := by decide +kernel
theorem d_La_law_356 : decode b_La_law 356 = .ok (.aload_n 0, 1) := by decide +kernel
theorem d_La_law_357 : decode b_La_law 357 = .ok (.iload 4, 2) := by decide +kernel
theorem d_La_law_359 : decode b_La_law 359 = .ok (.iconst 1, 1) := by decide +kernel
theorem d_La_law_360 : decode b_La_law 360 = .ok (.iadd, 1) := by decide +kernel
theorem d_La_law_361 : decode b_La_law 361 = .ok (.iaload, 1) := by decide +kernel
theorem d_La_law_362 : decode b_La_law 362 = .ok (.aload_n 0, 1) := by decide +kernel
theorem d_La_law_363 : decode b_La_law 363 = .ok (.iload 4, 2) := by decide +kernel
theorem d_La_law_365 : decode b_La_law 365 = .ok (.iconst 2, 1) := by decide +kernel
theorem d_La_law_366 : decode b_La_law 366 = .ok (.iadd, 1) := by decide +kernel
theorem d_La_law_367 : decode b_La_law 367 = .ok (.iaload, 1) := by decide +kernel
theorem d_La_law_368 : decode b_La_law 368 = .ok (.invokevirtual 85, 3) := by decide +kernel
theorem d_La_law_371 : decode b_La_law 371 = .ok (.istore 6, 2) := by decide +kernel
theorem d_La_law_373 : decode b_La_law 373 = .ok (.aload_n 2, 1) := by decide +kernel
theorem d_La_law_374 : decode b_La_law 374 = .ok (.invokevirtual 71, 3) := by decide +kernel
theorem d_La_law_377 : decode b_La_law 377 = .ok (.iload 5, 2) := by decide +kernel
theorem d_La_law_379 : decode b_La_law 379 = .ok (.if_icmp .eq 5, 3) := by decide +kernel
theorem d_La_law_382 : decode b_La_law 382 = .ok (.iconst 0, 1) := by decide +kernel
theorem d_La_law_383 : decode b_La_law 383 = .ok (.ireturn, 1) := by decide +kernel
theorem d_La_law_384 : decode b_La_law 384 = .ok (.iload 5, 2) := by decide +kernel
theorem d_La_law_386 : decode b_La_law 386 = .ok (.ifCond .ne 15, 3) := by decide +kernel
theorem d_La_law_389 : decode b_La_law 389 = .ok (.aload_n 3, 1) := by decide +kernel
theorem d_La_law_390 : decode b_La_law 390 = .ok (.iconst 0, 1) := by decide +kernel
theorem d_La_law_391 : decode b_La_law 391 = .ok (.laload, 1) := by decide +kernel
theorem d_La_law_392 : decode b_La_law 392 = .ok (.iload 6, 2) := by decide +kernel
theorem d_La_law_394 : decode b_La_law 394 = .ok (.i2l, 1) := by decide +kernel
theorem d_La_law_395 : decode b_La_law 395 = .ok (.lcmp, 1) := by decide +kernel
theorem d_La_law_396 : decode b_La_law 396 = .ok (.ifCond .eq 5, 3) := by decide +kernel
theorem d_La_law_399 : decode b_La_law 399 = .ok (.iconst 0, 1) := by decide +kernel
theorem d_La_law_400 : decode b_La_law 400 = .ok (.ireturn, 1) := by decide +kernel
theorem d_La_law_401 : decode b_La_law 401 = .ok (.goto 668, 3) := by decide +kernel
theorem d_La_law_404 : decode b_La_law 404 = .ok (.aload_n 1, 1) := by decide +kernel
theorem d_La_law_405 : decode b_La_law 405 = .ok (.aload_n 0, 1) := by decide +kernel
theorem d_La_law_406 : decode b_La_law 406 = .ok (.iload 4, 2) := by decide +kernel
theorem d_La_law_408 : decode b_La_law 408 = .ok (.iconst 1, 1) := by decide +kernel
theorem d_La_law_409 : decode b_La_law 409 = .ok (.iadd, 1) := by decide +kernel
theorem d_La_law_410 : decode b_La_law 410 = .ok (.iaload, 1) := by decide +kernel
theorem d_La_law_411 : decode b_La_law 411 = .ok (.aload_n 0, 1) := by decide +kernel
theorem d_La_law_412 : decode b_La_law 412 = .ok (.iload 4, 2) := by decide +kernel
theorem d_La_law_414 : decode b_La_law 414 = .ok (.iconst 2, 1) := by decide +kernel
theorem d_La_law_415 : decode b_La_law 415 = .ok (.iadd, 1) := by decide +kernel
theorem d_La_law_416 : decode b_La_law 416 = .ok (.iaload, 1) := by decide +kernel
theorem d_La_law_417 : decode b_La_law 417 = .ok (.aload_n 0, 1) := by decide +kernel
theorem d_La_law_418 : decode b_La_law 418 = .ok (.iload 4, 2) := by decide +kernel
theorem d_La_law_420 : decode b_La_law 420 = .ok (.iconst 3, 1) := by decide +kernel
theorem d_La_law_421 : decode b_La_law 421 = .ok (.iadd, 1) := by decide +kernel
theorem d_La_law_422 : decode b_La_law 422 = .ok (.iaload, 1) := by decide +kernel
theorem d_La_law_423 : decode b_La_law 423 = .ok (.ifCond .eq 7, 3) := by decide +kernel
theorem d_La_law_426 : decode b_La_law 426 = .ok (.iconst 1, 1) := by decide +kernel
theorem d_La_law_427 : decode b_La_law 427 = .ok (.goto 4, 3) := by decide +kernel
theorem d_La_law_430 : decode b_La_law 430 = .ok (.iconst 0, 1) := by decide +kernel
theorem d_La_law_431 : decode b_La_law 431 = .ok (.aload_n 3, 1) := by decide +kernel
theorem d_La_law_432 : decode b_La_law 432 = .ok (.invokestatic 86, 3) := by decide +kernel
theorem d_La_law_435 : decode b_La_law 435 = .ok (.istore 5, 2) := by decide +kernel
theorem d_La_law_437 : decode b_La_law 437 = .ok (.aload_n 2, 1) := by decide +kernel
theorem d_La_law_438 : decode b_La_law 438 = .ok (.aload_n 0, 1) := by decide +kernel
theorem d_La_law_439 : decode b_La_law 439 = .ok (.iload 4, 2) := by decide +kernel
theorem d_La_law_441 : decode b_La_law 441 = .ok (.iconst 1, 1) := by decide +kernel
theorem d_La_law_442 : decode b_La_law 442 = .ok (.iadd, 1) := by decide +kernel
theorem d_La_law_443 : decode b_La_law 443 = .ok (.iaload, 1) := by decide +kernel
theorem d_La_law_444 : decode b_La_law 444 = .ok (.aload_n 0, 1) := by decide +kernel
theorem d_La_law_445 : decode b_La_law 445 = .ok (.iload 4, 2) := by decide +kernel
theorem d_La_law_447 : decode b_La_law 447 = .ok (.iconst 2, 1) := by decide +kernel
theorem d_La_law_448 : decode b_La_law 448 = .ok (.iadd, 1) := by decide +kernel
theorem d_La_law_449 : decode b_La_law 449 = .ok (.iaload, 1) := by decide +kernel
theorem d_La_law_450 : decode b_La_law 450 = .ok (.aload_n 0, 1) := by decide +kernel
theorem d_La_law_451 : decode b_La_law 451 = .ok (.iload 4, 2) := by decide +kernel
theorem d_La_law_453 : decode b_La_law 453 = .ok (.iconst 3, 1) := by decide +kernel
theorem d_La_law_454 : decode b_La_law 454 = .ok (.iadd, 1) := by decide +kernel
theorem d_La_law_455 : decode b_La_law 455 = .ok (.iaload, 1) := by decide +kernel
theorem d_La_law_456 : decode b_La_law 456 = .ok (.ifCond .eq 7, 3) := by decide +kernel
theorem d_La_law_459 : decode b_La_law 459 = .ok (.iconst 1, 1) := by decide +kernel
theorem d_La_law_460 : decode b_La_law 460 = .ok (.goto 4, 3) := by decide +kernel
theorem d_La_law_463 : decode b_La_law 463 = .ok (.iconst 0, 1) := by decide +kernel
theorem d_La_law_464 : decode b_La_law 464 = .ok (.invokevirtual 89, 3) := by decide +kernel
theorem d_La_law_467 : decode b_La_law 467 = .ok (.istore 6, 2) := by decide +kernel
theorem d_La_law_469 : decode b_La_law 469 = .ok (.aload_n 2, 1) := by decide +kernel
theorem d_La_law_470 : decode b_La_law 470 = .ok (.invokevirtual 71, 3) := by decide +kernel
theorem d_La_law_473 : decode b_La_law 473 = .ok (.iload 5, 2) := by decide +kernel
theorem d_La_law_475 : decode b_La_law 475 = .ok (.if_icmp .eq 5, 3) := by decide +kernel
theorem d_La_law_478 : decode b_La_law 478 = .ok (.iconst 0, 1) := by decide +kernel
theorem d_La_law_479 : decode b_La_law 479 = .ok (.ireturn, 1) := by decide +kernel
theorem d_La_law_480 : decode b_La_law 480 = .ok (.iload 5, 2) := by decide +kernel
theorem d_La_law_482 : decode b_La_law 482 = .ok (.ifCond .ne 15, 3) := by decide +kernel
theorem d_La_law_485 : decode b_La_law 485 = .ok (.aload_n 3, 1) := by decide +kernel
theorem d_La_law_486 : decode b_La_law 486 = .ok (.iconst 0, 1) := by decide +kernel
theorem d_La_law_487 : decode b_La_law 487 = .ok (.laload, 1) := by decide +kernel
theorem d_La_law_488 : decode b_La_law 488 = .ok (.iload 6, 2) := by decide +kernel
theorem d_La_law_490 : decode b_La_law 490 = .ok (.i2l, 1) := by decide +kernel
theorem d_La_law_491 : decode b_La_law 491 = .ok (.lcmp, 1) := by decide +kernel
theorem d_La_law_492 : decode b_La_law 492 = .ok (.ifCond .eq 5, 3) := by decide +kernel
theorem d_La_law_495 : decode b_La_law 495 = .ok (.iconst 0, 1) := by decide +kernel
theorem d_La_law_496 : decode b_La_law 496 = .ok (.ireturn, 1) := by decide +kernel
theorem d_La_law_497 : decode b_La_law 497 = .ok (.goto 572, 3) := by decide +kernel
theorem d_La_law_500 : decode b_La_law 500 = .ok (.aload_n 1, 1) := by decide +kernel
theorem d_La_law_501 : decode b_La_law 501 = .ok (.aload_n 0, 1) := by decide +kernel
theorem d_La_law_502 : decode b_La_law 502 = .ok (.iload 4, 2) := by decide +kernel
theorem d_La_law_504 : decode b_La_law 504 = .ok (.iconst 1, 1) := by decide +kernel
theorem d_La_law_505 : decode b_La_law 505 = .ok (.iadd, 1) := by decide +kernel
theorem d_La_law_506 : decode b_La_law 506 = .ok (.iaload, 1) := by decide +kernel
theorem d_La_law_507 : decode b_La_law 507 = .ok (.aload_n 0, 1) := by decide +kernel
theorem d_La_law_508 : decode b_La_law 508 = .ok (.iload 4, 2) := by decide +kernel
theorem d_La_law_510 : decode b_La_law 510 = .ok (.iconst 2, 1) := by decide +kernel
theorem d_La_law_511 : decode b_La_law 511 = .ok (.iadd, 1) := by decide +kernel
theorem d_La_law_512 : decode b_La_law 512 = .ok (.iaload, 1) := by decide +kernel
theorem d_La_law_513 : decode b_La_law 513 = .ok (.aload_n 3, 1) := by decide +kernel
theorem d_La_law_514 : decode b_La_law 514 = .ok (.invokestatic 90, 3) := by decide +kernel
theorem d_La_law_517 : decode b_La_law 517 = .ok (.istore 5, 2) := by decide +kernel
theorem d_La_law_519 : decode b_La_law 519 = .ok (.aload_n 2, 1) := by decide +kernel
theorem d_La_law_520 : decode b_La_law 520 = .ok (.aload_n 0, 1) := by decide +kernel
theorem d_La_law_521 : decode b_La_law 521 = .ok (.iload 4, 2) := by decide +kernel
theorem d_La_law_523 : decode b_La_law 523 = .ok (.iconst 1, 1) := by decide +kernel
theorem d_La_law_524 : decode b_La_law 524 = .ok (.iadd, 1) := by decide +kernel
theorem d_La_law_525 : decode b_La_law 525 = .ok (.iaload, 1) := by decide +kernel
theorem d_La_law_526 : decode b_La_law 526 = .ok (.aload_n 0, 1) := by decide +kernel
theorem d_La_law_527 : decode b_La_law 527 = .ok (.iload 4, 2) := by decide +kernel
theorem d_La_law_529 : decode b_La_law 529 = .ok (.iconst 2, 1) := by decide +kernel
theorem d_La_law_530 : decode b_La_law 530 = .ok (.iadd, 1) := by decide +kernel
theorem d_La_law_531 : decode b_La_law 531 = .ok (.iaload, 1) := by decide +kernel
theorem d_La_law_532 : decode b_La_law 532 = .ok (.invokevirtual 92, 3) := by decide +kernel
theorem d_La_law_535 : decode b_La_law 535 = .ok (.istore 6, 2) := by decide +kernel
theorem d_La_law_537 : decode b_La_law 537 = .ok (.aload_n 2, 1) := by decide +kernel
theorem d_La_law_538 : decode b_La_law 538 = .ok (.invokevirtual 71, 3) := by decide +kernel
theorem d_La_law_541 : decode b_La_law 541 = .ok (.iload 5, 2) := by decide +kernel
theorem d_La_law_543 : decode b_La_law 543 = .ok (.if_icmp .eq 5, 3) := by decide +kernel
theorem d_La_law_546 : decode b_La_law 546 = .ok (.iconst 0, 1) := by decide +kernel
theorem d_La_law_547 : decode b_La_law 547 = .ok (.ireturn, 1) := by decide +kernel
theorem d_La_law_548 : decode b_La_law 548 = .ok (.iload 5, 2) := by decide +kernel
theorem d_La_law_550 : decode b_La_law 550 = .ok (.ifCond .ne 15, 3) := by decide +kernel
theorem d_La_law_553 : decode b_La_law 553 = .ok (.aload_n 3, 1) := by decide +kernel
theorem d_La_law_554 : decode b_La_law 554 = .ok (.iconst 0, 1) := by decide +kernel
theorem d_La_law_555 : decode b_La_law 555 = .ok (.laload, 1) := by decide +kernel
theorem d_La_law_556 : decode b_La_law 556 = .ok (.iload 6, 2) := by decide +kernel
theorem d_La_law_558 : decode b_La_law 558 = .ok (.i2l, 1) := by decide +kernel
theorem d_La_law_559 : decode b_La_law 559 = .ok (.lcmp, 1) := by decide +kernel
theorem d_La_law_560 : decode b_La_law 560 = .ok (.ifCond .eq 5, 3) := by decide +kernel
theorem d_La_law_563 : decode b_La_law 563 = .ok (.iconst 0, 1) := by decide +kernel
theorem d_La_law_564 : decode b_La_law 564 = .ok (.ireturn, 1) := by decide +kernel
theorem d_La_law_565 : decode b_La_law 565 = .ok (.goto 504, 3) := by decide +kernel
theorem d_La_law_568 : decode b_La_law 568 = .ok (.aload_n 1, 1) := by decide +kernel
theorem d_La_law_569 : decode b_La_law 569 = .ok (.aload_n 0, 1) := by decide +kernel
theorem d_La_law_570 : decode b_La_law 570 = .ok (.iload 4, 2) := by decide +kernel
theorem d_La_law_572 : decode b_La_law 572 = .ok (.iconst 1, 1) := by decide +kernel
theorem d_La_law_573 : decode b_La_law 573 = .ok (.iadd, 1) := by decide +kernel
theorem d_La_law_574 : decode b_La_law 574 = .ok (.iaload, 1) := by decide +kernel
theorem d_La_law_575 : decode b_La_law 575 = .ok (.aload_n 0, 1) := by decide +kernel
theorem d_La_law_576 : decode b_La_law 576 = .ok (.iload 4, 2) := by decide +kernel
theorem d_La_law_578 : decode b_La_law 578 = .ok (.iconst 2, 1) := by decide +kernel
theorem d_La_law_579 : decode b_La_law 579 = .ok (.iadd, 1) := by decide +kernel
theorem d_La_law_580 : decode b_La_law 580 = .ok (.iaload, 1) := by decide +kernel
theorem d_La_law_581 : decode b_La_law 581 = .ok (.aload_n 0, 1) := by decide +kernel
theorem d_La_law_582 : decode b_La_law 582 = .ok (.iload 4, 2) := by decide +kernel
theorem d_La_law_584 : decode b_La_law 584 = .ok (.iconst 3, 1) := by decide +kernel
theorem d_La_law_585 : decode b_La_law 585 = .ok (.iadd, 1) := by decide +kernel
theorem d_La_law_586 : decode b_La_law 586 = .ok (.iaload, 1) := by decide +kernel
theorem d_La_law_587 : decode b_La_law 587 = .ok (.aload_n 3, 1) := by decide +kernel
theorem d_La_law_588 : decode b_La_law 588 = .ok (.invokestatic 93, 3) := by decide +kernel
theorem d_La_law_591 : decode b_La_law 591 = .ok (.istore 5, 2) := by decide +kernel
theorem d_La_law_593 : decode b_La_law 593 = .ok (.aload_n 2, 1) := by decide +kernel
theorem d_La_law_594 : decode b_La_law 594 = .ok (.aload_n 0, 1) := by decide +kernel
theorem d_La_law_595 : decode b_La_law 595 = .ok (.iload 4, 2) := by decide +kernel
theorem d_La_law_597 : decode b_La_law 597 = .ok (.iconst 1, 1) := by decide +kernel
theorem d_La_law_598 : decode b_La_law 598 = .ok (.iadd, 1) := by decide +kernel
theorem d_La_law_599 : decode b_La_law 599 = .ok (.iaload, 1) := by decide +kernel
theorem d_La_law_600 : decode b_La_law 600 = .ok (.aload_n 0, 1) := by decide +kernel
theorem d_La_law_601 : decode b_La_law 601 = .ok (.iload 4, 2) := by decide +kernel
theorem d_La_law_603 : decode b_La_law 603 = .ok (.iconst 2, 1) := by decide +kernel
theorem d_La_law_604 : decode b_La_law 604 = .ok (.iadd, 1) := by decide +kernel
theorem d_La_law_605 : decode b_La_law 605 = .ok (.iaload, 1) := by decide +kernel
theorem d_La_law_606 : decode b_La_law 606 = .ok (.aload_n 0, 1) := by decide +kernel
theorem d_La_law_607 : decode b_La_law 607 = .ok (.iload 4, 2) := by decide +kernel
theorem d_La_law_609 : decode b_La_law 609 = .ok (.iconst 3, 1) := by decide +kernel
theorem d_La_law_610 : decode b_La_law 610 = .ok (.iadd, 1) := by decide +kernel
theorem d_La_law_611 : decode b_La_law 611 = .ok (.iaload, 1) := by decide +kernel
theorem d_La_law_612 : decode b_La_law 612 = .ok (.invokevirtual 96, 3) := by decide +kernel
theorem d_La_law_615 : decode b_La_law 615 = .ok (.istore 6, 2) := by decide +kernel
theorem d_La_law_617 : decode b_La_law 617 = .ok (.aload_n 2, 1) := by decide +kernel
theorem d_La_law_618 : decode b_La_law 618 = .ok (.invokevirtual 71, 3) := by decide +kernel
theorem d_La_law_621 : decode b_La_law 621 = .ok (.iload 5, 2) := by decide +kernel
theorem d_La_law_623 : decode b_La_law 623 = .ok (.if_icmp .eq 5, 3) := by decide +kernel
theorem d_La_law_626 : decode b_La_law 626 = .ok (.iconst 0, 1) := by decide +kernel
theorem d_La_law_627 : decode b_La_law 627 = .ok (.ireturn, 1) := by decide +kernel
theorem d_La_law_628 : decode b_La_law 628 = .ok (.iload 5, 2) := by decide +kernel
theorem d_La_law_630 : decode b_La_law 630 = .ok (.ifCond .ne 15, 3) := by decide +kernel
theorem d_La_law_633 : decode b_La_law 633 = .ok (.aload_n 3, 1) := by decide +kernel
theorem d_La_law_634 : decode b_La_law 634 = .ok (.iconst 0, 1) := by decide +kernel
theorem d_La_law_635 : decode b_La_law 635 = .ok (.laload, 1) := by decide +kernel
theorem d_La_law_636 : decode b_La_law 636 = .ok (.iload 6, 2) := by decide +kernel
theorem d_La_law_638 : decode b_La_law 638 = .ok (.i2l, 1) := by decide +kernel
theorem d_La_law_639 : decode b_La_law 639 = .ok (.lcmp, 1) := by decide +kernel
theorem d_La_law_640 : decode b_La_law 640 = .ok (.ifCond .eq 5, 3) := by decide +kernel
theorem d_La_law_643 : decode b_La_law 643 = .ok (.iconst 0, 1) := by decide +kernel
theorem d_La_law_644 : decode b_La_law 644 = .ok (.ireturn, 1) := by decide +kernel
theorem d_La_law_645 : decode b_La_law 645 = .ok (.goto 424, 3) := by decide +kernel
theorem d_La_law_648 : decode b_La_law 648 = .ok (.aload_n 1, 1) := by decide +kernel
theorem d_La_law_649 : decode b_La_law 649 = .ok (.invokevirtual 97, 3) := by decide +kernel
theorem d_La_law_652 : decode b_La_law 652 = .ok (.aload_n 2, 1) := by decide +kernel
theorem d_La_law_653 : decode b_La_law 653 = .ok (.invokevirtual 100, 3) := by decide +kernel
theorem d_La_law_656 : decode b_La_law 656 = .ok (.if_icmp .eq 413, 3) := by decide +kernel
theorem d_La_law_659 : decode b_La_law 659 = .ok (.iconst 0, 1) := by decide +kernel
theorem d_La_law_660 : decode b_La_law 660 = .ok (.ireturn, 1) := by decide +kernel
theorem d_La_law_661 : decode b_La_law 661 = .ok (.aload_n 1, 1) := by decide +kernel
theorem d_La_law_662 : decode b_La_law 662 = .ok (.aload_n 0, 1) := by decide +kernel
theorem d_La_law_663 : decode b_La_law 663 = .ok (.iload 4, 2) := by decide +kernel
theorem d_La_law_665 : decode b_La_law 665 = .ok (.iconst 1, 1) := by decide +kernel
theorem d_La_law_666 : decode b_La_law 666 = .ok (.iadd, 1) := by decide +kernel
theorem d_La_law_667 : decode b_La_law 667 = .ok (.iaload, 1) := by decide +kernel
theorem d_La_law_668 : decode b_La_law 668 = .ok (.aload_n 0, 1) := by decide +kernel
theorem d_La_law_669 : decode b_La_law 669 = .ok (.iload 4, 2) := by decide +kernel
theorem d_La_law_671 : decode b_La_law 671 = .ok (.iconst 2, 1) := by decide +kernel
theorem d_La_law_672 : decode b_La_law 672 = .ok (.iadd, 1) := by decide +kernel
theorem d_La_law_673 : decode b_La_law 673 = .ok (.iaload, 1) := by decide +kernel
theorem d_La_law_674 : decode b_La_law 674 = .ok (.aload_n 3, 1) := by decide +kernel
theorem d_La_law_675 : decode b_La_law 675 = .ok (.invokestatic 101, 3) := by decide +kernel
theorem d_La_law_678 : decode b_La_law 678 = .ok (.istore 5, 2) := by decide +kernel
theorem d_La_law_680 : decode b_La_law 680 = .ok (.aload_n 2, 1) := by decide +kernel
theorem d_La_law_681 : decode b_La_law 681 = .ok (.aload_n 0, 1) := by decide +kernel
theorem d_La_law_682 : decode b_La_law 682 = .ok (.iload 4, 2) := by decide +kernel
theorem d_La_law_684 : decode b_La_law 684 = .ok (.iconst 1, 1) := by decide +kernel
theorem d_La_law_685 : decode b_La_law 685 = .ok (.iadd, 1) := by decide +kernel
theorem d_La_law_686 : decode b_La_law 686 = .ok (.iaload, 1) := by decide +kernel
theorem d_La_law_687 : decode b_La_law 687 = .ok (.aload_n 0, 1) := by decide +kernel
theorem d_La_law_688 : decode b_La_law 688 = .ok (.iload 4, 2) := by decide +kernel
theorem d_La_law_690 : decode b_La_law 690 = .ok (.iconst 2, 1) := by decide +kernel
theorem d_La_law_691 : decode b_La_law 691 = .ok (.iadd, 1) := by decide +kernel
theorem d_La_law_692 : decode b_La_law 692 = .ok (.iaload, 1) := by decide +kernel
theorem d_La_law_693 : decode b_La_law 693 = .ok (.invokevirtual 103, 3) := by decide +kernel
theorem d_La_law_696 : decode b_La_law 696 = .ok (.istore 6, 2) := by decide +kernel
theorem d_La_law_698 : decode b_La_law 698 = .ok (.aload_n 2, 1) := by decide +kernel
theorem d_La_law_699 : decode b_La_law 699 = .ok (.invokevirtual 71, 3) := by decide +kernel
theorem d_La_law_702 : decode b_La_law 702 = .ok (.iload 5, 2) := by decide +kernel
theorem d_La_law_704 : decode b_La_law 704 = .ok (.if_icmp .eq 5, 3) := by decide +kernel
theorem d_La_law_707 : decode b_La_law 707 = .ok (.iconst 0, 1) := by decide +kernel
theorem d_La_law_708 : decode b_La_law 708 = .ok (.ireturn, 1) := by decide +kernel
theorem d_La_law_709 : decode b_La_law 709 = .ok (.iload 5, 2) := by decide +kernel
theorem d_La_law_711 : decode b_La_law 711 = .ok (.ifCond .ne 22, 3) := by decide +kernel
theorem d_La_law_714 : decode b_La_law 714 = .ok (.aload_n 3, 1) := by decide +kernel
theorem d_La_law_715 : decode b_La_law 715 = .ok (.iconst 0, 1) := by decide +kernel
theorem d_La_law_716 : decode b_La_law 716 = .ok (.laload, 1) := by decide +kernel
theorem d_La_law_717 : decode b_La_law 717 = .ok (.iload 6, 2) := by decide +kernel
theorem d_La_law_719 : decode b_La_law 719 = .ok (.ifCond .eq 7, 3) := by decide +kernel
theorem d_La_law_722 : decode b_La_law 722 = .ok (.lconst 1, 1) := by decide +kernel
theorem d_La_law_723 : decode b_La_law 723 = .ok (.goto 4, 3) := by decide +kernel
theorem d_La_law_726 : decode b_La_law 726 = .ok (.lconst 0, 1) := by decide +kernel
theorem d_La_law_727 : decode b_La_law 727 = .ok (.lcmp, 1) := by decide +kernel
theorem d_La_law_728 : decode b_La_law 728 = .ok (.ifCond .eq 5, 3) := by decide +kernel
theorem d_La_law_731 : decode b_La_law 731 = .ok (.iconst 0, 1) := by decide +kernel
theorem d_La_law_732 : decode b_La_law 732 = .ok (.ireturn, 1) := by decide +kernel
theorem d_La_law_733 : decode b_La_law 733 = .ok (.goto 336, 3) := by decide +kernel
theorem d_La_law_736 : decode b_La_law 736 = .ok (.aload_n 1, 1) := by decide +kernel
theorem d_La_law_737 : decode b_La_law 737 = .ok (.aload_n 0, 1) := by decide +kernel
theorem d_La_law_738 : decode b_La_law 738 = .ok (.iload 4, 2) := by decide +kernel
theorem d_La_law_740 : decode b_La_law 740 = .ok (.iconst 1, 1) := by decide +kernel
theorem d_La_law_741 : decode b_La_law 741 = .ok (.iadd, 1) := by decide +kernel
theorem d_La_law_742 : decode b_La_law 742 = .ok (.iaload, 1) := by decide +kernel
theorem d_La_law_743 : decode b_La_law 743 = .ok (.aload_n 3, 1) := by decide +kernel
theorem d_La_law_744 : decode b_La_law 744 = .ok (.invokestatic 104, 3) := by decide +kernel
theorem d_La_law_747 : decode b_La_law 747 = .ok (.istore 5, 2) := by decide +kernel
theorem d_La_law_749 : decode b_La_law 749 = .ok (.aload_n 2, 1) := by decide +kernel
theorem d_La_law_750 : decode b_La_law 750 = .ok (.aload_n 0, 1) := by decide +kernel
theorem d_La_law_751 : decode b_La_law 751 = .ok (.iload 4, 2) := by decide +kernel
theorem d_La_law_753 : decode b_La_law 753 = .ok (.iconst 1, 1) := by decide +kernel
theorem d_La_law_754 : decode b_La_law 754 = .ok (.iadd, 1) := by decide +kernel
theorem d_La_law_755 : decode b_La_law 755 = .ok (.iaload, 1) := by decide +kernel
theorem d_La_law_756 : decode b_La_law 756 = .ok (.invokevirtual 106, 3) := by decide +kernel
theorem d_La_law_759 : decode b_La_law 759 = .ok (.istore 6, 2) := by decide +kernel
theorem d_La_law_761 : decode b_La_law 761 = .ok (.aload_n 2, 1) := by decide +kernel
theorem d_La_law_762 : decode b_La_law 762 = .ok (.invokevirtual 71, 3) := by decide +kernel
theorem d_La_law_765 : decode b_La_law 765 = .ok (.iload 5, 2) := by decide +kernel
theorem d_La_law_767 : decode b_La_law 767 = .ok (.if_icmp .eq 5, 3) := by decide +kernel
theorem d_La_law_770 : decode b_La_law 770 = .ok (.iconst 0, 1) := by decide +kernel
theorem d_La_law_771 : decode b_La_law 771 = .ok (.ireturn, 1) := by decide +kernel
theorem d_La_law_772 : decode b_La_law 772 = .ok (.iload 5, 2) := by decide +kernel
theorem d_La_law_774 : decode b_La_law 774 = .ok (.ifCond .ne 15, 3) := by decide +kernel
theorem d_La_law_777 : decode b_La_law 777 = .ok (.aload_n 3, 1) := by decide +kernel
theorem d_La_law_778 : decode b_La_law 778 = .ok (.iconst 0, 1) := by decide +kernel
theorem d_La_law_779 : decode b_La_law 779 = .ok (.laload, 1) := by decide +kernel
theorem d_La_law_780 : decode b_La_law 780 = .ok (.iload 6, 2) := by decide +kernel
theorem d_La_law_782 : decode b_La_law 782 = .ok (.i2l, 1) := by decide +kernel
theorem d_La_law_783 : decode b_La_law 783 = .ok (.lcmp, 1) := by decide +kernel
theorem d_La_law_784 : decode b_La_law 784 = .ok (.ifCond .eq 5, 3) := by decide +kernel
theorem d_La_law_787 : decode b_La_law 787 = .ok (.iconst 0, 1) := by decide +kernel
theorem d_La_law_788 : decode b_La_law 788 = .ok (.ireturn, 1) := by decide +kernel
theorem d_La_law_789 : decode b_La_law 789 = .ok (.goto 280, 3) := by decide +kernel
theorem d_La_law_792 : decode b_La_law 792 = .ok (.aload_n 1, 1) := by decide +kernel
theorem d_La_law_793 : decode b_La_law 793 = .ok (.invokevirtual 107, 3) := by decide +kernel
theorem d_La_law_796 : decode b_La_law 796 = .ok (.aload_n 2, 1) := by decide +kernel
theorem d_La_law_797 : decode b_La_law 797 = .ok (.invokevirtual 111, 3) := by decide +kernel
theorem d_La_law_800 : decode b_La_law 800 = .ok (.if_icmp .eq 269, 3) := by decide +kernel
theorem d_La_law_803 : decode b_La_law 803 = .ok (.iconst 0, 1) := by decide +kernel
theorem d_La_law_804 : decode b_La_law 804 = .ok (.ireturn, 1) := by decide +kernel
theorem d_La_law_805 : decode b_La_law 805 = .ok (.aload_n 1, 1) := by decide +kernel
theorem d_La_law_806 : decode b_La_law 806 = .ok (.aload_n 0, 1) := by decide +kernel
theorem d_La_law_807 : decode b_La_law 807 = .ok (.iload 4, 2) := by decide +kernel
theorem d_La_law_809 : decode b_La_law 809 = .ok (.iconst 1, 1) := by decide +kernel
theorem d_La_law_810 : decode b_La_law 810 = .ok (.iadd, 1) := by decide +kernel
theorem d_La_law_811 : decode b_La_law 811 = .ok (.iaload, 1) := by decide +kernel
theorem d_La_law_812 : decode b_La_law 812 = .ok (.aload_n 0, 1) := by decide +kernel
theorem d_La_law_813 : decode b_La_law 813 = .ok (.iload 4, 2) := by decide +kernel
theorem d_La_law_815 : decode b_La_law 815 = .ok (.iconst 2, 1) := by decide +kernel
theorem d_La_law_816 : decode b_La_law 816 = .ok (.iadd, 1) := by decide +kernel
theorem d_La_law_817 : decode b_La_law 817 = .ok (.iaload, 1) := by decide +kernel
theorem d_La_law_818 : decode b_La_law 818 = .ok (.aload_n 0, 1) := by decide +kernel
theorem d_La_law_819 : decode b_La_law 819 = .ok (.iload 4, 2) := by decide +kernel
theorem d_La_law_821 : decode b_La_law 821 = .ok (.iconst 3, 1) := by decide +kernel
theorem d_La_law_822 : decode b_La_law 822 = .ok (.iadd, 1) := by decide +kernel
theorem d_La_law_823 : decode b_La_law 823 = .ok (.iaload, 1) := by decide +kernel
theorem d_La_law_824 : decode b_La_law 824 = .ok (.aload_n 0, 1) := by decide +kernel
theorem d_La_law_825 : decode b_La_law 825 = .ok (.iload 4, 2) := by decide +kernel
theorem d_La_law_827 : decode b_La_law 827 = .ok (.iconst 4, 1) := by decide +kernel
theorem d_La_law_828 : decode b_La_law 828 = .ok (.iadd, 1) := by decide +kernel
theorem d_La_law_829 : decode b_La_law 829 = .ok (.iaload, 1) := by decide +kernel
theorem d_La_law_830 : decode b_La_law 830 = .ok (.ifCond .eq 7, 3) := by decide +kernel
theorem d_La_law_833 : decode b_La_law 833 = .ok (.iconst 1, 1) := by decide +kernel
theorem d_La_law_834 : decode b_La_law 834 = .ok (.goto 4, 3) := by decide +kernel
theorem d_La_law_837 : decode b_La_law 837 = .ok (.iconst 0, 1) := by decide +kernel
theorem d_La_law_838 : decode b_La_law 838 = .ok (.aload_n 3, 1) := by decide +kernel
theorem d_La_law_839 : decode b_La_law 839 = .ok (.invokestatic 112, 3) := by decide +kernel
theorem d_La_law_842 : decode b_La_law 842 = .ok (.istore 5, 2) := by decide +kernel
theorem d_La_law_844 : decode b_La_law 844 = .ok (.aload_n 2, 1) := by decide +kernel
theorem d_La_law_845 : decode b_La_law 845 = .ok (.aload_n 0, 1) := by decide +kernel
theorem d_La_law_846 : decode b_La_law 846 = .ok (.iload 4, 2) := by decide +kernel
theorem d_La_law_848 : decode b_La_law 848 = .ok (.iconst 1, 1) := by decide +kernel
theorem d_La_law_849 : decode b_La_law 849 = .ok (.iadd, 1) := by decide +kernel
theorem d_La_law_850 : decode b_La_law 850 = .ok (.iaload, 1) := by decide +kernel
theorem d_La_law_851 : decode b_La_law 851 = .ok (.aload_n 0, 1) := by decide +kernel
theorem d_La_law_852 : decode b_La_law 852 = .ok (.iload 4, 2) := by decide +kernel
theorem d_La_law_854 : decode b_La_law 854 = .ok (.iconst 2, 1) := by decide +kernel
theorem d_La_law_855 : decode b_La_law 855 = .ok (.iadd, 1) := by decide +kernel
theorem d_La_law_856 : decode b_La_law 856 = .ok (.iaload, 1) := by decide +kernel
theorem d_La_law_857 : decode b_La_law 857 = .ok (.aload_n 0, 1) := by decide +kernel
theorem d_La_law_858 : decode b_La_law 858 = .ok (.iload 4, 2) := by decide +kernel
theorem d_La_law_860 : decode b_La_law 860 = .ok (.iconst 3, 1) := by decide +kernel
theorem d_La_law_861 : decode b_La_law 861 = .ok (.iadd, 1) := by decide +kernel
theorem d_La_law_862 : decode b_La_law 862 = .ok (.iaload, 1) := by decide +kernel
theorem d_La_law_863 : decode b_La_law 863 = .ok (.aload_n 0, 1) := by decide +kernel
theorem d_La_law_864 : decode b_La_law 864 = .ok (.iload 4, 2) := by decide +kernel
theorem d_La_law_866 : decode b_La_law 866 = .ok (.iconst 4, 1) := by decide +kernel
theorem d_La_law_867 : decode b_La_law 867 = .ok (.iadd, 1) := by decide +kernel
theorem d_La_law_868 : decode b_La_law 868 = .ok (.iaload, 1) := by decide +kernel
theorem d_La_law_869 : decode b_La_law 869 = .ok (.ifCond .eq 7, 3) := by decide +kernel
theorem d_La_law_872 : decode b_La_law 872 = .ok (.iconst 1, 1) := by decide +kernel
theorem d_La_law_873 : decode b_La_law 873 = .ok (.goto 4, 3) := by decide +kernel
theorem d_La_law_876 : decode b_La_law 876 = .ok (.iconst 0, 1) := by decide +kernel
theorem d_La_law_877 : decode b_La_law 877 = .ok (.invokevirtual 115, 3) := by decide +kernel
theorem d_La_law_880 : decode b_La_law 880 = .ok (.istore 6, 2) := by decide +kernel
theorem d_La_law_882 : decode b_La_law 882 = .ok (.aload_n 2, 1) := by decide +kernel
theorem d_La_law_883 : decode b_La_law 883 = .ok (.invokevirtual 71, 3) := by decide +kernel
theorem d_La_law_886 : decode b_La_law 886 = .ok (.iload 5, 2) := by decide +kernel
theorem d_La_law_888 : decode b_La_law 888 = .ok (.if_icmp .eq 5, 3) := by decide +kernel
theorem d_La_law_891 : decode b_La_law 891 = .ok (.iconst 0, 1) := by decide +kernel
theorem d_La_law_892 : decode b_La_law 892 = .ok (.ireturn, 1) := by decide +kernel
theorem d_La_law_893 : decode b_La_law 893 = .ok (.iload 5, 2) := by decide +kernel
theorem d_La_law_895 : decode b_La_law 895 = .ok (.ifCond .ne 15, 3) := by decide +kernel
theorem d_La_law_898 : decode b_La_law 898 = .ok (.aload_n 3, 1) := by decide +kernel
theorem d_La_law_899 : decode b_La_law 899 = .ok (.iconst 0, 1) := by decide +kernel
theorem d_La_law_900 : decode b_La_law 900 = .ok (.laload, 1) := by decide +kernel
theorem d_La_law_901 : decode b_La_law 901 = .ok (.iload 6, 2) := by decide +kernel
theorem d_La_law_903 : decode b_La_law 903 = .ok (.i2l, 1) := by decide +kernel
theorem d_La_law_904 : decode b_La_law 904 = .ok (.lcmp, 1) := by decide +kernel
theorem d_La_law_905 : decode b_La_law 905 = .ok (.ifCond .eq 5, 3) := by decide +kernel
theorem d_La_law_908 : decode b_La_law 908 = .ok (.iconst 0, 1) := by decide +kernel
theorem d_La_law_909 : decode b_La_law 909 = .ok (.ireturn, 1) := by decide +kernel
theorem d_La_law_910 : decode b_La_law 910 = .ok (.goto 159, 3) := by decide +kernel
theorem d_La_law_913 : decode b_La_law 913 = .ok (.aload_n 1, 1) := by decide +kernel
theorem d_La_law_914 : decode b_La_law 914 = .ok (.aload_n 0, 1) := by decide +kernel
theorem d_La_law_915 : decode b_La_law 915 = .ok (.iload 4, 2) := by decide +kernel
theorem d_La_law_917 : decode b_La_law 917 = .ok (.iconst 1, 1) := by decide +kernel
theorem d_La_law_918 : decode b_La_law 918 = .ok (.iadd, 1) := by decide +kernel
theorem d_La_law_919 : decode b_La_law 919 = .ok (.iaload, 1) := by decide +kernel
theorem d_La_law_920 : decode b_La_law 920 = .ok (.aload_n 3, 1) := by decide +kernel
theorem d_La_law_921 : decode b_La_law 921 = .ok (.invokestatic 116, 3) := by decide +kernel
theorem d_La_law_924 : decode b_La_law 924 = .ok (.istore 5, 2) := by decide +kernel
theorem d_La_law_926 : decode b_La_law 926 = .ok (.aload_n 2, 1) := by decide +kernel
theorem d_La_law_927 : decode b_La_law 927 = .ok (.aload_n 0, 1) := by decide +kernel
theorem d_La_law_928 : decode b_La_law 928 = .ok (.iload 4, 2) := by decide +kernel
theorem d_La_law_930 : decode b_La_law 930 = .ok (.iconst 1, 1) := by decide +kernel
theorem d_La_law_931 : decode b_La_law 931 = .ok (.iadd, 1) := by decide +kernel
theorem d_La_law_932 : decode b_La_law 932 = .ok (.iaload, 1) := by decide +kernel
theorem d_La_law_933 : decode b_La_law 933 = .ok (.invokevirtual 118, 3) := by decide +kernel
theorem d_La_law_936 : decode b_La_law 936 = .ok (.istore 6, 2) := by decide +kernel
theorem d_La_law_938 : decode b_La_law 938 = .ok (.aload_n 2, 1) := by decide +kernel
theorem d_La_law_939 : decode b_La_law 939 = .ok (.invokevirtual 71, 3) := by decide +kernel
theorem d_La_law_942 : decode b_La_law 942 = .ok (.iload 5, 2) := by decide +kernel
theorem d_La_law_944 : decode b_La_law 944 = .ok (.if_icmp .eq 5, 3) := by decide +kernel
theorem d_La_law_947 : decode b_La_law 947 = .ok (.iconst 0, 1) := by decide +kernel
theorem d_La_law_948 : decode b_La_law 948 = .ok (.ireturn, 1) := by decide +kernel
theorem d_La_law_949 : decode b_La_law 949 = .ok (.iload 5, 2) := by decide +kernel
theorem d_La_law_951 : decode b_La_law 951 = .ok (.ifCond .ne 15, 3) := by decide +kernel
theorem d_La_law_954 : decode b_La_law 954 = .ok (.aload_n 3, 1) := by decide +kernel
theorem d_La_law_955 : decode b_La_law 955 = .ok (.iconst 0, 1) := by decide +kernel
theorem d_La_law_956 : decode b_La_law 956 = .ok (.laload, 1) := by decide +kernel
theorem d_La_law_957 : decode b_La_law 957 = .ok (.iload 6, 2) := by decide +kernel
theorem d_La_law_959 : decode b_La_law 959 = .ok (.i2l, 1) := by decide +kernel
theorem d_La_law_960 : decode b_La_law 960 = .ok (.lcmp, 1) := by decide +kernel
theorem d_La_law_961 : decode b_La_law 961 = .ok (.ifCond .eq 5, 3) := by decide +kernel
theorem d_La_law_964 : decode b_La_law 964 = .ok (.iconst 0, 1) := by decide +kernel
theorem d_La_law_965 : decode b_La_law 965 = .ok (.ireturn, 1) := by decide +kernel
theorem d_La_law_966 : decode b_La_law 966 = .ok (.goto 103, 3) := by decide +kernel
theorem d_La_law_969 : decode b_La_law 969 = .ok (.aload_n 1, 1) := by decide +kernel
theorem d_La_law_970 : decode b_La_law 970 = .ok (.aload_n 3, 1) := by decide +kernel
theorem d_La_law_971 : decode b_La_law 971 = .ok (.invokestatic 119, 3) := by decide +kernel
theorem d_La_law_974 : decode b_La_law 974 = .ok (.istore 5, 2) := by decide +kernel
theorem d_La_law_976 : decode b_La_law 976 = .ok (.aload_n 2, 1) := by decide +kernel
theorem d_La_law_977 : decode b_La_law 977 = .ok (.invokevirtual 122, 3) := by decide +kernel
theorem d_La_law_980 : decode b_La_law 980 = .ok (.istore 6, 2) := by decide +kernel
theorem d_La_law_982 : decode b_La_law 982 = .ok (.aload_n 2, 1) := by decide +kernel
theorem d_La_law_983 : decode b_La_law 983 = .ok (.invokevirtual 71, 3) := by decide +kernel
theorem d_La_law_986 : decode b_La_law 986 = .ok (.iload 5, 2) := by decide +kernel
theorem d_La_law_988 : decode b_La_law 988 = .ok (.if_icmp .eq 5, 3) := by decide +kernel
theorem d_La_law_991 : decode b_La_law 991 = .ok (.iconst 0, 1) := by decide +kernel
theorem d_La_law_992 : decode b_La_law 992 = .ok (.ireturn, 1) := by decide +kernel
theorem d_La_law_993 : decode b_La_law 993 = .ok (.iload 5, 2) := by decide +kernel
theorem d_La_law_995 : decode b_La_law 995 = .ok (.ifCond .ne 15, 3) := by decide +kernel
theorem d_La_law_998 : decode b_La_law 998 = .ok (.aload_n 3, 1) := by decide +kernel
theorem d_La_law_999 : decode b_La_law 999 = .ok (.iconst 0, 1) := by decide +kernel
theorem d_La_law_1000 : decode b_La_law 1000 = .ok (.laload, 1) := by decide +kernel
theorem d_La_law_1001 : decode b_La_law 1001 = .ok (.iload 6, 2) := by decide +kernel
theorem d_La_law_1003 : decode b_La_law 1003 = .ok (.i2l, 1) := by decide +kernel
theorem d_La_law_1004 : decode b_La_law 1004 = .ok (.lcmp, 1) := by decide +kernel
theorem d_La_law_1005 : decode b_La_law 1005 = .ok (.ifCond .eq 5, 3) := by decide +kernel
theorem d_La_law_1008 : decode b_La_law 1008 = .ok (.iconst 0, 1) := by decide +kernel
theorem d_La_law_1009 : decode b_La_law 1009 = .ok (.ireturn, 1) := by decide +kernel
theorem d_La_law_1010 : decode b_La_law 1010 = .ok (.goto 59, 3) := by decide +kernel
theorem d_La_law_1013 : decode b_La_law 1013 = .ok (.aload_n 1, 1) := by decide +kernel
theorem d_La_law_1014 : decode b_La_law 1014 = .ok (.aload_n 0, 1) := by decide +kernel
theorem d_La_law_1015 : decode b_La_law 1015 = .ok (.iload 4, 2) := by decide +kernel
theorem d_La_law_1017 : decode b_La_law 1017 = .ok (.iconst 1, 1) := by decide +kernel
theorem d_La_law_1018 : decode b_La_law 1018 = .ok (.iadd, 1) := by decide +kernel
theorem d_La_law_1019 : decode b_La_law 1019 = .ok (.iaload, 1) := by decide +kernel
theorem d_La_law_1020 : decode b_La_law 1020 = .ok (.aload_n 3, 1) := by decide +kernel
theorem d_La_law_1021 : decode b_La_law 1021 = .ok (.invokestatic 123, 3) := by decide +kernel
theorem d_La_law_1024 : decode b_La_law 1024 = .ok (.istore 5, 2) := by decide +kernel
theorem d_La_law_1026 : decode b_La_law 1026 = .ok (.aload_n 2, 1) := by decide +kernel
theorem d_La_law_1027 : decode b_La_law 1027 = .ok (.aload_n 0, 1) := by decide +kernel
theorem d_La_law_1028 : decode b_La_law 1028 = .ok (.iload 4, 2) := by decide +kernel
theorem d_La_law_1030 : decode b_La_law 1030 = .ok (.iconst 1, 1) := by decide +kernel
theorem d_La_law_1031 : decode b_La_law 1031 = .ok (.iadd, 1) := by decide +kernel
theorem d_La_law_1032 : decode b_La_law 1032 = .ok (.iaload, 1) := by decide +kernel
theorem d_La_law_1033 : decode b_La_law 1033 = .ok (.invokevirtual 125, 3) := by decide +kernel
theorem d_La_law_1036 : decode b_La_law 1036 = .ok (.istore 6, 2) := by decide +kernel
theorem d_La_law_1038 : decode b_La_law 1038 = .ok (.aload_n 2, 1) := by decide +kernel
theorem d_La_law_1039 : decode b_La_law 1039 = .ok (.invokevirtual 71, 3) := by decide +kernel
theorem d_La_law_1042 : decode b_La_law 1042 = .ok (.iload 5, 2) := by decide +kernel
theorem d_La_law_1044 : decode b_La_law 1044 = .ok (.if_icmp .eq 5, 3) := by decide +kernel
theorem d_La_law_1047 : decode b_La_law 1047 = .ok (.iconst 0, 1) := by decide +kernel
theorem d_La_law_1048 : decode b_La_law 1048 = .ok (.ireturn, 1) := by decide +kernel
theorem d_La_law_1049 : decode b_La_law 1049 = .ok (.iload 5, 2) := by decide +kernel
theorem d_La_law_1051 : decode b_La_law 1051 = .ok (.ifCond .ne 15, 3) := by decide +kernel
theorem d_La_law_1054 : decode b_La_law 1054 = .ok (.aload_n 3, 1) := by decide +kernel
theorem d_La_law_1055 : decode b_La_law 1055 = .ok (.iconst 0, 1) := by decide +kernel
theorem d_La_law_1056 : decode b_La_law 1056 = .ok (.laload, 1) := by decide +kernel
theorem d_La_law_1057 : decode b_La_law 1057 = .ok (.iload 6, 2) := by decide +kernel
theorem d_La_law_1059 : decode b_La_law 1059 = .ok (.i2l, 1) := by decide +kernel
theorem d_La_law_1060 : decode b_La_law 1060 = .ok (.lcmp, 1) := by decide +kernel
theorem d_La_law_1061 : decode b_La_law 1061 = .ok (.ifCond .eq 5, 3) := by decide +kernel
theorem d_La_law_1064 : decode b_La_law 1064 = .ok (.iconst 0, 1) := by decide +kernel
theorem d_La_law_1065 : decode b_La_law 1065 = .ok (.ireturn, 1) := by decide +kernel
theorem d_La_law_1066 : decode b_La_law 1066 = .ok (.goto 3, 3) := by decide +kernel
theorem d_La_law_1069 : decode b_La_law 1069 = .ok (.iinc 4 6, 3) := by decide +kernel
theorem d_La_law_1072 : decode b_La_law 1072 = .ok (.goto (-1049), 3) := by decide +kernel
theorem d_La_law_1075 : decode b_La_law 1075 = .ok (.iconst 1, 1) := by decide +kernel
theorem d_La_law_1076 : decode b_La_law 1076 = .ok (.ireturn, 1) := by decide +kernel
