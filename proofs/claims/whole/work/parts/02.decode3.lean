theorem dX11_duel_156 : decode cX11_duel 156 = .ok (.iconst 0, 1) := by decide +kernel
theorem dX11_duel_157 : decode cX11_duel 157 = .ok (.iaload, 1) := by decide +kernel
theorem dX11_duel_158 : decode cX11_duel 158 = .ok (.if_icmp .ge 20, 3) := by decide +kernel
theorem dX11_duel_161 : decode cX11_duel 161 = .ok (.aload_n 0, 1) := by decide +kernel
theorem dX11_duel_162 : decode cX11_duel 162 = .ok (.iload 8, 2) := by decide +kernel
theorem dX11_duel_164 : decode cX11_duel 164 = .ok (.iload 5, 2) := by decide +kernel
theorem dX11_duel_166 : decode cX11_duel 166 = .ok (.invokevirtual 209, 3) := by decide +kernel
theorem dX11_duel_169 : decode cX11_duel 169 = .ok (.ifCond .eq 9, 3) := by decide +kernel
theorem dX11_duel_172 : decode cX11_duel 172 = .ok (.iinc 8 1, 3) := by decide +kernel
theorem dX11_duel_175 : decode cX11_duel 175 = .ok (.goto (-25), 3) := by decide +kernel
theorem dX11_duel_178 : decode cX11_duel 178 = .ok (.aload_n 0, 1) := by decide +kernel
theorem dX11_duel_179 : decode cX11_duel 179 = .ok (.getfield 47, 3) := by decide +kernel
theorem dX11_duel_182 : decode cX11_duel 182 = .ok (.iload 5, 2) := by decide +kernel
theorem dX11_duel_184 : decode cX11_duel 184 = .ok (.iload 8, 2) := by decide +kernel
theorem dX11_duel_186 : decode cX11_duel 186 = .ok (.iastore, 1) := by decide +kernel
theorem dX11_duel_187 : decode cX11_duel 187 = .ok (.iload 8, 2) := by decide +kernel
theorem dX11_duel_189 : decode cX11_duel 189 = .ok (.aload_n 0, 1) := by decide +kernel
theorem dX11_duel_190 : decode cX11_duel 190 = .ok (.getfield 7, 3) := by decide +kernel
theorem dX11_duel_193 : decode cX11_duel 193 = .ok (.iconst 0, 1) := by decide +kernel
theorem dX11_duel_194 : decode cX11_duel 194 = .ok (.iaload, 1) := by decide +kernel
theorem dX11_duel_195 : decode cX11_duel 195 = .ok (.if_icmp .lt 7, 3) := by decide +kernel
theorem dX11_duel_198 : decode cX11_duel 198 = .ok (.iconst 1, 1) := by decide +kernel
theorem dX11_duel_199 : decode cX11_duel 199 = .ok (.goto 4, 3) := by decide +kernel
theorem dX11_duel_202 : decode cX11_duel 202 = .ok (.iconst 0, 1) := by decide +kernel
theorem dX11_duel_203 : decode cX11_duel 203 = .ok (.istore 7, 2) := by decide +kernel
theorem dX11_duel_205 : decode cX11_duel 205 = .ok (.aload_n 0, 1) := by decide +kernel
theorem dX11_duel_206 : decode cX11_duel 206 = .ok (.getfield 53, 3) := by decide +kernel
theorem dX11_duel_209 : decode cX11_duel 209 = .ok (.iload 5, 2) := by decide +kernel
theorem dX11_duel_211 : decode cX11_duel 211 = .ok (.iaload, 1) := by decide +kernel
theorem dX11_duel_212 : decode cX11_duel 212 = .ok (.istore 6, 2) := by decide +kernel
theorem dX11_duel_214 : decode cX11_duel 214 = .ok (.iload 7, 2) := by decide +kernel
theorem dX11_duel_216 : decode cX11_duel 216 = .ok (.ifCond .ne 56, 3) := by decide +kernel
theorem dX11_duel_219 : decode cX11_duel 219 = .ok (.aload_n 0, 1) := by decide +kernel
theorem dX11_duel_220 : decode cX11_duel 220 = .ok (.getfield 50, 3) := by decide +kernel
theorem dX11_duel_223 : decode cX11_duel 223 = .ok (.iload 5, 2) := by decide +kernel
theorem dX11_duel_225 : decode cX11_duel 225 = .ok (.iconst 1, 1) := by decide +kernel
theorem dX11_duel_226 : decode cX11_duel 226 = .ok (.iadd, 1) := by decide +kernel
theorem dX11_duel_227 : decode cX11_duel 227 = .ok (.bipush 10, 2) := by decide +kernel
theorem dX11_duel_229 : decode cX11_duel 229 = .ok (.aload_n 0, 1) := by decide +kernel
theorem dX11_duel_230 : decode cX11_duel 230 = .ok (.getfield 50, 3) := by decide +kernel
theorem dX11_duel_233 : decode cX11_duel 233 = .ok (.iload 5, 2) := by decide +kernel
theorem dX11_duel_235 : decode cX11_duel 235 = .ok (.iaload, 1) := by decide +kernel
theorem dX11_duel_236 : decode cX11_duel 236 = .ok (.imul, 1) := by decide +kernel
theorem dX11_duel_237 : decode cX11_duel 237 = .ok (.aload_n 0, 1) := by decide +kernel
theorem dX11_duel_238 : decode cX11_duel 238 = .ok (.iload 8, 2) := by decide +kernel
theorem dX11_duel_240 : decode cX11_duel 240 = .ok (.iload_n 2, 1) := by decide +kernel
theorem dX11_duel_241 : decode cX11_duel 241 = .ok (.invokevirtual 142, 3) := by decide +kernel
theorem dX11_duel_244 : decode cX11_duel 244 = .ok (.iadd, 1) := by decide +kernel
theorem dX11_duel_245 : decode cX11_duel 245 = .ok (.iastore, 1) := by decide +kernel
theorem dX11_duel_246 : decode cX11_duel 246 = .ok (.iinc 5 1, 3) := by decide +kernel
theorem dX11_duel_249 : decode cX11_duel 249 = .ok (.iload 5, 2) := by decide +kernel
theorem dX11_duel_251 : decode cX11_duel 251 = .ok (.iload 4, 2) := by decide +kernel
theorem dX11_duel_253 : decode cX11_duel 253 = .ok (.if_icmp .ge 19, 3) := by decide +kernel
theorem dX11_duel_256 : decode cX11_duel 256 = .ok (.aload_n 0, 1) := by decide +kernel
theorem dX11_duel_257 : decode cX11_duel 257 = .ok (.getfield 47, 3) := by decide +kernel
theorem dX11_duel_260 : decode cX11_duel 260 = .ok (.iload 5, 2) := by decide +kernel
theorem dX11_duel_262 : decode cX11_duel 262 = .ok (.iconst (-1), 1) := by decide +kernel
theorem dX11_duel_263 : decode cX11_duel 263 = .ok (.iastore, 1) := by decide +kernel
theorem dX11_duel_264 : decode cX11_duel 264 = .ok (.aload_n 0, 1) := by decide +kernel
theorem dX11_duel_265 : decode cX11_duel 265 = .ok (.getfield 53, 3) := by decide +kernel
theorem dX11_duel_268 : decode cX11_duel 268 = .ok (.iload 5, 2) := by decide +kernel
theorem dX11_duel_270 : decode cX11_duel 270 = .ok (.iconst (-1), 1) := by decide +kernel
theorem dX11_duel_271 : decode cX11_duel 271 = .ok (.iastore, 1) := by decide +kernel
theorem dX11_duel_272 : decode cX11_duel 272 = .ok (.iload 7, 2) := by decide +kernel
theorem dX11_duel_274 : decode cX11_duel 274 = .ok (.ifCond .eq 86, 3) := by decide +kernel
theorem dX11_duel_277 : decode cX11_duel 277 = .ok (.iinc 5 (-1), 3) := by decide +kernel
theorem dX11_duel_280 : decode cX11_duel 280 = .ok (.iload 5, 2) := by decide +kernel
theorem dX11_duel_282 : decode cX11_duel 282 = .ok (.ifCond .lt 78, 3) := by decide +kernel
theorem dX11_duel_285 : decode cX11_duel 285 = .ok (.aload_n 0, 1) := by decide +kernel
theorem dX11_duel_286 : decode cX11_duel 286 = .ok (.getfield 53, 3) := by decide +kernel
theorem dX11_duel_289 : decode cX11_duel 289 = .ok (.iload 5, 2) := by decide +kernel
theorem dX11_duel_291 : decode cX11_duel 291 = .ok (.iaload, 1) := by decide +kernel
theorem dX11_duel_292 : decode cX11_duel 292 = .ok (.ifCond .lt 37, 3) := by decide +kernel
theorem dX11_duel_295 : decode cX11_duel 295 = .ok (.iload 5, 2) := by decide +kernel
theorem dX11_duel_297 : decode cX11_duel 297 = .ok (.iconst 2, 1) := by decide +kernel
theorem dX11_duel_298 : decode cX11_duel 298 = .ok (.irem, 1) := by decide +kernel
theorem dX11_duel_299 : decode cX11_duel 299 = .ok (.ifCond .ne 18, 3) := by decide +kernel
theorem dX11_duel_302 : decode cX11_duel 302 = .ok (.iload 6, 2) := by decide +kernel
theorem dX11_duel_304 : decode cX11_duel 304 = .ok (.aload_n 0, 1) := by decide +kernel
theorem dX11_duel_305 : decode cX11_duel 305 = .ok (.getfield 53, 3) := by decide +kernel
theorem dX11_duel_308 : decode cX11_duel 308 = .ok (.iload 5, 2) := by decide +kernel
theorem dX11_duel_310 : decode cX11_duel 310 = .ok (.iaload, 1) := by decide +kernel
theorem dX11_duel_311 : decode cX11_duel 311 = .ok (.if_icmp .le 22, 3) := by decide +kernel
theorem dX11_duel_314 : decode cX11_duel 314 = .ok (.goto 15, 3) := by decide +kernel
theorem dX11_duel_317 : decode cX11_duel 317 = .ok (.iload 6, 2) := by decide +kernel
theorem dX11_duel_319 : decode cX11_duel 319 = .ok (.aload_n 0, 1) := by decide +kernel
theorem dX11_duel_320 : decode cX11_duel 320 = .ok (.getfield 53, 3) := by decide +kernel
theorem dX11_duel_323 : decode cX11_duel 323 = .ok (.iload 5, 2) := by decide +kernel
theorem dX11_duel_325 : decode cX11_duel 325 = .ok (.iaload, 1) := by decide +kernel
theorem dX11_duel_326 : decode cX11_duel 326 = .ok (.if_icmp .ge 7, 3) := by decide +kernel
theorem dX11_duel_329 : decode cX11_duel 329 = .ok (.iconst 1, 1) := by decide +kernel
theorem dX11_duel_330 : decode cX11_duel 330 = .ok (.goto 4, 3) := by decide +kernel
theorem dX11_duel_333 : decode cX11_duel 333 = .ok (.iconst 0, 1) := by decide +kernel
theorem dX11_duel_334 : decode cX11_duel 334 = .ok (.istore 8, 2) := by decide +kernel
theorem dX11_duel_336 : decode cX11_duel 336 = .ok (.aload_n 0, 1) := by decide +kernel
theorem dX11_duel_337 : decode cX11_duel 337 = .ok (.getfield 53, 3) := by decide +kernel
theorem dX11_duel_340 : decode cX11_duel 340 = .ok (.iload 5, 2) := by decide +kernel
theorem dX11_duel_342 : decode cX11_duel 342 = .ok (.iload 8, 2) := by decide +kernel
theorem dX11_duel_344 : decode cX11_duel 344 = .ok (.ifCond .eq 8, 3) := by decide +kernel
theorem dX11_duel_347 : decode cX11_duel 347 = .ok (.iload 6, 2) := by decide +kernel
theorem dX11_duel_349 : decode cX11_duel 349 = .ok (.goto 10, 3) := by decide +kernel
theorem dX11_duel_352 : decode cX11_duel 352 = .ok (.aload_n 0, 1) := by decide +kernel
theorem dX11_duel_353 : decode cX11_duel 353 = .ok (.getfield 53, 3) := by decide +kernel
theorem dX11_duel_356 : decode cX11_duel 356 = .ok (.iload 5, 2) := by decide +kernel
theorem dX11_duel_358 : decode cX11_duel 358 = .ok (.iaload, 1) := by decide +kernel
theorem dX11_duel_359 : decode cX11_duel 359 = .ok (.iastore, 1) := by decide +kernel
theorem dX11_duel_360 : decode cX11_duel 360 = .ok (.goto (-257), 3) := by decide +kernel
theorem dX11_duel_363 : decode cX11_duel 363 = .ok (.iload 6, 2) := by decide +kernel
theorem dX11_duel_365 : decode cX11_duel 365 = .ok (.ireturn, 1) := by decide +kernel
theorem dX11_isLaidOr_0 : decode cX11_isLaidOr 0 = .ok (.aload_n 0, 1) := by decide +kernel
theorem dX11_isLaidOr_1 : decode cX11_isLaidOr 1 = .ok (.iload_n 1, 1) := by decide +kernel
theorem dX11_isLaidOr_2 : decode cX11_isLaidOr 2 = .ok (.invokevirtual 130, 3) := by decide +kernel
theorem dX11_isLaidOr_5 : decode cX11_isLaidOr 5 = .ok (.ifCond .lt 7, 3) := by decide +kernel
theorem dX11_isLaidOr_8 : decode cX11_isLaidOr 8 = .ok (.iconst 1, 1) := by decide +kernel
theorem dX11_isLaidOr_9 : decode cX11_isLaidOr 9 = .ok (.goto 4, 3) := by decide +kernel
theorem dX11_isLaidOr_12 : decode cX11_isLaidOr 12 = .ok (.iconst 0, 1) := by decide +kernel
theorem dX11_isLaidOr_13 : decode cX11_isLaidOr 13 = .ok (.istore_n 3, 1) := by decide +kernel
theorem dX11_isLaidOr_14 : decode cX11_isLaidOr 14 = .ok (.iconst 0, 1) := by decide +kernel
theorem dX11_isLaidOr_15 : decode cX11_isLaidOr 15 = .ok (.istore 4, 2) := by decide +kernel
theorem dX11_isLaidOr_17 : decode cX11_isLaidOr 17 = .ok (.iload 4, 2) := by decide +kernel
theorem dX11_isLaidOr_19 : decode cX11_isLaidOr 19 = .ok (.iload_n 2, 1) := by decide +kernel
theorem dX11_isLaidOr_20 : decode cX11_isLaidOr 20 = .ok (.if_icmp .ge 30, 3) := by decide +kernel
theorem dX11_isLaidOr_23 : decode cX11_isLaidOr 23 = .ok (.iload_n 3, 1) := by decide +kernel
theorem dX11_isLaidOr_24 : decode cX11_isLaidOr 24 = .ok (.ifCond .ne 14, 3) := by decide +kernel
theorem dX11_isLaidOr_27 : decode cX11_isLaidOr 27 = .ok (.aload_n 0, 1) := by decide +kernel
theorem dX11_isLaidOr_28 : decode cX11_isLaidOr 28 = .ok (.getfield 47, 3) := by decide +kernel
theorem dX11_isLaidOr_31 : decode cX11_isLaidOr 31 = .ok (.iload 4, 2) := by decide +kernel
theorem dX11_isLaidOr_33 : decode cX11_isLaidOr 33 = .ok (.iaload, 1) := by decide +kernel
theorem dX11_isLaidOr_34 : decode cX11_isLaidOr 34 = .ok (.iload_n 1, 1) := by decide +kernel
theorem dX11_isLaidOr_35 : decode cX11_isLaidOr 35 = .ok (.if_icmp .ne 7, 3) := by decide +kernel
theorem dX11_isLaidOr_38 : decode cX11_isLaidOr 38 = .ok (.iconst 1, 1) := by decide +kernel
theorem dX11_isLaidOr_39 : decode cX11_isLaidOr 39 = .ok (.goto 4, 3) := by decide +kernel
theorem dX11_isLaidOr_42 : decode cX11_isLaidOr 42 = .ok (.iconst 0, 1) := by decide +kernel
theorem dX11_isLaidOr_43 : decode cX11_isLaidOr 43 = .ok (.istore_n 3, 1) := by decide +kernel
theorem dX11_isLaidOr_44 : decode cX11_isLaidOr 44 = .ok (.iinc 4 1, 3) := by decide +kernel
theorem dX11_isLaidOr_47 : decode cX11_isLaidOr 47 = .ok (.goto (-30), 3) := by decide +kernel
theorem dX11_isLaidOr_50 : decode cX11_isLaidOr 50 = .ok (.iload_n 3, 1) := by decide +kernel
theorem dX11_isLaidOr_51 : decode cX11_isLaidOr 51 = .ok (.ireturn, 1) := by decide +kernel
theorem dX11_readWithout_0 : decode cX11_readWithout 0 = .ok (.iconst 0, 1) := by decide +kernel
theorem dX11_readWithout_1 : decode cX11_readWithout 1 = .ok (.istore_n 3, 1) := by decide +kernel
theorem dX11_readWithout_2 : decode cX11_readWithout 2 = .ok (.iconst 0, 1) := by decide +kernel
theorem dX11_readWithout_3 : decode cX11_readWithout 3 = .ok (.istore 4, 2) := by decide +kernel
theorem dX11_readWithout_5 : decode cX11_readWithout 5 = .ok (.iload 4, 2) := by decide +kernel
theorem dX11_readWithout_7 : decode cX11_readWithout 7 = .ok (.aload_n 0, 1) := by decide +kernel
theorem dX11_readWithout_8 : decode cX11_readWithout 8 = .ok (.getfield 7, 3) := by decide +kernel
theorem dX11_readWithout_11 : decode cX11_readWithout 11 = .ok (.iconst 1, 1) := by decide +kernel
theorem dX11_readWithout_12 : decode cX11_readWithout 12 = .ok (.iaload, 1) := by decide +kernel
theorem dX11_readWithout_13 : decode cX11_readWithout 13 = .ok (.if_icmp .ge 42, 3) := by decide +kernel
theorem dX11_readWithout_16 : decode cX11_readWithout 16 = .ok (.bipush 10, 2) := by decide +kernel
theorem dX11_readWithout_18 : decode cX11_readWithout 18 = .ok (.iload_n 3, 1) := by decide +kernel
theorem dX11_readWithout_19 : decode cX11_readWithout 19 = .ok (.imul, 1) := by decide +kernel
theorem dX11_readWithout_20 : decode cX11_readWithout 20 = .ok (.iload_n 2, 1) := by decide +kernel
theorem dX11_readWithout_21 : decode cX11_readWithout 21 = .ok (.iload 4, 2) := by decide +kernel
theorem dX11_readWithout_23 : decode cX11_readWithout 23 = .ok (.invokestatic 119, 3) := by decide +kernel
theorem dX11_readWithout_26 : decode cX11_readWithout 26 = .ok (.ifCond .eq 7, 3) := by decide +kernel
theorem dX11_readWithout_29 : decode cX11_readWithout 29 = .ok (.iconst 0, 1) := by decide +kernel
theorem dX11_readWithout_30 : decode cX11_readWithout 30 = .ok (.goto 17, 3) := by decide +kernel
theorem dX11_readWithout_33 : decode cX11_readWithout 33 = .ok (.aload_n 0, 1) := by decide +kernel
theorem dX11_readWithout_34 : decode cX11_readWithout 34 = .ok (.aload_n 0, 1) := by decide +kernel
theorem dX11_readWithout_35 : decode cX11_readWithout 35 = .ok (.getfield 7, 3) := by decide +kernel
theorem dX11_readWithout_38 : decode cX11_readWithout 38 = .ok (.iconst 3, 1) := by decide +kernel
theorem dX11_readWithout_39 : decode cX11_readWithout 39 = .ok (.iload 4, 2) := by decide +kernel
theorem dX11_readWithout_41 : decode cX11_readWithout 41 = .ok (.iadd, 1) := by decide +kernel
theorem dX11_readWithout_42 : decode cX11_readWithout 42 = .ok (.iaload, 1) := by decide +kernel
theorem dX11_readWithout_43 : decode cX11_readWithout 43 = .ok (.iload_n 1, 1) := by decide +kernel
theorem dX11_readWithout_44 : decode cX11_readWithout 44 = .ok (.invokevirtual 142, 3) := by decide +kernel
theorem dX11_readWithout_47 : decode cX11_readWithout 47 = .ok (.iadd, 1) := by decide +kernel
theorem dX11_readWithout_48 : decode cX11_readWithout 48 = .ok (.istore_n 3, 1) := by decide +kernel
theorem dX11_readWithout_49 : decode cX11_readWithout 49 = .ok (.iinc 4 1, 3) := by decide +kernel
theorem dX11_readWithout_52 : decode cX11_readWithout 52 = .ok (.goto (-47), 3) := by decide +kernel
theorem dX11_readWithout_55 : decode cX11_readWithout 55 = .ok (.iload_n 3, 1) := by decide +kernel
theorem dX11_readWithout_56 : decode cX11_readWithout 56 = .ok (.ireturn, 1) := by decide +kernel
theorem dX11_chance_0 : decode cX11_chance 0 = .ok (.iload_n 1, 1) := by decide +kernel
theorem dX11_chance_1 : decode cX11_chance 1 = .ok (.invokestatic 151, 3) := by decide +kernel
theorem dX11_chance_4 : decode cX11_chance 4 = .ok (.ifCond .eq 15, 3) := by decide +kernel
theorem dX11_chance_7 : decode cX11_chance 7 = .ok (.iload_n 2, 1) := by decide +kernel
theorem dX11_chance_8 : decode cX11_chance 8 = .ok (.i2l, 1) := by decide +kernel
theorem dX11_chance_9 : decode cX11_chance 9 = .ok (.lconst 0, 1) := by decide +kernel
theorem dX11_chance_10 : decode cX11_chance 10 = .ok (.ldc2_w 212, 3) := by decide +kernel
theorem dX11_chance_13 : decode cX11_chance 13 = .ok (.invokestatic 68, 3) := by decide +kernel
theorem dX11_chance_16 : decode cX11_chance 16 = .ok (.ifCond .ne 5, 3) := by decide +kernel
theorem dX11_chance_19 : decode cX11_chance 19 = .ok (.iconst (-1), 1) := by decide +kernel
theorem dX11_chance_20 : decode cX11_chance 20 = .ok (.ireturn, 1) := by decide +kernel
theorem dX11_chance_21 : decode cX11_chance 21 = .ok (.aload_n 0, 1) := by decide +kernel
theorem dX11_chance_22 : decode cX11_chance 22 = .ok (.getfield 7, 3) := by decide +kernel
theorem dX11_chance_25 : decode cX11_chance 25 = .ok (.iconst 0, 1) := by decide +kernel
theorem dX11_chance_26 : decode cX11_chance 26 = .ok (.iaload, 1) := by decide +kernel
theorem dX11_chance_27 : decode cX11_chance 27 = .ok (.ifCond .ne 6, 3) := by decide +kernel
theorem dX11_chance_30 : decode cX11_chance 30 = .ok (.bipush (-4), 2) := by decide +kernel
theorem dX11_chance_32 : decode cX11_chance 32 = .ok (.ireturn, 1) := by decide +kernel
theorem dX11_chance_33 : decode cX11_chance 33 = .ok (.lconst 0, 1) := by decide +kernel
theorem dX11_chance_34 : decode cX11_chance 34 = .ok (.lstore 4, 2) := by decide +kernel
theorem dX11_chance_36 : decode cX11_chance 36 = .ok (.lconst 1, 1) := by decide +kernel
theorem dX11_chance_37 : decode cX11_chance 37 = .ok (.lstore 6, 2) := by decide +kernel
theorem dX11_chance_39 : decode cX11_chance 39 = .ok (.iconst 0, 1) := by decide +kernel
theorem dX11_chance_40 : decode cX11_chance 40 = .ok (.istore 8, 2) := by decide +kernel
theorem dX11_chance_42 : decode cX11_chance 42 = .ok (.iload 8, 2) := by decide +kernel
theorem dX11_chance_44 : decode cX11_chance 44 = .ok (.aload_n 0, 1) := by decide +kernel
theorem dX11_chance_45 : decode cX11_chance 45 = .ok (.getfield 7, 3) := by decide +kernel
theorem dX11_chance_48 : decode cX11_chance 48 = .ok (.iconst 1, 1) := by decide +kernel
theorem dX11_chance_49 : decode cX11_chance 49 = .ok (.iaload, 1) := by decide +kernel
theorem dX11_chance_50 : decode cX11_chance 50 = .ok (.if_icmp .ge 17, 3) := by decide +kernel
theorem dX11_chance_53 : decode cX11_chance 53 = .ok (.lload 6, 2) := by decide +kernel
theorem dX11_chance_55 : decode cX11_chance 55 = .ok (.ldc2_w 212, 3) := by decide +kernel
theorem dX11_chance_58 : decode cX11_chance 58 = .ok (.lmul, 1) := by decide +kernel
theorem dX11_chance_59 : decode cX11_chance 59 = .ok (.lstore 6, 2) := by decide +kernel
theorem dX11_chance_61 : decode cX11_chance 61 = .ok (.iinc 8 1, 3) := by decide +kernel
theorem dX11_chance_64 : decode cX11_chance 64 = .ok (.goto (-22), 3) := by decide +kernel
theorem dX11_chance_67 : decode cX11_chance 67 = .ok (.iconst 0, 1) := by decide +kernel
theorem dX11_chance_68 : decode cX11_chance 68 = .ok (.istore 8, 2) := by decide +kernel
theorem dX11_chance_70 : decode cX11_chance 70 = .ok (.iload 8, 2) := by decide +kernel
theorem dX11_chance_72 : decode cX11_chance 72 = .ok (.iconst 1, 1) := by decide +kernel
theorem dX11_chance_73 : decode cX11_chance 73 = .ok (.aload_n 0, 1) := by decide +kernel
theorem dX11_chance_74 : decode cX11_chance 74 = .ok (.getfield 7, 3) := by decide +kernel
theorem dX11_chance_77 : decode cX11_chance 77 = .ok (.iconst 1, 1) := by decide +kernel
theorem dX11_chance_78 : decode cX11_chance 78 = .ok (.iaload, 1) := by decide +kernel
theorem dX11_chance_79 : decode cX11_chance 79 = .ok (.ishl, 1) := by decide +kernel
theorem dX11_chance_80 : decode cX11_chance 80 = .ok (.if_icmp .ge 106, 3) := by decide +kernel
theorem dX11_chance_83 : decode cX11_chance 83 = .ok (.lconst 1, 1) := by decide +kernel
theorem dX11_chance_84 : decode cX11_chance 84 = .ok (.lstore 9, 2) := by decide +kernel
theorem dX11_chance_86 : decode cX11_chance 86 = .ok (.iconst 0, 1) := by decide +kernel
theorem dX11_chance_87 : decode cX11_chance 87 = .ok (.istore 11, 2) := by decide +kernel
theorem dX11_chance_89 : decode cX11_chance 89 = .ok (.iload 11, 2) := by decide +kernel
theorem dX11_chance_91 : decode cX11_chance 91 = .ok (.aload_n 0, 1) := by decide +kernel
theorem dX11_chance_92 : decode cX11_chance 92 = .ok (.getfield 7, 3) := by decide +kernel
theorem dX11_chance_95 : decode cX11_chance 95 = .ok (.iconst 1, 1) := by decide +kernel
theorem dX11_chance_96 : decode cX11_chance 96 = .ok (.iaload, 1) := by decide +kernel
theorem dX11_chance_97 : decode cX11_chance 97 = .ok (.if_icmp .ge 34, 3) := by decide +kernel
theorem dX11_chance_100 : decode cX11_chance 100 = .ok (.lload 9, 2) := by decide +kernel
theorem dX11_chance_102 : decode cX11_chance 102 = .ok (.iload 8, 2) := by decide +kernel
theorem dX11_chance_104 : decode cX11_chance 104 = .ok (.iload 11, 2) := by decide +kernel
theorem dX11_chance_106 : decode cX11_chance 106 = .ok (.invokestatic 119, 3) := by decide +kernel
theorem dX11_chance_109 : decode cX11_chance 109 = .ok (.ifCond .eq 8, 3) := by decide +kernel
theorem dX11_chance_112 : decode cX11_chance 112 = .ok (.iload_n 2, 1) := by decide +kernel
theorem dX11_chance_113 : decode cX11_chance 113 = .ok (.i2l, 1) := by decide +kernel
theorem dX11_chance_114 : decode cX11_chance 114 = .ok (.goto 8, 3) := by decide +kernel
theorem dX11_chance_117 : decode cX11_chance 117 = .ok (.bipush 12, 2) := by decide +kernel
theorem dX11_chance_119 : decode cX11_chance 119 = .ok (.iload_n 2, 1) := by decide +kernel
theorem dX11_chance_120 : decode cX11_chance 120 = .ok (.isub, 1) := by decide +kernel
theorem dX11_chance_121 : decode cX11_chance 121 = .ok (.i2l, 1) := by decide +kernel
theorem dX11_chance_122 : decode cX11_chance 122 = .ok (.lmul, 1) := by decide +kernel
theorem dX11_chance_123 : decode cX11_chance 123 = .ok (.lstore 9, 2) := by decide +kernel
theorem dX11_chance_125 : decode cX11_chance 125 = .ok (.iinc 11 1, 3) := by decide +kernel
theorem dX11_chance_128 : decode cX11_chance 128 = .ok (.goto (-39), 3) := by decide +kernel
theorem dX11_chance_131 : decode cX11_chance 131 = .ok (.aload_n 0, 1) := by decide +kernel
theorem dX11_chance_132 : decode cX11_chance 132 = .ok (.iload_n 1, 1) := by decide +kernel
theorem dX11_chance_133 : decode cX11_chance 133 = .ok (.iload 8, 2) := by decide +kernel
theorem dX11_chance_135 : decode cX11_chance 135 = .ok (.invokevirtual 214, 3) := by decide +kernel
theorem dX11_chance_138 : decode cX11_chance 138 = .ok (.i2l, 1) := by decide +kernel
theorem dX11_chance_139 : decode cX11_chance 139 = .ok (.lstore 11, 2) := by decide +kernel
theorem dX11_chance_141 : decode cX11_chance 141 = .ok (.lload 4, 2) := by decide +kernel
theorem dX11_chance_143 : decode cX11_chance 143 = .ok (.iload_n 3, 1) := by decide +kernel
theorem dX11_chance_144 : decode cX11_chance 144 = .ok (.ifCond .eq 28, 3) := by decide +kernel
theorem dX11_chance_147 : decode cX11_chance 147 = .ok (.ldc2_w 164, 3) := by decide +kernel
theorem dX11_chance_150 : decode cX11_chance 150 = .ok (.lload 11, 2) := by decide +kernel
theorem dX11_chance_152 : decode cX11_chance 152 = .ok (.lmul, 1) := by decide +kernel
theorem dX11_chance_153 : decode cX11_chance 153 = .ok (.aload_n 0, 1) := by decide +kernel
theorem dX11_chance_154 : decode cX11_chance 154 = .ok (.iload_n 1, 1) := by decide +kernel
theorem dX11_chance_155 : decode cX11_chance 155 = .ok (.invokevirtual 170, 3) := by decide +kernel
theorem dX11_chance_158 : decode cX11_chance 158 = .ok (.i2l, 1) := by decide +kernel
theorem dX11_chance_159 : decode cX11_chance 159 = .ok (.lcmp, 1) := by decide +kernel
theorem dX11_chance_160 : decode cX11_chance 160 = .ok (.ifCond .lt 8, 3) := by decide +kernel
theorem dX11_chance_163 : decode cX11_chance 163 = .ok (.lload 9, 2) := by decide +kernel
theorem dX11_chance_165 : decode cX11_chance 165 = .ok (.goto 12, 3) := by decide +kernel
theorem dX11_chance_168 : decode cX11_chance 168 = .ok (.lconst 0, 1) := by decide +kernel
theorem dX11_chance_169 : decode cX11_chance 169 = .ok (.goto 8, 3) := by decide +kernel
theorem dX11_chance_172 : decode cX11_chance 172 = .ok (.lload 9, 2) := by decide +kernel
theorem dX11_chance_174 : decode cX11_chance 174 = .ok (.lload 11, 2) := by decide +kernel
theorem dX11_chance_176 : decode cX11_chance 176 = .ok (.lmul, 1) := by decide +kernel
theorem dX11_chance_177 : decode cX11_chance 177 = .ok (.ladd, 1) := by decide +kernel
theorem dX11_chance_178 : decode cX11_chance 178 = .ok (.lstore 4, 2) := by decide +kernel
theorem dX11_chance_180 : decode cX11_chance 180 = .ok (.iinc 8 1, 3) := by decide +kernel
theorem dX11_chance_183 : decode cX11_chance 183 = .ok (.goto (-113), 3) := by decide +kernel
theorem dX11_chance_186 : decode cX11_chance 186 = .ok (.aload_n 0, 1) := by decide +kernel
theorem dX11_chance_187 : decode cX11_chance 187 = .ok (.lload 4, 2) := by decide +kernel
theorem dX11_chance_189 : decode cX11_chance 189 = .ok (.lload 6, 2) := by decide +kernel
theorem dX11_chance_191 : decode cX11_chance 191 = .ok (.invokevirtual 217, 3) := by decide +kernel
theorem dX11_chance_194 : decode cX11_chance 194 = .ok (.ireturn, 1) := by decide +kernel
theorem dX11_odds_0 : decode cX11_odds 0 = .ok (.aload_n 0, 1) := by decide +kernel
theorem dX11_odds_1 : decode cX11_odds 1 = .ok (.iload_n 1, 1) := by decide +kernel
theorem dX11_odds_2 : decode cX11_odds 2 = .ok (.iload_n 2, 1) := by decide +kernel
theorem dX11_odds_3 : decode cX11_odds 3 = .ok (.iconst 1, 1) := by decide +kernel
theorem dX11_odds_4 : decode cX11_odds 4 = .ok (.invokevirtual 221, 3) := by decide +kernel
theorem dX11_odds_7 : decode cX11_odds 7 = .ok (.ireturn, 1) := by decide +kernel
theorem dX11_mid_0 : decode cX11_mid 0 = .ok (.aload_n 0, 1) := by decide +kernel
theorem dX11_mid_1 : decode cX11_mid 1 = .ok (.iload_n 1, 1) := by decide +kernel
theorem dX11_mid_2 : decode cX11_mid 2 = .ok (.iload_n 2, 1) := by decide +kernel
theorem dX11_mid_3 : decode cX11_mid 3 = .ok (.iconst 0, 1) := by decide +kernel
theorem dX11_mid_4 : decode cX11_mid 4 = .ok (.invokevirtual 221, 3) := by decide +kernel
theorem dX11_mid_7 : decode cX11_mid 7 = .ok (.ireturn, 1) := by decide +kernel
theorem dX11_lots_0 : decode cX11_lots 0 = .ok (.iload_n 1, 1) := by decide +kernel
theorem dX11_lots_1 : decode cX11_lots 1 = .ok (.i2l, 1) := by decide +kernel
theorem dX11_lots_2 : decode cX11_lots 2 = .ok (.lconst 1, 1) := by decide +kernel
theorem dX11_lots_3 : decode cX11_lots 3 = .ok (.ldc2_w 225, 3) := by decide +kernel
theorem dX11_lots_6 : decode cX11_lots 6 = .ok (.invokestatic 68, 3) := by decide +kernel
theorem dX11_lots_9 : decode cX11_lots 9 = .ok (.ifCond .eq 15, 3) := by decide +kernel
theorem dX11_lots_12 : decode cX11_lots 12 = .ok (.iload_n 2, 1) := by decide +kernel
theorem dX11_lots_13 : decode cX11_lots 13 = .ok (.i2l, 1) := by decide +kernel
theorem dX11_lots_14 : decode cX11_lots 14 = .ok (.lconst 1, 1) := by decide +kernel
theorem dX11_lots_15 : decode cX11_lots 15 = .ok (.ldc2_w 227, 3) := by decide +kernel
theorem dX11_lots_18 : decode cX11_lots 18 = .ok (.invokestatic 68, 3) := by decide +kernel
theorem dX11_lots_21 : decode cX11_lots 21 = .ok (.ifCond .ne 5, 3) := by decide +kernel
theorem dX11_lots_24 : decode cX11_lots 24 = .ok (.iconst (-1), 1) := by decide +kernel
theorem dX11_lots_25 : decode cX11_lots 25 = .ok (.ireturn, 1) := by decide +kernel
theorem dX11_lots_26 : decode cX11_lots 26 = .ok (.aload_n 0, 1) := by decide +kernel
theorem dX11_lots_27 : decode cX11_lots 27 = .ok (.getfield 7, 3) := by decide +kernel
theorem dX11_lots_30 : decode cX11_lots 30 = .ok (.iconst 0, 1) := by decide +kernel
theorem dX11_lots_31 : decode cX11_lots 31 = .ok (.iaload, 1) := by decide +kernel
theorem dX11_lots_32 : decode cX11_lots 32 = .ok (.ifCond .ne 6, 3) := by decide +kernel
theorem dX11_lots_35 : decode cX11_lots 35 = .ok (.bipush (-4), 2) := by decide +kernel
theorem dX11_lots_37 : decode cX11_lots 37 = .ok (.ireturn, 1) := by decide +kernel
theorem dX11_lots_38 : decode cX11_lots 38 = .ok (.aload_n 0, 1) := by decide +kernel
theorem dX11_lots_39 : decode cX11_lots 39 = .ok (.getfield 7, 3) := by decide +kernel
theorem dX11_lots_42 : decode cX11_lots 42 = .ok (.bipush 31, 2) := by decide +kernel
theorem dX11_lots_44 : decode cX11_lots 44 = .ok (.iaload, 1) := by decide +kernel
theorem dX11_lots_45 : decode cX11_lots 45 = .ok (.iload_n 1, 1) := by decide +kernel
theorem dX11_lots_46 : decode cX11_lots 46 = .ok (.iadd, 1) := by decide +kernel
theorem dX11_lots_47 : decode cX11_lots 47 = .ok (.bipush 40, 2) := by decide +kernel
theorem dX11_lots_49 : decode cX11_lots 49 = .ok (.if_icmp .le 6, 3) := by decide +kernel
theorem dX11_lots_52 : decode cX11_lots 52 = .ok (.bipush (-2), 2) := by decide +kernel
theorem dX11_lots_54 : decode cX11_lots 54 = .ok (.ireturn, 1) := by decide +kernel
theorem dX11_lots_55 : decode cX11_lots 55 = .ok (.iload_n 2, 1) := by decide +kernel
theorem dX11_lots_56 : decode cX11_lots 56 = .ok (.i2l, 1) := by decide +kernel
theorem dX11_lots_57 : decode cX11_lots 57 = .ok (.lstore_n 3, 1) := by decide +kernel
theorem dX11_lots_58 : decode cX11_lots 58 = .ok (.iconst 0, 1) := by decide +kernel
theorem dX11_lots_59 : decode cX11_lots 59 = .ok (.istore 5, 2) := by decide +kernel
theorem dX11_lots_61 : decode cX11_lots 61 = .ok (.iload 5, 2) := by decide +kernel
theorem dX11_lots_63 : decode cX11_lots 63 = .ok (.iload_n 1, 1) := by decide +kernel
theorem dX11_lots_64 : decode cX11_lots 64 = .ok (.if_icmp .ge 107, 3) := by decide +kernel
theorem dX11_lots_67 : decode cX11_lots 67 = .ok (.lload_n 3, 1) := by decide +kernel
theorem dX11_lots_68 : decode cX11_lots 68 = .ok (.ldc2_w 229, 3) := by decide +kernel
theorem dX11_lots_71 : decode cX11_lots 71 = .ok (.lmul, 1) := by decide +kernel
theorem dX11_lots_72 : decode cX11_lots 72 = .ok (.ldc2_w 231, 3) := by decide +kernel
theorem dX11_lots_75 : decode cX11_lots 75 = .ok (.lrem, 1) := by decide +kernel
theorem dX11_lots_76 : decode cX11_lots 76 = .ok (.lstore_n 3, 1) := by decide +kernel
theorem dX11_lots_77 : decode cX11_lots 77 = .ok (.lload_n 3, 1) := by decide +kernel
theorem dX11_lots_78 : decode cX11_lots 78 = .ok (.ldc2_w 233, 3) := by decide +kernel
theorem dX11_lots_81 : decode cX11_lots 81 = .ok (.ldiv, 1) := by decide +kernel
theorem dX11_lots_82 : decode cX11_lots 82 = .ok (.aload_n 0, 1) := by decide +kernel
theorem dX11_lots_83 : decode cX11_lots 83 = .ok (.getfield 7, 3) := by decide +kernel
theorem dX11_lots_86 : decode cX11_lots 86 = .ok (.iconst 0, 1) := by decide +kernel
theorem dX11_lots_87 : decode cX11_lots 87 = .ok (.iaload, 1) := by decide +kernel
theorem dX11_lots_88 : decode cX11_lots 88 = .ok (.i2l, 1) := by decide +kernel
theorem dX11_lots_89 : decode cX11_lots 89 = .ok (.lrem, 1) := by decide +kernel
theorem dX11_lots_90 : decode cX11_lots 90 = .ok (.l2i, 1) := by decide +kernel
theorem dX11_lots_91 : decode cX11_lots 91 = .ok (.istore 6, 2) := by decide +kernel
theorem dX11_lots_93 : decode cX11_lots 93 = .ok (.lload_n 3, 1) := by decide +kernel
theorem dX11_lots_94 : decode cX11_lots 94 = .ok (.ldc2_w 136, 3) := by decide +kernel
theorem dX11_lots_97 : decode cX11_lots 97 = .ok (.lrem, 1) := by decide +kernel
theorem dX11_lots_98 : decode cX11_lots 98 = .ok (.l2i, 1) := by decide +kernel
theorem dX11_lots_99 : decode cX11_lots 99 = .ok (.istore 7, 2) := by decide +kernel
theorem dX11_lots_101 : decode cX11_lots 101 = .ok (.aload_n 0, 1) := by decide +kernel
theorem dX11_lots_102 : decode cX11_lots 102 = .ok (.invokevirtual 154, 3) := by decide +kernel
theorem dX11_lots_105 : decode cX11_lots 105 = .ok (.iload 7, 2) := by decide +kernel
theorem dX11_lots_107 : decode cX11_lots 107 = .ok (.iconst 2, 1) := by decide +kernel
theorem dX11_lots_108 : decode cX11_lots 108 = .ok (.if_icmp .ge 21, 3) := by decide +kernel
theorem dX11_lots_111 : decode cX11_lots 111 = .ok (.aload_n 0, 1) := by decide +kernel
theorem dX11_lots_112 : decode cX11_lots 112 = .ok (.iload 6, 2) := by decide +kernel
theorem dX11_lots_114 : decode cX11_lots 114 = .ok (.invokevirtual 130, 3) := by decide +kernel
theorem dX11_lots_117 : decode cX11_lots 117 = .ok (.ifCond .ge 48, 3) := by decide +kernel
theorem dX11_lots_120 : decode cX11_lots 120 = .ok (.aload_n 0, 1) := by decide +kernel
theorem dX11_lots_121 : decode cX11_lots 121 = .ok (.iload 6, 2) := by decide +kernel
theorem dX11_lots_123 : decode cX11_lots 123 = .ok (.invokevirtual 157, 3) := by decide +kernel
theorem dX11_lots_126 : decode cX11_lots 126 = .ok (.goto 39, 3) := by decide +kernel
theorem dX11_lots_129 : decode cX11_lots 129 = .ok (.iload 7, 2) := by decide +kernel
theorem dX11_lots_131 : decode cX11_lots 131 = .ok (.iconst 3, 1) := by decide +kernel
theorem dX11_lots_132 : decode cX11_lots 132 = .ok (.if_icmp .ne 19, 3) := by decide +kernel
theorem dX11_lots_135 : decode cX11_lots 135 = .ok (.aload_n 0, 1) := by decide +kernel
theorem dX11_lots_136 : decode cX11_lots 136 = .ok (.getfield 7, 3) := by decide +kernel
theorem dX11_lots_139 : decode cX11_lots 139 = .ok (.iconst 2, 1) := by decide +kernel
theorem dX11_lots_140 : decode cX11_lots 140 = .ok (.dup2, 1) := by decide +kernel
theorem dX11_lots_141 : decode cX11_lots 141 = .ok (.iaload, 1) := by decide +kernel
theorem dX11_lots_142 : decode cX11_lots 142 = .ok (.iconst 1, 1) := by decide +kernel
theorem dX11_lots_143 : decode cX11_lots 143 = .ok (.iload 6, 2) := by decide +kernel
theorem dX11_lots_145 : decode cX11_lots 145 = .ok (.ishl, 1) := by decide +kernel
theorem dX11_lots_146 : decode cX11_lots 146 = .ok (.ixor, 1) := by decide +kernel
theorem dX11_lots_147 : decode cX11_lots 147 = .ok (.iastore, 1) := by decide +kernel
theorem dX11_lots_148 : decode cX11_lots 148 = .ok (.goto 17, 3) := by decide +kernel
theorem dX11_lots_151 : decode cX11_lots 151 = .ok (.aload_n 0, 1) := by decide +kernel
theorem dX11_lots_152 : decode cX11_lots 152 = .ok (.getfield 7, 3) := by decide +kernel
theorem dX11_lots_155 : decode cX11_lots 155 = .ok (.iconst 1, 1) := by decide +kernel
theorem dX11_lots_156 : decode cX11_lots 156 = .ok (.iaload, 1) := by decide +kernel
theorem dX11_lots_157 : decode cX11_lots 157 = .ok (.ifCond .le 8, 3) := by decide +kernel
theorem dX11_lots_160 : decode cX11_lots 160 = .ok (.aload_n 0, 1) := by decide +kernel
theorem dX11_lots_161 : decode cX11_lots 161 = .ok (.invokevirtual 161, 3) := by decide +kernel
theorem dX11_lots_164 : decode cX11_lots 164 = .ok (.pop, 1) := by decide +kernel
theorem dX11_lots_165 : decode cX11_lots 165 = .ok (.iinc 5 1, 3) := by decide +kernel
theorem dX11_lots_168 : decode cX11_lots 168 = .ok (.goto (-107), 3) := by decide +kernel
theorem dX11_lots_171 : decode cX11_lots 171 = .ok (.aload_n 0, 1) := by decide +kernel
theorem dX11_lots_172 : decode cX11_lots 172 = .ok (.iconst 1, 1) := by decide +kernel
theorem dX11_lots_173 : decode cX11_lots 173 = .ok (.invokevirtual 173, 3) := by decide +kernel
theorem dX11_lots_176 : decode cX11_lots 176 = .ok (.ireturn, 1) := by decide +kernel
theorem dX11_asked_0 : decode cX11_asked 0 = .ok (.aload_n 0, 1) := by decide +kernel
theorem dX11_asked_1 : decode cX11_asked 1 = .ok (.getfield 60, 3) := by decide +kernel
theorem dX11_asked_4 : decode cX11_asked 4 = .ok (.ireturn, 1) := by decide +kernel
theorem dX11_upper_0 : decode cX11_upper 0 = .ok (.aload_n 0, 1) := by decide +kernel
theorem dX11_upper_1 : decode cX11_upper 1 = .ok (.getfield 63, 3) := by decide +kernel
theorem dX11_upper_4 : decode cX11_upper 4 = .ok (.lreturn, 1) := by decide +kernel
theorem dX11_lower_0 : decode cX11_lower 0 = .ok (.aload_n 0, 1) := by decide +kernel
theorem dX11_lower_1 : decode cX11_lower 1 = .ok (.getfield 28, 3) := by decide +kernel
theorem dX11_lower_4 : decode cX11_lower 4 = .ok (.lreturn, 1) := by decide +kernel
theorem dX11_rowsThere_0 : decode cX11_rowsThere 0 = .ok (.iconst 0, 1) := by decide +kernel
theorem dX11_rowsThere_1 : decode cX11_rowsThere 1 = .ok (.istore_n 1, 1) := by decide +kernel
theorem dX11_rowsThere_2 : decode cX11_rowsThere 2 = .ok (.iconst 0, 1) := by decide +kernel
theorem dX11_rowsThere_3 : decode cX11_rowsThere 3 = .ok (.istore_n 2, 1) := by decide +kernel
theorem dX11_rowsThere_4 : decode cX11_rowsThere 4 = .ok (.iload_n 2, 1) := by decide +kernel
theorem dX11_rowsThere_5 : decode cX11_rowsThere 5 = .ok (.bipush 6, 2) := by decide +kernel
theorem dX11_rowsThere_7 : decode cX11_rowsThere 7 = .ok (.if_icmp .ge 26, 3) := by decide +kernel
theorem dX11_rowsThere_10 : decode cX11_rowsThere 10 = .ok (.iload_n 1, 1) := by decide +kernel
theorem dX11_rowsThere_11 : decode cX11_rowsThere 11 = .ok (.aload_n 0, 1) := by decide +kernel
theorem dX11_rowsThere_12 : decode cX11_rowsThere 12 = .ok (.getfield 13, 3) := by decide +kernel
theorem dX11_rowsThere_15 : decode cX11_rowsThere 15 = .ok (.iload_n 2, 1) := by decide +kernel
theorem dX11_rowsThere_16 : decode cX11_rowsThere 16 = .ok (.iaload, 1) := by decide +kernel
theorem dX11_rowsThere_17 : decode cX11_rowsThere 17 = .ok (.ifCond .ge 7, 3) := by decide +kernel
theorem dX11_rowsThere_20 : decode cX11_rowsThere 20 = .ok (.iconst 0, 1) := by decide +kernel
theorem dX11_rowsThere_21 : decode cX11_rowsThere 21 = .ok (.goto 4, 3) := by decide +kernel
theorem dX11_rowsThere_24 : decode cX11_rowsThere 24 = .ok (.iconst 1, 1) := by decide +kernel
theorem dX11_rowsThere_25 : decode cX11_rowsThere 25 = .ok (.iadd, 1) := by decide +kernel
theorem dX11_rowsThere_26 : decode cX11_rowsThere 26 = .ok (.istore_n 1, 1) := by decide +kernel
theorem dX11_rowsThere_27 : decode cX11_rowsThere 27 = .ok (.iinc 2 1, 3) := by decide +kernel
theorem dX11_rowsThere_30 : decode cX11_rowsThere 30 = .ok (.goto (-26), 3) := by decide +kernel
theorem dX11_rowsThere_33 : decode cX11_rowsThere 33 = .ok (.iload_n 1, 1) := by decide +kernel
theorem dX11_rowsThere_34 : decode cX11_rowsThere 34 = .ok (.ireturn, 1) := by decide +kernel
theorem dX11_textsThere_0 : decode cX11_textsThere 0 = .ok (.iconst 0, 1) := by decide +kernel
theorem dX11_textsThere_1 : decode cX11_textsThere 1 = .ok (.istore_n 1, 1) := by decide +kernel
theorem dX11_textsThere_2 : decode cX11_textsThere 2 = .ok (.iconst 0, 1) := by decide +kernel
theorem dX11_textsThere_3 : decode cX11_textsThere 3 = .ok (.istore_n 2, 1) := by decide +kernel
theorem dX11_textsThere_4 : decode cX11_textsThere 4 = .ok (.iload_n 2, 1) := by decide +kernel
theorem dX11_textsThere_5 : decode cX11_textsThere 5 = .ok (.iconst 4, 1) := by decide +kernel
theorem dX11_textsThere_6 : decode cX11_textsThere 6 = .ok (.if_icmp .ge 26, 3) := by decide +kernel
theorem dX11_textsThere_9 : decode cX11_textsThere 9 = .ok (.iload_n 1, 1) := by decide +kernel
theorem dX11_textsThere_10 : decode cX11_textsThere 10 = .ok (.aload_n 0, 1) := by decide +kernel
theorem dX11_textsThere_11 : decode cX11_textsThere 11 = .ok (.getfield 19, 3) := by decide +kernel
theorem dX11_textsThere_14 : decode cX11_textsThere 14 = .ok (.iload_n 2, 1) := by decide +kernel
theorem dX11_textsThere_15 : decode cX11_textsThere 15 = .ok (.iaload, 1) := by decide +kernel
theorem dX11_textsThere_16 : decode cX11_textsThere 16 = .ok (.ifCond .ge 7, 3) := by decide +kernel
theorem dX11_textsThere_19 : decode cX11_textsThere 19 = .ok (.iconst 0, 1) := by decide +kernel
theorem dX11_textsThere_20 : decode cX11_textsThere 20 = .ok (.goto 4, 3) := by decide +kernel
theorem dX11_textsThere_23 : decode cX11_textsThere 23 = .ok (.iconst 1, 1) := by decide +kernel
theorem dX11_textsThere_24 : decode cX11_textsThere 24 = .ok (.iadd, 1) := by decide +kernel
theorem dX11_textsThere_25 : decode cX11_textsThere 25 = .ok (.istore_n 1, 1) := by decide +kernel
theorem dX11_textsThere_26 : decode cX11_textsThere 26 = .ok (.iinc 2 1, 3) := by decide +kernel
theorem dX11_textsThere_29 : decode cX11_textsThere 29 = .ok (.goto (-25), 3) := by decide +kernel
theorem dX11_textsThere_32 : decode cX11_textsThere 32 = .ok (.iload_n 1, 1) := by decide +kernel
theorem dX11_textsThere_33 : decode cX11_textsThere 33 = .ok (.ireturn, 1) := by decide +kernel
theorem dX11_boxesKept_0 : decode cX11_boxesKept 0 = .ok (.iconst 0, 1) := by decide +kernel
theorem dX11_boxesKept_1 : decode cX11_boxesKept 1 = .ok (.istore_n 1, 1) := by decide +kernel
theorem dX11_boxesKept_2 : decode cX11_boxesKept 2 = .ok (.iconst 0, 1) := by decide +kernel
theorem dX11_boxesKept_3 : decode cX11_boxesKept 3 = .ok (.istore_n 2, 1) := by decide +kernel
theorem dX11_boxesKept_4 : decode cX11_boxesKept 4 = .ok (.iload_n 2, 1) := by decide +kernel
theorem dX11_boxesKept_5 : decode cX11_boxesKept 5 = .ok (.iconst 3, 1) := by decide +kernel
theorem dX11_boxesKept_6 : decode cX11_boxesKept 6 = .ok (.if_icmp .ge 36, 3) := by decide +kernel
theorem dX11_boxesKept_9 : decode cX11_boxesKept 9 = .ok (.iload_n 1, 1) := by decide +kernel
theorem dX11_boxesKept_10 : decode cX11_boxesKept 10 = .ok (.aload_n 0, 1) := by decide +kernel
theorem dX11_boxesKept_11 : decode cX11_boxesKept 11 = .ok (.getfield 7, 3) := by decide +kernel
theorem dX11_boxesKept_14 : decode cX11_boxesKept 14 = .ok (.sipush 392, 3) := by decide +kernel
theorem dX11_boxesKept_17 : decode cX11_boxesKept 17 = .ok (.sipush 392, 3) := by decide +kernel
theorem dX11_boxesKept_20 : decode cX11_boxesKept 20 = .ok (.iload_n 2, 1) := by decide +kernel
theorem dX11_boxesKept_21 : decode cX11_boxesKept 21 = .ok (.imul, 1) := by decide +kernel
theorem dX11_boxesKept_22 : decode cX11_boxesKept 22 = .ok (.iadd, 1) := by decide +kernel
theorem dX11_boxesKept_23 : decode cX11_boxesKept 23 = .ok (.iconst 0, 1) := by decide +kernel
theorem dX11_boxesKept_24 : decode cX11_boxesKept 24 = .ok (.iadd, 1) := by decide +kernel
theorem dX11_boxesKept_25 : decode cX11_boxesKept 25 = .ok (.iaload, 1) := by decide +kernel
theorem dX11_boxesKept_26 : decode cX11_boxesKept 26 = .ok (.ifCond .ne 7, 3) := by decide +kernel
theorem dX11_boxesKept_29 : decode cX11_boxesKept 29 = .ok (.iconst 0, 1) := by decide +kernel
theorem dX11_boxesKept_30 : decode cX11_boxesKept 30 = .ok (.goto 4, 3) := by decide +kernel
theorem dX11_boxesKept_33 : decode cX11_boxesKept 33 = .ok (.iconst 1, 1) := by decide +kernel
theorem dX11_boxesKept_34 : decode cX11_boxesKept 34 = .ok (.iadd, 1) := by decide +kernel
theorem dX11_boxesKept_35 : decode cX11_boxesKept 35 = .ok (.istore_n 1, 1) := by decide +kernel
theorem dX11_boxesKept_36 : decode cX11_boxesKept 36 = .ok (.iinc 2 1, 3) := by decide +kernel
theorem dX11_boxesKept_39 : decode cX11_boxesKept 39 = .ok (.goto (-35), 3) := by decide +kernel
theorem dX11_boxesKept_42 : decode cX11_boxesKept 42 = .ok (.iload_n 1, 1) := by decide +kernel
theorem dX11_boxesKept_43 : decode cX11_boxesKept 43 = .ok (.ireturn, 1) := by decide +kernel
theorem dX11_framed_0 : decode cX11_framed 0 = .ok (.iconst 0, 1) := by decide +kernel
theorem dX11_framed_1 : decode cX11_framed 1 = .ok (.istore_n 1, 1) := by decide +kernel
theorem dX11_framed_2 : decode cX11_framed 2 = .ok (.iconst 0, 1) := by decide +kernel
theorem dX11_framed_3 : decode cX11_framed 3 = .ok (.istore_n 2, 1) := by decide +kernel
theorem dX11_framed_4 : decode cX11_framed 4 = .ok (.iload_n 2, 1) := by decide +kernel
theorem dX11_framed_5 : decode cX11_framed 5 = .ok (.aload_n 0, 1) := by decide +kernel
theorem dX11_framed_6 : decode cX11_framed 6 = .ok (.getfield 7, 3) := by decide +kernel
theorem dX11_framed_9 : decode cX11_framed 9 = .ok (.iconst 1, 1) := by decide +kernel
theorem dX11_framed_10 : decode cX11_framed 10 = .ok (.iaload, 1) := by decide +kernel
theorem dX11_framed_11 : decode cX11_framed 11 = .ok (.if_icmp .ge 22, 3) := by decide +kernel
theorem dX11_framed_14 : decode cX11_framed 14 = .ok (.iload_n 1, 1) := by decide +kernel
theorem dX11_framed_15 : decode cX11_framed 15 = .ok (.iconst 1, 1) := by decide +kernel
theorem dX11_framed_16 : decode cX11_framed 16 = .ok (.aload_n 0, 1) := by decide +kernel
theorem dX11_framed_17 : decode cX11_framed 17 = .ok (.getfield 7, 3) := by decide +kernel
theorem dX11_framed_20 : decode cX11_framed 20 = .ok (.iconst 3, 1) := by decide +kernel
theorem dX11_framed_21 : decode cX11_framed 21 = .ok (.iload_n 2, 1) := by decide +kernel
theorem dX11_framed_22 : decode cX11_framed 22 = .ok (.iadd, 1) := by decide +kernel
theorem dX11_framed_23 : decode cX11_framed 23 = .ok (.iaload, 1) := by decide +kernel
theorem dX11_framed_24 : decode cX11_framed 24 = .ok (.ishl, 1) := by decide +kernel
theorem dX11_framed_25 : decode cX11_framed 25 = .ok (.ior, 1) := by decide +kernel
theorem dX11_framed_26 : decode cX11_framed 26 = .ok (.istore_n 1, 1) := by decide +kernel
theorem dX11_framed_27 : decode cX11_framed 27 = .ok (.iinc 2 1, 3) := by decide +kernel
theorem dX11_framed_30 : decode cX11_framed 30 = .ok (.goto (-26), 3) := by decide +kernel
theorem dX11_framed_33 : decode cX11_framed 33 = .ok (.iload_n 1, 1) := by decide +kernel
theorem dX11_framed_34 : decode cX11_framed 34 = .ok (.ireturn, 1) := by decide +kernel
theorem dX11_manyOf_0 : decode cX11_manyOf 0 = .ok (.iconst 0, 1) := by decide +kernel
theorem dX11_manyOf_1 : decode cX11_manyOf 1 = .ok (.istore_n 2, 1) := by decide +kernel
theorem dX11_manyOf_2 : decode cX11_manyOf 2 = .ok (.iconst 0, 1) := by decide +kernel
theorem dX11_manyOf_3 : decode cX11_manyOf 3 = .ok (.istore_n 3, 1) := by decide +kernel
theorem dX11_manyOf_4 : decode cX11_manyOf 4 = .ok (.iload_n 3, 1) := by decide +kernel
theorem dX11_manyOf_5 : decode cX11_manyOf 5 = .ok (.aload_n 0, 1) := by decide +kernel
theorem dX11_manyOf_6 : decode cX11_manyOf 6 = .ok (.getfield 7, 3) := by decide +kernel
theorem dX11_manyOf_9 : decode cX11_manyOf 9 = .ok (.iconst 0, 1) := by decide +kernel
theorem dX11_manyOf_10 : decode cX11_manyOf 10 = .ok (.iaload, 1) := by decide +kernel
theorem dX11_manyOf_11 : decode cX11_manyOf 11 = .ok (.if_icmp .ge 33, 3) := by decide +kernel
theorem dX11_manyOf_14 : decode cX11_manyOf 14 = .ok (.iload_n 2, 1) := by decide +kernel
theorem dX11_manyOf_15 : decode cX11_manyOf 15 = .ok (.aload_n 0, 1) := by decide +kernel
theorem dX11_manyOf_16 : decode cX11_manyOf 16 = .ok (.getfield 7, 3) := by decide +kernel
theorem dX11_manyOf_19 : decode cX11_manyOf 19 = .ok (.bipush 10, 2) := by decide +kernel
theorem dX11_manyOf_21 : decode cX11_manyOf 21 = .ok (.iload_n 3, 1) := by decide +kernel
theorem dX11_manyOf_22 : decode cX11_manyOf 22 = .ok (.iadd, 1) := by decide +kernel
theorem dX11_manyOf_23 : decode cX11_manyOf 23 = .ok (.iaload, 1) := by decide +kernel
theorem dX11_manyOf_24 : decode cX11_manyOf 24 = .ok (.iload_n 1, 1) := by decide +kernel
theorem dX11_manyOf_25 : decode cX11_manyOf 25 = .ok (.invokestatic 145, 3) := by decide +kernel
theorem dX11_manyOf_28 : decode cX11_manyOf 28 = .ok (.ifCond .eq 7, 3) := by decide +kernel
theorem dX11_manyOf_31 : decode cX11_manyOf 31 = .ok (.iconst 1, 1) := by decide +kernel
theorem dX11_manyOf_32 : decode cX11_manyOf 32 = .ok (.goto 4, 3) := by decide +kernel
theorem dX11_manyOf_35 : decode cX11_manyOf 35 = .ok (.iconst 0, 1) := by decide +kernel
theorem dX11_manyOf_36 : decode cX11_manyOf 36 = .ok (.iadd, 1) := by decide +kernel
theorem dX11_manyOf_37 : decode cX11_manyOf 37 = .ok (.istore_n 2, 1) := by decide +kernel
theorem dX11_manyOf_38 : decode cX11_manyOf 38 = .ok (.iinc 3 1, 3) := by decide +kernel
theorem dX11_manyOf_41 : decode cX11_manyOf 41 = .ok (.goto (-37), 3) := by decide +kernel
theorem dX11_manyOf_44 : decode cX11_manyOf 44 = .ok (.iload_n 2, 1) := by decide +kernel
theorem dX11_manyOf_45 : decode cX11_manyOf 45 = .ok (.ireturn, 1) := by decide +kernel
theorem dX11_count_0 : decode cX11_count 0 = .ok (.iload_n 1, 1) := by decide +kernel
theorem dX11_count_1 : decode cX11_count 1 = .ok (.tableswitch 126 0 10 #[59, 66, 73, 81, 87, 92, 99, 104, 109, 114, 120], 59) := by decide +kernel
theorem dX11_count_60 : decode cX11_count 60 = .ok (.aload_n 0, 1) := by decide +kernel
theorem dX11_count_61 : decode cX11_count 61 = .ok (.getfield 7, 3) := by decide +kernel
theorem dX11_count_64 : decode cX11_count 64 = .ok (.iconst 0, 1) := by decide +kernel
theorem dX11_count_65 : decode cX11_count 65 = .ok (.iaload, 1) := by decide +kernel
theorem dX11_count_66 : decode cX11_count 66 = .ok (.ireturn, 1) := by decide +kernel
theorem dX11_count_67 : decode cX11_count 67 = .ok (.aload_n 0, 1) := by decide +kernel
theorem dX11_count_68 : decode cX11_count 68 = .ok (.getfield 7, 3) := by decide +kernel
theorem dX11_count_71 : decode cX11_count 71 = .ok (.iconst 1, 1) := by decide +kernel
theorem dX11_count_72 : decode cX11_count 72 = .ok (.iaload, 1) := by decide +kernel
theorem dX11_count_73 : decode cX11_count 73 = .ok (.ireturn, 1) := by decide +kernel
theorem dX11_count_74 : decode cX11_count 74 = .ok (.aload_n 0, 1) := by decide +kernel
theorem dX11_count_75 : decode cX11_count 75 = .ok (.getfield 7, 3) := by decide +kernel
theorem dX11_count_78 : decode cX11_count 78 = .ok (.bipush 31, 2) := by decide +kernel
theorem dX11_count_80 : decode cX11_count 80 = .ok (.iaload, 1) := by decide +kernel
theorem dX11_count_81 : decode cX11_count 81 = .ok (.ireturn, 1) := by decide +kernel
theorem dX11_count_82 : decode cX11_count 82 = .ok (.aload_n 0, 1) := by decide +kernel
theorem dX11_count_83 : decode cX11_count 83 = .ok (.iconst 1, 1) := by decide +kernel
theorem dX11_count_84 : decode cX11_count 84 = .ok (.invokevirtual 173, 3) := by decide +kernel
theorem dX11_count_87 : decode cX11_count 87 = .ok (.ireturn, 1) := by decide +kernel
theorem dX11_count_88 : decode cX11_count 88 = .ok (.aload_n 0, 1) := by decide +kernel
theorem dX11_count_89 : decode cX11_count 89 = .ok (.invokevirtual 235, 3) := by decide +kernel
theorem dX11_count_92 : decode cX11_count 92 = .ok (.ireturn, 1) := by decide +kernel
theorem dX11_count_93 : decode cX11_count 93 = .ok (.aload_n 0, 1) := by decide +kernel
theorem dX11_count_94 : decode cX11_count 94 = .ok (.getfield 7, 3) := by decide +kernel
theorem dX11_count_97 : decode cX11_count 97 = .ok (.iconst 2, 1) := by decide +kernel
theorem dX11_count_98 : decode cX11_count 98 = .ok (.iaload, 1) := by decide +kernel
theorem dX11_count_99 : decode cX11_count 99 = .ok (.ireturn, 1) := by decide +kernel
theorem dX11_count_100 : decode cX11_count 100 = .ok (.aload_n 0, 1) := by decide +kernel
theorem dX11_count_101 : decode cX11_count 101 = .ok (.invokevirtual 238, 3) := by decide +kernel
theorem dX11_count_104 : decode cX11_count 104 = .ok (.ireturn, 1) := by decide +kernel
theorem dX11_count_105 : decode cX11_count 105 = .ok (.aload_n 0, 1) := by decide +kernel
theorem dX11_count_106 : decode cX11_count 106 = .ok (.invokevirtual 241, 3) := by decide +kernel
theorem dX11_count_109 : decode cX11_count 109 = .ok (.ireturn, 1) := by decide +kernel
theorem dX11_count_110 : decode cX11_count 110 = .ok (.aload_n 0, 1) := by decide +kernel
theorem dX11_count_111 : decode cX11_count 111 = .ok (.invokevirtual 244, 3) := by decide +kernel
theorem dX11_count_114 : decode cX11_count 114 = .ok (.ireturn, 1) := by decide +kernel
theorem dX11_count_115 : decode cX11_count 115 = .ok (.aload_n 0, 1) := by decide +kernel
theorem dX11_count_116 : decode cX11_count 116 = .ok (.iconst 1, 1) := by decide +kernel
theorem dX11_count_117 : decode cX11_count 117 = .ok (.invokevirtual 247, 3) := by decide +kernel
theorem dX11_count_120 : decode cX11_count 120 = .ok (.ireturn, 1) := by decide +kernel
theorem dX11_count_121 : decode cX11_count 121 = .ok (.aload_n 0, 1) := by decide +kernel
theorem dX11_count_122 : decode cX11_count 122 = .ok (.iconst 2, 1) := by decide +kernel
theorem dX11_count_123 : decode cX11_count 123 = .ok (.invokevirtual 247, 3) := by decide +kernel
theorem dX11_count_126 : decode cX11_count 126 = .ok (.ireturn, 1) := by decide +kernel
theorem dX11_count_127 : decode cX11_count 127 = .ok (.iconst (-1), 1) := by decide +kernel
theorem dX11_count_128 : decode cX11_count 128 = .ok (.ireturn, 1) := by decide +kernel
theorem dX11_finding_0 : decode cX11_finding 0 = .ok (.aload_n 0, 1) := by decide +kernel
theorem dX11_finding_1 : decode cX11_finding 1 = .ok (.getfield 56, 3) := by decide +kernel
theorem dX11_finding_4 : decode cX11_finding 4 = .ok (.ireturn, 1) := by decide +kernel
theorem dX11_findings_0 : decode cX11_findings 0 = .ok (.iload_n 1, 1) := by decide +kernel
theorem dX11_findings_1 : decode cX11_findings 1 = .ok (.i2l, 1) := by decide +kernel
theorem dX11_findings_2 : decode cX11_findings 2 = .ok (.lconst 1, 1) := by decide +kernel
theorem dX11_findings_3 : decode cX11_findings 3 = .ok (.ldc2_w 66, 3) := by decide +kernel
theorem dX11_findings_6 : decode cX11_findings 6 = .ok (.invokestatic 68, 3) := by decide +kernel
theorem dX11_findings_9 : decode cX11_findings 9 = .ok (.ifCond .eq 12, 3) := by decide +kernel
theorem dX11_findings_12 : decode cX11_findings 12 = .ok (.aload_n 0, 1) := by decide +kernel
theorem dX11_findings_13 : decode cX11_findings 13 = .ok (.getfield 25, 3) := by decide +kernel
theorem dX11_findings_16 : decode cX11_findings 16 = .ok (.iload_n 1, 1) := by decide +kernel
theorem dX11_findings_17 : decode cX11_findings 17 = .ok (.iaload, 1) := by decide +kernel
theorem dX11_findings_18 : decode cX11_findings 18 = .ok (.goto 4, 3) := by decide +kernel
theorem dX11_findings_21 : decode cX11_findings 21 = .ok (.iconst (-1), 1) := by decide +kernel
theorem dX11_findings_22 : decode cX11_findings 22 = .ok (.ireturn, 1) := by decide +kernel
theorem dX11_mix_0 : decode cX11_mix 0 = .ok (.aload_n 0, 1) := by decide +kernel
theorem dX11_mix_1 : decode cX11_mix 1 = .ok (.ldc2_w 250, 3) := by decide +kernel
theorem dX11_mix_4 : decode cX11_mix 4 = .ok (.aload_n 0, 1) := by decide +kernel
theorem dX11_mix_5 : decode cX11_mix 5 = .ok (.getfield 252, 3) := by decide +kernel
theorem dX11_mix_8 : decode cX11_mix 8 = .ok (.lmul, 1) := by decide +kernel
theorem dX11_mix_9 : decode cX11_mix 9 = .ok (.lload_n 1, 1) := by decide +kernel
theorem dX11_mix_10 : decode cX11_mix 10 = .ok (.ladd, 1) := by decide +kernel
theorem dX11_mix_11 : decode cX11_mix 11 = .ok (.putfield 252, 3) := by decide +kernel
theorem dX11_mix_14 : decode cX11_mix 14 = .ok (.return_, 1) := by decide +kernel
theorem dX11_digest_0 : decode cX11_digest 0 = .ok (.aload_n 0, 1) := by decide +kernel
theorem dX11_digest_1 : decode cX11_digest 1 = .ok (.ldc2_w 255, 3) := by decide +kernel
theorem dX11_digest_4 : decode cX11_digest 4 = .ok (.putfield 252, 3) := by decide +kernel
theorem dX11_digest_7 : decode cX11_digest 7 = .ok (.iconst 0, 1) := by decide +kernel
theorem dX11_digest_8 : decode cX11_digest 8 = .ok (.istore_n 1, 1) := by decide +kernel
theorem dX11_digest_9 : decode cX11_digest 9 = .ok (.iload_n 1, 1) := by decide +kernel
theorem dX11_digest_10 : decode cX11_digest 10 = .ok (.bipush 11, 2) := by decide +kernel
theorem dX11_digest_12 : decode cX11_digest 12 = .ok (.if_icmp .ge 19, 3) := by decide +kernel
theorem dX11_digest_15 : decode cX11_digest 15 = .ok (.aload_n 0, 1) := by decide +kernel
theorem dX11_digest_16 : decode cX11_digest 16 = .ok (.aload_n 0, 1) := by decide +kernel
theorem dX11_digest_17 : decode cX11_digest 17 = .ok (.iload_n 1, 1) := by decide +kernel
theorem dX11_digest_18 : decode cX11_digest 18 = .ok (.invokevirtual 257, 3) := by decide +kernel
theorem dX11_digest_21 : decode cX11_digest 21 = .ok (.i2l, 1) := by decide +kernel
theorem dX11_digest_22 : decode cX11_digest 22 = .ok (.invokevirtual 260, 3) := by decide +kernel
theorem dX11_digest_25 : decode cX11_digest 25 = .ok (.iinc 1 1, 3) := by decide +kernel
theorem dX11_digest_28 : decode cX11_digest 28 = .ok (.goto (-19), 3) := by decide +kernel
theorem dX11_digest_31 : decode cX11_digest 31 = .ok (.iconst 0, 1) := by decide +kernel
theorem dX11_digest_32 : decode cX11_digest 32 = .ok (.istore_n 1, 1) := by decide +kernel
theorem dX11_digest_33 : decode cX11_digest 33 = .ok (.iload_n 1, 1) := by decide +kernel
theorem dX11_digest_34 : decode cX11_digest 34 = .ok (.aload_n 0, 1) := by decide +kernel
theorem dX11_digest_35 : decode cX11_digest 35 = .ok (.getfield 7, 3) := by decide +kernel
theorem dX11_digest_38 : decode cX11_digest 38 = .ok (.iconst 0, 1) := by decide +kernel
theorem dX11_digest_39 : decode cX11_digest 39 = .ok (.iaload, 1) := by decide +kernel
theorem dX11_digest_40 : decode cX11_digest 40 = .ok (.if_icmp .ge 33, 3) := by decide +kernel
theorem dX11_digest_43 : decode cX11_digest 43 = .ok (.iconst 0, 1) := by decide +kernel
theorem dX11_digest_44 : decode cX11_digest 44 = .ok (.istore_n 2, 1) := by decide +kernel
theorem dX11_digest_45 : decode cX11_digest 45 = .ok (.iload_n 2, 1) := by decide +kernel
theorem dX11_digest_46 : decode cX11_digest 46 = .ok (.iconst 5, 1) := by decide +kernel
theorem dX11_digest_47 : decode cX11_digest 47 = .ok (.if_icmp .ge 20, 3) := by decide +kernel
theorem dX11_digest_50 : decode cX11_digest 50 = .ok (.aload_n 0, 1) := by decide +kernel
theorem dX11_digest_51 : decode cX11_digest 51 = .ok (.aload_n 0, 1) := by decide +kernel
theorem dX11_digest_52 : decode cX11_digest 52 = .ok (.iload_n 1, 1) := by decide +kernel
theorem dX11_digest_53 : decode cX11_digest 53 = .ok (.iload_n 2, 1) := by decide +kernel
theorem dX11_digest_54 : decode cX11_digest 54 = .ok (.invokevirtual 138, 3) := by decide +kernel
theorem dX11_digest_57 : decode cX11_digest 57 = .ok (.i2l, 1) := by decide +kernel
theorem dX11_digest_58 : decode cX11_digest 58 = .ok (.invokevirtual 260, 3) := by decide +kernel
theorem dX11_digest_61 : decode cX11_digest 61 = .ok (.iinc 2 1, 3) := by decide +kernel
theorem dX11_digest_64 : decode cX11_digest 64 = .ok (.goto (-19), 3) := by decide +kernel
theorem dX11_digest_67 : decode cX11_digest 67 = .ok (.iinc 1 1, 3) := by decide +kernel
theorem dX11_digest_70 : decode cX11_digest 70 = .ok (.goto (-37), 3) := by decide +kernel
theorem dX11_digest_73 : decode cX11_digest 73 = .ok (.iconst 0, 1) := by decide +kernel
theorem dX11_digest_74 : decode cX11_digest 74 = .ok (.istore_n 1, 1) := by decide +kernel
theorem dX11_digest_75 : decode cX11_digest 75 = .ok (.iload_n 1, 1) := by decide +kernel
theorem dX11_digest_76 : decode cX11_digest 76 = .ok (.iconst 3, 1) := by decide +kernel
theorem dX11_digest_77 : decode cX11_digest 77 = .ok (.if_icmp .ge 56, 3) := by decide +kernel
theorem dX11_digest_80 : decode cX11_digest 80 = .ok (.aload_n 0, 1) := by decide +kernel
theorem dX11_digest_81 : decode cX11_digest 81 = .ok (.aload_n 0, 1) := by decide +kernel
theorem dX11_digest_82 : decode cX11_digest 82 = .ok (.getfield 7, 3) := by decide +kernel
theorem dX11_digest_85 : decode cX11_digest 85 = .ok (.sipush 392, 3) := by decide +kernel
theorem dX11_digest_88 : decode cX11_digest 88 = .ok (.sipush 392, 3) := by decide +kernel
theorem dX11_digest_91 : decode cX11_digest 91 = .ok (.iload_n 1, 1) := by decide +kernel
theorem dX11_digest_92 : decode cX11_digest 92 = .ok (.imul, 1) := by decide +kernel
theorem dX11_digest_93 : decode cX11_digest 93 = .ok (.iadd, 1) := by decide +kernel
theorem dX11_digest_94 : decode cX11_digest 94 = .ok (.iconst 0, 1) := by decide +kernel
theorem dX11_digest_95 : decode cX11_digest 95 = .ok (.iadd, 1) := by decide +kernel
theorem dX11_digest_96 : decode cX11_digest 96 = .ok (.iaload, 1) := by decide +kernel
theorem dX11_digest_97 : decode cX11_digest 97 = .ok (.ifCond .ne 9, 3) := by decide +kernel
theorem dX11_digest_100 : decode cX11_digest 100 = .ok (.ldc2_w 264, 3) := by decide +kernel
theorem dX11_digest_103 : decode cX11_digest 103 = .ok (.goto 21, 3) := by decide +kernel
theorem dX11_digest_106 : decode cX11_digest 106 = .ok (.aload_n 0, 1) := by decide +kernel
theorem dX11_digest_107 : decode cX11_digest 107 = .ok (.getfield 7, 3) := by decide +kernel
theorem dX11_digest_110 : decode cX11_digest 110 = .ok (.sipush 392, 3) := by decide +kernel
theorem dX11_digest_113 : decode cX11_digest 113 = .ok (.sipush 392, 3) := by decide +kernel
theorem dX11_digest_116 : decode cX11_digest 116 = .ok (.iload_n 1, 1) := by decide +kernel
theorem dX11_digest_117 : decode cX11_digest 117 = .ok (.imul, 1) := by decide +kernel
theorem dX11_digest_118 : decode cX11_digest 118 = .ok (.iadd, 1) := by decide +kernel
theorem dX11_digest_119 : decode cX11_digest 119 = .ok (.bipush 31, 2) := by decide +kernel
theorem dX11_digest_121 : decode cX11_digest 121 = .ok (.iadd, 1) := by decide +kernel
theorem dX11_digest_122 : decode cX11_digest 122 = .ok (.iaload, 1) := by decide +kernel
theorem dX11_digest_123 : decode cX11_digest 123 = .ok (.i2l, 1) := by decide +kernel
theorem dX11_digest_124 : decode cX11_digest 124 = .ok (.invokevirtual 260, 3) := by decide +kernel
theorem dX11_digest_127 : decode cX11_digest 127 = .ok (.iinc 1 1, 3) := by decide +kernel
theorem dX11_digest_130 : decode cX11_digest 130 = .ok (.goto (-55), 3) := by decide +kernel
theorem dX11_digest_133 : decode cX11_digest 133 = .ok (.iconst 0, 1) := by decide +kernel
theorem dX11_digest_134 : decode cX11_digest 134 = .ok (.istore_n 1, 1) := by decide +kernel
theorem dX11_digest_135 : decode cX11_digest 135 = .ok (.iload_n 1, 1) := by decide +kernel
theorem dX11_digest_136 : decode cX11_digest 136 = .ok (.bipush 6, 2) := by decide +kernel
theorem dX11_digest_138 : decode cX11_digest 138 = .ok (.if_icmp .ge 54, 3) := by decide +kernel
theorem dX11_digest_141 : decode cX11_digest 141 = .ok (.aload_n 0, 1) := by decide +kernel
theorem dX11_digest_142 : decode cX11_digest 142 = .ok (.aload_n 0, 1) := by decide +kernel
theorem dX11_digest_143 : decode cX11_digest 143 = .ok (.getfield 13, 3) := by decide +kernel
theorem dX11_digest_146 : decode cX11_digest 146 = .ok (.iload_n 1, 1) := by decide +kernel
theorem dX11_digest_147 : decode cX11_digest 147 = .ok (.iaload, 1) := by decide +kernel
theorem dX11_digest_148 : decode cX11_digest 148 = .ok (.i2l, 1) := by decide +kernel
theorem dX11_digest_149 : decode cX11_digest 149 = .ok (.invokevirtual 260, 3) := by decide +kernel
theorem dX11_digest_152 : decode cX11_digest 152 = .ok (.iconst 0, 1) := by decide +kernel
theorem dX11_digest_153 : decode cX11_digest 153 = .ok (.istore_n 2, 1) := by decide +kernel
theorem dX11_digest_154 : decode cX11_digest 154 = .ok (.iload_n 2, 1) := by decide +kernel
theorem dX11_digest_155 : decode cX11_digest 155 = .ok (.aload_n 0, 1) := by decide +kernel
theorem dX11_digest_156 : decode cX11_digest 156 = .ok (.getfield 13, 3) := by decide +kernel
theorem dX11_digest_159 : decode cX11_digest 159 = .ok (.iload_n 1, 1) := by decide +kernel
theorem dX11_digest_160 : decode cX11_digest 160 = .ok (.iaload, 1) := by decide +kernel
theorem dX11_digest_161 : decode cX11_digest 161 = .ok (.if_icmp .ge 25, 3) := by decide +kernel
theorem dX11_digest_164 : decode cX11_digest 164 = .ok (.aload_n 0, 1) := by decide +kernel
theorem dX11_digest_165 : decode cX11_digest 165 = .ok (.aload_n 0, 1) := by decide +kernel
theorem dX11_digest_166 : decode cX11_digest 166 = .ok (.getfield 16, 3) := by decide +kernel
theorem dX11_digest_169 : decode cX11_digest 169 = .ok (.bipush 40, 2) := by decide +kernel
theorem dX11_digest_171 : decode cX11_digest 171 = .ok (.iload_n 1, 1) := by decide +kernel
theorem dX11_digest_172 : decode cX11_digest 172 = .ok (.imul, 1) := by decide +kernel
theorem dX11_digest_173 : decode cX11_digest 173 = .ok (.iload_n 2, 1) := by decide +kernel
theorem dX11_digest_174 : decode cX11_digest 174 = .ok (.iadd, 1) := by decide +kernel
theorem dX11_digest_175 : decode cX11_digest 175 = .ok (.iaload, 1) := by decide +kernel
theorem dX11_digest_176 : decode cX11_digest 176 = .ok (.i2l, 1) := by decide +kernel
theorem dX11_digest_177 : decode cX11_digest 177 = .ok (.invokevirtual 260, 3) := by decide +kernel
theorem dX11_digest_180 : decode cX11_digest 180 = .ok (.iinc 2 1, 3) := by decide +kernel
theorem dX11_digest_183 : decode cX11_digest 183 = .ok (.goto (-29), 3) := by decide +kernel
theorem dX11_digest_186 : decode cX11_digest 186 = .ok (.iinc 1 1, 3) := by decide +kernel
theorem dX11_digest_189 : decode cX11_digest 189 = .ok (.goto (-54), 3) := by decide +kernel
theorem dX11_digest_192 : decode cX11_digest 192 = .ok (.iconst 0, 1) := by decide +kernel
theorem dX11_digest_193 : decode cX11_digest 193 = .ok (.istore_n 1, 1) := by decide +kernel
theorem dX11_digest_194 : decode cX11_digest 194 = .ok (.iload_n 1, 1) := by decide +kernel
theorem dX11_digest_195 : decode cX11_digest 195 = .ok (.iconst 4, 1) := by decide +kernel
theorem dX11_digest_196 : decode cX11_digest 196 = .ok (.if_icmp .ge 54, 3) := by decide +kernel
theorem dX11_digest_199 : decode cX11_digest 199 = .ok (.aload_n 0, 1) := by decide +kernel
theorem dX11_digest_200 : decode cX11_digest 200 = .ok (.aload_n 0, 1) := by decide +kernel
theorem dX11_digest_201 : decode cX11_digest 201 = .ok (.getfield 19, 3) := by decide +kernel
theorem dX11_digest_204 : decode cX11_digest 204 = .ok (.iload_n 1, 1) := by decide +kernel
theorem dX11_digest_205 : decode cX11_digest 205 = .ok (.iaload, 1) := by decide +kernel
theorem dX11_digest_206 : decode cX11_digest 206 = .ok (.i2l, 1) := by decide +kernel
theorem dX11_digest_207 : decode cX11_digest 207 = .ok (.invokevirtual 260, 3) := by decide +kernel
theorem dX11_digest_210 : decode cX11_digest 210 = .ok (.iconst 0, 1) := by decide +kernel
theorem dX11_digest_211 : decode cX11_digest 211 = .ok (.istore_n 2, 1) := by decide +kernel
theorem dX11_digest_212 : decode cX11_digest 212 = .ok (.iload_n 2, 1) := by decide +kernel
theorem dX11_digest_213 : decode cX11_digest 213 = .ok (.aload_n 0, 1) := by decide +kernel
theorem dX11_digest_214 : decode cX11_digest 214 = .ok (.getfield 19, 3) := by decide +kernel
theorem dX11_digest_217 : decode cX11_digest 217 = .ok (.iload_n 1, 1) := by decide +kernel
theorem dX11_digest_218 : decode cX11_digest 218 = .ok (.iaload, 1) := by decide +kernel
theorem dX11_digest_219 : decode cX11_digest 219 = .ok (.if_icmp .ge 25, 3) := by decide +kernel
theorem dX11_digest_222 : decode cX11_digest 222 = .ok (.aload_n 0, 1) := by decide +kernel
theorem dX11_digest_223 : decode cX11_digest 223 = .ok (.aload_n 0, 1) := by decide +kernel
theorem dX11_digest_224 : decode cX11_digest 224 = .ok (.getfield 22, 3) := by decide +kernel
theorem dX11_digest_227 : decode cX11_digest 227 = .ok (.bipush 60, 2) := by decide +kernel
theorem dX11_digest_229 : decode cX11_digest 229 = .ok (.iload_n 1, 1) := by decide +kernel
theorem dX11_digest_230 : decode cX11_digest 230 = .ok (.imul, 1) := by decide +kernel
theorem dX11_digest_231 : decode cX11_digest 231 = .ok (.iload_n 2, 1) := by decide +kernel
theorem dX11_digest_232 : decode cX11_digest 232 = .ok (.iadd, 1) := by decide +kernel
theorem dX11_digest_233 : decode cX11_digest 233 = .ok (.iaload, 1) := by decide +kernel
theorem dX11_digest_234 : decode cX11_digest 234 = .ok (.i2l, 1) := by decide +kernel
theorem dX11_digest_235 : decode cX11_digest 235 = .ok (.invokevirtual 260, 3) := by decide +kernel
theorem dX11_digest_238 : decode cX11_digest 238 = .ok (.iinc 2 1, 3) := by decide +kernel
theorem dX11_digest_241 : decode cX11_digest 241 = .ok (.goto (-29), 3) := by decide +kernel
theorem dX11_digest_244 : decode cX11_digest 244 = .ok (.iinc 1 1, 3) := by decide +kernel
theorem dX11_digest_247 : decode cX11_digest 247 = .ok (.goto (-53), 3) := by decide +kernel
theorem dX11_digest_250 : decode cX11_digest 250 = .ok (.aload_n 0, 1) := by decide +kernel
theorem dX11_digest_251 : decode cX11_digest 251 = .ok (.getfield 252, 3) := by decide +kernel
theorem dX11_digest_254 : decode cX11_digest 254 = .ok (.lreturn, 1) := by decide +kernel
theorem dJ9_max_7cf53_0 : decode cJ9_max_7cf53 0 = .ok (.iload_n 0, 1) := by decide +kernel
theorem dJ9_max_7cf53_1 : decode cJ9_max_7cf53 1 = .ok (.iload_n 1, 1) := by decide +kernel
theorem dJ9_max_7cf53_2 : decode cJ9_max_7cf53 2 = .ok (.if_icmp .lt 7, 3) := by decide +kernel
theorem dJ9_max_7cf53_5 : decode cJ9_max_7cf53 5 = .ok (.iload_n 0, 1) := by decide +kernel
theorem dJ9_max_7cf53_6 : decode cJ9_max_7cf53 6 = .ok (.goto 4, 3) := by decide +kernel
theorem dJ9_max_7cf53_9 : decode cJ9_max_7cf53 9 = .ok (.iload_n 1, 1) := by decide +kernel
theorem dJ9_max_7cf53_10 : decode cJ9_max_7cf53 10 = .ok (.ireturn, 1) := by decide +kernel
theorem dJ9_min_7cf53_0 : decode cJ9_min_7cf53 0 = .ok (.iload_n 0, 1) := by decide +kernel
theorem dJ9_min_7cf53_1 : decode cJ9_min_7cf53 1 = .ok (.iload_n 1, 1) := by decide +kernel
theorem dJ9_min_7cf53_2 : decode cJ9_min_7cf53 2 = .ok (.if_icmp .gt 7, 3) := by decide +kernel
theorem dJ9_min_7cf53_5 : decode cJ9_min_7cf53 5 = .ok (.iload_n 0, 1) := by decide +kernel
theorem dJ9_min_7cf53_6 : decode cJ9_min_7cf53 6 = .ok (.goto 4, 3) := by decide +kernel
theorem dJ9_min_7cf53_9 : decode cJ9_min_7cf53 9 = .ok (.iload_n 1, 1) := by decide +kernel
theorem dJ9_min_7cf53_10 : decode cJ9_min_7cf53 10 = .ok (.ireturn, 1) := by decide +kernel
theorem dL_law_0 : decode cL_law 0 = .ok (.new 7, 3) := by decide +kernel
theorem dL_law_3 : decode cL_law 3 = .ok (.dup, 1) := by decide +kernel
theorem dL_law_4 : decode cL_law 4 = .ok (.invokespecial 9, 3) := by decide +kernel
theorem dL_law_7 : decode cL_law 7 = .ok (.astore_n 1, 1) := by decide +kernel
theorem dL_law_8 : decode cL_law 8 = .ok (.new 10, 3) := by decide +kernel
theorem dL_law_11 : decode cL_law 11 = .ok (.dup, 1) := by decide +kernel
theorem dL_law_12 : decode cL_law 12 = .ok (.invokespecial 12, 3) := by decide +kernel
theorem dL_law_15 : decode cL_law 15 = .ok (.astore_n 2, 1) := by decide +kernel
theorem dL_law_16 : decode cL_law 16 = .ok (.iconst 0, 1) := by decide +kernel
theorem dL_law_17 : decode cL_law 17 = .ok (.istore_n 3, 1) := by decide +kernel
theorem dL_law_18 : decode cL_law 18 = .ok (.iload_n 3, 1) := by decide +kernel
theorem dL_law_19 : decode cL_law 19 = .ok (.aload_n 0, 1) := by decide +kernel
theorem dL_law_20 : decode cL_law 20 = .ok (.arraylength, 1) := by decide +kernel
theorem dL_law_21 : decode cL_law 21 = .ok (.bipush 6, 2) := by decide +kernel
theorem dL_law_23 : decode cL_law 23 = .ok (.isub, 1) := by decide +kernel
theorem dL_law_24 : decode cL_law 24 = .ok (.if_icmp .gt 1340, 3) := by decide +kernel
theorem dL_law_27 : decode cL_law 27 = .ok (.aload_n 0, 1) := by decide +kernel
theorem dL_law_28 : decode cL_law 28 = .ok (.iload_n 3, 1) := by decide +kernel
theorem dL_law_29 : decode cL_law 29 = .ok (.iaload, 1) := by decide +kernel
theorem dL_law_30 : decode cL_law 30 = .ok (.bipush 63, 2) := by decide +kernel
theorem dL_law_32 : decode cL_law 32 = .ok (.iand, 1) := by decide +kernel
theorem dL_law_33 : decode cL_law 33 = .ok (.tableswitch 1325 0 40 #[179, 212, 255, 288, 311, 374, 397, 430, 473, 496, 519, 552, 585, 618, 641, 654, 687, 710, 733, 756, 779, 802, 815, 838, 881, 924, 957, 990, 1023, 1056, 1079, 1112, 1145, 1178, 1211, 1224, 1238, 1252, 1275, 1288, 1311], 179) := by decide +kernel
theorem dL_law_212 : decode cL_law 212 = .ok (.aload_n 1, 1) := by decide +kernel
theorem dL_law_213 : decode cL_law 213 = .ok (.aload_n 0, 1) := by decide +kernel
theorem dL_law_214 : decode cL_law 214 = .ok (.iload_n 3, 1) := by decide +kernel
theorem dL_law_215 : decode cL_law 215 = .ok (.iconst 1, 1) := by decide +kernel
theorem dL_law_216 : decode cL_law 216 = .ok (.iadd, 1) := by decide +kernel
theorem dL_law_217 : decode cL_law 217 = .ok (.iaload, 1) := by decide +kernel
theorem dL_law_218 : decode cL_law 218 = .ok (.aload_n 0, 1) := by decide +kernel
theorem dL_law_219 : decode cL_law 219 = .ok (.iload_n 3, 1) := by decide +kernel
theorem dL_law_220 : decode cL_law 220 = .ok (.iconst 2, 1) := by decide +kernel
theorem dL_law_221 : decode cL_law 221 = .ok (.iadd, 1) := by decide +kernel
theorem dL_law_222 : decode cL_law 222 = .ok (.iaload, 1) := by decide +kernel
theorem dL_law_223 : decode cL_law 223 = .ok (.invokevirtual 13, 3) := by decide +kernel
theorem dL_law_226 : decode cL_law 226 = .ok (.aload_n 2, 1) := by decide +kernel
theorem dL_law_227 : decode cL_law 227 = .ok (.aload_n 0, 1) := by decide +kernel
theorem dL_law_228 : decode cL_law 228 = .ok (.iload_n 3, 1) := by decide +kernel
theorem dL_law_229 : decode cL_law 229 = .ok (.iconst 1, 1) := by decide +kernel
theorem dL_law_230 : decode cL_law 230 = .ok (.iadd, 1) := by decide +kernel
theorem dL_law_231 : decode cL_law 231 = .ok (.iaload, 1) := by decide +kernel
theorem dL_law_232 : decode cL_law 232 = .ok (.aload_n 0, 1) := by decide +kernel
theorem dL_law_233 : decode cL_law 233 = .ok (.iload_n 3, 1) := by decide +kernel
theorem dL_law_234 : decode cL_law 234 = .ok (.iconst 2, 1) := by decide +kernel
theorem dL_law_235 : decode cL_law 235 = .ok (.iadd, 1) := by decide +kernel
theorem dL_law_236 : decode cL_law 236 = .ok (.iaload, 1) := by decide +kernel
theorem dL_law_237 : decode cL_law 237 = .ok (.invokevirtual 17, 3) := by decide +kernel
theorem dL_law_240 : decode cL_law 240 = .ok (.if_icmp .eq 1118, 3) := by decide +kernel
theorem dL_law_243 : decode cL_law 243 = .ok (.iconst 0, 1) := by decide +kernel
theorem dL_law_244 : decode cL_law 244 = .ok (.ireturn, 1) := by decide +kernel
theorem dL_law_245 : decode cL_law 245 = .ok (.aload_n 1, 1) := by decide +kernel
theorem dL_law_246 : decode cL_law 246 = .ok (.aload_n 0, 1) := by decide +kernel
theorem dL_law_247 : decode cL_law 247 = .ok (.iload_n 3, 1) := by decide +kernel
theorem dL_law_248 : decode cL_law 248 = .ok (.iconst 1, 1) := by decide +kernel
theorem dL_law_249 : decode cL_law 249 = .ok (.iadd, 1) := by decide +kernel
theorem dL_law_250 : decode cL_law 250 = .ok (.iaload, 1) := by decide +kernel
theorem dL_law_251 : decode cL_law 251 = .ok (.aload_n 0, 1) := by decide +kernel
theorem dL_law_252 : decode cL_law 252 = .ok (.iload_n 3, 1) := by decide +kernel
theorem dL_law_253 : decode cL_law 253 = .ok (.iconst 2, 1) := by decide +kernel
theorem dL_law_254 : decode cL_law 254 = .ok (.iadd, 1) := by decide +kernel
theorem dL_law_255 : decode cL_law 255 = .ok (.iaload, 1) := by decide +kernel
theorem dL_law_256 : decode cL_law 256 = .ok (.aload_n 0, 1) := by decide +kernel
theorem dL_law_257 : decode cL_law 257 = .ok (.iload_n 3, 1) := by decide +kernel
theorem dL_law_258 : decode cL_law 258 = .ok (.iconst 3, 1) := by decide +kernel
theorem dL_law_259 : decode cL_law 259 = .ok (.iadd, 1) := by decide +kernel
theorem dL_law_260 : decode cL_law 260 = .ok (.iaload, 1) := by decide +kernel
theorem dL_law_261 : decode cL_law 261 = .ok (.invokevirtual 18, 3) := by decide +kernel
theorem dL_law_264 : decode cL_law 264 = .ok (.aload_n 2, 1) := by decide +kernel
theorem dL_law_265 : decode cL_law 265 = .ok (.aload_n 0, 1) := by decide +kernel
theorem dL_law_266 : decode cL_law 266 = .ok (.iload_n 3, 1) := by decide +kernel
theorem dL_law_267 : decode cL_law 267 = .ok (.iconst 1, 1) := by decide +kernel
theorem dL_law_268 : decode cL_law 268 = .ok (.iadd, 1) := by decide +kernel
theorem dL_law_269 : decode cL_law 269 = .ok (.iaload, 1) := by decide +kernel
theorem dL_law_270 : decode cL_law 270 = .ok (.aload_n 0, 1) := by decide +kernel
theorem dL_law_271 : decode cL_law 271 = .ok (.iload_n 3, 1) := by decide +kernel
theorem dL_law_272 : decode cL_law 272 = .ok (.iconst 2, 1) := by decide +kernel
theorem dL_law_273 : decode cL_law 273 = .ok (.iadd, 1) := by decide +kernel
theorem dL_law_274 : decode cL_law 274 = .ok (.iaload, 1) := by decide +kernel
theorem dL_law_275 : decode cL_law 275 = .ok (.aload_n 0, 1) := by decide +kernel
theorem dL_law_276 : decode cL_law 276 = .ok (.iload_n 3, 1) := by decide +kernel
theorem dL_law_277 : decode cL_law 277 = .ok (.iconst 3, 1) := by decide +kernel
theorem dL_law_278 : decode cL_law 278 = .ok (.iadd, 1) := by decide +kernel
theorem dL_law_279 : decode cL_law 279 = .ok (.iaload, 1) := by decide +kernel
theorem dL_law_280 : decode cL_law 280 = .ok (.invokevirtual 22, 3) := by decide +kernel
theorem dL_law_283 : decode cL_law 283 = .ok (.if_icmp .eq 1075, 3) := by decide +kernel
theorem dL_law_286 : decode cL_law 286 = .ok (.iconst 0, 1) := by decide +kernel
theorem dL_law_287 : decode cL_law 287 = .ok (.ireturn, 1) := by decide +kernel
theorem dL_law_288 : decode cL_law 288 = .ok (.aload_n 1, 1) := by decide +kernel
theorem dL_law_289 : decode cL_law 289 = .ok (.aload_n 0, 1) := by decide +kernel
theorem dL_law_290 : decode cL_law 290 = .ok (.iload_n 3, 1) := by decide +kernel
theorem dL_law_291 : decode cL_law 291 = .ok (.iconst 1, 1) := by decide +kernel
theorem dL_law_292 : decode cL_law 292 = .ok (.iadd, 1) := by decide +kernel
theorem dL_law_293 : decode cL_law 293 = .ok (.iaload, 1) := by decide +kernel
theorem dL_law_294 : decode cL_law 294 = .ok (.aload_n 0, 1) := by decide +kernel
theorem dL_law_295 : decode cL_law 295 = .ok (.iload_n 3, 1) := by decide +kernel
theorem dL_law_296 : decode cL_law 296 = .ok (.iconst 2, 1) := by decide +kernel
theorem dL_law_297 : decode cL_law 297 = .ok (.iadd, 1) := by decide +kernel
theorem dL_law_298 : decode cL_law 298 = .ok (.iaload, 1) := by decide +kernel
theorem dL_law_299 : decode cL_law 299 = .ok (.invokevirtual 23, 3) := by decide +kernel
theorem dL_law_302 : decode cL_law 302 = .ok (.aload_n 2, 1) := by decide +kernel
theorem dL_law_303 : decode cL_law 303 = .ok (.aload_n 0, 1) := by decide +kernel
theorem dL_law_304 : decode cL_law 304 = .ok (.iload_n 3, 1) := by decide +kernel
theorem dL_law_305 : decode cL_law 305 = .ok (.iconst 1, 1) := by decide +kernel
theorem dL_law_306 : decode cL_law 306 = .ok (.iadd, 1) := by decide +kernel
theorem dL_law_307 : decode cL_law 307 = .ok (.iaload, 1) := by decide +kernel
theorem dL_law_308 : decode cL_law 308 = .ok (.aload_n 0, 1) := by decide +kernel
theorem dL_law_309 : decode cL_law 309 = .ok (.iload_n 3, 1) := by decide +kernel
theorem dL_law_310 : decode cL_law 310 = .ok (.iconst 2, 1) := by decide +kernel
theorem dL_law_311 : decode cL_law 311 = .ok (.iadd, 1) := by decide +kernel
theorem dL_law_312 : decode cL_law 312 = .ok (.iaload, 1) := by decide +kernel
theorem dL_law_313 : decode cL_law 313 = .ok (.invokevirtual 26, 3) := by decide +kernel
theorem dL_law_316 : decode cL_law 316 = .ok (.if_icmp .eq 1042, 3) := by decide +kernel
theorem dL_law_319 : decode cL_law 319 = .ok (.iconst 0, 1) := by decide +kernel
theorem dL_law_320 : decode cL_law 320 = .ok (.ireturn, 1) := by decide +kernel
theorem dL_law_321 : decode cL_law 321 = .ok (.aload_n 1, 1) := by decide +kernel
theorem dL_law_322 : decode cL_law 322 = .ok (.aload_n 0, 1) := by decide +kernel
theorem dL_law_323 : decode cL_law 323 = .ok (.iload_n 3, 1) := by decide +kernel
theorem dL_law_324 : decode cL_law 324 = .ok (.iconst 1, 1) := by decide +kernel
theorem dL_law_325 : decode cL_law 325 = .ok (.iadd, 1) := by decide +kernel
theorem dL_law_326 : decode cL_law 326 = .ok (.iaload, 1) := by decide +kernel
theorem dL_law_327 : decode cL_law 327 = .ok (.invokevirtual 27, 3) := by decide +kernel
theorem dL_law_330 : decode cL_law 330 = .ok (.aload_n 2, 1) := by decide +kernel
theorem dL_law_331 : decode cL_law 331 = .ok (.aload_n 0, 1) := by decide +kernel
theorem dL_law_332 : decode cL_law 332 = .ok (.iload_n 3, 1) := by decide +kernel
theorem dL_law_333 : decode cL_law 333 = .ok (.iconst 1, 1) := by decide +kernel
theorem dL_law_334 : decode cL_law 334 = .ok (.iadd, 1) := by decide +kernel
theorem dL_law_335 : decode cL_law 335 = .ok (.iaload, 1) := by decide +kernel
theorem dL_law_336 : decode cL_law 336 = .ok (.invokevirtual 31, 3) := by decide +kernel
theorem dL_law_339 : decode cL_law 339 = .ok (.if_icmp .eq 1019, 3) := by decide +kernel
theorem dL_law_342 : decode cL_law 342 = .ok (.iconst 0, 1) := by decide +kernel
theorem dL_law_343 : decode cL_law 343 = .ok (.ireturn, 1) := by decide +kernel
theorem dL_law_344 : decode cL_law 344 = .ok (.aload_n 1, 1) := by decide +kernel
theorem dL_law_345 : decode cL_law 345 = .ok (.aload_n 0, 1) := by decide +kernel
theorem dL_law_346 : decode cL_law 346 = .ok (.iload_n 3, 1) := by decide +kernel
theorem dL_law_347 : decode cL_law 347 = .ok (.iconst 1, 1) := by decide +kernel
theorem dL_law_348 : decode cL_law 348 = .ok (.iadd, 1) := by decide +kernel
theorem dL_law_349 : decode cL_law 349 = .ok (.iaload, 1) := by decide +kernel
theorem dL_law_350 : decode cL_law 350 = .ok (.aload_n 0, 1) := by decide +kernel
theorem dL_law_351 : decode cL_law 351 = .ok (.iload_n 3, 1) := by decide +kernel
theorem dL_law_352 : decode cL_law 352 = .ok (.iconst 2, 1) := by decide +kernel
theorem dL_law_353 : decode cL_law 353 = .ok (.iadd, 1) := by decide +kernel
theorem dL_law_354 : decode cL_law 354 = .ok (.iaload, 1) := by decide +kernel
theorem dL_law_355 : decode cL_law 355 = .ok (.aload_n 0, 1) := by decide +kernel
theorem dL_law_356 : decode cL_law 356 = .ok (.iload_n 3, 1) := by decide +kernel
theorem dL_law_357 : decode cL_law 357 = .ok (.iconst 3, 1) := by decide +kernel
theorem dL_law_358 : decode cL_law 358 = .ok (.iadd, 1) := by decide +kernel
theorem dL_law_359 : decode cL_law 359 = .ok (.iaload, 1) := by decide +kernel
theorem dL_law_360 : decode cL_law 360 = .ok (.aload_n 0, 1) := by decide +kernel
theorem dL_law_361 : decode cL_law 361 = .ok (.iload_n 3, 1) := by decide +kernel
theorem dL_law_362 : decode cL_law 362 = .ok (.iconst 4, 1) := by decide +kernel
theorem dL_law_363 : decode cL_law 363 = .ok (.iadd, 1) := by decide +kernel
theorem dL_law_364 : decode cL_law 364 = .ok (.iaload, 1) := by decide +kernel
theorem dL_law_365 : decode cL_law 365 = .ok (.aload_n 0, 1) := by decide +kernel
theorem dL_law_366 : decode cL_law 366 = .ok (.iload_n 3, 1) := by decide +kernel
theorem dL_law_367 : decode cL_law 367 = .ok (.iconst 5, 1) := by decide +kernel
theorem dL_law_368 : decode cL_law 368 = .ok (.iadd, 1) := by decide +kernel
theorem dL_law_369 : decode cL_law 369 = .ok (.iaload, 1) := by decide +kernel
theorem dL_law_370 : decode cL_law 370 = .ok (.invokevirtual 32, 3) := by decide +kernel
theorem dL_law_373 : decode cL_law 373 = .ok (.aload_n 2, 1) := by decide +kernel
theorem dL_law_374 : decode cL_law 374 = .ok (.aload_n 0, 1) := by decide +kernel
theorem dL_law_375 : decode cL_law 375 = .ok (.iload_n 3, 1) := by decide +kernel
theorem dL_law_376 : decode cL_law 376 = .ok (.iconst 1, 1) := by decide +kernel
theorem dL_law_377 : decode cL_law 377 = .ok (.iadd, 1) := by decide +kernel
theorem dL_law_378 : decode cL_law 378 = .ok (.iaload, 1) := by decide +kernel
theorem dL_law_379 : decode cL_law 379 = .ok (.aload_n 0, 1) := by decide +kernel
theorem dL_law_380 : decode cL_law 380 = .ok (.iload_n 3, 1) := by decide +kernel
theorem dL_law_381 : decode cL_law 381 = .ok (.iconst 2, 1) := by decide +kernel
theorem dL_law_382 : decode cL_law 382 = .ok (.iadd, 1) := by decide +kernel
theorem dL_law_383 : decode cL_law 383 = .ok (.iaload, 1) := by decide +kernel
theorem dL_law_384 : decode cL_law 384 = .ok (.aload_n 0, 1) := by decide +kernel
theorem dL_law_385 : decode cL_law 385 = .ok (.iload_n 3, 1) := by decide +kernel
theorem dL_law_386 : decode cL_law 386 = .ok (.iconst 3, 1) := by decide +kernel
theorem dL_law_387 : decode cL_law 387 = .ok (.iadd, 1) := by decide +kernel
theorem dL_law_388 : decode cL_law 388 = .ok (.iaload, 1) := by decide +kernel
theorem dL_law_389 : decode cL_law 389 = .ok (.aload_n 0, 1) := by decide +kernel
theorem dL_law_390 : decode cL_law 390 = .ok (.iload_n 3, 1) := by decide +kernel
theorem dL_law_391 : decode cL_law 391 = .ok (.iconst 4, 1) := by decide +kernel
theorem dL_law_392 : decode cL_law 392 = .ok (.iadd, 1) := by decide +kernel
theorem dL_law_393 : decode cL_law 393 = .ok (.iaload, 1) := by decide +kernel
theorem dL_law_394 : decode cL_law 394 = .ok (.aload_n 0, 1) := by decide +kernel
theorem dL_law_395 : decode cL_law 395 = .ok (.iload_n 3, 1) := by decide +kernel
theorem dL_law_396 : decode cL_law 396 = .ok (.iconst 5, 1) := by decide +kernel
theorem dL_law_397 : decode cL_law 397 = .ok (.iadd, 1) := by decide +kernel
theorem dL_law_398 : decode cL_law 398 = .ok (.iaload, 1) := by decide +kernel
theorem dL_law_399 : decode cL_law 399 = .ok (.invokevirtual 36, 3) := by decide +kernel
theorem dL_law_402 : decode cL_law 402 = .ok (.if_icmp .eq 956, 3) := by decide +kernel
theorem dL_law_405 : decode cL_law 405 = .ok (.iconst 0, 1) := by decide +kernel
theorem dL_law_406 : decode cL_law 406 = .ok (.ireturn, 1) := by decide +kernel
theorem dL_law_407 : decode cL_law 407 = .ok (.aload_n 1, 1) := by decide +kernel
theorem dL_law_408 : decode cL_law 408 = .ok (.aload_n 0, 1) := by decide +kernel
theorem dL_law_409 : decode cL_law 409 = .ok (.iload_n 3, 1) := by decide +kernel
theorem dL_law_410 : decode cL_law 410 = .ok (.iconst 1, 1) := by decide +kernel
theorem dL_law_411 : decode cL_law 411 = .ok (.iadd, 1) := by decide +kernel
theorem dL_law_412 : decode cL_law 412 = .ok (.iaload, 1) := by decide +kernel
theorem dL_law_413 : decode cL_law 413 = .ok (.invokevirtual 37, 3) := by decide +kernel
theorem dL_law_416 : decode cL_law 416 = .ok (.aload_n 2, 1) := by decide +kernel
theorem dL_law_417 : decode cL_law 417 = .ok (.aload_n 0, 1) := by decide +kernel
theorem dL_law_418 : decode cL_law 418 = .ok (.iload_n 3, 1) := by decide +kernel
theorem dL_law_419 : decode cL_law 419 = .ok (.iconst 1, 1) := by decide +kernel
theorem dL_law_420 : decode cL_law 420 = .ok (.iadd, 1) := by decide +kernel
theorem dL_law_421 : decode cL_law 421 = .ok (.iaload, 1) := by decide +kernel
theorem dL_law_422 : decode cL_law 422 = .ok (.invokevirtual 40, 3) := by decide +kernel
theorem dL_law_425 : decode cL_law 425 = .ok (.if_icmp .eq 933, 3) := by decide +kernel
theorem dL_law_428 : decode cL_law 428 = .ok (.iconst 0, 1) := by decide +kernel
theorem dL_law_429 : decode cL_law 429 = .ok (.ireturn, 1) := by decide +kernel
theorem dL_law_430 : decode cL_law 430 = .ok (.aload_n 1, 1) := by decide +kernel
theorem dL_law_431 : decode cL_law 431 = .ok (.aload_n 0, 1) := by decide +kernel
theorem dL_law_432 : decode cL_law 432 = .ok (.iload_n 3, 1) := by decide +kernel
theorem dL_law_433 : decode cL_law 433 = .ok (.iconst 1, 1) := by decide +kernel
theorem dL_law_434 : decode cL_law 434 = .ok (.iadd, 1) := by decide +kernel
theorem dL_law_435 : decode cL_law 435 = .ok (.iaload, 1) := by decide +kernel
theorem dL_law_436 : decode cL_law 436 = .ok (.aload_n 0, 1) := by decide +kernel
theorem dL_law_437 : decode cL_law 437 = .ok (.iload_n 3, 1) := by decide +kernel
theorem dL_law_438 : decode cL_law 438 = .ok (.iconst 2, 1) := by decide +kernel
theorem dL_law_439 : decode cL_law 439 = .ok (.iadd, 1) := by decide +kernel
theorem dL_law_440 : decode cL_law 440 = .ok (.iaload, 1) := by decide +kernel
theorem dL_law_441 : decode cL_law 441 = .ok (.invokevirtual 41, 3) := by decide +kernel
theorem dL_law_444 : decode cL_law 444 = .ok (.aload_n 2, 1) := by decide +kernel
theorem dL_law_445 : decode cL_law 445 = .ok (.aload_n 0, 1) := by decide +kernel
theorem dL_law_446 : decode cL_law 446 = .ok (.iload_n 3, 1) := by decide +kernel
theorem dL_law_447 : decode cL_law 447 = .ok (.iconst 1, 1) := by decide +kernel
theorem dL_law_448 : decode cL_law 448 = .ok (.iadd, 1) := by decide +kernel
theorem dL_law_449 : decode cL_law 449 = .ok (.iaload, 1) := by decide +kernel
theorem dL_law_450 : decode cL_law 450 = .ok (.aload_n 0, 1) := by decide +kernel
theorem dL_law_451 : decode cL_law 451 = .ok (.iload_n 3, 1) := by decide +kernel
theorem dL_law_452 : decode cL_law 452 = .ok (.iconst 2, 1) := by decide +kernel
theorem dL_law_453 : decode cL_law 453 = .ok (.iadd, 1) := by decide +kernel
theorem dL_law_454 : decode cL_law 454 = .ok (.iaload, 1) := by decide +kernel
theorem dL_law_455 : decode cL_law 455 = .ok (.invokevirtual 44, 3) := by decide +kernel
theorem dL_law_458 : decode cL_law 458 = .ok (.if_icmp .eq 900, 3) := by decide +kernel
theorem dL_law_461 : decode cL_law 461 = .ok (.iconst 0, 1) := by decide +kernel
theorem dL_law_462 : decode cL_law 462 = .ok (.ireturn, 1) := by decide +kernel
theorem dL_law_463 : decode cL_law 463 = .ok (.aload_n 1, 1) := by decide +kernel
theorem dL_law_464 : decode cL_law 464 = .ok (.aload_n 0, 1) := by decide +kernel
theorem dL_law_465 : decode cL_law 465 = .ok (.iload_n 3, 1) := by decide +kernel
theorem dL_law_466 : decode cL_law 466 = .ok (.iconst 1, 1) := by decide +kernel
theorem dL_law_467 : decode cL_law 467 = .ok (.iadd, 1) := by decide +kernel
theorem dL_law_468 : decode cL_law 468 = .ok (.iaload, 1) := by decide +kernel
theorem dL_law_469 : decode cL_law 469 = .ok (.aload_n 0, 1) := by decide +kernel
theorem dL_law_470 : decode cL_law 470 = .ok (.iload_n 3, 1) := by decide +kernel
theorem dL_law_471 : decode cL_law 471 = .ok (.iconst 2, 1) := by decide +kernel
theorem dL_law_472 : decode cL_law 472 = .ok (.iadd, 1) := by decide +kernel
theorem dL_law_473 : decode cL_law 473 = .ok (.iaload, 1) := by decide +kernel
theorem dL_law_474 : decode cL_law 474 = .ok (.aload_n 0, 1) := by decide +kernel
theorem dL_law_475 : decode cL_law 475 = .ok (.iload_n 3, 1) := by decide +kernel
theorem dL_law_476 : decode cL_law 476 = .ok (.iconst 3, 1) := by decide +kernel
theorem dL_law_477 : decode cL_law 477 = .ok (.iadd, 1) := by decide +kernel
theorem dL_law_478 : decode cL_law 478 = .ok (.iaload, 1) := by decide +kernel
theorem dL_law_479 : decode cL_law 479 = .ok (.invokevirtual 45, 3) := by decide +kernel
theorem dL_law_482 : decode cL_law 482 = .ok (.aload_n 2, 1) := by decide +kernel
theorem dL_law_483 : decode cL_law 483 = .ok (.aload_n 0, 1) := by decide +kernel
theorem dL_law_484 : decode cL_law 484 = .ok (.iload_n 3, 1) := by decide +kernel
theorem dL_law_485 : decode cL_law 485 = .ok (.iconst 1, 1) := by decide +kernel
theorem dL_law_486 : decode cL_law 486 = .ok (.iadd, 1) := by decide +kernel
theorem dL_law_487 : decode cL_law 487 = .ok (.iaload, 1) := by decide +kernel
theorem dL_law_488 : decode cL_law 488 = .ok (.aload_n 0, 1) := by decide +kernel
theorem dL_law_489 : decode cL_law 489 = .ok (.iload_n 3, 1) := by decide +kernel
theorem dL_law_490 : decode cL_law 490 = .ok (.iconst 2, 1) := by decide +kernel
theorem dL_law_491 : decode cL_law 491 = .ok (.iadd, 1) := by decide +kernel
theorem dL_law_492 : decode cL_law 492 = .ok (.iaload, 1) := by decide +kernel
theorem dL_law_493 : decode cL_law 493 = .ok (.aload_n 0, 1) := by decide +kernel
theorem dL_law_494 : decode cL_law 494 = .ok (.iload_n 3, 1) := by decide +kernel
theorem dL_law_495 : decode cL_law 495 = .ok (.iconst 3, 1) := by decide +kernel
theorem dL_law_496 : decode cL_law 496 = .ok (.iadd, 1) := by decide +kernel
theorem dL_law_497 : decode cL_law 497 = .ok (.iaload, 1) := by decide +kernel
theorem dL_law_498 : decode cL_law 498 = .ok (.invokevirtual 48, 3) := by decide +kernel
theorem dL_law_501 : decode cL_law 501 = .ok (.if_icmp .eq 857, 3) := by decide +kernel
theorem dL_law_504 : decode cL_law 504 = .ok (.iconst 0, 1) := by decide +kernel
theorem dL_law_505 : decode cL_law 505 = .ok (.ireturn, 1) := by decide +kernel
theorem dL_law_506 : decode cL_law 506 = .ok (.aload_n 1, 1) := by decide +kernel
theorem dL_law_507 : decode cL_law 507 = .ok (.aload_n 0, 1) := by decide +kernel
theorem dL_law_508 : decode cL_law 508 = .ok (.iload_n 3, 1) := by decide +kernel
theorem dL_law_509 : decode cL_law 509 = .ok (.iconst 1, 1) := by decide +kernel
theorem dL_law_510 : decode cL_law 510 = .ok (.iadd, 1) := by decide +kernel
theorem dL_law_511 : decode cL_law 511 = .ok (.iaload, 1) := by decide +kernel
theorem dL_law_512 : decode cL_law 512 = .ok (.invokevirtual 49, 3) := by decide +kernel
theorem dL_law_515 : decode cL_law 515 = .ok (.aload_n 2, 1) := by decide +kernel
theorem dL_law_516 : decode cL_law 516 = .ok (.aload_n 0, 1) := by decide +kernel
theorem dL_law_517 : decode cL_law 517 = .ok (.iload_n 3, 1) := by decide +kernel
theorem dL_law_518 : decode cL_law 518 = .ok (.iconst 1, 1) := by decide +kernel
theorem dL_law_519 : decode cL_law 519 = .ok (.iadd, 1) := by decide +kernel
theorem dL_law_520 : decode cL_law 520 = .ok (.iaload, 1) := by decide +kernel
theorem dL_law_521 : decode cL_law 521 = .ok (.invokevirtual 52, 3) := by decide +kernel
theorem dL_law_524 : decode cL_law 524 = .ok (.if_icmp .eq 834, 3) := by decide +kernel
theorem dL_law_527 : decode cL_law 527 = .ok (.iconst 0, 1) := by decide +kernel
theorem dL_law_528 : decode cL_law 528 = .ok (.ireturn, 1) := by decide +kernel
theorem dL_law_529 : decode cL_law 529 = .ok (.aload_n 1, 1) := by decide +kernel
theorem dL_law_530 : decode cL_law 530 = .ok (.aload_n 0, 1) := by decide +kernel
theorem dL_law_531 : decode cL_law 531 = .ok (.iload_n 3, 1) := by decide +kernel
theorem dL_law_532 : decode cL_law 532 = .ok (.iconst 1, 1) := by decide +kernel
theorem dL_law_533 : decode cL_law 533 = .ok (.iadd, 1) := by decide +kernel
theorem dL_law_534 : decode cL_law 534 = .ok (.iaload, 1) := by decide +kernel
theorem dL_law_535 : decode cL_law 535 = .ok (.invokevirtual 53, 3) := by decide +kernel
theorem dL_law_538 : decode cL_law 538 = .ok (.aload_n 2, 1) := by decide +kernel
theorem dL_law_539 : decode cL_law 539 = .ok (.aload_n 0, 1) := by decide +kernel
theorem dL_law_540 : decode cL_law 540 = .ok (.iload_n 3, 1) := by decide +kernel
theorem dL_law_541 : decode cL_law 541 = .ok (.iconst 1, 1) := by decide +kernel
theorem dL_law_542 : decode cL_law 542 = .ok (.iadd, 1) := by decide +kernel
theorem dL_law_543 : decode cL_law 543 = .ok (.iaload, 1) := by decide +kernel
theorem dL_law_544 : decode cL_law 544 = .ok (.invokevirtual 56, 3) := by decide +kernel
theorem dL_law_547 : decode cL_law 547 = .ok (.if_icmp .eq 811, 3) := by decide +kernel
theorem dL_law_550 : decode cL_law 550 = .ok (.iconst 0, 1) := by decide +kernel
theorem dL_law_551 : decode cL_law 551 = .ok (.ireturn, 1) := by decide +kernel
theorem dL_law_552 : decode cL_law 552 = .ok (.aload_n 1, 1) := by decide +kernel
theorem dL_law_553 : decode cL_law 553 = .ok (.aload_n 0, 1) := by decide +kernel
theorem dL_law_554 : decode cL_law 554 = .ok (.iload_n 3, 1) := by decide +kernel
theorem dL_law_555 : decode cL_law 555 = .ok (.iconst 1, 1) := by decide +kernel
theorem dL_law_556 : decode cL_law 556 = .ok (.iadd, 1) := by decide +kernel
theorem dL_law_557 : decode cL_law 557 = .ok (.iaload, 1) := by decide +kernel
theorem dL_law_558 : decode cL_law 558 = .ok (.aload_n 0, 1) := by decide +kernel
theorem dL_law_559 : decode cL_law 559 = .ok (.iload_n 3, 1) := by decide +kernel
theorem dL_law_560 : decode cL_law 560 = .ok (.iconst 2, 1) := by decide +kernel
theorem dL_law_561 : decode cL_law 561 = .ok (.iadd, 1) := by decide +kernel
theorem dL_law_562 : decode cL_law 562 = .ok (.iaload, 1) := by decide +kernel
theorem dL_law_563 : decode cL_law 563 = .ok (.invokevirtual 57, 3) := by decide +kernel
theorem dL_law_566 : decode cL_law 566 = .ok (.aload_n 2, 1) := by decide +kernel
theorem dL_law_567 : decode cL_law 567 = .ok (.aload_n 0, 1) := by decide +kernel
theorem dL_law_568 : decode cL_law 568 = .ok (.iload_n 3, 1) := by decide +kernel
theorem dL_law_569 : decode cL_law 569 = .ok (.iconst 1, 1) := by decide +kernel
theorem dL_law_570 : decode cL_law 570 = .ok (.iadd, 1) := by decide +kernel
theorem dL_law_571 : decode cL_law 571 = .ok (.iaload, 1) := by decide +kernel
theorem dL_law_572 : decode cL_law 572 = .ok (.aload_n 0, 1) := by decide +kernel
theorem dL_law_573 : decode cL_law 573 = .ok (.iload_n 3, 1) := by decide +kernel
theorem dL_law_574 : decode cL_law 574 = .ok (.iconst 2, 1) := by decide +kernel
theorem dL_law_575 : decode cL_law 575 = .ok (.iadd, 1) := by decide +kernel
theorem dL_law_576 : decode cL_law 576 = .ok (.iaload, 1) := by decide +kernel
theorem dL_law_577 : decode cL_law 577 = .ok (.invokevirtual 60, 3) := by decide +kernel
theorem dL_law_580 : decode cL_law 580 = .ok (.if_icmp .eq 778, 3) := by decide +kernel
theorem dL_law_583 : decode cL_law 583 = .ok (.iconst 0, 1) := by decide +kernel
theorem dL_law_584 : decode cL_law 584 = .ok (.ireturn, 1) := by decide +kernel
theorem dL_law_585 : decode cL_law 585 = .ok (.aload_n 1, 1) := by decide +kernel
theorem dL_law_586 : decode cL_law 586 = .ok (.aload_n 0, 1) := by decide +kernel
theorem dL_law_587 : decode cL_law 587 = .ok (.iload_n 3, 1) := by decide +kernel
theorem dL_law_588 : decode cL_law 588 = .ok (.iconst 1, 1) := by decide +kernel
theorem dL_law_589 : decode cL_law 589 = .ok (.iadd, 1) := by decide +kernel
theorem dL_law_590 : decode cL_law 590 = .ok (.iaload, 1) := by decide +kernel
theorem dL_law_591 : decode cL_law 591 = .ok (.aload_n 0, 1) := by decide +kernel
theorem dL_law_592 : decode cL_law 592 = .ok (.iload_n 3, 1) := by decide +kernel
theorem dL_law_593 : decode cL_law 593 = .ok (.iconst 2, 1) := by decide +kernel
theorem dL_law_594 : decode cL_law 594 = .ok (.iadd, 1) := by decide +kernel
theorem dL_law_595 : decode cL_law 595 = .ok (.iaload, 1) := by decide +kernel
theorem dL_law_596 : decode cL_law 596 = .ok (.invokevirtual 61, 3) := by decide +kernel
theorem dL_law_599 : decode cL_law 599 = .ok (.aload_n 2, 1) := by decide +kernel
theorem dL_law_600 : decode cL_law 600 = .ok (.aload_n 0, 1) := by decide +kernel
theorem dL_law_601 : decode cL_law 601 = .ok (.iload_n 3, 1) := by decide +kernel
theorem dL_law_602 : decode cL_law 602 = .ok (.iconst 1, 1) := by decide +kernel
theorem dL_law_603 : decode cL_law 603 = .ok (.iadd, 1) := by decide +kernel
theorem dL_law_604 : decode cL_law 604 = .ok (.iaload, 1) := by decide +kernel
theorem dL_law_605 : decode cL_law 605 = .ok (.aload_n 0, 1) := by decide +kernel
theorem dL_law_606 : decode cL_law 606 = .ok (.iload_n 3, 1) := by decide +kernel
theorem dL_law_607 : decode cL_law 607 = .ok (.iconst 2, 1) := by decide +kernel
theorem dL_law_608 : decode cL_law 608 = .ok (.iadd, 1) := by decide +kernel
theorem dL_law_609 : decode cL_law 609 = .ok (.iaload, 1) := by decide +kernel
theorem dL_law_610 : decode cL_law 610 = .ok (.invokevirtual 64, 3) := by decide +kernel
theorem dL_law_613 : decode cL_law 613 = .ok (.if_icmp .eq 745, 3) := by decide +kernel
theorem dL_law_616 : decode cL_law 616 = .ok (.iconst 0, 1) := by decide +kernel
theorem dL_law_617 : decode cL_law 617 = .ok (.ireturn, 1) := by decide +kernel
theorem dL_law_618 : decode cL_law 618 = .ok (.aload_n 1, 1) := by decide +kernel
theorem dL_law_619 : decode cL_law 619 = .ok (.aload_n 0, 1) := by decide +kernel
theorem dL_law_620 : decode cL_law 620 = .ok (.iload_n 3, 1) := by decide +kernel
theorem dL_law_621 : decode cL_law 621 = .ok (.iconst 1, 1) := by decide +kernel
theorem dL_law_622 : decode cL_law 622 = .ok (.iadd, 1) := by decide +kernel
theorem dL_law_623 : decode cL_law 623 = .ok (.iaload, 1) := by decide +kernel
theorem dL_law_624 : decode cL_law 624 = .ok (.aload_n 0, 1) := by decide +kernel
theorem dL_law_625 : decode cL_law 625 = .ok (.iload_n 3, 1) := by decide +kernel
theorem dL_law_626 : decode cL_law 626 = .ok (.iconst 2, 1) := by decide +kernel
theorem dL_law_627 : decode cL_law 627 = .ok (.iadd, 1) := by decide +kernel
theorem dL_law_628 : decode cL_law 628 = .ok (.iaload, 1) := by decide +kernel
theorem dL_law_629 : decode cL_law 629 = .ok (.invokevirtual 65, 3) := by decide +kernel
theorem dL_law_632 : decode cL_law 632 = .ok (.aload_n 2, 1) := by decide +kernel
theorem dL_law_633 : decode cL_law 633 = .ok (.aload_n 0, 1) := by decide +kernel
theorem dL_law_634 : decode cL_law 634 = .ok (.iload_n 3, 1) := by decide +kernel
theorem dL_law_635 : decode cL_law 635 = .ok (.iconst 1, 1) := by decide +kernel
theorem dL_law_636 : decode cL_law 636 = .ok (.iadd, 1) := by decide +kernel
theorem dL_law_637 : decode cL_law 637 = .ok (.iaload, 1) := by decide +kernel
theorem dL_law_638 : decode cL_law 638 = .ok (.aload_n 0, 1) := by decide +kernel
theorem dL_law_639 : decode cL_law 639 = .ok (.iload_n 3, 1) := by decide +kernel
theorem dL_law_640 : decode cL_law 640 = .ok (.iconst 2, 1) := by decide +kernel
theorem dL_law_641 : decode cL_law 641 = .ok (.iadd, 1) := by decide +kernel
theorem dL_law_642 : decode cL_law 642 = .ok (.iaload, 1) := by decide +kernel
theorem dL_law_643 : decode cL_law 643 = .ok (.invokevirtual 68, 3) := by decide +kernel
theorem dL_law_646 : decode cL_law 646 = .ok (.if_icmp .eq 712, 3) := by decide +kernel
theorem dL_law_649 : decode cL_law 649 = .ok (.iconst 0, 1) := by decide +kernel
theorem dL_law_650 : decode cL_law 650 = .ok (.ireturn, 1) := by decide +kernel
theorem dL_law_651 : decode cL_law 651 = .ok (.aload_n 1, 1) := by decide +kernel
theorem dL_law_652 : decode cL_law 652 = .ok (.aload_n 0, 1) := by decide +kernel
theorem dL_law_653 : decode cL_law 653 = .ok (.iload_n 3, 1) := by decide +kernel
theorem dL_law_654 : decode cL_law 654 = .ok (.iconst 1, 1) := by decide +kernel
theorem dL_law_655 : decode cL_law 655 = .ok (.iadd, 1) := by decide +kernel
theorem dL_law_656 : decode cL_law 656 = .ok (.iaload, 1) := by decide +kernel
theorem dL_law_657 : decode cL_law 657 = .ok (.invokevirtual 69, 3) := by decide +kernel
theorem dL_law_660 : decode cL_law 660 = .ok (.aload_n 2, 1) := by decide +kernel
theorem dL_law_661 : decode cL_law 661 = .ok (.aload_n 0, 1) := by decide +kernel
theorem dL_law_662 : decode cL_law 662 = .ok (.iload_n 3, 1) := by decide +kernel
theorem dL_law_663 : decode cL_law 663 = .ok (.iconst 1, 1) := by decide +kernel
theorem dL_law_664 : decode cL_law 664 = .ok (.iadd, 1) := by decide +kernel
theorem dL_law_665 : decode cL_law 665 = .ok (.iaload, 1) := by decide +kernel
theorem dL_law_666 : decode cL_law 666 = .ok (.invokevirtual 72, 3) := by decide +kernel
theorem dL_law_669 : decode cL_law 669 = .ok (.if_icmp .eq 689, 3) := by decide +kernel
theorem dL_law_672 : decode cL_law 672 = .ok (.iconst 0, 1) := by decide +kernel
theorem dL_law_673 : decode cL_law 673 = .ok (.ireturn, 1) := by decide +kernel
theorem dL_law_674 : decode cL_law 674 = .ok (.aload_n 1, 1) := by decide +kernel
theorem dL_law_675 : decode cL_law 675 = .ok (.invokevirtual 73, 3) := by decide +kernel
theorem dL_law_678 : decode cL_law 678 = .ok (.aload_n 2, 1) := by decide +kernel
theorem dL_law_679 : decode cL_law 679 = .ok (.invokevirtual 77, 3) := by decide +kernel
theorem dL_law_682 : decode cL_law 682 = .ok (.if_icmp .eq 676, 3) := by decide +kernel
theorem dL_law_685 : decode cL_law 685 = .ok (.iconst 0, 1) := by decide +kernel
theorem dL_law_686 : decode cL_law 686 = .ok (.ireturn, 1) := by decide +kernel
theorem dL_law_687 : decode cL_law 687 = .ok (.aload_n 1, 1) := by decide +kernel
theorem dL_law_688 : decode cL_law 688 = .ok (.aload_n 0, 1) := by decide +kernel
theorem dL_law_689 : decode cL_law 689 = .ok (.iload_n 3, 1) := by decide +kernel
theorem dL_law_690 : decode cL_law 690 = .ok (.iconst 1, 1) := by decide +kernel
theorem dL_law_691 : decode cL_law 691 = .ok (.iadd, 1) := by decide +kernel
theorem dL_law_692 : decode cL_law 692 = .ok (.iaload, 1) := by decide +kernel
theorem dL_law_693 : decode cL_law 693 = .ok (.aload_n 0, 1) := by decide +kernel
theorem dL_law_694 : decode cL_law 694 = .ok (.iload_n 3, 1) := by decide +kernel
theorem dL_law_695 : decode cL_law 695 = .ok (.iconst 2, 1) := by decide +kernel
theorem dL_law_696 : decode cL_law 696 = .ok (.iadd, 1) := by decide +kernel
theorem dL_law_697 : decode cL_law 697 = .ok (.iaload, 1) := by decide +kernel
theorem dL_law_698 : decode cL_law 698 = .ok (.invokevirtual 78, 3) := by decide +kernel
theorem dL_law_701 : decode cL_law 701 = .ok (.aload_n 2, 1) := by decide +kernel
theorem dL_law_702 : decode cL_law 702 = .ok (.aload_n 0, 1) := by decide +kernel
theorem dL_law_703 : decode cL_law 703 = .ok (.iload_n 3, 1) := by decide +kernel
theorem dL_law_704 : decode cL_law 704 = .ok (.iconst 1, 1) := by decide +kernel
theorem dL_law_705 : decode cL_law 705 = .ok (.iadd, 1) := by decide +kernel
theorem dL_law_706 : decode cL_law 706 = .ok (.iaload, 1) := by decide +kernel
theorem dL_law_707 : decode cL_law 707 = .ok (.aload_n 0, 1) := by decide +kernel
theorem dL_law_708 : decode cL_law 708 = .ok (.iload_n 3, 1) := by decide +kernel
theorem dL_law_709 : decode cL_law 709 = .ok (.iconst 2, 1) := by decide +kernel
theorem dL_law_710 : decode cL_law 710 = .ok (.iadd, 1) := by decide +kernel
theorem dL_law_711 : decode cL_law 711 = .ok (.iaload, 1) := by decide +kernel
theorem dL_law_712 : decode cL_law 712 = .ok (.invokevirtual 81, 3) := by decide +kernel
theorem dL_law_715 : decode cL_law 715 = .ok (.if_icmp .eq 643, 3) := by decide +kernel
theorem dL_law_718 : decode cL_law 718 = .ok (.iconst 0, 1) := by decide +kernel
theorem dL_law_719 : decode cL_law 719 = .ok (.ireturn, 1) := by decide +kernel
theorem dL_law_720 : decode cL_law 720 = .ok (.aload_n 1, 1) := by decide +kernel
theorem dL_law_721 : decode cL_law 721 = .ok (.aload_n 0, 1) := by decide +kernel
theorem dL_law_722 : decode cL_law 722 = .ok (.iload_n 3, 1) := by decide +kernel
theorem dL_law_723 : decode cL_law 723 = .ok (.iconst 1, 1) := by decide +kernel
theorem dL_law_724 : decode cL_law 724 = .ok (.iadd, 1) := by decide +kernel
theorem dL_law_725 : decode cL_law 725 = .ok (.iaload, 1) := by decide +kernel
theorem dL_law_726 : decode cL_law 726 = .ok (.invokevirtual 82, 3) := by decide +kernel
theorem dL_law_729 : decode cL_law 729 = .ok (.aload_n 2, 1) := by decide +kernel
theorem dL_law_730 : decode cL_law 730 = .ok (.aload_n 0, 1) := by decide +kernel
theorem dL_law_731 : decode cL_law 731 = .ok (.iload_n 3, 1) := by decide +kernel
theorem dL_law_732 : decode cL_law 732 = .ok (.iconst 1, 1) := by decide +kernel
theorem dL_law_733 : decode cL_law 733 = .ok (.iadd, 1) := by decide +kernel
theorem dL_law_734 : decode cL_law 734 = .ok (.iaload, 1) := by decide +kernel
theorem dL_law_735 : decode cL_law 735 = .ok (.invokevirtual 85, 3) := by decide +kernel
theorem dL_law_738 : decode cL_law 738 = .ok (.if_icmp .eq 620, 3) := by decide +kernel
theorem dL_law_741 : decode cL_law 741 = .ok (.iconst 0, 1) := by decide +kernel
theorem dL_law_742 : decode cL_law 742 = .ok (.ireturn, 1) := by decide +kernel
theorem dL_law_743 : decode cL_law 743 = .ok (.aload_n 1, 1) := by decide +kernel
theorem dL_law_744 : decode cL_law 744 = .ok (.aload_n 0, 1) := by decide +kernel
theorem dL_law_745 : decode cL_law 745 = .ok (.iload_n 3, 1) := by decide +kernel
theorem dL_law_746 : decode cL_law 746 = .ok (.iconst 1, 1) := by decide +kernel
theorem dL_law_747 : decode cL_law 747 = .ok (.iadd, 1) := by decide +kernel
theorem dL_law_748 : decode cL_law 748 = .ok (.iaload, 1) := by decide +kernel
theorem dL_law_749 : decode cL_law 749 = .ok (.invokevirtual 86, 3) := by decide +kernel
theorem dL_law_752 : decode cL_law 752 = .ok (.aload_n 2, 1) := by decide +kernel
theorem dL_law_753 : decode cL_law 753 = .ok (.aload_n 0, 1) := by decide +kernel
theorem dL_law_754 : decode cL_law 754 = .ok (.iload_n 3, 1) := by decide +kernel
theorem dL_law_755 : decode cL_law 755 = .ok (.iconst 1, 1) := by decide +kernel
theorem dL_law_756 : decode cL_law 756 = .ok (.iadd, 1) := by decide +kernel
theorem dL_law_757 : decode cL_law 757 = .ok (.iaload, 1) := by decide +kernel
theorem dL_law_758 : decode cL_law 758 = .ok (.invokevirtual 89, 3) := by decide +kernel
theorem dL_law_761 : decode cL_law 761 = .ok (.if_icmp .eq 597, 3) := by decide +kernel
theorem dL_law_764 : decode cL_law 764 = .ok (.iconst 0, 1) := by decide +kernel
theorem dL_law_765 : decode cL_law 765 = .ok (.ireturn, 1) := by decide +kernel
theorem dL_law_766 : decode cL_law 766 = .ok (.aload_n 1, 1) := by decide +kernel
theorem dL_law_767 : decode cL_law 767 = .ok (.aload_n 0, 1) := by decide +kernel
theorem dL_law_768 : decode cL_law 768 = .ok (.iload_n 3, 1) := by decide +kernel
theorem dL_law_769 : decode cL_law 769 = .ok (.iconst 1, 1) := by decide +kernel
theorem dL_law_770 : decode cL_law 770 = .ok (.iadd, 1) := by decide +kernel
theorem dL_law_771 : decode cL_law 771 = .ok (.iaload, 1) := by decide +kernel
theorem dL_law_772 : decode cL_law 772 = .ok (.invokevirtual 90, 3) := by decide +kernel
theorem dL_law_775 : decode cL_law 775 = .ok (.aload_n 2, 1) := by decide +kernel
theorem dL_law_776 : decode cL_law 776 = .ok (.aload_n 0, 1) := by decide +kernel
theorem dL_law_777 : decode cL_law 777 = .ok (.iload_n 3, 1) := by decide +kernel
theorem dL_law_778 : decode cL_law 778 = .ok (.iconst 1, 1) := by decide +kernel
theorem dL_law_779 : decode cL_law 779 = .ok (.iadd, 1) := by decide +kernel
theorem dL_law_780 : decode cL_law 780 = .ok (.iaload, 1) := by decide +kernel
theorem dL_law_781 : decode cL_law 781 = .ok (.invokevirtual 93, 3) := by decide +kernel
theorem dL_law_784 : decode cL_law 784 = .ok (.if_icmp .eq 574, 3) := by decide +kernel
theorem dL_law_787 : decode cL_law 787 = .ok (.iconst 0, 1) := by decide +kernel
theorem dL_law_788 : decode cL_law 788 = .ok (.ireturn, 1) := by decide +kernel
theorem dL_law_789 : decode cL_law 789 = .ok (.aload_n 1, 1) := by decide +kernel
theorem dL_law_790 : decode cL_law 790 = .ok (.aload_n 0, 1) := by decide +kernel
theorem dL_law_791 : decode cL_law 791 = .ok (.iload_n 3, 1) := by decide +kernel
theorem dL_law_792 : decode cL_law 792 = .ok (.iconst 1, 1) := by decide +kernel
theorem dL_law_793 : decode cL_law 793 = .ok (.iadd, 1) := by decide +kernel
theorem dL_law_794 : decode cL_law 794 = .ok (.iaload, 1) := by decide +kernel
theorem dL_law_795 : decode cL_law 795 = .ok (.invokevirtual 94, 3) := by decide +kernel
theorem dL_law_798 : decode cL_law 798 = .ok (.aload_n 2, 1) := by decide +kernel
theorem dL_law_799 : decode cL_law 799 = .ok (.aload_n 0, 1) := by decide +kernel
theorem dL_law_800 : decode cL_law 800 = .ok (.iload_n 3, 1) := by decide +kernel
theorem dL_law_801 : decode cL_law 801 = .ok (.iconst 1, 1) := by decide +kernel
theorem dL_law_802 : decode cL_law 802 = .ok (.iadd, 1) := by decide +kernel
theorem dL_law_803 : decode cL_law 803 = .ok (.iaload, 1) := by decide +kernel
theorem dL_law_804 : decode cL_law 804 = .ok (.invokevirtual 97, 3) := by decide +kernel
theorem dL_law_807 : decode cL_law 807 = .ok (.if_icmp .eq 551, 3) := by decide +kernel
theorem dL_law_810 : decode cL_law 810 = .ok (.iconst 0, 1) := by decide +kernel
theorem dL_law_811 : decode cL_law 811 = .ok (.ireturn, 1) := by decide +kernel
theorem dL_law_812 : decode cL_law 812 = .ok (.aload_n 1, 1) := by decide +kernel
theorem dL_law_813 : decode cL_law 813 = .ok (.aload_n 0, 1) := by decide +kernel
theorem dL_law_814 : decode cL_law 814 = .ok (.iload_n 3, 1) := by decide +kernel
theorem dL_law_815 : decode cL_law 815 = .ok (.iconst 1, 1) := by decide +kernel
theorem dL_law_816 : decode cL_law 816 = .ok (.iadd, 1) := by decide +kernel
theorem dL_law_817 : decode cL_law 817 = .ok (.iaload, 1) := by decide +kernel
theorem dL_law_818 : decode cL_law 818 = .ok (.invokevirtual 98, 3) := by decide +kernel
theorem dL_law_821 : decode cL_law 821 = .ok (.aload_n 2, 1) := by decide +kernel
theorem dL_law_822 : decode cL_law 822 = .ok (.aload_n 0, 1) := by decide +kernel
theorem dL_law_823 : decode cL_law 823 = .ok (.iload_n 3, 1) := by decide +kernel
theorem dL_law_824 : decode cL_law 824 = .ok (.iconst 1, 1) := by decide +kernel
theorem dL_law_825 : decode cL_law 825 = .ok (.iadd, 1) := by decide +kernel
theorem dL_law_826 : decode cL_law 826 = .ok (.iaload, 1) := by decide +kernel
theorem dL_law_827 : decode cL_law 827 = .ok (.invokevirtual 101, 3) := by decide +kernel
theorem dL_law_830 : decode cL_law 830 = .ok (.if_icmp .eq 528, 3) := by decide +kernel
theorem dL_law_833 : decode cL_law 833 = .ok (.iconst 0, 1) := by decide +kernel
theorem dL_law_834 : decode cL_law 834 = .ok (.ireturn, 1) := by decide +kernel
theorem dL_law_835 : decode cL_law 835 = .ok (.aload_n 1, 1) := by decide +kernel
theorem dL_law_836 : decode cL_law 836 = .ok (.invokevirtual 102, 3) := by decide +kernel
theorem dL_law_839 : decode cL_law 839 = .ok (.aload_n 2, 1) := by decide +kernel
theorem dL_law_840 : decode cL_law 840 = .ok (.invokevirtual 105, 3) := by decide +kernel
theorem dL_law_843 : decode cL_law 843 = .ok (.if_icmp .eq 515, 3) := by decide +kernel
theorem dL_law_846 : decode cL_law 846 = .ok (.iconst 0, 1) := by decide +kernel
theorem dL_law_847 : decode cL_law 847 = .ok (.ireturn, 1) := by decide +kernel
theorem dL_law_848 : decode cL_law 848 = .ok (.aload_n 1, 1) := by decide +kernel
theorem dL_law_849 : decode cL_law 849 = .ok (.aload_n 0, 1) := by decide +kernel
theorem dL_law_850 : decode cL_law 850 = .ok (.iload_n 3, 1) := by decide +kernel
theorem dL_law_851 : decode cL_law 851 = .ok (.iconst 1, 1) := by decide +kernel
theorem dL_law_852 : decode cL_law 852 = .ok (.iadd, 1) := by decide +kernel
theorem dL_law_853 : decode cL_law 853 = .ok (.iaload, 1) := by decide +kernel
theorem dL_law_854 : decode cL_law 854 = .ok (.invokevirtual 106, 3) := by decide +kernel
theorem dL_law_857 : decode cL_law 857 = .ok (.aload_n 2, 1) := by decide +kernel
theorem dL_law_858 : decode cL_law 858 = .ok (.aload_n 0, 1) := by decide +kernel
theorem dL_law_859 : decode cL_law 859 = .ok (.iload_n 3, 1) := by decide +kernel
theorem dL_law_860 : decode cL_law 860 = .ok (.iconst 1, 1) := by decide +kernel
theorem dL_law_861 : decode cL_law 861 = .ok (.iadd, 1) := by decide +kernel
theorem dL_law_862 : decode cL_law 862 = .ok (.iaload, 1) := by decide +kernel
theorem dL_law_863 : decode cL_law 863 = .ok (.invokevirtual 109, 3) := by decide +kernel
theorem dL_law_866 : decode cL_law 866 = .ok (.if_icmp .eq 492, 3) := by decide +kernel
theorem dL_law_869 : decode cL_law 869 = .ok (.iconst 0, 1) := by decide +kernel
theorem dL_law_870 : decode cL_law 870 = .ok (.ireturn, 1) := by decide +kernel
theorem dL_law_871 : decode cL_law 871 = .ok (.aload_n 1, 1) := by decide +kernel
theorem dL_law_872 : decode cL_law 872 = .ok (.aload_n 0, 1) := by decide +kernel
theorem dL_law_873 : decode cL_law 873 = .ok (.iload_n 3, 1) := by decide +kernel
theorem dL_law_874 : decode cL_law 874 = .ok (.iconst 1, 1) := by decide +kernel
theorem dL_law_875 : decode cL_law 875 = .ok (.iadd, 1) := by decide +kernel
theorem dL_law_876 : decode cL_law 876 = .ok (.iaload, 1) := by decide +kernel
theorem dL_law_877 : decode cL_law 877 = .ok (.aload_n 0, 1) := by decide +kernel
theorem dL_law_878 : decode cL_law 878 = .ok (.iload_n 3, 1) := by decide +kernel
theorem dL_law_879 : decode cL_law 879 = .ok (.iconst 2, 1) := by decide +kernel
theorem dL_law_880 : decode cL_law 880 = .ok (.iadd, 1) := by decide +kernel
theorem dL_law_881 : decode cL_law 881 = .ok (.iaload, 1) := by decide +kernel
theorem dL_law_882 : decode cL_law 882 = .ok (.aload_n 0, 1) := by decide +kernel
theorem dL_law_883 : decode cL_law 883 = .ok (.iload_n 3, 1) := by decide +kernel
theorem dL_law_884 : decode cL_law 884 = .ok (.iconst 3, 1) := by decide +kernel
theorem dL_law_885 : decode cL_law 885 = .ok (.iadd, 1) := by decide +kernel
theorem dL_law_886 : decode cL_law 886 = .ok (.iaload, 1) := by decide +kernel
theorem dL_law_887 : decode cL_law 887 = .ok (.invokevirtual 110, 3) := by decide +kernel
theorem dL_law_890 : decode cL_law 890 = .ok (.aload_n 2, 1) := by decide +kernel
theorem dL_law_891 : decode cL_law 891 = .ok (.aload_n 0, 1) := by decide +kernel
theorem dL_law_892 : decode cL_law 892 = .ok (.iload_n 3, 1) := by decide +kernel
theorem dL_law_893 : decode cL_law 893 = .ok (.iconst 1, 1) := by decide +kernel
theorem dL_law_894 : decode cL_law 894 = .ok (.iadd, 1) := by decide +kernel
theorem dL_law_895 : decode cL_law 895 = .ok (.iaload, 1) := by decide +kernel
theorem dL_law_896 : decode cL_law 896 = .ok (.aload_n 0, 1) := by decide +kernel
theorem dL_law_897 : decode cL_law 897 = .ok (.iload_n 3, 1) := by decide +kernel
theorem dL_law_898 : decode cL_law 898 = .ok (.iconst 2, 1) := by decide +kernel
theorem dL_law_899 : decode cL_law 899 = .ok (.iadd, 1) := by decide +kernel
theorem dL_law_900 : decode cL_law 900 = .ok (.iaload, 1) := by decide +kernel
theorem dL_law_901 : decode cL_law 901 = .ok (.aload_n 0, 1) := by decide +kernel
theorem dL_law_902 : decode cL_law 902 = .ok (.iload_n 3, 1) := by decide +kernel
theorem dL_law_903 : decode cL_law 903 = .ok (.iconst 3, 1) := by decide +kernel
theorem dL_law_904 : decode cL_law 904 = .ok (.iadd, 1) := by decide +kernel
theorem dL_law_905 : decode cL_law 905 = .ok (.iaload, 1) := by decide +kernel
theorem dL_law_906 : decode cL_law 906 = .ok (.invokevirtual 113, 3) := by decide +kernel
theorem dL_law_909 : decode cL_law 909 = .ok (.if_icmp .eq 449, 3) := by decide +kernel
theorem dL_law_912 : decode cL_law 912 = .ok (.iconst 0, 1) := by decide +kernel
theorem dL_law_913 : decode cL_law 913 = .ok (.ireturn, 1) := by decide +kernel
theorem dL_law_914 : decode cL_law 914 = .ok (.aload_n 1, 1) := by decide +kernel
theorem dL_law_915 : decode cL_law 915 = .ok (.aload_n 0, 1) := by decide +kernel
theorem dL_law_916 : decode cL_law 916 = .ok (.iload_n 3, 1) := by decide +kernel
theorem dL_law_917 : decode cL_law 917 = .ok (.iconst 1, 1) := by decide +kernel
theorem dL_law_918 : decode cL_law 918 = .ok (.iadd, 1) := by decide +kernel
theorem dL_law_919 : decode cL_law 919 = .ok (.iaload, 1) := by decide +kernel
theorem dL_law_920 : decode cL_law 920 = .ok (.aload_n 0, 1) := by decide +kernel
theorem dL_law_921 : decode cL_law 921 = .ok (.iload_n 3, 1) := by decide +kernel
theorem dL_law_922 : decode cL_law 922 = .ok (.iconst 2, 1) := by decide +kernel
theorem dL_law_923 : decode cL_law 923 = .ok (.iadd, 1) := by decide +kernel
theorem dL_law_924 : decode cL_law 924 = .ok (.iaload, 1) := by decide +kernel
theorem dL_law_925 : decode cL_law 925 = .ok (.aload_n 0, 1) := by decide +kernel
theorem dL_law_926 : decode cL_law 926 = .ok (.iload_n 3, 1) := by decide +kernel
theorem dL_law_927 : decode cL_law 927 = .ok (.iconst 3, 1) := by decide +kernel
theorem dL_law_928 : decode cL_law 928 = .ok (.iadd, 1) := by decide +kernel
theorem dL_law_929 : decode cL_law 929 = .ok (.iaload, 1) := by decide +kernel
theorem dL_law_930 : decode cL_law 930 = .ok (.invokevirtual 114, 3) := by decide +kernel
theorem dL_law_933 : decode cL_law 933 = .ok (.aload_n 2, 1) := by decide +kernel
theorem dL_law_934 : decode cL_law 934 = .ok (.aload_n 0, 1) := by decide +kernel
theorem dL_law_935 : decode cL_law 935 = .ok (.iload_n 3, 1) := by decide +kernel
theorem dL_law_936 : decode cL_law 936 = .ok (.iconst 1, 1) := by decide +kernel
theorem dL_law_937 : decode cL_law 937 = .ok (.iadd, 1) := by decide +kernel
theorem dL_law_938 : decode cL_law 938 = .ok (.iaload, 1) := by decide +kernel
theorem dL_law_939 : decode cL_law 939 = .ok (.aload_n 0, 1) := by decide +kernel
theorem dL_law_940 : decode cL_law 940 = .ok (.iload_n 3, 1) := by decide +kernel
theorem dL_law_941 : decode cL_law 941 = .ok (.iconst 2, 1) := by decide +kernel
theorem dL_law_942 : decode cL_law 942 = .ok (.iadd, 1) := by decide +kernel
theorem dL_law_943 : decode cL_law 943 = .ok (.iaload, 1) := by decide +kernel
theorem dL_law_944 : decode cL_law 944 = .ok (.aload_n 0, 1) := by decide +kernel
theorem dL_law_945 : decode cL_law 945 = .ok (.iload_n 3, 1) := by decide +kernel
theorem dL_law_946 : decode cL_law 946 = .ok (.iconst 3, 1) := by decide +kernel
theorem dL_law_947 : decode cL_law 947 = .ok (.iadd, 1) := by decide +kernel
theorem dL_law_948 : decode cL_law 948 = .ok (.iaload, 1) := by decide +kernel
theorem dL_law_949 : decode cL_law 949 = .ok (.invokevirtual 117, 3) := by decide +kernel
theorem dL_law_952 : decode cL_law 952 = .ok (.if_icmp .eq 406, 3) := by decide +kernel
theorem dL_law_955 : decode cL_law 955 = .ok (.iconst 0, 1) := by decide +kernel
theorem dL_law_956 : decode cL_law 956 = .ok (.ireturn, 1) := by decide +kernel
theorem dL_law_957 : decode cL_law 957 = .ok (.aload_n 1, 1) := by decide +kernel
theorem dL_law_958 : decode cL_law 958 = .ok (.aload_n 0, 1) := by decide +kernel
theorem dL_law_959 : decode cL_law 959 = .ok (.iload_n 3, 1) := by decide +kernel
theorem dL_law_960 : decode cL_law 960 = .ok (.iconst 1, 1) := by decide +kernel
theorem dL_law_961 : decode cL_law 961 = .ok (.iadd, 1) := by decide +kernel
theorem dL_law_962 : decode cL_law 962 = .ok (.iaload, 1) := by decide +kernel
theorem dL_law_963 : decode cL_law 963 = .ok (.aload_n 0, 1) := by decide +kernel
theorem dL_law_964 : decode cL_law 964 = .ok (.iload_n 3, 1) := by decide +kernel
theorem dL_law_965 : decode cL_law 965 = .ok (.iconst 2, 1) := by decide +kernel
theorem dL_law_966 : decode cL_law 966 = .ok (.iadd, 1) := by decide +kernel
theorem dL_law_967 : decode cL_law 967 = .ok (.iaload, 1) := by decide +kernel
theorem dL_law_968 : decode cL_law 968 = .ok (.invokevirtual 118, 3) := by decide +kernel
theorem dL_law_971 : decode cL_law 971 = .ok (.aload_n 2, 1) := by decide +kernel
theorem dL_law_972 : decode cL_law 972 = .ok (.aload_n 0, 1) := by decide +kernel
theorem dL_law_973 : decode cL_law 973 = .ok (.iload_n 3, 1) := by decide +kernel
theorem dL_law_974 : decode cL_law 974 = .ok (.iconst 1, 1) := by decide +kernel
theorem dL_law_975 : decode cL_law 975 = .ok (.iadd, 1) := by decide +kernel
theorem dL_law_976 : decode cL_law 976 = .ok (.iaload, 1) := by decide +kernel
theorem dL_law_977 : decode cL_law 977 = .ok (.aload_n 0, 1) := by decide +kernel
theorem dL_law_978 : decode cL_law 978 = .ok (.iload_n 3, 1) := by decide +kernel
theorem dL_law_979 : decode cL_law 979 = .ok (.iconst 2, 1) := by decide +kernel
theorem dL_law_980 : decode cL_law 980 = .ok (.iadd, 1) := by decide +kernel
theorem dL_law_981 : decode cL_law 981 = .ok (.iaload, 1) := by decide +kernel
theorem dL_law_982 : decode cL_law 982 = .ok (.invokevirtual 121, 3) := by decide +kernel
theorem dL_law_985 : decode cL_law 985 = .ok (.if_icmp .eq 373, 3) := by decide +kernel
theorem dL_law_988 : decode cL_law 988 = .ok (.iconst 0, 1) := by decide +kernel
theorem dL_law_989 : decode cL_law 989 = .ok (.ireturn, 1) := by decide +kernel
theorem dL_law_990 : decode cL_law 990 = .ok (.aload_n 1, 1) := by decide +kernel
theorem dL_law_991 : decode cL_law 991 = .ok (.aload_n 0, 1) := by decide +kernel
theorem dL_law_992 : decode cL_law 992 = .ok (.iload_n 3, 1) := by decide +kernel
theorem dL_law_993 : decode cL_law 993 = .ok (.iconst 1, 1) := by decide +kernel
theorem dL_law_994 : decode cL_law 994 = .ok (.iadd, 1) := by decide +kernel
theorem dL_law_995 : decode cL_law 995 = .ok (.iaload, 1) := by decide +kernel
theorem dL_law_996 : decode cL_law 996 = .ok (.aload_n 0, 1) := by decide +kernel
theorem dL_law_997 : decode cL_law 997 = .ok (.iload_n 3, 1) := by decide +kernel
theorem dL_law_998 : decode cL_law 998 = .ok (.iconst 2, 1) := by decide +kernel
theorem dL_law_999 : decode cL_law 999 = .ok (.iadd, 1) := by decide +kernel
theorem dL_law_1000 : decode cL_law 1000 = .ok (.iaload, 1) := by decide +kernel
theorem dL_law_1001 : decode cL_law 1001 = .ok (.invokevirtual 122, 3) := by decide +kernel
theorem dL_law_1004 : decode cL_law 1004 = .ok (.aload_n 2, 1) := by decide +kernel
theorem dL_law_1005 : decode cL_law 1005 = .ok (.aload_n 0, 1) := by decide +kernel
theorem dL_law_1006 : decode cL_law 1006 = .ok (.iload_n 3, 1) := by decide +kernel
theorem dL_law_1007 : decode cL_law 1007 = .ok (.iconst 1, 1) := by decide +kernel
theorem dL_law_1008 : decode cL_law 1008 = .ok (.iadd, 1) := by decide +kernel
theorem dL_law_1009 : decode cL_law 1009 = .ok (.iaload, 1) := by decide +kernel
theorem dL_law_1010 : decode cL_law 1010 = .ok (.aload_n 0, 1) := by decide +kernel
theorem dL_law_1011 : decode cL_law 1011 = .ok (.iload_n 3, 1) := by decide +kernel
theorem dL_law_1012 : decode cL_law 1012 = .ok (.iconst 2, 1) := by decide +kernel
theorem dL_law_1013 : decode cL_law 1013 = .ok (.iadd, 1) := by decide +kernel
theorem dL_law_1014 : decode cL_law 1014 = .ok (.iaload, 1) := by decide +kernel
theorem dL_law_1015 : decode cL_law 1015 = .ok (.invokevirtual 125, 3) := by decide +kernel
theorem dL_law_1018 : decode cL_law 1018 = .ok (.if_icmp .eq 340, 3) := by decide +kernel
theorem dL_law_1021 : decode cL_law 1021 = .ok (.iconst 0, 1) := by decide +kernel
theorem dL_law_1022 : decode cL_law 1022 = .ok (.ireturn, 1) := by decide +kernel
theorem dL_law_1023 : decode cL_law 1023 = .ok (.aload_n 1, 1) := by decide +kernel
theorem dL_law_1024 : decode cL_law 1024 = .ok (.aload_n 0, 1) := by decide +kernel
theorem dL_law_1025 : decode cL_law 1025 = .ok (.iload_n 3, 1) := by decide +kernel
theorem dL_law_1026 : decode cL_law 1026 = .ok (.iconst 1, 1) := by decide +kernel
theorem dL_law_1027 : decode cL_law 1027 = .ok (.iadd, 1) := by decide +kernel
theorem dL_law_1028 : decode cL_law 1028 = .ok (.iaload, 1) := by decide +kernel
theorem dL_law_1029 : decode cL_law 1029 = .ok (.aload_n 0, 1) := by decide +kernel
theorem dL_law_1030 : decode cL_law 1030 = .ok (.iload_n 3, 1) := by decide +kernel
theorem dL_law_1031 : decode cL_law 1031 = .ok (.iconst 2, 1) := by decide +kernel
theorem dL_law_1032 : decode cL_law 1032 = .ok (.iadd, 1) := by decide +kernel
theorem dL_law_1033 : decode cL_law 1033 = .ok (.iaload, 1) := by decide +kernel
theorem dL_law_1034 : decode cL_law 1034 = .ok (.invokevirtual 126, 3) := by decide +kernel
theorem dL_law_1037 : decode cL_law 1037 = .ok (.aload_n 2, 1) := by decide +kernel
theorem dL_law_1038 : decode cL_law 1038 = .ok (.aload_n 0, 1) := by decide +kernel
theorem dL_law_1039 : decode cL_law 1039 = .ok (.iload_n 3, 1) := by decide +kernel
theorem dL_law_1040 : decode cL_law 1040 = .ok (.iconst 1, 1) := by decide +kernel
theorem dL_law_1041 : decode cL_law 1041 = .ok (.iadd, 1) := by decide +kernel
theorem dL_law_1042 : decode cL_law 1042 = .ok (.iaload, 1) := by decide +kernel
theorem dL_law_1043 : decode cL_law 1043 = .ok (.aload_n 0, 1) := by decide +kernel
theorem dL_law_1044 : decode cL_law 1044 = .ok (.iload_n 3, 1) := by decide +kernel
theorem dL_law_1045 : decode cL_law 1045 = .ok (.iconst 2, 1) := by decide +kernel
theorem dL_law_1046 : decode cL_law 1046 = .ok (.iadd, 1) := by decide +kernel
theorem dL_law_1047 : decode cL_law 1047 = .ok (.iaload, 1) := by decide +kernel
theorem dL_law_1048 : decode cL_law 1048 = .ok (.invokevirtual 129, 3) := by decide +kernel
theorem dL_law_1051 : decode cL_law 1051 = .ok (.if_icmp .eq 307, 3) := by decide +kernel
theorem dL_law_1054 : decode cL_law 1054 = .ok (.iconst 0, 1) := by decide +kernel
theorem dL_law_1055 : decode cL_law 1055 = .ok (.ireturn, 1) := by decide +kernel
theorem dL_law_1056 : decode cL_law 1056 = .ok (.aload_n 1, 1) := by decide +kernel
theorem dL_law_1057 : decode cL_law 1057 = .ok (.aload_n 0, 1) := by decide +kernel
theorem dL_law_1058 : decode cL_law 1058 = .ok (.iload_n 3, 1) := by decide +kernel
theorem dL_law_1059 : decode cL_law 1059 = .ok (.iconst 1, 1) := by decide +kernel
theorem dL_law_1060 : decode cL_law 1060 = .ok (.iadd, 1) := by decide +kernel
theorem dL_law_1061 : decode cL_law 1061 = .ok (.iaload, 1) := by decide +kernel
theorem dL_law_1062 : decode cL_law 1062 = .ok (.aload_n 0, 1) := by decide +kernel
theorem dL_law_1063 : decode cL_law 1063 = .ok (.iload_n 3, 1) := by decide +kernel
theorem dL_law_1064 : decode cL_law 1064 = .ok (.iconst 2, 1) := by decide +kernel
theorem dL_law_1065 : decode cL_law 1065 = .ok (.iadd, 1) := by decide +kernel
theorem dL_law_1066 : decode cL_law 1066 = .ok (.iaload, 1) := by decide +kernel
theorem dL_law_1067 : decode cL_law 1067 = .ok (.invokevirtual 130, 3) := by decide +kernel
theorem dL_law_1070 : decode cL_law 1070 = .ok (.aload_n 2, 1) := by decide +kernel
theorem dL_law_1071 : decode cL_law 1071 = .ok (.aload_n 0, 1) := by decide +kernel
theorem dL_law_1072 : decode cL_law 1072 = .ok (.iload_n 3, 1) := by decide +kernel
theorem dL_law_1073 : decode cL_law 1073 = .ok (.iconst 1, 1) := by decide +kernel
theorem dL_law_1074 : decode cL_law 1074 = .ok (.iadd, 1) := by decide +kernel
theorem dL_law_1075 : decode cL_law 1075 = .ok (.iaload, 1) := by decide +kernel
theorem dL_law_1076 : decode cL_law 1076 = .ok (.aload_n 0, 1) := by decide +kernel
theorem dL_law_1077 : decode cL_law 1077 = .ok (.iload_n 3, 1) := by decide +kernel
theorem dL_law_1078 : decode cL_law 1078 = .ok (.iconst 2, 1) := by decide +kernel
theorem dL_law_1079 : decode cL_law 1079 = .ok (.iadd, 1) := by decide +kernel
theorem dL_law_1080 : decode cL_law 1080 = .ok (.iaload, 1) := by decide +kernel
theorem dL_law_1081 : decode cL_law 1081 = .ok (.invokevirtual 133, 3) := by decide +kernel
theorem dL_law_1084 : decode cL_law 1084 = .ok (.if_icmp .eq 274, 3) := by decide +kernel
theorem dL_law_1087 : decode cL_law 1087 = .ok (.iconst 0, 1) := by decide +kernel
theorem dL_law_1088 : decode cL_law 1088 = .ok (.ireturn, 1) := by decide +kernel
theorem dL_law_1089 : decode cL_law 1089 = .ok (.aload_n 1, 1) := by decide +kernel
theorem dL_law_1090 : decode cL_law 1090 = .ok (.aload_n 0, 1) := by decide +kernel
theorem dL_law_1091 : decode cL_law 1091 = .ok (.iload_n 3, 1) := by decide +kernel
theorem dL_law_1092 : decode cL_law 1092 = .ok (.iconst 1, 1) := by decide +kernel
theorem dL_law_1093 : decode cL_law 1093 = .ok (.iadd, 1) := by decide +kernel
theorem dL_law_1094 : decode cL_law 1094 = .ok (.iaload, 1) := by decide +kernel
theorem dL_law_1095 : decode cL_law 1095 = .ok (.invokevirtual 134, 3) := by decide +kernel
theorem dL_law_1098 : decode cL_law 1098 = .ok (.aload_n 2, 1) := by decide +kernel
theorem dL_law_1099 : decode cL_law 1099 = .ok (.aload_n 0, 1) := by decide +kernel
theorem dL_law_1100 : decode cL_law 1100 = .ok (.iload_n 3, 1) := by decide +kernel
theorem dL_law_1101 : decode cL_law 1101 = .ok (.iconst 1, 1) := by decide +kernel
theorem dL_law_1102 : decode cL_law 1102 = .ok (.iadd, 1) := by decide +kernel
theorem dL_law_1103 : decode cL_law 1103 = .ok (.iaload, 1) := by decide +kernel
theorem dL_law_1104 : decode cL_law 1104 = .ok (.invokevirtual 137, 3) := by decide +kernel
theorem dL_law_1107 : decode cL_law 1107 = .ok (.if_icmp .eq 251, 3) := by decide +kernel
theorem dL_law_1110 : decode cL_law 1110 = .ok (.iconst 0, 1) := by decide +kernel
theorem dL_law_1111 : decode cL_law 1111 = .ok (.ireturn, 1) := by decide +kernel
theorem dL_law_1112 : decode cL_law 1112 = .ok (.aload_n 1, 1) := by decide +kernel
theorem dL_law_1113 : decode cL_law 1113 = .ok (.aload_n 0, 1) := by decide +kernel
theorem dL_law_1114 : decode cL_law 1114 = .ok (.iload_n 3, 1) := by decide +kernel
theorem dL_law_1115 : decode cL_law 1115 = .ok (.iconst 1, 1) := by decide +kernel
theorem dL_law_1116 : decode cL_law 1116 = .ok (.iadd, 1) := by decide +kernel
theorem dL_law_1117 : decode cL_law 1117 = .ok (.iaload, 1) := by decide +kernel
theorem dL_law_1118 : decode cL_law 1118 = .ok (.aload_n 0, 1) := by decide +kernel
theorem dL_law_1119 : decode cL_law 1119 = .ok (.iload_n 3, 1) := by decide +kernel
theorem dL_law_1120 : decode cL_law 1120 = .ok (.iconst 2, 1) := by decide +kernel
theorem dL_law_1121 : decode cL_law 1121 = .ok (.iadd, 1) := by decide +kernel
theorem dL_law_1122 : decode cL_law 1122 = .ok (.iaload, 1) := by decide +kernel
theorem dL_law_1123 : decode cL_law 1123 = .ok (.invokevirtual 138, 3) := by decide +kernel
theorem dL_law_1126 : decode cL_law 1126 = .ok (.aload_n 2, 1) := by decide +kernel
theorem dL_law_1127 : decode cL_law 1127 = .ok (.aload_n 0, 1) := by decide +kernel
theorem dL_law_1128 : decode cL_law 1128 = .ok (.iload_n 3, 1) := by decide +kernel
theorem dL_law_1129 : decode cL_law 1129 = .ok (.iconst 1, 1) := by decide +kernel
theorem dL_law_1130 : decode cL_law 1130 = .ok (.iadd, 1) := by decide +kernel
theorem dL_law_1131 : decode cL_law 1131 = .ok (.iaload, 1) := by decide +kernel
theorem dL_law_1132 : decode cL_law 1132 = .ok (.aload_n 0, 1) := by decide +kernel
theorem dL_law_1133 : decode cL_law 1133 = .ok (.iload_n 3, 1) := by decide +kernel
theorem dL_law_1134 : decode cL_law 1134 = .ok (.iconst 2, 1) := by decide +kernel
theorem dL_law_1135 : decode cL_law 1135 = .ok (.iadd, 1) := by decide +kernel
theorem dL_law_1136 : decode cL_law 1136 = .ok (.iaload, 1) := by decide +kernel
theorem dL_law_1137 : decode cL_law 1137 = .ok (.invokevirtual 141, 3) := by decide +kernel
theorem dL_law_1140 : decode cL_law 1140 = .ok (.if_icmp .eq 218, 3) := by decide +kernel
theorem dL_law_1143 : decode cL_law 1143 = .ok (.iconst 0, 1) := by decide +kernel
theorem dL_law_1144 : decode cL_law 1144 = .ok (.ireturn, 1) := by decide +kernel
theorem dL_law_1145 : decode cL_law 1145 = .ok (.aload_n 1, 1) := by decide +kernel
theorem dL_law_1146 : decode cL_law 1146 = .ok (.aload_n 0, 1) := by decide +kernel
theorem dL_law_1147 : decode cL_law 1147 = .ok (.iload_n 3, 1) := by decide +kernel
theorem dL_law_1148 : decode cL_law 1148 = .ok (.iconst 1, 1) := by decide +kernel
theorem dL_law_1149 : decode cL_law 1149 = .ok (.iadd, 1) := by decide +kernel
theorem dL_law_1150 : decode cL_law 1150 = .ok (.iaload, 1) := by decide +kernel
theorem dL_law_1151 : decode cL_law 1151 = .ok (.aload_n 0, 1) := by decide +kernel
theorem dL_law_1152 : decode cL_law 1152 = .ok (.iload_n 3, 1) := by decide +kernel
theorem dL_law_1153 : decode cL_law 1153 = .ok (.iconst 2, 1) := by decide +kernel
theorem dL_law_1154 : decode cL_law 1154 = .ok (.iadd, 1) := by decide +kernel
theorem dL_law_1155 : decode cL_law 1155 = .ok (.iaload, 1) := by decide +kernel
theorem dL_law_1156 : decode cL_law 1156 = .ok (.invokevirtual 142, 3) := by decide +kernel
theorem dL_law_1159 : decode cL_law 1159 = .ok (.aload_n 2, 1) := by decide +kernel
theorem dL_law_1160 : decode cL_law 1160 = .ok (.aload_n 0, 1) := by decide +kernel
theorem dL_law_1161 : decode cL_law 1161 = .ok (.iload_n 3, 1) := by decide +kernel
theorem dL_law_1162 : decode cL_law 1162 = .ok (.iconst 1, 1) := by decide +kernel
theorem dL_law_1163 : decode cL_law 1163 = .ok (.iadd, 1) := by decide +kernel
theorem dL_law_1164 : decode cL_law 1164 = .ok (.iaload, 1) := by decide +kernel
theorem dL_law_1165 : decode cL_law 1165 = .ok (.aload_n 0, 1) := by decide +kernel
theorem dL_law_1166 : decode cL_law 1166 = .ok (.iload_n 3, 1) := by decide +kernel
theorem dL_law_1167 : decode cL_law 1167 = .ok (.iconst 2, 1) := by decide +kernel
theorem dL_law_1168 : decode cL_law 1168 = .ok (.iadd, 1) := by decide +kernel
theorem dL_law_1169 : decode cL_law 1169 = .ok (.iaload, 1) := by decide +kernel
theorem dL_law_1170 : decode cL_law 1170 = .ok (.invokevirtual 145, 3) := by decide +kernel
theorem dL_law_1173 : decode cL_law 1173 = .ok (.if_icmp .eq 185, 3) := by decide +kernel
theorem dL_law_1176 : decode cL_law 1176 = .ok (.iconst 0, 1) := by decide +kernel
theorem dL_law_1177 : decode cL_law 1177 = .ok (.ireturn, 1) := by decide +kernel
theorem dL_law_1178 : decode cL_law 1178 = .ok (.aload_n 1, 1) := by decide +kernel
theorem dL_law_1179 : decode cL_law 1179 = .ok (.aload_n 0, 1) := by decide +kernel
theorem dL_law_1180 : decode cL_law 1180 = .ok (.iload_n 3, 1) := by decide +kernel
theorem dL_law_1181 : decode cL_law 1181 = .ok (.iconst 1, 1) := by decide +kernel
theorem dL_law_1182 : decode cL_law 1182 = .ok (.iadd, 1) := by decide +kernel
theorem dL_law_1183 : decode cL_law 1183 = .ok (.iaload, 1) := by decide +kernel
theorem dL_law_1184 : decode cL_law 1184 = .ok (.aload_n 0, 1) := by decide +kernel
theorem dL_law_1185 : decode cL_law 1185 = .ok (.iload_n 3, 1) := by decide +kernel
theorem dL_law_1186 : decode cL_law 1186 = .ok (.iconst 2, 1) := by decide +kernel
theorem dL_law_1187 : decode cL_law 1187 = .ok (.iadd, 1) := by decide +kernel
theorem dL_law_1188 : decode cL_law 1188 = .ok (.iaload, 1) := by decide +kernel
theorem dL_law_1189 : decode cL_law 1189 = .ok (.invokevirtual 146, 3) := by decide +kernel
theorem dL_law_1192 : decode cL_law 1192 = .ok (.aload_n 2, 1) := by decide +kernel
theorem dL_law_1193 : decode cL_law 1193 = .ok (.aload_n 0, 1) := by decide +kernel
theorem dL_law_1194 : decode cL_law 1194 = .ok (.iload_n 3, 1) := by decide +kernel
theorem dL_law_1195 : decode cL_law 1195 = .ok (.iconst 1, 1) := by decide +kernel
theorem dL_law_1196 : decode cL_law 1196 = .ok (.iadd, 1) := by decide +kernel
theorem dL_law_1197 : decode cL_law 1197 = .ok (.iaload, 1) := by decide +kernel
theorem dL_law_1198 : decode cL_law 1198 = .ok (.aload_n 0, 1) := by decide +kernel
theorem dL_law_1199 : decode cL_law 1199 = .ok (.iload_n 3, 1) := by decide +kernel
theorem dL_law_1200 : decode cL_law 1200 = .ok (.iconst 2, 1) := by decide +kernel
theorem dL_law_1201 : decode cL_law 1201 = .ok (.iadd, 1) := by decide +kernel
theorem dL_law_1202 : decode cL_law 1202 = .ok (.iaload, 1) := by decide +kernel
theorem dL_law_1203 : decode cL_law 1203 = .ok (.invokevirtual 149, 3) := by decide +kernel
theorem dL_law_1206 : decode cL_law 1206 = .ok (.if_icmp .eq 152, 3) := by decide +kernel
theorem dL_law_1209 : decode cL_law 1209 = .ok (.iconst 0, 1) := by decide +kernel
theorem dL_law_1210 : decode cL_law 1210 = .ok (.ireturn, 1) := by decide +kernel
theorem dL_law_1211 : decode cL_law 1211 = .ok (.aload_n 1, 1) := by decide +kernel
theorem dL_law_1212 : decode cL_law 1212 = .ok (.aload_n 0, 1) := by decide +kernel
theorem dL_law_1213 : decode cL_law 1213 = .ok (.iload_n 3, 1) := by decide +kernel
theorem dL_law_1214 : decode cL_law 1214 = .ok (.iconst 1, 1) := by decide +kernel
theorem dL_law_1215 : decode cL_law 1215 = .ok (.iadd, 1) := by decide +kernel
theorem dL_law_1216 : decode cL_law 1216 = .ok (.iaload, 1) := by decide +kernel
theorem dL_law_1217 : decode cL_law 1217 = .ok (.aload_n 0, 1) := by decide +kernel
theorem dL_law_1218 : decode cL_law 1218 = .ok (.iload_n 3, 1) := by decide +kernel
theorem dL_law_1219 : decode cL_law 1219 = .ok (.iconst 2, 1) := by decide +kernel
theorem dL_law_1220 : decode cL_law 1220 = .ok (.iadd, 1) := by decide +kernel
theorem dL_law_1221 : decode cL_law 1221 = .ok (.iaload, 1) := by decide +kernel
theorem dL_law_1222 : decode cL_law 1222 = .ok (.invokevirtual 150, 3) := by decide +kernel
theorem dL_law_1225 : decode cL_law 1225 = .ok (.aload_n 2, 1) := by decide +kernel
theorem dL_law_1226 : decode cL_law 1226 = .ok (.aload_n 0, 1) := by decide +kernel
theorem dL_law_1227 : decode cL_law 1227 = .ok (.iload_n 3, 1) := by decide +kernel
theorem dL_law_1228 : decode cL_law 1228 = .ok (.iconst 1, 1) := by decide +kernel
theorem dL_law_1229 : decode cL_law 1229 = .ok (.iadd, 1) := by decide +kernel
theorem dL_law_1230 : decode cL_law 1230 = .ok (.iaload, 1) := by decide +kernel
theorem dL_law_1231 : decode cL_law 1231 = .ok (.aload_n 0, 1) := by decide +kernel
theorem dL_law_1232 : decode cL_law 1232 = .ok (.iload_n 3, 1) := by decide +kernel
theorem dL_law_1233 : decode cL_law 1233 = .ok (.iconst 2, 1) := by decide +kernel
theorem dL_law_1234 : decode cL_law 1234 = .ok (.iadd, 1) := by decide +kernel
theorem dL_law_1235 : decode cL_law 1235 = .ok (.iaload, 1) := by decide +kernel
theorem dL_law_1236 : decode cL_law 1236 = .ok (.invokevirtual 153, 3) := by decide +kernel
theorem dL_law_1239 : decode cL_law 1239 = .ok (.if_icmp .eq 119, 3) := by decide +kernel
theorem dL_law_1242 : decode cL_law 1242 = .ok (.iconst 0, 1) := by decide +kernel
theorem dL_law_1243 : decode cL_law 1243 = .ok (.ireturn, 1) := by decide +kernel
theorem dL_law_1244 : decode cL_law 1244 = .ok (.aload_n 1, 1) := by decide +kernel
theorem dL_law_1245 : decode cL_law 1245 = .ok (.invokevirtual 154, 3) := by decide +kernel
theorem dL_law_1248 : decode cL_law 1248 = .ok (.aload_n 2, 1) := by decide +kernel
theorem dL_law_1249 : decode cL_law 1249 = .ok (.invokevirtual 157, 3) := by decide +kernel
theorem dL_law_1252 : decode cL_law 1252 = .ok (.if_icmp .eq 106, 3) := by decide +kernel
theorem dL_law_1255 : decode cL_law 1255 = .ok (.iconst 0, 1) := by decide +kernel
theorem dL_law_1256 : decode cL_law 1256 = .ok (.ireturn, 1) := by decide +kernel
theorem dL_law_1257 : decode cL_law 1257 = .ok (.aload_n 1, 1) := by decide +kernel
theorem dL_law_1258 : decode cL_law 1258 = .ok (.invokevirtual 158, 3) := by decide +kernel
theorem dL_law_1261 : decode cL_law 1261 = .ok (.aload_n 2, 1) := by decide +kernel
theorem dL_law_1262 : decode cL_law 1262 = .ok (.invokevirtual 162, 3) := by decide +kernel
theorem dL_law_1265 : decode cL_law 1265 = .ok (.lcmp, 1) := by decide +kernel
theorem dL_law_1266 : decode cL_law 1266 = .ok (.ifCond .eq 92, 3) := by decide +kernel
theorem dL_law_1269 : decode cL_law 1269 = .ok (.iconst 0, 1) := by decide +kernel
theorem dL_law_1270 : decode cL_law 1270 = .ok (.ireturn, 1) := by decide +kernel
theorem dL_law_1271 : decode cL_law 1271 = .ok (.aload_n 1, 1) := by decide +kernel
theorem dL_law_1272 : decode cL_law 1272 = .ok (.invokevirtual 163, 3) := by decide +kernel
theorem dL_law_1275 : decode cL_law 1275 = .ok (.aload_n 2, 1) := by decide +kernel
theorem dL_law_1276 : decode cL_law 1276 = .ok (.invokevirtual 166, 3) := by decide +kernel
theorem dL_law_1279 : decode cL_law 1279 = .ok (.lcmp, 1) := by decide +kernel
theorem dL_law_1280 : decode cL_law 1280 = .ok (.ifCond .eq 78, 3) := by decide +kernel
theorem dL_law_1283 : decode cL_law 1283 = .ok (.iconst 0, 1) := by decide +kernel
theorem dL_law_1284 : decode cL_law 1284 = .ok (.ireturn, 1) := by decide +kernel
theorem dL_law_1285 : decode cL_law 1285 = .ok (.aload_n 1, 1) := by decide +kernel
theorem dL_law_1286 : decode cL_law 1286 = .ok (.aload_n 0, 1) := by decide +kernel
theorem dL_law_1287 : decode cL_law 1287 = .ok (.iload_n 3, 1) := by decide +kernel
theorem dL_law_1288 : decode cL_law 1288 = .ok (.iconst 1, 1) := by decide +kernel
theorem dL_law_1289 : decode cL_law 1289 = .ok (.iadd, 1) := by decide +kernel
theorem dL_law_1290 : decode cL_law 1290 = .ok (.iaload, 1) := by decide +kernel
theorem dL_law_1291 : decode cL_law 1291 = .ok (.invokevirtual 167, 3) := by decide +kernel
theorem dL_law_1294 : decode cL_law 1294 = .ok (.aload_n 2, 1) := by decide +kernel
theorem dL_law_1295 : decode cL_law 1295 = .ok (.aload_n 0, 1) := by decide +kernel
theorem dL_law_1296 : decode cL_law 1296 = .ok (.iload_n 3, 1) := by decide +kernel
theorem dL_law_1297 : decode cL_law 1297 = .ok (.iconst 1, 1) := by decide +kernel
theorem dL_law_1298 : decode cL_law 1298 = .ok (.iadd, 1) := by decide +kernel
theorem dL_law_1299 : decode cL_law 1299 = .ok (.iaload, 1) := by decide +kernel
theorem dL_law_1300 : decode cL_law 1300 = .ok (.invokevirtual 170, 3) := by decide +kernel
theorem dL_law_1303 : decode cL_law 1303 = .ok (.if_icmp .eq 55, 3) := by decide +kernel
theorem dL_law_1306 : decode cL_law 1306 = .ok (.iconst 0, 1) := by decide +kernel
theorem dL_law_1307 : decode cL_law 1307 = .ok (.ireturn, 1) := by decide +kernel
theorem dL_law_1308 : decode cL_law 1308 = .ok (.aload_n 1, 1) := by decide +kernel
theorem dL_law_1309 : decode cL_law 1309 = .ok (.invokevirtual 171, 3) := by decide +kernel
theorem dL_law_1312 : decode cL_law 1312 = .ok (.aload_n 2, 1) := by decide +kernel
theorem dL_law_1313 : decode cL_law 1313 = .ok (.invokevirtual 174, 3) := by decide +kernel
theorem dL_law_1316 : decode cL_law 1316 = .ok (.if_icmp .eq 42, 3) := by decide +kernel
theorem dL_law_1319 : decode cL_law 1319 = .ok (.iconst 0, 1) := by decide +kernel
theorem dL_law_1320 : decode cL_law 1320 = .ok (.ireturn, 1) := by decide +kernel
theorem dL_law_1321 : decode cL_law 1321 = .ok (.aload_n 1, 1) := by decide +kernel
theorem dL_law_1322 : decode cL_law 1322 = .ok (.aload_n 0, 1) := by decide +kernel
theorem dL_law_1323 : decode cL_law 1323 = .ok (.iload_n 3, 1) := by decide +kernel
theorem dL_law_1324 : decode cL_law 1324 = .ok (.iconst 1, 1) := by decide +kernel
theorem dL_law_1325 : decode cL_law 1325 = .ok (.iadd, 1) := by decide +kernel
theorem dL_law_1326 : decode cL_law 1326 = .ok (.iaload, 1) := by decide +kernel
theorem dL_law_1327 : decode cL_law 1327 = .ok (.invokevirtual 175, 3) := by decide +kernel
theorem dL_law_1330 : decode cL_law 1330 = .ok (.aload_n 2, 1) := by decide +kernel
theorem dL_law_1331 : decode cL_law 1331 = .ok (.aload_n 0, 1) := by decide +kernel
theorem dL_law_1332 : decode cL_law 1332 = .ok (.iload_n 3, 1) := by decide +kernel
theorem dL_law_1333 : decode cL_law 1333 = .ok (.iconst 1, 1) := by decide +kernel
theorem dL_law_1334 : decode cL_law 1334 = .ok (.iadd, 1) := by decide +kernel
theorem dL_law_1335 : decode cL_law 1335 = .ok (.iaload, 1) := by decide +kernel
theorem dL_law_1336 : decode cL_law 1336 = .ok (.invokevirtual 178, 3) := by decide +kernel
theorem dL_law_1339 : decode cL_law 1339 = .ok (.if_icmp .eq 19, 3) := by decide +kernel
theorem dL_law_1342 : decode cL_law 1342 = .ok (.iconst 0, 1) := by decide +kernel
theorem dL_law_1343 : decode cL_law 1343 = .ok (.ireturn, 1) := by decide +kernel
theorem dL_law_1344 : decode cL_law 1344 = .ok (.aload_n 1, 1) := by decide +kernel
theorem dL_law_1345 : decode cL_law 1345 = .ok (.invokevirtual 179, 3) := by decide +kernel
theorem dL_law_1348 : decode cL_law 1348 = .ok (.aload_n 2, 1) := by decide +kernel
theorem dL_law_1349 : decode cL_law 1349 = .ok (.invokevirtual 182, 3) := by decide +kernel
theorem dL_law_1352 : decode cL_law 1352 = .ok (.lcmp, 1) := by decide +kernel
theorem dL_law_1353 : decode cL_law 1353 = .ok (.ifCond .eq 5, 3) := by decide +kernel
theorem dL_law_1356 : decode cL_law 1356 = .ok (.iconst 0, 1) := by decide +kernel
theorem dL_law_1357 : decode cL_law 1357 = .ok (.ireturn, 1) := by decide +kernel
theorem dL_law_1358 : decode cL_law 1358 = .ok (.iinc 3 6, 3) := by decide +kernel
theorem dL_law_1361 : decode cL_law 1361 = .ok (.goto (-1343), 3) := by decide +kernel
theorem dL_law_1364 : decode cL_law 1364 = .ok (.iconst 1, 1) := by decide +kernel
theorem dL_law_1365 : decode cL_law 1365 = .ok (.ireturn, 1) := by decide +kernel
