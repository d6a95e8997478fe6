abbrev b_La_law : ByteArray := code
theorem d_La_law_0 : decode b_La_law 0 = .ok (.new 8, 3) := by decide +kernel
theorem d_La_law_3 : decode b_La_law 3 = .ok (.dup, 1) := by decide +kernel
theorem d_La_law_4 : decode b_La_law 4 = .ok (.aload_n 0, 1) := by decide +kernel
theorem d_La_law_5 : decode b_La_law 5 = .ok (.iconst 0, 1) := by decide +kernel
theorem d_La_law_6 : decode b_La_law 6 = .ok (.invokestatic 30, 3) := by decide +kernel
theorem d_La_law_9 : decode b_La_law 9 = .ok (.aload_n 0, 1) := by decide +kernel
theorem d_La_law_10 : decode b_La_law 10 = .ok (.iconst 1, 1) := by decide +kernel
theorem d_La_law_11 : decode b_La_law 11 = .ok (.invokestatic 30, 3) := by decide +kernel
theorem d_La_law_14 : decode b_La_law 14 = .ok (.aload_n 0, 1) := by decide +kernel
theorem d_La_law_15 : decode b_La_law 15 = .ok (.iconst 2, 1) := by decide +kernel
theorem d_La_law_16 : decode b_La_law 16 = .ok (.invokestatic 30, 3) := by decide +kernel
theorem d_La_law_19 : decode b_La_law 19 = .ok (.invokespecial 36, 3) := by decide +kernel
theorem d_La_law_22 : decode b_La_law 22 = .ok (.astore_n 1, 1) := by decide +kernel
theorem d_La_law_23 : decode b_La_law 23 = .ok (.new 39, 3) := by decide +kernel
theorem d_La_law_26 : decode b_La_law 26 = .ok (.dup, 1) := by decide +kernel
theorem d_La_law_27 : decode b_La_law 27 = .ok (.aload_n 0, 1) := by decide +kernel
theorem d_La_law_28 : decode b_La_law 28 = .ok (.iconst 0, 1) := by decide +kernel
theorem d_La_law_29 : decode b_La_law 29 = .ok (.invokestatic 30, 3) := by decide +kernel
theorem d_La_law_32 : decode b_La_law 32 = .ok (.aload_n 0, 1) := by decide +kernel
theorem d_La_law_33 : decode b_La_law 33 = .ok (.iconst 1, 1) := by decide +kernel
theorem d_La_law_34 : decode b_La_law 34 = .ok (.invokestatic 30, 3) := by decide +kernel
theorem d_La_law_37 : decode b_La_law 37 = .ok (.aload_n 0, 1) := by decide +kernel
theorem d_La_law_38 : decode b_La_law 38 = .ok (.iconst 2, 1) := by decide +kernel
theorem d_La_law_39 : decode b_La_law 39 = .ok (.invokestatic 30, 3) := by decide +kernel
theorem d_La_law_42 : decode b_La_law 42 = .ok (.invokespecial 41, 3) := by decide +kernel
theorem d_La_law_45 : decode b_La_law 45 = .ok (.astore_n 2, 1) := by decide +kernel
theorem d_La_law_46 : decode b_La_law 46 = .ok (.iconst 1, 1) := by decide +kernel
theorem d_La_law_47 : decode b_La_law 47 = .ok (.newarray .long, 2) := by decide +kernel
theorem d_La_law_49 : decode b_La_law 49 = .ok (.astore_n 3, 1) := by decide +kernel
theorem d_La_law_50 : decode b_La_law 50 = .ok (.iconst 3, 1) := by decide +kernel
theorem d_La_law_51 : decode b_La_law 51 = .ok (.istore 4, 2) := by decide +kernel
theorem d_La_law_53 : decode b_La_law 53 = .ok (.iload 4, 2) := by decide +kernel
theorem d_La_law_55 : decode b_La_law 55 = .ok (.aload_n 0, 1) := by decide +kernel
theorem d_La_law_56 : decode b_La_law 56 = .ok (.arraylength, 1) := by decide +kernel
theorem d_La_law_57 : decode b_La_law 57 = .ok (.iconst 4, 1) := by decide +kernel
theorem d_La_law_58 : decode b_La_law 58 = .ok (.isub, 1) := by decide +kernel
theorem d_La_law_59 : decode b_La_law 59 = .ok (.if_icmp .gt 610, 3) := by decide +kernel
theorem d_La_law_62 : decode b_La_law 62 = .ok (.aload_n 0, 1) := by decide +kernel
theorem d_La_law_63 : decode b_La_law 63 = .ok (.iload 4, 2) := by decide +kernel
theorem d_La_law_65 : decode b_La_law 65 = .ok (.iaload, 1) := by decide +kernel
theorem d_La_law_66 : decode b_La_law 66 = .ok (.bipush 15, 2) := by decide +kernel
theorem d_La_law_68 : decode b_La_law 68 = .ok (.iand, 1) := by decide +kernel
theorem d_La_law_69 : decode b_La_law 69 = .ok (.tableswitch 594 0 12 #[67, 92, 145, 170, 207, 276, 320, 376, 420, 431, 469, 544, 569], 67) := by decide +kernel
theorem d_La_law_136 : decode b_La_law 136 = .ok (.aload_n 1, 1) := by decide +kernel
theorem d_La_law_137 : decode b_La_law 137 = .ok (.aload_n 0, 1) := by decide +kernel
theorem d_La_law_138 : decode b_La_law 138 = .ok (.iload 4, 2) := by decide +kernel
theorem d_La_law_140 : decode b_La_law 140 = .ok (.iconst 1, 1) := by decide +kernel
theorem d_La_law_141 : decode b_La_law 141 = .ok (.iadd, 1) := by decide +kernel
theorem d_La_law_142 : decode b_La_law 142 = .ok (.iaload, 1) := by decide +kernel
theorem d_La_law_143 : decode b_La_law 143 = .ok (.invokevirtual 42, 3) := by decide +kernel
theorem d_La_law_146 : decode b_La_law 146 = .ok (.aload_n 2, 1) := by decide +kernel
theorem d_La_law_147 : decode b_La_law 147 = .ok (.aload_n 0, 1) := by decide +kernel
theorem d_La_law_148 : decode b_La_law 148 = .ok (.iload 4, 2) := by decide +kernel
theorem d_La_law_150 : decode b_La_law 150 = .ok (.iconst 1, 1) := by decide +kernel
theorem d_La_law_151 : decode b_La_law 151 = .ok (.iadd, 1) := by decide +kernel
theorem d_La_law_152 : decode b_La_law 152 = .ok (.iaload, 1) := by decide +kernel
theorem d_La_law_153 : decode b_La_law 153 = .ok (.invokevirtual 46, 3) := by decide +kernel
theorem d_La_law_156 : decode b_La_law 156 = .ok (.if_icmp .eq 507, 3) := by decide +kernel
theorem d_La_law_159 : decode b_La_law 159 = .ok (.iconst 0, 1) := by decide +kernel
theorem d_La_law_160 : decode b_La_law 160 = .ok (.ireturn, 1) := by decide +kernel
theorem d_La_law_161 : decode b_La_law 161 = .ok (.aload_n 1, 1) := by decide +kernel
theorem d_La_law_162 : decode b_La_law 162 = .ok (.aload_n 0, 1) := by decide +kernel
theorem d_La_law_163 : decode b_La_law 163 = .ok (.iload 4, 2) := by decide +kernel
theorem d_La_law_165 : decode b_La_law 165 = .ok (.iconst 1, 1) := by decide +kernel
theorem d_La_law_166 : decode b_La_law 166 = .ok (.iadd, 1) := by decide +kernel
theorem d_La_law_167 : decode b_La_law 167 = .ok (.iaload, 1) := by decide +kernel
theorem d_La_law_168 : decode b_La_law 168 = .ok (.ifCond .eq 7, 3) := by decide +kernel
theorem d_La_law_171 : decode b_La_law 171 = .ok (.iconst 1, 1) := by decide +kernel
theorem d_La_law_172 : decode b_La_law 172 = .ok (.goto 4, 3) := by decide +kernel
theorem d_La_law_175 : decode b_La_law 175 = .ok (.iconst 0, 1) := by decide +kernel
theorem d_La_law_176 : decode b_La_law 176 = .ok (.aload_n 0, 1) := by decide +kernel
theorem d_La_law_177 : decode b_La_law 177 = .ok (.iload 4, 2) := by decide +kernel
theorem d_La_law_179 : decode b_La_law 179 = .ok (.iconst 2, 1) := by decide +kernel
theorem d_La_law_180 : decode b_La_law 180 = .ok (.iadd, 1) := by decide +kernel
theorem d_La_law_181 : decode b_La_law 181 = .ok (.iaload, 1) := by decide +kernel
theorem d_La_law_182 : decode b_La_law 182 = .ok (.invokevirtual 47, 3) := by decide +kernel
theorem d_La_law_185 : decode b_La_law 185 = .ok (.aload_n 2, 1) := by decide +kernel
theorem d_La_law_186 : decode b_La_law 186 = .ok (.aload_n 0, 1) := by decide +kernel
theorem d_La_law_187 : decode b_La_law 187 = .ok (.iload 4, 2) := by decide +kernel
theorem d_La_law_189 : decode b_La_law 189 = .ok (.iconst 1, 1) := by decide +kernel
theorem d_La_law_190 : decode b_La_law 190 = .ok (.iadd, 1) := by decide +kernel
theorem d_La_law_191 : decode b_La_law 191 = .ok (.iaload, 1) := by decide +kernel
theorem d_La_law_192 : decode b_La_law 192 = .ok (.ifCond .eq 7, 3) := by decide +kernel
theorem d_La_law_195 : decode b_La_law 195 = .ok (.iconst 1, 1) := by decide +kernel
theorem d_La_law_196 : decode b_La_law 196 = .ok (.goto 4, 3) := by decide +kernel
theorem d_La_law_199 : decode b_La_law 199 = .ok (.iconst 0, 1) := by decide +kernel
theorem d_La_law_200 : decode b_La_law 200 = .ok (.aload_n 0, 1) := by decide +kernel
theorem d_La_law_201 : decode b_La_law 201 = .ok (.iload 4, 2) := by decide +kernel
theorem d_La_law_203 : decode b_La_law 203 = .ok (.iconst 2, 1) := by decide +kernel
theorem d_La_law_204 : decode b_La_law 204 = .ok (.iadd, 1) := by decide +kernel
theorem d_La_law_205 : decode b_La_law 205 = .ok (.iaload, 1) := by decide +kernel
theorem d_La_law_206 : decode b_La_law 206 = .ok (.invokevirtual 51, 3) := by decide +kernel
theorem d_La_law_209 : decode b_La_law 209 = .ok (.if_icmp .eq 454, 3) := by decide +kernel
theorem d_La_law_212 : decode b_La_law 212 = .ok (.iconst 0, 1) := by decide +kernel
theorem d_La_law_213 : decode b_La_law 213 = .ok (.ireturn, 1) := by decide +kernel
theorem d_La_law_214 : decode b_La_law 214 = .ok (.aload_n 1, 1) := by decide +kernel
theorem d_La_law_215 : decode b_La_law 215 = .ok (.aload_n 0, 1) := by decide +kernel
theorem d_La_law_216 : decode b_La_law 216 = .ok (.iload 4, 2) := by decide +kernel
theorem d_La_law_218 : decode b_La_law 218 = .ok (.iconst 1, 1) := by decide +kernel
theorem d_La_law_219 : decode b_La_law 219 = .ok (.iadd, 1) := by decide +kernel
theorem d_La_law_220 : decode b_La_law 220 = .ok (.iaload, 1) := by decide +kernel
theorem d_La_law_221 : decode b_La_law 221 = .ok (.invokevirtual 52, 3) := by decide +kernel
theorem d_La_law_224 : decode b_La_law 224 = .ok (.aload_n 2, 1) := by decide +kernel
theorem d_La_law_225 : decode b_La_law 225 = .ok (.aload_n 0, 1) := by decide +kernel
theorem d_La_law_226 : decode b_La_law 226 = .ok (.iload 4, 2) := by decide +kernel
theorem d_La_law_228 : decode b_La_law 228 = .ok (.iconst 1, 1) := by decide +kernel
theorem d_La_law_229 : decode b_La_law 229 = .ok (.iadd, 1) := by decide +kernel
theorem d_La_law_230 : decode b_La_law 230 = .ok (.iaload, 1) := by decide +kernel
theorem d_La_law_231 : decode b_La_law 231 = .ok (.invokevirtual 55, 3) := by decide +kernel
theorem d_La_law_234 : decode b_La_law 234 = .ok (.if_icmp .eq 429, 3) := by decide +kernel
theorem d_La_law_237 : decode b_La_law 237 = .ok (.iconst 0, 1) := by decide +kernel
theorem d_La_law_238 : decode b_La_law 238 = .ok (.ireturn, 1) := by decide +kernel
theorem d_La_law_239 : decode b_La_law 239 = .ok (.aload_n 1, 1) := by decide +kernel
theorem d_La_law_240 : decode b_La_law 240 = .ok (.aload_n 0, 1) := by decide +kernel
theorem d_La_law_241 : decode b_La_law 241 = .ok (.iload 4, 2) := by decide +kernel
theorem d_La_law_243 : decode b_La_law 243 = .ok (.iconst 1, 1) := by decide +kernel
theorem d_La_law_244 : decode b_La_law 244 = .ok (.iadd, 1) := by decide +kernel
theorem d_La_law_245 : decode b_La_law 245 = .ok (.iaload, 1) := by decide +kernel
theorem d_La_law_246 : decode b_La_law 246 = .ok (.aload_n 0, 1) := by decide +kernel
theorem d_La_law_247 : decode b_La_law 247 = .ok (.iload 4, 2) := by decide +kernel
theorem d_La_law_249 : decode b_La_law 249 = .ok (.iconst 2, 1) := by decide +kernel
theorem d_La_law_250 : decode b_La_law 250 = .ok (.iadd, 1) := by decide +kernel
theorem d_La_law_251 : decode b_La_law 251 = .ok (.iaload, 1) := by decide +kernel
theorem d_La_law_252 : decode b_La_law 252 = .ok (.invokevirtual 56, 3) := by decide +kernel
theorem d_La_law_255 : decode b_La_law 255 = .ok (.aload_n 2, 1) := by decide +kernel
theorem d_La_law_256 : decode b_La_law 256 = .ok (.aload_n 0, 1) := by decide +kernel
theorem d_La_law_257 : decode b_La_law 257 = .ok (.iload 4, 2) := by decide +kernel
theorem d_La_law_259 : decode b_La_law 259 = .ok (.iconst 1, 1) := by decide +kernel
theorem d_La_law_260 : decode b_La_law 260 = .ok (.iadd, 1) := by decide +kernel
theorem d_La_law_261 : decode b_La_law 261 = .ok (.iaload, 1) := by decide +kernel
theorem d_La_law_262 : decode b_La_law 262 = .ok (.aload_n 0, 1) := by decide +kernel
theorem d_La_law_263 : decode b_La_law 263 = .ok (.iload 4, 2) := by decide +kernel
theorem d_La_law_265 : decode b_La_law 265 = .ok (.iconst 2, 1) := by decide +kernel
theorem d_La_law_266 : decode b_La_law 266 = .ok (.iadd, 1) := by decide +kernel
theorem d_La_law_267 : decode b_La_law 267 = .ok (.iaload, 1) := by decide +kernel
theorem d_La_law_268 : decode b_La_law 268 = .ok (.invokevirtual 59, 3) := by decide +kernel
theorem d_La_law_271 : decode b_La_law 271 = .ok (.if_icmp .eq 392, 3) := by decide +kernel
theorem d_La_law_274 : decode b_La_law 274 = .ok (.iconst 0, 1) := by decide +kernel
theorem d_La_law_275 : decode b_La_law 275 = .ok (.ireturn, 1) := by decide +kernel
theorem d_La_law_276 : decode b_La_law 276 = .ok (.aload_n 1, 1) := by decide +kernel
theorem d_La_law_277 : decode b_La_law 277 = .ok (.aload_n 0, 1) := by decide +kernel
theorem d_La_law_278 : decode b_La_law 278 = .ok (.iload 4, 2) := by decide +kernel
theorem d_La_law_280 : decode b_La_law 280 = .ok (.iconst 1, 1) := by decide +kernel
theorem d_La_law_281 : decode b_La_law 281 = .ok (.iadd, 1) := by decide +kernel
theorem d_La_law_282 : decode b_La_law 282 = .ok (.iaload, 1) := by decide +kernel
theorem d_La_law_283 : decode b_La_law 283 = .ok (.i2l, 1) := by decide +kernel
theorem d_La_law_284 : decode b_La_law 284 = .ok (.bipush 32, 2) := by decide +kernel
theorem d_La_law_286 : decode b_La_law 286 = .ok (.lshl, 1) := by decide +kernel
theorem d_La_law_287 : decode b_La_law 287 = .ok (.aload_n 0, 1) := by decide +kernel
theorem d_La_law_288 : decode b_La_law 288 = .ok (.iload 4, 2) := by decide +kernel
theorem d_La_law_290 : decode b_La_law 290 = .ok (.iconst 2, 1) := by decide +kernel
theorem d_La_law_291 : decode b_La_law 291 = .ok (.iadd, 1) := by decide +kernel
theorem d_La_law_292 : decode b_La_law 292 = .ok (.iaload, 1) := by decide +kernel
theorem d_La_law_293 : decode b_La_law 293 = .ok (.i2l, 1) := by decide +kernel
theorem d_La_law_294 : decode b_La_law 294 = .ok (.ldc2_w 60, 3) := by decide +kernel
theorem d_La_law_297 : decode b_La_law 297 = .ok (.land, 1) := by decide +kernel
theorem d_La_law_298 : decode b_La_law 298 = .ok (.lor, 1) := by decide +kernel
theorem d_La_law_299 : decode b_La_law 299 = .ok (.aload_n 0, 1) := by decide +kernel
theorem d_La_law_300 : decode b_La_law 300 = .ok (.iload 4, 2) := by decide +kernel
theorem d_La_law_302 : decode b_La_law 302 = .ok (.iconst 3, 1) := by decide +kernel
theorem d_La_law_303 : decode b_La_law 303 = .ok (.iadd, 1) := by decide +kernel
theorem d_La_law_304 : decode b_La_law 304 = .ok (.iaload, 1) := by decide +kernel
theorem d_La_law_305 : decode b_La_law 305 = .ok (.invokevirtual 62, 3) := by decide +kernel
theorem d_La_law_308 : decode b_La_law 308 = .ok (.aload_n 2, 1) := by decide +kernel
theorem d_La_law_309 : decode b_La_law 309 = .ok (.aload_n 0, 1) := by decide +kernel
theorem d_La_law_310 : decode b_La_law 310 = .ok (.iload 4, 2) := by decide +kernel
theorem d_La_law_312 : decode b_La_law 312 = .ok (.iconst 1, 1) := by decide +kernel
theorem d_La_law_313 : decode b_La_law 313 = .ok (.iadd, 1) := by decide +kernel
theorem d_La_law_314 : decode b_La_law 314 = .ok (.iaload, 1) := by decide +kernel
theorem d_La_law_315 : decode b_La_law 315 = .ok (.i2l, 1) := by decide +kernel
theorem d_La_law_316 : decode b_La_law 316 = .ok (.bipush 32, 2) := by decide +kernel
theorem d_La_law_318 : decode b_La_law 318 = .ok (.lshl, 1) := by decide +kernel
theorem d_La_law_319 : decode b_La_law 319 = .ok (.aload_n 0, 1) := by decide +kernel
theorem d_La_law_320 : decode b_La_law 320 = .ok (.iload 4, 2) := by decide +kernel
theorem d_La_law_322 : decode b_La_law 322 = .ok (.iconst 2, 1) := by decide +kernel
theorem d_La_law_323 : decode b_La_law 323 = .ok (.iadd, 1) := by decide +kernel
theorem d_La_law_324 : decode b_La_law 324 = .ok (.iaload, 1) := by decide +kernel
theorem d_La_law_325 : decode b_La_law 325 = .ok (.i2l, 1) := by decide +kernel
theorem d_La_law_326 : decode b_La_law 326 = .ok (.ldc2_w 60, 3) := by decide +kernel
theorem d_La_law_329 : decode b_La_law 329 = .ok (.land, 1) := by decide +kernel
theorem d_La_law_330 : decode b_La_law 330 = .ok (.lor, 1) := by decide +kernel
theorem d_La_law_331 : decode b_La_law 331 = .ok (.aload_n 0, 1) := by decide +kernel
theorem d_La_law_332 : decode b_La_law 332 = .ok (.iload 4, 2) := by decide +kernel
theorem d_La_law_334 : decode b_La_law 334 = .ok (.iconst 3, 1) := by decide +kernel
theorem d_La_law_335 : decode b_La_law 335 = .ok (.iadd, 1) := by decide +kernel
theorem d_La_law_336 : decode b_La_law 336 = .ok (.iaload, 1) := by decide +kernel
theorem d_La_law_337 : decode b_La_law 337 = .ok (.invokevirtual 66, 3) := by decide +kernel
theorem d_La_law_340 : decode b_La_law 340 = .ok (.if_icmp .eq 323, 3) := by decide +kernel
theorem d_La_law_343 : decode b_La_law 343 = .ok (.iconst 0, 1) := by decide +kernel
theorem d_La_law_344 : decode b_La_law 344 = .ok (.ireturn, 1) := by decide +kernel
theorem d_La_law_345 : decode b_La_law 345 = .ok (.aload_n 1, 1) := by decide +kernel
theorem d_La_law_346 : decode b_La_law 346 = .ok (.aload_n 3, 1) := by decide +kernel
theorem d_La_law_347 : decode b_La_law 347 = .ok (.invokestatic 67, 3) := by decide +kernel
theorem d_La_law_350 : decode b_La_law 350 = .ok (.istore 5, 2) := by decide +kernel
theorem d_La_law_352 : decode b_La_law 352 = .ok (.aload_n 2, 1) := by decide +kernel
theorem d_La_law_353 : decode b_La_law 353 = .ok (.invokevirtual 70, 3) := by decide +kernel
theorem d_La_law_356 : decode b_La_law 356 = .ok (.istore 6, 2) := by decide +kernel
theorem d_La_law_358 : decode b_La_law 358 = .ok (.aload_n 2, 1) := by decide +kernel
theorem d_La_law_359 : decode b_La_law 359 = .ok (.invokevirtual 71, 3) := by decide +kernel
theorem d_La_law_362 : decode b_La_law 362 = .ok (.iload 5, 2) := by decide +kernel
theorem d_La_law_364 : decode b_La_law 364 = .ok (.if_icmp .eq 5, 3) := by decide +kernel
theorem d_La_law_367 : decode b_La_law 367 = .ok (.iconst 0, 1) := by decide +kernel
theorem d_La_law_368 : decode b_La_law 368 = .ok (.ireturn, 1) := by decide +kernel
theorem d_La_law_369 : decode b_La_law 369 = .ok (.iload 5, 2) := by decide +kernel
theorem d_La_law_371 : decode b_La_law 371 = .ok (.ifCond .ne 15, 3) := by decide +kernel
theorem d_La_law_374 : decode b_La_law 374 = .ok (.aload_n 3, 1) := by decide +kernel
theorem d_La_law_375 : decode b_La_law 375 = .ok (.iconst 0, 1) := by decide +kernel
theorem d_La_law_376 : decode b_La_law 376 = .ok (.laload, 1) := by decide +kernel
theorem d_La_law_377 : decode b_La_law 377 = .ok (.iload 6, 2) := by decide +kernel
theorem d_La_law_379 : decode b_La_law 379 = .ok (.i2l, 1) := by decide +kernel
theorem d_La_law_380 : decode b_La_law 380 = .ok (.lcmp, 1) := by decide +kernel
theorem d_La_law_381 : decode b_La_law 381 = .ok (.ifCond .eq 5, 3) := by decide +kernel
theorem d_La_law_384 : decode b_La_law 384 = .ok (.iconst 0, 1) := by decide +kernel
theorem d_La_law_385 : decode b_La_law 385 = .ok (.ireturn, 1) := by decide +kernel
theorem d_La_law_386 : decode b_La_law 386 = .ok (.goto 277, 3) := by decide +kernel
theorem d_La_law_389 : decode b_La_law 389 = .ok (.aload_n 1, 1) := by decide +kernel
theorem d_La_law_390 : decode b_La_law 390 = .ok (.aload_n 0, 1) := by decide +kernel
theorem d_La_law_391 : decode b_La_law 391 = .ok (.iload 4, 2) := by decide +kernel
theorem d_La_law_393 : decode b_La_law 393 = .ok (.iconst 1, 1) := by decide +kernel
theorem d_La_law_394 : decode b_La_law 394 = .ok (.iadd, 1) := by decide +kernel
theorem d_La_law_395 : decode b_La_law 395 = .ok (.iaload, 1) := by decide +kernel
theorem d_La_law_396 : decode b_La_law 396 = .ok (.aload_n 3, 1) := by decide +kernel
theorem d_La_law_397 : decode b_La_law 397 = .ok (.invokestatic 74, 3) := by decide +kernel
theorem d_La_law_400 : decode b_La_law 400 = .ok (.istore 5, 2) := by decide +kernel
theorem d_La_law_402 : decode b_La_law 402 = .ok (.aload_n 2, 1) := by decide +kernel
theorem d_La_law_403 : decode b_La_law 403 = .ok (.aload_n 0, 1) := by decide +kernel
theorem d_La_law_404 : decode b_La_law 404 = .ok (.iload 4, 2) := by decide +kernel
theorem d_La_law_406 : decode b_La_law 406 = .ok (.iconst 1, 1) := by decide +kernel
theorem d_La_law_407 : decode b_La_law 407 = .ok (.iadd, 1) := by decide +kernel
theorem d_La_law_408 : decode b_La_law 408 = .ok (.iaload, 1) := by decide +kernel
theorem d_La_law_409 : decode b_La_law 409 = .ok (.invokevirtual 77, 3) := by decide +kernel
theorem d_La_law_412 : decode b_La_law 412 = .ok (.istore 6, 2) := by decide +kernel
theorem d_La_law_414 : decode b_La_law 414 = .ok (.aload_n 2, 1) := by decide +kernel
theorem d_La_law_415 : decode b_La_law 415 = .ok (.invokevirtual 71, 3) := by decide +kernel
theorem d_La_law_418 : decode b_La_law 418 = .ok (.iload 5, 2) := by decide +kernel
theorem d_La_law_420 : decode b_La_law 420 = .ok (.if_icmp .eq 5, 3) := by decide +kernel
theorem d_La_law_423 : decode b_La_law 423 = .ok (.iconst 0, 1) := by decide +kernel
theorem d_La_law_424 : decode b_La_law 424 = .ok (.ireturn, 1) := by decide +kernel
theorem d_La_law_425 : decode b_La_law 425 = .ok (.iload 5, 2) := by decide +kernel
theorem d_La_law_427 : decode b_La_law 427 = .ok (.ifCond .ne 15, 3) := by decide +kernel
theorem d_La_law_430 : decode b_La_law 430 = .ok (.aload_n 3, 1) := by decide +kernel
theorem d_La_law_431 : decode b_La_law 431 = .ok (.iconst 0, 1) := by decide +kernel
theorem d_La_law_432 : decode b_La_law 432 = .ok (.laload, 1) := by decide +kernel
theorem d_La_law_433 : decode b_La_law 433 = .ok (.iload 6, 2) := by decide +kernel
theorem d_La_law_435 : decode b_La_law 435 = .ok (.i2l, 1) := by decide +kernel
theorem d_La_law_436 : decode b_La_law 436 = .ok (.lcmp, 1) := by decide +kernel
theorem d_La_law_437 : decode b_La_law 437 = .ok (.ifCond .eq 5, 3) := by decide +kernel
theorem d_La_law_440 : decode b_La_law 440 = .ok (.iconst 0, 1) := by decide +kernel
theorem d_La_law_441 : decode b_La_law 441 = .ok (.ireturn, 1) := by decide +kernel
theorem d_La_law_442 : decode b_La_law 442 = .ok (.goto 221, 3) := by decide +kernel
theorem d_La_law_445 : decode b_La_law 445 = .ok (.aload_n 1, 1) := by decide +kernel
theorem d_La_law_446 : decode b_La_law 446 = .ok (.aload_n 3, 1) := by decide +kernel
theorem d_La_law_447 : decode b_La_law 447 = .ok (.invokestatic 78, 3) := by decide +kernel
theorem d_La_law_450 : decode b_La_law 450 = .ok (.istore 5, 2) := by decide +kernel
theorem d_La_law_452 : decode b_La_law 452 = .ok (.aload_n 2, 1) := by decide +kernel
theorem d_La_law_453 : decode b_La_law 453 = .ok (.invokevirtual 80, 3) := by decide +kernel
theorem d_La_law_456 : decode b_La_law 456 = .ok (.istore 6, 2) := by decide +kernel
theorem d_La_law_458 : decode b_La_law 458 = .ok (.aload_n 2, 1) := by decide +kernel
theorem d_La_law_459 : decode b_La_law 459 = .ok (.invokevirtual 71, 3) := by decide +kernel
theorem d_La_law_462 : decode b_La_law 462 = .ok (.iload 5, 2) := by decide +kernel
theorem d_La_law_464 : decode b_La_law 464 = .ok (.if_icmp .eq 5, 3) := by decide +kernel
theorem d_La_law_467 : decode b_La_law 467 = .ok (.iconst 0, 1) := by decide +kernel
theorem d_La_law_468 : decode b_La_law 468 = .ok (.ireturn, 1) := by decide +kernel
theorem d_La_law_469 : decode b_La_law 469 = .ok (.iload 5, 2) := by decide +kernel
theorem d_La_law_471 : decode b_La_law 471 = .ok (.ifCond .ne 15, 3) := by decide +kernel
theorem d_La_law_474 : decode b_La_law 474 = .ok (.aload_n 3, 1) := by decide +kernel
theorem d_La_law_475 : decode b_La_law 475 = .ok (.iconst 0, 1) := by decide +kernel
theorem d_La_law_476 : decode b_La_law 476 = .ok (.laload, 1) := by decide +kernel
theorem d_La_law_477 : decode b_La_law 477 = .ok (.iload 6, 2) := by decide +kernel
theorem d_La_law_479 : decode b_La_law 479 = .ok (.i2l, 1) := by decide +kernel
theorem d_La_law_480 : decode b_La_law 480 = .ok (.lcmp, 1) := by decide +kernel
theorem d_La_law_481 : decode b_La_law 481 = .ok (.ifCond .eq 5, 3) := by decide +kernel
theorem d_La_law_484 : decode b_La_law 484 = .ok (.iconst 0, 1) := by decide +kernel
theorem d_La_law_485 : decode b_La_law 485 = .ok (.ireturn, 1) := by decide +kernel
theorem d_La_law_486 : decode b_La_law 486 = .ok (.goto 177, 3) := by decide +kernel
theorem d_La_law_489 : decode b_La_law 489 = .ok (.aload_n 1, 1) := by decide +kernel
theorem d_La_law_490 : decode b_La_law 490 = .ok (.invokevirtual 81, 3) := by decide +kernel
theorem d_La_law_493 : decode b_La_law 493 = .ok (.aload_n 2, 1) := by decide +kernel
theorem d_La_law_494 : decode b_La_law 494 = .ok (.invokevirtual 84, 3) := by decide +kernel
theorem d_La_law_497 : decode b_La_law 497 = .ok (.goto 166, 3) := by decide +kernel
theorem d_La_law_500 : decode b_La_law 500 = .ok (.aload_n 1, 1) := by decide +kernel
theorem d_La_law_501 : decode b_La_law 501 = .ok (.aload_n 0, 1) := by decide +kernel
theorem d_La_law_502 : decode b_La_law 502 = .ok (.iload 4, 2) := by decide +kernel
theorem d_La_law_504 : decode b_La_law 504 = .ok (.iconst 1, 1) := by decide +kernel
theorem d_La_law_505 : decode b_La_law 505 = .ok (.iadd, 1) := by decide +kernel
theorem d_La_law_506 : decode b_La_law 506 = .ok (.iaload, 1) := by decide +kernel
theorem d_La_law_507 : decode b_La_law 507 = .ok (.aload_n 0, 1) := by decide +kernel
theorem d_La_law_508 : decode b_La_law 508 = .ok (.iload 4, 2) := by decide +kernel
theorem d_La_law_510 : decode b_La_law 510 = .ok (.iconst 2, 1) := by decide +kernel
theorem d_La_law_511 : decode b_La_law 511 = .ok (.iadd, 1) := by decide +kernel
theorem d_La_law_512 : decode b_La_law 512 = .ok (.iaload, 1) := by decide +kernel
theorem d_La_law_513 : decode b_La_law 513 = .ok (.invokevirtual 85, 3) := by decide +kernel
theorem d_La_law_516 : decode b_La_law 516 = .ok (.aload_n 2, 1) := by decide +kernel
theorem d_La_law_517 : decode b_La_law 517 = .ok (.aload_n 0, 1) := by decide +kernel
theorem d_La_law_518 : decode b_La_law 518 = .ok (.iload 4, 2) := by decide +kernel
theorem d_La_law_520 : decode b_La_law 520 = .ok (.iconst 1, 1) := by decide +kernel
theorem d_La_law_521 : decode b_La_law 521 = .ok (.iadd, 1) := by decide +kernel
theorem d_La_law_522 : decode b_La_law 522 = .ok (.iaload, 1) := by decide +kernel
theorem d_La_law_523 : decode b_La_law 523 = .ok (.aload_n 0, 1) := by decide +kernel
theorem d_La_law_524 : decode b_La_law 524 = .ok (.iload 4, 2) := by decide +kernel
theorem d_La_law_526 : decode b_La_law 526 = .ok (.iconst 2, 1) := by decide +kernel
theorem d_La_law_527 : decode b_La_law 527 = .ok (.iadd, 1) := by decide +kernel
theorem d_La_law_528 : decode b_La_law 528 = .ok (.iaload, 1) := by decide +kernel
theorem d_La_law_529 : decode b_La_law 529 = .ok (.invokevirtual 89, 3) := by decide +kernel
theorem d_La_law_532 : decode b_La_law 532 = .ok (.lcmp, 1) := by decide +kernel
theorem d_La_law_533 : decode b_La_law 533 = .ok (.ifCond .eq 130, 3) := by decide +kernel
theorem d_La_law_536 : decode b_La_law 536 = .ok (.iconst 0, 1) := by decide +kernel
theorem d_La_law_537 : decode b_La_law 537 = .ok (.ireturn, 1) := by decide +kernel
theorem d_La_law_538 : decode b_La_law 538 = .ok (.aload_n 1, 1) := by decide +kernel
theorem d_La_law_539 : decode b_La_law 539 = .ok (.aload_n 0, 1) := by decide +kernel
theorem d_La_law_540 : decode b_La_law 540 = .ok (.iload 4, 2) := by decide +kernel
theorem d_La_law_542 : decode b_La_law 542 = .ok (.iconst 1, 1) := by decide +kernel
theorem d_La_law_543 : decode b_La_law 543 = .ok (.iadd, 1) := by decide +kernel
theorem d_La_law_544 : decode b_La_law 544 = .ok (.iaload, 1) := by decide +kernel
theorem d_La_law_545 : decode b_La_law 545 = .ok (.aload_n 0, 1) := by decide +kernel
theorem d_La_law_546 : decode b_La_law 546 = .ok (.iload 4, 2) := by decide +kernel
theorem d_La_law_548 : decode b_La_law 548 = .ok (.iconst 2, 1) := by decide +kernel
theorem d_La_law_549 : decode b_La_law 549 = .ok (.iadd, 1) := by decide +kernel
theorem d_La_law_550 : decode b_La_law 550 = .ok (.iaload, 1) := by decide +kernel
theorem d_La_law_551 : decode b_La_law 551 = .ok (.aload_n 3, 1) := by decide +kernel
theorem d_La_law_552 : decode b_La_law 552 = .ok (.invokestatic 90, 3) := by decide +kernel
theorem d_La_law_555 : decode b_La_law 555 = .ok (.istore 5, 2) := by decide +kernel
theorem d_La_law_557 : decode b_La_law 557 = .ok (.aload_n 2, 1) := by decide +kernel
theorem d_La_law_558 : decode b_La_law 558 = .ok (.aload_n 0, 1) := by decide +kernel
theorem d_La_law_559 : decode b_La_law 559 = .ok (.iload 4, 2) := by decide +kernel
theorem d_La_law_561 : decode b_La_law 561 = .ok (.iconst 1, 1) := by decide +kernel
theorem d_La_law_562 : decode b_La_law 562 = .ok (.iadd, 1) := by decide +kernel
theorem d_La_law_563 : decode b_La_law 563 = .ok (.iaload, 1) := by decide +kernel
theorem d_La_law_564 : decode b_La_law 564 = .ok (.aload_n 0, 1) := by decide +kernel
theorem d_La_law_565 : decode b_La_law 565 = .ok (.iload 4, 2) := by decide +kernel
theorem d_La_law_567 : decode b_La_law 567 = .ok (.iconst 2, 1) := by decide +kernel
theorem d_La_law_568 : decode b_La_law 568 = .ok (.iadd, 1) := by decide +kernel
theorem d_La_law_569 : decode b_La_law 569 = .ok (.iaload, 1) := by decide +kernel
theorem d_La_law_570 : decode b_La_law 570 = .ok (.invokevirtual 93, 3) := by decide +kernel
theorem d_La_law_573 : decode b_La_law 573 = .ok (.istore 6, 2) := by decide +kernel
theorem d_La_law_575 : decode b_La_law 575 = .ok (.aload_n 2, 1) := by decide +kernel
theorem d_La_law_576 : decode b_La_law 576 = .ok (.invokevirtual 71, 3) := by decide +kernel
theorem d_La_law_579 : decode b_La_law 579 = .ok (.iload 5, 2) := by decide +kernel
theorem d_La_law_581 : decode b_La_law 581 = .ok (.if_icmp .eq 5, 3) := by decide +kernel
theorem d_La_law_584 : decode b_La_law 584 = .ok (.iconst 0, 1) := by decide +kernel
theorem d_La_law_585 : decode b_La_law 585 = .ok (.ireturn, 1) := by decide +kernel
theorem d_La_law_586 : decode b_La_law 586 = .ok (.iload 5, 2) := by decide +kernel
theorem d_La_law_588 : decode b_La_law 588 = .ok (.ifCond .ne 22, 3) := by decide +kernel
theorem d_La_law_591 : decode b_La_law 591 = .ok (.aload_n 3, 1) := by decide +kernel
theorem d_La_law_592 : decode b_La_law 592 = .ok (.iconst 0, 1) := by decide +kernel
theorem d_La_law_593 : decode b_La_law 593 = .ok (.laload, 1) := by decide +kernel
theorem d_La_law_594 : decode b_La_law 594 = .ok (.iload 6, 2) := by decide +kernel
theorem d_La_law_596 : decode b_La_law 596 = .ok (.ifCond .eq 7, 3) := by decide +kernel
theorem d_La_law_599 : decode b_La_law 599 = .ok (.lconst 1, 1) := by decide +kernel
theorem d_La_law_600 : decode b_La_law 600 = .ok (.goto 4, 3) := by decide +kernel
theorem d_La_law_603 : decode b_La_law 603 = .ok (.lconst 0, 1) := by decide +kernel
theorem d_La_law_604 : decode b_La_law 604 = .ok (.lcmp, 1) := by decide +kernel
theorem d_La_law_605 : decode b_La_law 605 = .ok (.ifCond .eq 5, 3) := by decide +kernel
theorem d_La_law_608 : decode b_La_law 608 = .ok (.iconst 0, 1) := by decide +kernel
theorem d_La_law_609 : decode b_La_law 609 = .ok (.ireturn, 1) := by decide +kernel
theorem d_La_law_610 : decode b_La_law 610 = .ok (.goto 53, 3) := by decide +kernel
theorem d_La_law_613 : decode b_La_law 613 = .ok (.aload_n 1, 1) := by decide +kernel
theorem d_La_law_614 : decode b_La_law 614 = .ok (.aload_n 0, 1) := by decide +kernel
theorem d_La_law_615 : decode b_La_law 615 = .ok (.iload 4, 2) := by decide +kernel
theorem d_La_law_617 : decode b_La_law 617 = .ok (.iconst 1, 1) := by decide +kernel
theorem d_La_law_618 : decode b_La_law 618 = .ok (.iadd, 1) := by decide +kernel
theorem d_La_law_619 : decode b_La_law 619 = .ok (.iaload, 1) := by decide +kernel
theorem d_La_law_620 : decode b_La_law 620 = .ok (.invokevirtual 94, 3) := by decide +kernel
theorem d_La_law_623 : decode b_La_law 623 = .ok (.aload_n 2, 1) := by decide +kernel
theorem d_La_law_624 : decode b_La_law 624 = .ok (.aload_n 0, 1) := by decide +kernel
theorem d_La_law_625 : decode b_La_law 625 = .ok (.iload 4, 2) := by decide +kernel
theorem d_La_law_627 : decode b_La_law 627 = .ok (.iconst 1, 1) := by decide +kernel
theorem d_La_law_628 : decode b_La_law 628 = .ok (.iadd, 1) := by decide +kernel
theorem d_La_law_629 : decode b_La_law 629 = .ok (.iaload, 1) := by decide +kernel
theorem d_La_law_630 : decode b_La_law 630 = .ok (.invokevirtual 97, 3) := by decide +kernel
theorem d_La_law_633 : decode b_La_law 633 = .ok (.if_icmp .eq 30, 3) := by decide +kernel
theorem d_La_law_636 : decode b_La_law 636 = .ok (.iconst 0, 1) := by decide +kernel
theorem d_La_law_637 : decode b_La_law 637 = .ok (.ireturn, 1) := by decide +kernel
theorem d_La_law_638 : decode b_La_law 638 = .ok (.aload_n 1, 1) := by decide +kernel
theorem d_La_law_639 : decode b_La_law 639 = .ok (.aload_n 0, 1) := by decide +kernel
theorem d_La_law_640 : decode b_La_law 640 = .ok (.iload 4, 2) := by decide +kernel
theorem d_La_law_642 : decode b_La_law 642 = .ok (.iconst 1, 1) := by decide +kernel
theorem d_La_law_643 : decode b_La_law 643 = .ok (.iadd, 1) := by decide +kernel
theorem d_La_law_644 : decode b_La_law 644 = .ok (.iaload, 1) := by decide +kernel
theorem d_La_law_645 : decode b_La_law 645 = .ok (.invokevirtual 98, 3) := by decide +kernel
theorem d_La_law_648 : decode b_La_law 648 = .ok (.aload_n 2, 1) := by decide +kernel
theorem d_La_law_649 : decode b_La_law 649 = .ok (.aload_n 0, 1) := by decide +kernel
theorem d_La_law_650 : decode b_La_law 650 = .ok (.iload 4, 2) := by decide +kernel
theorem d_La_law_652 : decode b_La_law 652 = .ok (.iconst 1, 1) := by decide +kernel
theorem d_La_law_653 : decode b_La_law 653 = .ok (.iadd, 1) := by decide +kernel
theorem d_La_law_654 : decode b_La_law 654 = .ok (.iaload, 1) := by decide +kernel
theorem d_La_law_655 : decode b_La_law 655 = .ok (.invokevirtual 101, 3) := by decide +kernel
theorem d_La_law_658 : decode b_La_law 658 = .ok (.if_icmp .eq 5, 3) := by decide +kernel
theorem d_La_law_661 : decode b_La_law 661 = .ok (.iconst 0, 1) := by decide +kernel
theorem d_La_law_662 : decode b_La_law 662 = .ok (.ireturn, 1) := by decide +kernel
theorem d_La_law_663 : decode b_La_law 663 = .ok (.iinc 4 4, 3) := by decide +kernel
theorem d_La_law_666 : decode b_La_law 666 = .ok (.goto (-613), 3) := by decide +kernel
theorem d_La_law_669 : decode b_La_law 669 = .ok (.iconst 1, 1) := by decide +kernel
theorem d_La_law_670 : decode b_La_law 670 = .ok (.ireturn, 1) := by decide +kernel
