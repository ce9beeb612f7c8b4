theorem dL_law_0 : decode cL_law 0 = .ok (.new 8, 3) := by decide +kernel
theorem dL_law_3 : decode cL_law 3 = .ok (.dup, 1) := by decide +kernel
theorem dL_law_4 : decode cL_law 4 = .ok (.invokespecial 39, 3) := by decide +kernel
theorem dL_law_7 : decode cL_law 7 = .ok (.astore_n 1, 1) := by decide +kernel
theorem dL_law_8 : decode cL_law 8 = .ok (.new 40, 3) := by decide +kernel
theorem dL_law_11 : decode cL_law 11 = .ok (.dup, 1) := by decide +kernel
theorem dL_law_12 : decode cL_law 12 = .ok (.invokespecial 42, 3) := by decide +kernel
theorem dL_law_15 : decode cL_law 15 = .ok (.astore_n 2, 1) := by decide +kernel
theorem dL_law_16 : decode cL_law 16 = .ok (.iconst 1, 1) := by decide +kernel
theorem dL_law_17 : decode cL_law 17 = .ok (.newarray .long, 2) := by decide +kernel
theorem dL_law_19 : decode cL_law 19 = .ok (.astore_n 3, 1) := by decide +kernel
theorem dL_law_20 : decode cL_law 20 = .ok (.iconst 0, 1) := by decide +kernel
theorem dL_law_21 : decode cL_law 21 = .ok (.istore 4, 2) := by decide +kernel
theorem dL_law_23 : decode cL_law 23 = .ok (.iload 4, 2) := by decide +kernel
theorem dL_law_25 : decode cL_law 25 = .ok (.aload_n 0, 1) := by decide +kernel
theorem dL_law_26 : decode cL_law 26 = .ok (.arraylength, 1) := by decide +kernel
theorem dL_law_27 : decode cL_law 27 = .ok (.iconst 5, 1) := by decide +kernel
theorem dL_law_28 : decode cL_law 28 = .ok (.isub, 1) := by decide +kernel
theorem dL_law_29 : decode cL_law 29 = .ok (.if_icmp .gt 592, 3) := by decide +kernel
theorem dL_law_32 : decode cL_law 32 = .ok (.aload_n 0, 1) := by decide +kernel
theorem dL_law_33 : decode cL_law 33 = .ok (.iload 4, 2) := by decide +kernel
theorem dL_law_35 : decode cL_law 35 = .ok (.iaload, 1) := by decide +kernel
theorem dL_law_36 : decode cL_law 36 = .ok (.bipush 7, 2) := by decide +kernel
theorem dL_law_38 : decode cL_law 38 = .ok (.iand, 1) := by decide +kernel
theorem dL_law_39 : decode cL_law 39 = .ok (.tableswitch 576 0 6 #[41, 137, 225, 281, 356, 452, 520], 41) := by decide +kernel
theorem dL_law_80 : decode cL_law 80 = .ok (.aload_n 1, 1) := by decide +kernel
theorem dL_law_81 : decode cL_law 81 = .ok (.aload_n 0, 1) := by decide +kernel
theorem dL_law_82 : decode cL_law 82 = .ok (.iload 4, 2) := by decide +kernel
theorem dL_law_84 : decode cL_law 84 = .ok (.iconst 1, 1) := by decide +kernel
theorem dL_law_85 : decode cL_law 85 = .ok (.iadd, 1) := by decide +kernel
theorem dL_law_86 : decode cL_law 86 = .ok (.iaload, 1) := by decide +kernel
theorem dL_law_87 : decode cL_law 87 = .ok (.aload_n 0, 1) := by decide +kernel
theorem dL_law_88 : decode cL_law 88 = .ok (.iload 4, 2) := by decide +kernel
theorem dL_law_90 : decode cL_law 90 = .ok (.iconst 2, 1) := by decide +kernel
theorem dL_law_91 : decode cL_law 91 = .ok (.iadd, 1) := by decide +kernel
theorem dL_law_92 : decode cL_law 92 = .ok (.iaload, 1) := by decide +kernel
theorem dL_law_93 : decode cL_law 93 = .ok (.aload_n 0, 1) := by decide +kernel
theorem dL_law_94 : decode cL_law 94 = .ok (.iload 4, 2) := by decide +kernel
theorem dL_law_96 : decode cL_law 96 = .ok (.iconst 3, 1) := by decide +kernel
theorem dL_law_97 : decode cL_law 97 = .ok (.iadd, 1) := by decide +kernel
theorem dL_law_98 : decode cL_law 98 = .ok (.iaload, 1) := by decide +kernel
theorem dL_law_99 : decode cL_law 99 = .ok (.ifCond .eq 7, 3) := by decide +kernel
theorem dL_law_102 : decode cL_law 102 = .ok (.iconst 1, 1) := by decide +kernel
theorem dL_law_103 : decode cL_law 103 = .ok (.goto 4, 3) := by decide +kernel
theorem dL_law_106 : decode cL_law 106 = .ok (.iconst 0, 1) := by decide +kernel
theorem dL_law_107 : decode cL_law 107 = .ok (.aload_n 3, 1) := by decide +kernel
theorem dL_law_108 : decode cL_law 108 = .ok (.invokestatic 43, 3) := by decide +kernel
theorem dL_law_111 : decode cL_law 111 = .ok (.istore 5, 2) := by decide +kernel
theorem dL_law_113 : decode cL_law 113 = .ok (.aload_n 2, 1) := by decide +kernel
theorem dL_law_114 : decode cL_law 114 = .ok (.aload_n 0, 1) := by decide +kernel
theorem dL_law_115 : decode cL_law 115 = .ok (.iload 4, 2) := by decide +kernel
theorem dL_law_117 : decode cL_law 117 = .ok (.iconst 1, 1) := by decide +kernel
theorem dL_law_118 : decode cL_law 118 = .ok (.iadd, 1) := by decide +kernel
theorem dL_law_119 : decode cL_law 119 = .ok (.iaload, 1) := by decide +kernel
theorem dL_law_120 : decode cL_law 120 = .ok (.aload_n 0, 1) := by decide +kernel
theorem dL_law_121 : decode cL_law 121 = .ok (.iload 4, 2) := by decide +kernel
theorem dL_law_123 : decode cL_law 123 = .ok (.iconst 2, 1) := by decide +kernel
theorem dL_law_124 : decode cL_law 124 = .ok (.iadd, 1) := by decide +kernel
theorem dL_law_125 : decode cL_law 125 = .ok (.iaload, 1) := by decide +kernel
theorem dL_law_126 : decode cL_law 126 = .ok (.aload_n 0, 1) := by decide +kernel
theorem dL_law_127 : decode cL_law 127 = .ok (.iload 4, 2) := by decide +kernel
theorem dL_law_129 : decode cL_law 129 = .ok (.iconst 3, 1) := by decide +kernel
theorem dL_law_130 : decode cL_law 130 = .ok (.iadd, 1) := by decide +kernel
theorem dL_law_131 : decode cL_law 131 = .ok (.iaload, 1) := by decide +kernel
theorem dL_law_132 : decode cL_law 132 = .ok (.ifCond .eq 7, 3) := by decide +kernel
theorem dL_law_135 : decode cL_law 135 = .ok (.iconst 1, 1) := by decide +kernel
theorem dL_law_136 : decode cL_law 136 = .ok (.goto 4, 3) := by decide +kernel
theorem dL_law_139 : decode cL_law 139 = .ok (.iconst 0, 1) := by decide +kernel
theorem dL_law_140 : decode cL_law 140 = .ok (.invokevirtual 48, 3) := by decide +kernel
theorem dL_law_143 : decode cL_law 143 = .ok (.istore 6, 2) := by decide +kernel
theorem dL_law_145 : decode cL_law 145 = .ok (.aload_n 2, 1) := by decide +kernel
theorem dL_law_146 : decode cL_law 146 = .ok (.invokevirtual 49, 3) := by decide +kernel
theorem dL_law_149 : decode cL_law 149 = .ok (.iload 5, 2) := by decide +kernel
theorem dL_law_151 : decode cL_law 151 = .ok (.if_icmp .eq 5, 3) := by decide +kernel
theorem dL_law_154 : decode cL_law 154 = .ok (.iconst 0, 1) := by decide +kernel
theorem dL_law_155 : decode cL_law 155 = .ok (.ireturn, 1) := by decide +kernel
theorem dL_law_156 : decode cL_law 156 = .ok (.iload 5, 2) := by decide +kernel
theorem dL_law_158 : decode cL_law 158 = .ok (.ifCond .ne 15, 3) := by decide +kernel
theorem dL_law_161 : decode cL_law 161 = .ok (.aload_n 3, 1) := by decide +kernel
theorem dL_law_162 : decode cL_law 162 = .ok (.iconst 0, 1) := by decide +kernel
theorem dL_law_163 : decode cL_law 163 = .ok (.laload, 1) := by decide +kernel
theorem dL_law_164 : decode cL_law 164 = .ok (.iload 6, 2) := by decide +kernel
theorem dL_law_166 : decode cL_law 166 = .ok (.i2l, 1) := by decide +kernel
theorem dL_law_167 : decode cL_law 167 = .ok (.lcmp, 1) := by decide +kernel
theorem dL_law_168 : decode cL_law 168 = .ok (.ifCond .eq 5, 3) := by decide +kernel
theorem dL_law_171 : decode cL_law 171 = .ok (.iconst 0, 1) := by decide +kernel
theorem dL_law_172 : decode cL_law 172 = .ok (.ireturn, 1) := by decide +kernel
theorem dL_law_173 : decode cL_law 173 = .ok (.goto 442, 3) := by decide +kernel
theorem dL_law_176 : decode cL_law 176 = .ok (.aload_n 1, 1) := by decide +kernel
theorem dL_law_177 : decode cL_law 177 = .ok (.aload_n 0, 1) := by decide +kernel
theorem dL_law_178 : decode cL_law 178 = .ok (.iload 4, 2) := by decide +kernel
theorem dL_law_180 : decode cL_law 180 = .ok (.iconst 1, 1) := by decide +kernel
theorem dL_law_181 : decode cL_law 181 = .ok (.iadd, 1) := by decide +kernel
theorem dL_law_182 : decode cL_law 182 = .ok (.iaload, 1) := by decide +kernel
theorem dL_law_183 : decode cL_law 183 = .ok (.aload_n 0, 1) := by decide +kernel
theorem dL_law_184 : decode cL_law 184 = .ok (.iload 4, 2) := by decide +kernel
theorem dL_law_186 : decode cL_law 186 = .ok (.iconst 2, 1) := by decide +kernel
theorem dL_law_187 : decode cL_law 187 = .ok (.iadd, 1) := by decide +kernel
theorem dL_law_188 : decode cL_law 188 = .ok (.iaload, 1) := by decide +kernel
theorem dL_law_189 : decode cL_law 189 = .ok (.aload_n 0, 1) := by decide +kernel
theorem dL_law_190 : decode cL_law 190 = .ok (.iload 4, 2) := by decide +kernel
theorem dL_law_192 : decode cL_law 192 = .ok (.iconst 3, 1) := by decide +kernel
theorem dL_law_193 : decode cL_law 193 = .ok (.iadd, 1) := by decide +kernel
theorem dL_law_194 : decode cL_law 194 = .ok (.iaload, 1) := by decide +kernel
theorem dL_law_195 : decode cL_law 195 = .ok (.aload_n 0, 1) := by decide +kernel
theorem dL_law_196 : decode cL_law 196 = .ok (.iload 4, 2) := by decide +kernel
theorem dL_law_198 : decode cL_law 198 = .ok (.iconst 4, 1) := by decide +kernel
theorem dL_law_199 : decode cL_law 199 = .ok (.iadd, 1) := by decide +kernel
theorem dL_law_200 : decode cL_law 200 = .ok (.iaload, 1) := by decide +kernel
theorem dL_law_201 : decode cL_law 201 = .ok (.ifCond .eq 7, 3) := by decide +kernel
theorem dL_law_204 : decode cL_law 204 = .ok (.iconst 1, 1) := by decide +kernel
theorem dL_law_205 : decode cL_law 205 = .ok (.goto 4, 3) := by decide +kernel
theorem dL_law_208 : decode cL_law 208 = .ok (.iconst 0, 1) := by decide +kernel
theorem dL_law_209 : decode cL_law 209 = .ok (.invokestatic 53, 3) := by decide +kernel
theorem dL_law_212 : decode cL_law 212 = .ok (.istore 5, 2) := by decide +kernel
theorem dL_law_214 : decode cL_law 214 = .ok (.aload_n 2, 1) := by decide +kernel
theorem dL_law_215 : decode cL_law 215 = .ok (.aload_n 0, 1) := by decide +kernel
theorem dL_law_216 : decode cL_law 216 = .ok (.iload 4, 2) := by decide +kernel
theorem dL_law_218 : decode cL_law 218 = .ok (.iconst 1, 1) := by decide +kernel
theorem dL_law_219 : decode cL_law 219 = .ok (.iadd, 1) := by decide +kernel
theorem dL_law_220 : decode cL_law 220 = .ok (.iaload, 1) := by decide +kernel
theorem dL_law_221 : decode cL_law 221 = .ok (.aload_n 0, 1) := by decide +kernel
theorem dL_law_222 : decode cL_law 222 = .ok (.iload 4, 2) := by decide +kernel
theorem dL_law_224 : decode cL_law 224 = .ok (.iconst 2, 1) := by decide +kernel
theorem dL_law_225 : decode cL_law 225 = .ok (.iadd, 1) := by decide +kernel
theorem dL_law_226 : decode cL_law 226 = .ok (.iaload, 1) := by decide +kernel
theorem dL_law_227 : decode cL_law 227 = .ok (.aload_n 0, 1) := by decide +kernel
theorem dL_law_228 : decode cL_law 228 = .ok (.iload 4, 2) := by decide +kernel
theorem dL_law_230 : decode cL_law 230 = .ok (.iconst 3, 1) := by decide +kernel
theorem dL_law_231 : decode cL_law 231 = .ok (.iadd, 1) := by decide +kernel
theorem dL_law_232 : decode cL_law 232 = .ok (.iaload, 1) := by decide +kernel
theorem dL_law_233 : decode cL_law 233 = .ok (.aload_n 0, 1) := by decide +kernel
theorem dL_law_234 : decode cL_law 234 = .ok (.iload 4, 2) := by decide +kernel
theorem dL_law_236 : decode cL_law 236 = .ok (.iconst 4, 1) := by decide +kernel
theorem dL_law_237 : decode cL_law 237 = .ok (.iadd, 1) := by decide +kernel
theorem dL_law_238 : decode cL_law 238 = .ok (.iaload, 1) := by decide +kernel
theorem dL_law_239 : decode cL_law 239 = .ok (.ifCond .eq 7, 3) := by decide +kernel
theorem dL_law_242 : decode cL_law 242 = .ok (.iconst 1, 1) := by decide +kernel
theorem dL_law_243 : decode cL_law 243 = .ok (.goto 4, 3) := by decide +kernel
theorem dL_law_246 : decode cL_law 246 = .ok (.iconst 0, 1) := by decide +kernel
theorem dL_law_247 : decode cL_law 247 = .ok (.invokevirtual 56, 3) := by decide +kernel
theorem dL_law_250 : decode cL_law 250 = .ok (.aload_n 2, 1) := by decide +kernel
theorem dL_law_251 : decode cL_law 251 = .ok (.invokevirtual 49, 3) := by decide +kernel
theorem dL_law_254 : decode cL_law 254 = .ok (.iload 5, 2) := by decide +kernel
theorem dL_law_256 : decode cL_law 256 = .ok (.if_icmp .eq 5, 3) := by decide +kernel
theorem dL_law_259 : decode cL_law 259 = .ok (.iconst 0, 1) := by decide +kernel
theorem dL_law_260 : decode cL_law 260 = .ok (.ireturn, 1) := by decide +kernel
theorem dL_law_261 : decode cL_law 261 = .ok (.goto 354, 3) := by decide +kernel
theorem dL_law_264 : decode cL_law 264 = .ok (.aload_n 1, 1) := by decide +kernel
theorem dL_law_265 : decode cL_law 265 = .ok (.aload_n 0, 1) := by decide +kernel
theorem dL_law_266 : decode cL_law 266 = .ok (.iload 4, 2) := by decide +kernel
theorem dL_law_268 : decode cL_law 268 = .ok (.iconst 1, 1) := by decide +kernel
theorem dL_law_269 : decode cL_law 269 = .ok (.iadd, 1) := by decide +kernel
theorem dL_law_270 : decode cL_law 270 = .ok (.iaload, 1) := by decide +kernel
theorem dL_law_271 : decode cL_law 271 = .ok (.aload_n 3, 1) := by decide +kernel
theorem dL_law_272 : decode cL_law 272 = .ok (.invokestatic 57, 3) := by decide +kernel
theorem dL_law_275 : decode cL_law 275 = .ok (.istore 5, 2) := by decide +kernel
theorem dL_law_277 : decode cL_law 277 = .ok (.aload_n 2, 1) := by decide +kernel
theorem dL_law_278 : decode cL_law 278 = .ok (.aload_n 0, 1) := by decide +kernel
theorem dL_law_279 : decode cL_law 279 = .ok (.iload 4, 2) := by decide +kernel
theorem dL_law_281 : decode cL_law 281 = .ok (.iconst 1, 1) := by decide +kernel
theorem dL_law_282 : decode cL_law 282 = .ok (.iadd, 1) := by decide +kernel
theorem dL_law_283 : decode cL_law 283 = .ok (.iaload, 1) := by decide +kernel
theorem dL_law_284 : decode cL_law 284 = .ok (.invokevirtual 60, 3) := by decide +kernel
theorem dL_law_287 : decode cL_law 287 = .ok (.istore 6, 2) := by decide +kernel
theorem dL_law_289 : decode cL_law 289 = .ok (.aload_n 2, 1) := by decide +kernel
theorem dL_law_290 : decode cL_law 290 = .ok (.invokevirtual 49, 3) := by decide +kernel
theorem dL_law_293 : decode cL_law 293 = .ok (.iload 5, 2) := by decide +kernel
theorem dL_law_295 : decode cL_law 295 = .ok (.if_icmp .eq 5, 3) := by decide +kernel
theorem dL_law_298 : decode cL_law 298 = .ok (.iconst 0, 1) := by decide +kernel
theorem dL_law_299 : decode cL_law 299 = .ok (.ireturn, 1) := by decide +kernel
theorem dL_law_300 : decode cL_law 300 = .ok (.iload 5, 2) := by decide +kernel
theorem dL_law_302 : decode cL_law 302 = .ok (.ifCond .ne 15, 3) := by decide +kernel
theorem dL_law_305 : decode cL_law 305 = .ok (.aload_n 3, 1) := by decide +kernel
theorem dL_law_306 : decode cL_law 306 = .ok (.iconst 0, 1) := by decide +kernel
theorem dL_law_307 : decode cL_law 307 = .ok (.laload, 1) := by decide +kernel
theorem dL_law_308 : decode cL_law 308 = .ok (.iload 6, 2) := by decide +kernel
theorem dL_law_310 : decode cL_law 310 = .ok (.i2l, 1) := by decide +kernel
theorem dL_law_311 : decode cL_law 311 = .ok (.lcmp, 1) := by decide +kernel
theorem dL_law_312 : decode cL_law 312 = .ok (.ifCond .eq 5, 3) := by decide +kernel
theorem dL_law_315 : decode cL_law 315 = .ok (.iconst 0, 1) := by decide +kernel
theorem dL_law_316 : decode cL_law 316 = .ok (.ireturn, 1) := by decide +kernel
theorem dL_law_317 : decode cL_law 317 = .ok (.goto 298, 3) := by decide +kernel
theorem dL_law_320 : decode cL_law 320 = .ok (.aload_n 1, 1) := by decide +kernel
theorem dL_law_321 : decode cL_law 321 = .ok (.aload_n 0, 1) := by decide +kernel
theorem dL_law_322 : decode cL_law 322 = .ok (.iload 4, 2) := by decide +kernel
theorem dL_law_324 : decode cL_law 324 = .ok (.iconst 1, 1) := by decide +kernel
theorem dL_law_325 : decode cL_law 325 = .ok (.iadd, 1) := by decide +kernel
theorem dL_law_326 : decode cL_law 326 = .ok (.iaload, 1) := by decide +kernel
theorem dL_law_327 : decode cL_law 327 = .ok (.aload_n 0, 1) := by decide +kernel
theorem dL_law_328 : decode cL_law 328 = .ok (.iload 4, 2) := by decide +kernel
theorem dL_law_330 : decode cL_law 330 = .ok (.iconst 2, 1) := by decide +kernel
theorem dL_law_331 : decode cL_law 331 = .ok (.iadd, 1) := by decide +kernel
theorem dL_law_332 : decode cL_law 332 = .ok (.iaload, 1) := by decide +kernel
theorem dL_law_333 : decode cL_law 333 = .ok (.aload_n 3, 1) := by decide +kernel
theorem dL_law_334 : decode cL_law 334 = .ok (.invokestatic 61, 3) := by decide +kernel
theorem dL_law_337 : decode cL_law 337 = .ok (.istore 5, 2) := by decide +kernel
theorem dL_law_339 : decode cL_law 339 = .ok (.aload_n 2, 1) := by decide +kernel
theorem dL_law_340 : decode cL_law 340 = .ok (.aload_n 0, 1) := by decide +kernel
theorem dL_law_341 : decode cL_law 341 = .ok (.iload 4, 2) := by decide +kernel
theorem dL_law_343 : decode cL_law 343 = .ok (.iconst 1, 1) := by decide +kernel
theorem dL_law_344 : decode cL_law 344 = .ok (.iadd, 1) := by decide +kernel
theorem dL_law_345 : decode cL_law 345 = .ok (.iaload, 1) := by decide +kernel
theorem dL_law_346 : decode cL_law 346 = .ok (.aload_n 0, 1) := by decide +kernel
theorem dL_law_347 : decode cL_law 347 = .ok (.iload 4, 2) := by decide +kernel
theorem dL_law_349 : decode cL_law 349 = .ok (.iconst 2, 1) := by decide +kernel
theorem dL_law_350 : decode cL_law 350 = .ok (.iadd, 1) := by decide +kernel
theorem dL_law_351 : decode cL_law 351 = .ok (.iaload, 1) := by decide +kernel
theorem dL_law_352 : decode cL_law 352 = .ok (.invokevirtual 64, 3) := by decide +kernel
theorem dL_law_355 : decode cL_law 355 = .ok (.istore 6, 2) := by decide +kernel
theorem dL_law_357 : decode cL_law 357 = .ok (.aload_n 2, 1) := by decide +kernel
theorem dL_law_358 : decode cL_law 358 = .ok (.invokevirtual 49, 3) := by decide +kernel
theorem dL_law_361 : decode cL_law 361 = .ok (.iload 5, 2) := by decide +kernel
theorem dL_law_363 : decode cL_law 363 = .ok (.if_icmp .eq 5, 3) := by decide +kernel
theorem dL_law_366 : decode cL_law 366 = .ok (.iconst 0, 1) := by decide +kernel
theorem dL_law_367 : decode cL_law 367 = .ok (.ireturn, 1) := by decide +kernel
theorem dL_law_368 : decode cL_law 368 = .ok (.iload 5, 2) := by decide +kernel
theorem dL_law_370 : decode cL_law 370 = .ok (.ifCond .ne 22, 3) := by decide +kernel
theorem dL_law_373 : decode cL_law 373 = .ok (.aload_n 3, 1) := by decide +kernel
theorem dL_law_374 : decode cL_law 374 = .ok (.iconst 0, 1) := by decide +kernel
theorem dL_law_375 : decode cL_law 375 = .ok (.laload, 1) := by decide +kernel
theorem dL_law_376 : decode cL_law 376 = .ok (.iload 6, 2) := by decide +kernel
theorem dL_law_378 : decode cL_law 378 = .ok (.ifCond .eq 7, 3) := by decide +kernel
theorem dL_law_381 : decode cL_law 381 = .ok (.lconst 1, 1) := by decide +kernel
theorem dL_law_382 : decode cL_law 382 = .ok (.goto 4, 3) := by decide +kernel
theorem dL_law_385 : decode cL_law 385 = .ok (.lconst 0, 1) := by decide +kernel
theorem dL_law_386 : decode cL_law 386 = .ok (.lcmp, 1) := by decide +kernel
theorem dL_law_387 : decode cL_law 387 = .ok (.ifCond .eq 5, 3) := by decide +kernel
theorem dL_law_390 : decode cL_law 390 = .ok (.iconst 0, 1) := by decide +kernel
theorem dL_law_391 : decode cL_law 391 = .ok (.ireturn, 1) := by decide +kernel
theorem dL_law_392 : decode cL_law 392 = .ok (.goto 223, 3) := by decide +kernel
theorem dL_law_395 : decode cL_law 395 = .ok (.aload_n 1, 1) := by decide +kernel
theorem dL_law_396 : decode cL_law 396 = .ok (.aload_n 0, 1) := by decide +kernel
theorem dL_law_397 : decode cL_law 397 = .ok (.iload 4, 2) := by decide +kernel
theorem dL_law_399 : decode cL_law 399 = .ok (.iconst 1, 1) := by decide +kernel
theorem dL_law_400 : decode cL_law 400 = .ok (.iadd, 1) := by decide +kernel
theorem dL_law_401 : decode cL_law 401 = .ok (.iaload, 1) := by decide +kernel
theorem dL_law_402 : decode cL_law 402 = .ok (.aload_n 0, 1) := by decide +kernel
theorem dL_law_403 : decode cL_law 403 = .ok (.iload 4, 2) := by decide +kernel
theorem dL_law_405 : decode cL_law 405 = .ok (.iconst 2, 1) := by decide +kernel
theorem dL_law_406 : decode cL_law 406 = .ok (.iadd, 1) := by decide +kernel
theorem dL_law_407 : decode cL_law 407 = .ok (.iaload, 1) := by decide +kernel
theorem dL_law_408 : decode cL_law 408 = .ok (.aload_n 0, 1) := by decide +kernel
theorem dL_law_409 : decode cL_law 409 = .ok (.iload 4, 2) := by decide +kernel
theorem dL_law_411 : decode cL_law 411 = .ok (.iconst 3, 1) := by decide +kernel
theorem dL_law_412 : decode cL_law 412 = .ok (.iadd, 1) := by decide +kernel
theorem dL_law_413 : decode cL_law 413 = .ok (.iaload, 1) := by decide +kernel
theorem dL_law_414 : decode cL_law 414 = .ok (.ifCond .eq 7, 3) := by decide +kernel
theorem dL_law_417 : decode cL_law 417 = .ok (.iconst 1, 1) := by decide +kernel
theorem dL_law_418 : decode cL_law 418 = .ok (.goto 4, 3) := by decide +kernel
theorem dL_law_421 : decode cL_law 421 = .ok (.iconst 0, 1) := by decide +kernel
theorem dL_law_422 : decode cL_law 422 = .ok (.aload_n 3, 1) := by decide +kernel
theorem dL_law_423 : decode cL_law 423 = .ok (.invokestatic 65, 3) := by decide +kernel
theorem dL_law_426 : decode cL_law 426 = .ok (.istore 5, 2) := by decide +kernel
theorem dL_law_428 : decode cL_law 428 = .ok (.aload_n 2, 1) := by decide +kernel
theorem dL_law_429 : decode cL_law 429 = .ok (.aload_n 0, 1) := by decide +kernel
theorem dL_law_430 : decode cL_law 430 = .ok (.iload 4, 2) := by decide +kernel
theorem dL_law_432 : decode cL_law 432 = .ok (.iconst 1, 1) := by decide +kernel
theorem dL_law_433 : decode cL_law 433 = .ok (.iadd, 1) := by decide +kernel
theorem dL_law_434 : decode cL_law 434 = .ok (.iaload, 1) := by decide +kernel
theorem dL_law_435 : decode cL_law 435 = .ok (.aload_n 0, 1) := by decide +kernel
theorem dL_law_436 : decode cL_law 436 = .ok (.iload 4, 2) := by decide +kernel
theorem dL_law_438 : decode cL_law 438 = .ok (.iconst 2, 1) := by decide +kernel
theorem dL_law_439 : decode cL_law 439 = .ok (.iadd, 1) := by decide +kernel
theorem dL_law_440 : decode cL_law 440 = .ok (.iaload, 1) := by decide +kernel
theorem dL_law_441 : decode cL_law 441 = .ok (.aload_n 0, 1) := by decide +kernel
theorem dL_law_442 : decode cL_law 442 = .ok (.iload 4, 2) := by decide +kernel
theorem dL_law_444 : decode cL_law 444 = .ok (.iconst 3, 1) := by decide +kernel
theorem dL_law_445 : decode cL_law 445 = .ok (.iadd, 1) := by decide +kernel
theorem dL_law_446 : decode cL_law 446 = .ok (.iaload, 1) := by decide +kernel
theorem dL_law_447 : decode cL_law 447 = .ok (.ifCond .eq 7, 3) := by decide +kernel
theorem dL_law_450 : decode cL_law 450 = .ok (.iconst 1, 1) := by decide +kernel
theorem dL_law_451 : decode cL_law 451 = .ok (.goto 4, 3) := by decide +kernel
theorem dL_law_454 : decode cL_law 454 = .ok (.iconst 0, 1) := by decide +kernel
theorem dL_law_455 : decode cL_law 455 = .ok (.invokevirtual 67, 3) := by decide +kernel
theorem dL_law_458 : decode cL_law 458 = .ok (.istore 6, 2) := by decide +kernel
theorem dL_law_460 : decode cL_law 460 = .ok (.aload_n 2, 1) := by decide +kernel
theorem dL_law_461 : decode cL_law 461 = .ok (.invokevirtual 49, 3) := by decide +kernel
theorem dL_law_464 : decode cL_law 464 = .ok (.iload 5, 2) := by decide +kernel
theorem dL_law_466 : decode cL_law 466 = .ok (.if_icmp .eq 5, 3) := by decide +kernel
theorem dL_law_469 : decode cL_law 469 = .ok (.iconst 0, 1) := by decide +kernel
theorem dL_law_470 : decode cL_law 470 = .ok (.ireturn, 1) := by decide +kernel
theorem dL_law_471 : decode cL_law 471 = .ok (.iload 5, 2) := by decide +kernel
theorem dL_law_473 : decode cL_law 473 = .ok (.ifCond .ne 15, 3) := by decide +kernel
theorem dL_law_476 : decode cL_law 476 = .ok (.aload_n 3, 1) := by decide +kernel
theorem dL_law_477 : decode cL_law 477 = .ok (.iconst 0, 1) := by decide +kernel
theorem dL_law_478 : decode cL_law 478 = .ok (.laload, 1) := by decide +kernel
theorem dL_law_479 : decode cL_law 479 = .ok (.iload 6, 2) := by decide +kernel
theorem dL_law_481 : decode cL_law 481 = .ok (.i2l, 1) := by decide +kernel
theorem dL_law_482 : decode cL_law 482 = .ok (.lcmp, 1) := by decide +kernel
theorem dL_law_483 : decode cL_law 483 = .ok (.ifCond .eq 5, 3) := by decide +kernel
theorem dL_law_486 : decode cL_law 486 = .ok (.iconst 0, 1) := by decide +kernel
theorem dL_law_487 : decode cL_law 487 = .ok (.ireturn, 1) := by decide +kernel
theorem dL_law_488 : decode cL_law 488 = .ok (.goto 127, 3) := by decide +kernel
theorem dL_law_491 : decode cL_law 491 = .ok (.aload_n 1, 1) := by decide +kernel
theorem dL_law_492 : decode cL_law 492 = .ok (.aload_n 0, 1) := by decide +kernel
theorem dL_law_493 : decode cL_law 493 = .ok (.iload 4, 2) := by decide +kernel
theorem dL_law_495 : decode cL_law 495 = .ok (.iconst 1, 1) := by decide +kernel
theorem dL_law_496 : decode cL_law 496 = .ok (.iadd, 1) := by decide +kernel
theorem dL_law_497 : decode cL_law 497 = .ok (.iaload, 1) := by decide +kernel
theorem dL_law_498 : decode cL_law 498 = .ok (.aload_n 0, 1) := by decide +kernel
theorem dL_law_499 : decode cL_law 499 = .ok (.iload 4, 2) := by decide +kernel
theorem dL_law_501 : decode cL_law 501 = .ok (.iconst 2, 1) := by decide +kernel
theorem dL_law_502 : decode cL_law 502 = .ok (.iadd, 1) := by decide +kernel
theorem dL_law_503 : decode cL_law 503 = .ok (.iaload, 1) := by decide +kernel
theorem dL_law_504 : decode cL_law 504 = .ok (.aload_n 3, 1) := by decide +kernel
theorem dL_law_505 : decode cL_law 505 = .ok (.invokestatic 68, 3) := by decide +kernel
theorem dL_law_508 : decode cL_law 508 = .ok (.istore 5, 2) := by decide +kernel
theorem dL_law_510 : decode cL_law 510 = .ok (.aload_n 2, 1) := by decide +kernel
theorem dL_law_511 : decode cL_law 511 = .ok (.aload_n 0, 1) := by decide +kernel
theorem dL_law_512 : decode cL_law 512 = .ok (.iload 4, 2) := by decide +kernel
theorem dL_law_514 : decode cL_law 514 = .ok (.iconst 1, 1) := by decide +kernel
theorem dL_law_515 : decode cL_law 515 = .ok (.iadd, 1) := by decide +kernel
theorem dL_law_516 : decode cL_law 516 = .ok (.iaload, 1) := by decide +kernel
theorem dL_law_517 : decode cL_law 517 = .ok (.aload_n 0, 1) := by decide +kernel
theorem dL_law_518 : decode cL_law 518 = .ok (.iload 4, 2) := by decide +kernel
theorem dL_law_520 : decode cL_law 520 = .ok (.iconst 2, 1) := by decide +kernel
theorem dL_law_521 : decode cL_law 521 = .ok (.iadd, 1) := by decide +kernel
theorem dL_law_522 : decode cL_law 522 = .ok (.iaload, 1) := by decide +kernel
theorem dL_law_523 : decode cL_law 523 = .ok (.invokevirtual 70, 3) := by decide +kernel
theorem dL_law_526 : decode cL_law 526 = .ok (.istore 6, 2) := by decide +kernel
theorem dL_law_528 : decode cL_law 528 = .ok (.aload_n 2, 1) := by decide +kernel
theorem dL_law_529 : decode cL_law 529 = .ok (.invokevirtual 49, 3) := by decide +kernel
theorem dL_law_532 : decode cL_law 532 = .ok (.iload 5, 2) := by decide +kernel
theorem dL_law_534 : decode cL_law 534 = .ok (.if_icmp .eq 5, 3) := by decide +kernel
theorem dL_law_537 : decode cL_law 537 = .ok (.iconst 0, 1) := by decide +kernel
theorem dL_law_538 : decode cL_law 538 = .ok (.ireturn, 1) := by decide +kernel
theorem dL_law_539 : decode cL_law 539 = .ok (.iload 5, 2) := by decide +kernel
theorem dL_law_541 : decode cL_law 541 = .ok (.ifCond .ne 15, 3) := by decide +kernel
theorem dL_law_544 : decode cL_law 544 = .ok (.aload_n 3, 1) := by decide +kernel
theorem dL_law_545 : decode cL_law 545 = .ok (.iconst 0, 1) := by decide +kernel
theorem dL_law_546 : decode cL_law 546 = .ok (.laload, 1) := by decide +kernel
theorem dL_law_547 : decode cL_law 547 = .ok (.iload 6, 2) := by decide +kernel
theorem dL_law_549 : decode cL_law 549 = .ok (.i2l, 1) := by decide +kernel
theorem dL_law_550 : decode cL_law 550 = .ok (.lcmp, 1) := by decide +kernel
theorem dL_law_551 : decode cL_law 551 = .ok (.ifCond .eq 5, 3) := by decide +kernel
theorem dL_law_554 : decode cL_law 554 = .ok (.iconst 0, 1) := by decide +kernel
theorem dL_law_555 : decode cL_law 555 = .ok (.ireturn, 1) := by decide +kernel
theorem dL_law_556 : decode cL_law 556 = .ok (.goto 59, 3) := by decide +kernel
theorem dL_law_559 : decode cL_law 559 = .ok (.aload_n 1, 1) := by decide +kernel
theorem dL_law_560 : decode cL_law 560 = .ok (.aload_n 0, 1) := by decide +kernel
theorem dL_law_561 : decode cL_law 561 = .ok (.iload 4, 2) := by decide +kernel
theorem dL_law_563 : decode cL_law 563 = .ok (.iconst 1, 1) := by decide +kernel
theorem dL_law_564 : decode cL_law 564 = .ok (.iadd, 1) := by decide +kernel
theorem dL_law_565 : decode cL_law 565 = .ok (.iaload, 1) := by decide +kernel
theorem dL_law_566 : decode cL_law 566 = .ok (.aload_n 3, 1) := by decide +kernel
theorem dL_law_567 : decode cL_law 567 = .ok (.invokestatic 71, 3) := by decide +kernel
theorem dL_law_570 : decode cL_law 570 = .ok (.istore 5, 2) := by decide +kernel
theorem dL_law_572 : decode cL_law 572 = .ok (.aload_n 2, 1) := by decide +kernel
theorem dL_law_573 : decode cL_law 573 = .ok (.aload_n 0, 1) := by decide +kernel
theorem dL_law_574 : decode cL_law 574 = .ok (.iload 4, 2) := by decide +kernel
theorem dL_law_576 : decode cL_law 576 = .ok (.iconst 1, 1) := by decide +kernel
theorem dL_law_577 : decode cL_law 577 = .ok (.iadd, 1) := by decide +kernel
theorem dL_law_578 : decode cL_law 578 = .ok (.iaload, 1) := by decide +kernel
theorem dL_law_579 : decode cL_law 579 = .ok (.invokevirtual 73, 3) := by decide +kernel
theorem dL_law_582 : decode cL_law 582 = .ok (.istore 6, 2) := by decide +kernel
theorem dL_law_584 : decode cL_law 584 = .ok (.aload_n 2, 1) := by decide +kernel
theorem dL_law_585 : decode cL_law 585 = .ok (.invokevirtual 49, 3) := by decide +kernel
theorem dL_law_588 : decode cL_law 588 = .ok (.iload 5, 2) := by decide +kernel
theorem dL_law_590 : decode cL_law 590 = .ok (.if_icmp .eq 5, 3) := by decide +kernel
theorem dL_law_593 : decode cL_law 593 = .ok (.iconst 0, 1) := by decide +kernel
theorem dL_law_594 : decode cL_law 594 = .ok (.ireturn, 1) := by decide +kernel
theorem dL_law_595 : decode cL_law 595 = .ok (.iload 5, 2) := by decide +kernel
theorem dL_law_597 : decode cL_law 597 = .ok (.ifCond .ne 15, 3) := by decide +kernel
theorem dL_law_600 : decode cL_law 600 = .ok (.aload_n 3, 1) := by decide +kernel
theorem dL_law_601 : decode cL_law 601 = .ok (.iconst 0, 1) := by decide +kernel
theorem dL_law_602 : decode cL_law 602 = .ok (.laload, 1) := by decide +kernel
theorem dL_law_603 : decode cL_law 603 = .ok (.iload 6, 2) := by decide +kernel
theorem dL_law_605 : decode cL_law 605 = .ok (.i2l, 1) := by decide +kernel
theorem dL_law_606 : decode cL_law 606 = .ok (.lcmp, 1) := by decide +kernel
theorem dL_law_607 : decode cL_law 607 = .ok (.ifCond .eq 5, 3) := by decide +kernel
theorem dL_law_610 : decode cL_law 610 = .ok (.iconst 0, 1) := by decide +kernel
theorem dL_law_611 : decode cL_law 611 = .ok (.ireturn, 1) := by decide +kernel
theorem dL_law_612 : decode cL_law 612 = .ok (.goto 3, 3) := by decide +kernel
theorem dL_law_615 : decode cL_law 615 = .ok (.iinc 4 5, 3) := by decide +kernel
theorem dL_law_618 : decode cL_law 618 = .ok (.goto (-595), 3) := by decide +kernel
theorem dL_law_621 : decode cL_law 621 = .ok (.iconst 1, 1) := by decide +kernel
theorem dL_law_622 : decode cL_law 622 = .ok (.ireturn, 1) := by decide +kernel
theorem dX6_word_0 : decode cX6_word 0 = .ok (.aload_n 0, 1) := by decide +kernel
theorem dX6_word_1 : decode cX6_word 1 = .ok (.getfield 13, 3) := by decide +kernel
theorem dX6_word_4 : decode cX6_word 4 = .ok (.iload_n 1, 1) := by decide +kernel
theorem dX6_word_5 : decode cX6_word 5 = .ok (.iconst 1, 1) := by decide +kernel
theorem dX6_word_6 : decode cX6_word 6 = .ok (.isub, 1) := by decide +kernel
theorem dX6_word_7 : decode cX6_word 7 = .ok (.iaload, 1) := by decide +kernel
theorem dX6_word_8 : decode cX6_word 8 = .ok (.istore_n 2, 1) := by decide +kernel
theorem dX6_word_9 : decode cX6_word 9 = .ok (.aload_n 0, 1) := by decide +kernel
theorem dX6_word_10 : decode cX6_word 10 = .ok (.getfield 13, 3) := by decide +kernel
theorem dX6_word_13 : decode cX6_word 13 = .ok (.iload_n 1, 1) := by decide +kernel
theorem dX6_word_14 : decode cX6_word 14 = .ok (.iaload, 1) := by decide +kernel
theorem dX6_word_15 : decode cX6_word 15 = .ok (.istore_n 3, 1) := by decide +kernel
theorem dX6_word_16 : decode cX6_word 16 = .ok (.iload_n 2, 1) := by decide +kernel
theorem dX6_word_17 : decode cX6_word 17 = .ok (.iconst 1, 1) := by decide +kernel
theorem dX6_word_18 : decode cX6_word 18 = .ok (.if_icmp .ne 10, 3) := by decide +kernel
theorem dX6_word_21 : decode cX6_word 21 = .ok (.iload_n 3, 1) := by decide +kernel
theorem dX6_word_22 : decode cX6_word 22 = .ok (.iconst 2, 1) := by decide +kernel
theorem dX6_word_23 : decode cX6_word 23 = .ok (.if_icmp .ne 5, 3) := by decide +kernel
theorem dX6_word_26 : decode cX6_word 26 = .ok (.iconst 0, 1) := by decide +kernel
theorem dX6_word_27 : decode cX6_word 27 = .ok (.ireturn, 1) := by decide +kernel
theorem dX6_word_28 : decode cX6_word 28 = .ok (.aload_n 0, 1) := by decide +kernel
theorem dX6_word_29 : decode cX6_word 29 = .ok (.iload_n 2, 1) := by decide +kernel
theorem dX6_word_30 : decode cX6_word 30 = .ok (.invokevirtual 37, 3) := by decide +kernel
theorem dX6_word_33 : decode cX6_word 33 = .ok (.ifCond .ne 11, 3) := by decide +kernel
theorem dX6_word_36 : decode cX6_word 36 = .ok (.aload_n 0, 1) := by decide +kernel
theorem dX6_word_37 : decode cX6_word 37 = .ok (.iload_n 3, 1) := by decide +kernel
theorem dX6_word_38 : decode cX6_word 38 = .ok (.invokevirtual 37, 3) := by decide +kernel
theorem dX6_word_41 : decode cX6_word 41 = .ok (.ifCond .eq 5, 3) := by decide +kernel
theorem dX6_word_44 : decode cX6_word 44 = .ok (.iconst 1, 1) := by decide +kernel
theorem dX6_word_45 : decode cX6_word 45 = .ok (.ireturn, 1) := by decide +kernel
theorem dX6_word_46 : decode cX6_word 46 = .ok (.iload_n 2, 1) := by decide +kernel
theorem dX6_word_47 : decode cX6_word 47 = .ok (.iconst 5, 1) := by decide +kernel
theorem dX6_word_48 : decode cX6_word 48 = .ok (.if_icmp .ne 14, 3) := by decide +kernel
theorem dX6_word_51 : decode cX6_word 51 = .ok (.aload_n 0, 1) := by decide +kernel
theorem dX6_word_52 : decode cX6_word 52 = .ok (.getfield 16, 3) := by decide +kernel
theorem dX6_word_55 : decode cX6_word 55 = .ok (.iload_n 1, 1) := by decide +kernel
theorem dX6_word_56 : decode cX6_word 56 = .ok (.baload, 1) := by decide +kernel
theorem dX6_word_57 : decode cX6_word 57 = .ok (.ifCond .eq 5, 3) := by decide +kernel
theorem dX6_word_60 : decode cX6_word 60 = .ok (.iconst 0, 1) := by decide +kernel
theorem dX6_word_61 : decode cX6_word 61 = .ok (.ireturn, 1) := by decide +kernel
theorem dX6_word_62 : decode cX6_word 62 = .ok (.iload_n 2, 1) := by decide +kernel
theorem dX6_word_63 : decode cX6_word 63 = .ok (.bipush 18, 2) := by decide +kernel
theorem dX6_word_65 : decode cX6_word 65 = .ok (.if_icmp .ne 9, 3) := by decide +kernel
theorem dX6_word_68 : decode cX6_word 68 = .ok (.iload_n 3, 1) := by decide +kernel
theorem dX6_word_69 : decode cX6_word 69 = .ok (.bipush 18, 2) := by decide +kernel
theorem dX6_word_71 : decode cX6_word 71 = .ok (.if_icmp .eq 11, 3) := by decide +kernel
theorem dX6_word_74 : decode cX6_word 74 = .ok (.aload_n 0, 1) := by decide +kernel
theorem dX6_word_75 : decode cX6_word 75 = .ok (.iload_n 3, 1) := by decide +kernel
theorem dX6_word_76 : decode cX6_word 76 = .ok (.invokevirtual 34, 3) := by decide +kernel
theorem dX6_word_79 : decode cX6_word 79 = .ok (.ifCond .eq 5, 3) := by decide +kernel
theorem dX6_word_82 : decode cX6_word 82 = .ok (.iconst 0, 1) := by decide +kernel
theorem dX6_word_83 : decode cX6_word 83 = .ok (.ireturn, 1) := by decide +kernel
theorem dX6_word_84 : decode cX6_word 84 = .ok (.aload_n 0, 1) := by decide +kernel
theorem dX6_word_85 : decode cX6_word 85 = .ok (.iload_n 1, 1) := by decide +kernel
theorem dX6_word_86 : decode cX6_word 86 = .ok (.invokevirtual 44, 3) := by decide +kernel
theorem dX6_word_89 : decode cX6_word 89 = .ok (.istore 4, 2) := by decide +kernel
theorem dX6_word_91 : decode cX6_word 91 = .ok (.aload_n 0, 1) := by decide +kernel
theorem dX6_word_92 : decode cX6_word 92 = .ok (.iload 4, 2) := by decide +kernel
theorem dX6_word_94 : decode cX6_word 94 = .ok (.invokevirtual 47, 3) := by decide +kernel
theorem dX6_word_97 : decode cX6_word 97 = .ok (.istore 5, 2) := by decide +kernel
theorem dX6_word_99 : decode cX6_word 99 = .ok (.aload_n 0, 1) := by decide +kernel
theorem dX6_word_100 : decode cX6_word 100 = .ok (.aload_n 0, 1) := by decide +kernel
theorem dX6_word_101 : decode cX6_word 101 = .ok (.iload 4, 2) := by decide +kernel
theorem dX6_word_103 : decode cX6_word 103 = .ok (.invokevirtual 44, 3) := by decide +kernel
theorem dX6_word_106 : decode cX6_word 106 = .ok (.invokevirtual 47, 3) := by decide +kernel
theorem dX6_word_109 : decode cX6_word 109 = .ok (.istore 6, 2) := by decide +kernel
theorem dX6_word_111 : decode cX6_word 111 = .ok (.aload_n 0, 1) := by decide +kernel
theorem dX6_word_112 : decode cX6_word 112 = .ok (.iload_n 1, 1) := by decide +kernel
theorem dX6_word_113 : decode cX6_word 113 = .ok (.invokevirtual 50, 3) := by decide +kernel
theorem dX6_word_116 : decode cX6_word 116 = .ok (.istore 7, 2) := by decide +kernel
theorem dX6_word_118 : decode cX6_word 118 = .ok (.aload_n 0, 1) := by decide +kernel
theorem dX6_word_119 : decode cX6_word 119 = .ok (.iload 7, 2) := by decide +kernel
theorem dX6_word_121 : decode cX6_word 121 = .ok (.invokevirtual 47, 3) := by decide +kernel
theorem dX6_word_124 : decode cX6_word 124 = .ok (.istore 8, 2) := by decide +kernel
theorem dX6_word_126 : decode cX6_word 126 = .ok (.aload_n 0, 1) := by decide +kernel
theorem dX6_word_127 : decode cX6_word 127 = .ok (.iload 5, 2) := by decide +kernel
theorem dX6_word_129 : decode cX6_word 129 = .ok (.invokevirtual 53, 3) := by decide +kernel
theorem dX6_word_132 : decode cX6_word 132 = .ok (.ifCond .eq 13, 3) := by decide +kernel
theorem dX6_word_135 : decode cX6_word 135 = .ok (.aload_n 0, 1) := by decide +kernel
theorem dX6_word_136 : decode cX6_word 136 = .ok (.iload_n 3, 1) := by decide +kernel
theorem dX6_word_137 : decode cX6_word 137 = .ok (.invokevirtual 53, 3) := by decide +kernel
theorem dX6_word_140 : decode cX6_word 140 = .ok (.ifCond .eq 5, 3) := by decide +kernel
theorem dX6_word_143 : decode cX6_word 143 = .ok (.iconst 0, 1) := by decide +kernel
theorem dX6_word_144 : decode cX6_word 144 = .ok (.ireturn, 1) := by decide +kernel
theorem dX6_word_145 : decode cX6_word 145 = .ok (.aload_n 0, 1) := by decide +kernel
theorem dX6_word_146 : decode cX6_word 146 = .ok (.iload 5, 2) := by decide +kernel
theorem dX6_word_148 : decode cX6_word 148 = .ok (.invokevirtual 53, 3) := by decide +kernel
theorem dX6_word_151 : decode cX6_word 151 = .ok (.ifCond .eq 28, 3) := by decide +kernel
theorem dX6_word_154 : decode cX6_word 154 = .ok (.iload_n 3, 1) := by decide +kernel
theorem dX6_word_155 : decode cX6_word 155 = .ok (.bipush 11, 2) := by decide +kernel
theorem dX6_word_157 : decode cX6_word 157 = .ok (.if_icmp .eq 11, 3) := by decide +kernel
theorem dX6_word_160 : decode cX6_word 160 = .ok (.aload_n 0, 1) := by decide +kernel
theorem dX6_word_161 : decode cX6_word 161 = .ok (.iload_n 3, 1) := by decide +kernel
theorem dX6_word_162 : decode cX6_word 162 = .ok (.invokevirtual 56, 3) := by decide +kernel
theorem dX6_word_165 : decode cX6_word 165 = .ok (.ifCond .eq 14, 3) := by decide +kernel
theorem dX6_word_168 : decode cX6_word 168 = .ok (.aload_n 0, 1) := by decide +kernel
theorem dX6_word_169 : decode cX6_word 169 = .ok (.iload 8, 2) := by decide +kernel
theorem dX6_word_171 : decode cX6_word 171 = .ok (.invokevirtual 53, 3) := by decide +kernel
theorem dX6_word_174 : decode cX6_word 174 = .ok (.ifCond .eq 5, 3) := by decide +kernel
theorem dX6_word_177 : decode cX6_word 177 = .ok (.iconst 0, 1) := by decide +kernel
theorem dX6_word_178 : decode cX6_word 178 = .ok (.ireturn, 1) := by decide +kernel
theorem dX6_word_179 : decode cX6_word 179 = .ok (.aload_n 0, 1) := by decide +kernel
theorem dX6_word_180 : decode cX6_word 180 = .ok (.iload 6, 2) := by decide +kernel
theorem dX6_word_182 : decode cX6_word 182 = .ok (.invokevirtual 53, 3) := by decide +kernel
theorem dX6_word_185 : decode cX6_word 185 = .ok (.ifCond .eq 29, 3) := by decide +kernel
theorem dX6_word_188 : decode cX6_word 188 = .ok (.iload 5, 2) := by decide +kernel
theorem dX6_word_190 : decode cX6_word 190 = .ok (.bipush 11, 2) := by decide +kernel
theorem dX6_word_192 : decode cX6_word 192 = .ok (.if_icmp .eq 12, 3) := by decide +kernel
theorem dX6_word_195 : decode cX6_word 195 = .ok (.aload_n 0, 1) := by decide +kernel
theorem dX6_word_196 : decode cX6_word 196 = .ok (.iload 5, 2) := by decide +kernel
theorem dX6_word_198 : decode cX6_word 198 = .ok (.invokevirtual 56, 3) := by decide +kernel
theorem dX6_word_201 : decode cX6_word 201 = .ok (.ifCond .eq 13, 3) := by decide +kernel
theorem dX6_word_204 : decode cX6_word 204 = .ok (.aload_n 0, 1) := by decide +kernel
theorem dX6_word_205 : decode cX6_word 205 = .ok (.iload_n 3, 1) := by decide +kernel
theorem dX6_word_206 : decode cX6_word 206 = .ok (.invokevirtual 53, 3) := by decide +kernel
theorem dX6_word_209 : decode cX6_word 209 = .ok (.ifCond .eq 5, 3) := by decide +kernel
theorem dX6_word_212 : decode cX6_word 212 = .ok (.iconst 0, 1) := by decide +kernel
theorem dX6_word_213 : decode cX6_word 213 = .ok (.ireturn, 1) := by decide +kernel
theorem dX6_word_214 : decode cX6_word 214 = .ok (.iload 5, 2) := by decide +kernel
theorem dX6_word_216 : decode cX6_word 216 = .ok (.bipush 9, 2) := by decide +kernel
theorem dX6_word_218 : decode cX6_word 218 = .ok (.if_icmp .ne 11, 3) := by decide +kernel
theorem dX6_word_221 : decode cX6_word 221 = .ok (.iload_n 3, 1) := by decide +kernel
theorem dX6_word_222 : decode cX6_word 222 = .ok (.bipush 14, 2) := by decide +kernel
theorem dX6_word_224 : decode cX6_word 224 = .ok (.if_icmp .ne 5, 3) := by decide +kernel
theorem dX6_word_227 : decode cX6_word 227 = .ok (.iconst 0, 1) := by decide +kernel
theorem dX6_word_228 : decode cX6_word 228 = .ok (.ireturn, 1) := by decide +kernel
theorem dX6_word_229 : decode cX6_word 229 = .ok (.iload 5, 2) := by decide +kernel
theorem dX6_word_231 : decode cX6_word 231 = .ok (.bipush 9, 2) := by decide +kernel
theorem dX6_word_233 : decode cX6_word 233 = .ok (.if_icmp .ne 18, 3) := by decide +kernel
theorem dX6_word_236 : decode cX6_word 236 = .ok (.iload_n 3, 1) := by decide +kernel
theorem dX6_word_237 : decode cX6_word 237 = .ok (.bipush 15, 2) := by decide +kernel
theorem dX6_word_239 : decode cX6_word 239 = .ok (.if_icmp .ne 12, 3) := by decide +kernel
theorem dX6_word_242 : decode cX6_word 242 = .ok (.iload 8, 2) := by decide +kernel
theorem dX6_word_244 : decode cX6_word 244 = .ok (.bipush 9, 2) := by decide +kernel
theorem dX6_word_246 : decode cX6_word 246 = .ok (.if_icmp .ne 5, 3) := by decide +kernel
theorem dX6_word_249 : decode cX6_word 249 = .ok (.iconst 0, 1) := by decide +kernel
theorem dX6_word_250 : decode cX6_word 250 = .ok (.ireturn, 1) := by decide +kernel
theorem dX6_word_251 : decode cX6_word 251 = .ok (.iload 6, 2) := by decide +kernel
theorem dX6_word_253 : decode cX6_word 253 = .ok (.bipush 9, 2) := by decide +kernel
theorem dX6_word_255 : decode cX6_word 255 = .ok (.if_icmp .ne 18, 3) := by decide +kernel
theorem dX6_word_258 : decode cX6_word 258 = .ok (.iload 5, 2) := by decide +kernel
theorem dX6_word_260 : decode cX6_word 260 = .ok (.bipush 15, 2) := by decide +kernel
theorem dX6_word_262 : decode cX6_word 262 = .ok (.if_icmp .ne 11, 3) := by decide +kernel
theorem dX6_word_265 : decode cX6_word 265 = .ok (.iload_n 3, 1) := by decide +kernel
theorem dX6_word_266 : decode cX6_word 266 = .ok (.bipush 9, 2) := by decide +kernel
theorem dX6_word_268 : decode cX6_word 268 = .ok (.if_icmp .ne 5, 3) := by decide +kernel
theorem dX6_word_271 : decode cX6_word 271 = .ok (.iconst 0, 1) := by decide +kernel
theorem dX6_word_272 : decode cX6_word 272 = .ok (.ireturn, 1) := by decide +kernel
theorem dX6_word_273 : decode cX6_word 273 = .ok (.iload 5, 2) := by decide +kernel
theorem dX6_word_275 : decode cX6_word 275 = .ok (.bipush 16, 2) := by decide +kernel
theorem dX6_word_277 : decode cX6_word 277 = .ok (.if_icmp .ne 9, 3) := by decide +kernel
theorem dX6_word_280 : decode cX6_word 280 = .ok (.iload_n 3, 1) := by decide +kernel
theorem dX6_word_281 : decode cX6_word 281 = .ok (.bipush 16, 2) := by decide +kernel
theorem dX6_word_283 : decode cX6_word 283 = .ok (.if_icmp .eq 33, 3) := by decide +kernel
theorem dX6_word_286 : decode cX6_word 286 = .ok (.aload_n 0, 1) := by decide +kernel
theorem dX6_word_287 : decode cX6_word 287 = .ok (.iload 5, 2) := by decide +kernel
theorem dX6_word_289 : decode cX6_word 289 = .ok (.invokevirtual 53, 3) := by decide +kernel
theorem dX6_word_292 : decode cX6_word 292 = .ok (.ifCond .eq 9, 3) := by decide +kernel
theorem dX6_word_295 : decode cX6_word 295 = .ok (.iload_n 3, 1) := by decide +kernel
theorem dX6_word_296 : decode cX6_word 296 = .ok (.bipush 16, 2) := by decide +kernel
theorem dX6_word_298 : decode cX6_word 298 = .ok (.if_icmp .eq 18, 3) := by decide +kernel
theorem dX6_word_301 : decode cX6_word 301 = .ok (.iload 5, 2) := by decide +kernel
theorem dX6_word_303 : decode cX6_word 303 = .ok (.bipush 16, 2) := by decide +kernel
theorem dX6_word_305 : decode cX6_word 305 = .ok (.if_icmp .ne 13, 3) := by decide +kernel
theorem dX6_word_308 : decode cX6_word 308 = .ok (.aload_n 0, 1) := by decide +kernel
theorem dX6_word_309 : decode cX6_word 309 = .ok (.iload_n 3, 1) := by decide +kernel
theorem dX6_word_310 : decode cX6_word 310 = .ok (.invokevirtual 53, 3) := by decide +kernel
theorem dX6_word_313 : decode cX6_word 313 = .ok (.ifCond .eq 5, 3) := by decide +kernel
theorem dX6_word_316 : decode cX6_word 316 = .ok (.iconst 0, 1) := by decide +kernel
theorem dX6_word_317 : decode cX6_word 317 = .ok (.ireturn, 1) := by decide +kernel
theorem dX6_word_318 : decode cX6_word 318 = .ok (.iload 6, 2) := by decide +kernel
theorem dX6_word_320 : decode cX6_word 320 = .ok (.bipush 16, 2) := by decide +kernel
theorem dX6_word_322 : decode cX6_word 322 = .ok (.if_icmp .ne 27, 3) := by decide +kernel
theorem dX6_word_325 : decode cX6_word 325 = .ok (.iload 5, 2) := by decide +kernel
theorem dX6_word_327 : decode cX6_word 327 = .ok (.bipush 12, 2) := by decide +kernel
theorem dX6_word_329 : decode cX6_word 329 = .ok (.if_icmp .eq 12, 3) := by decide +kernel
theorem dX6_word_332 : decode cX6_word 332 = .ok (.aload_n 0, 1) := by decide +kernel
theorem dX6_word_333 : decode cX6_word 333 = .ok (.iload 5, 2) := by decide +kernel
theorem dX6_word_335 : decode cX6_word 335 = .ok (.invokevirtual 56, 3) := by decide +kernel
theorem dX6_word_338 : decode cX6_word 338 = .ok (.ifCond .eq 11, 3) := by decide +kernel
theorem dX6_word_341 : decode cX6_word 341 = .ok (.iload_n 3, 1) := by decide +kernel
theorem dX6_word_342 : decode cX6_word 342 = .ok (.bipush 16, 2) := by decide +kernel
theorem dX6_word_344 : decode cX6_word 344 = .ok (.if_icmp .ne 5, 3) := by decide +kernel
theorem dX6_word_347 : decode cX6_word 347 = .ok (.iconst 0, 1) := by decide +kernel
theorem dX6_word_348 : decode cX6_word 348 = .ok (.ireturn, 1) := by decide +kernel
theorem dX6_word_349 : decode cX6_word 349 = .ok (.iload 5, 2) := by decide +kernel
theorem dX6_word_351 : decode cX6_word 351 = .ok (.bipush 16, 2) := by decide +kernel
theorem dX6_word_353 : decode cX6_word 353 = .ok (.if_icmp .ne 26, 3) := by decide +kernel
theorem dX6_word_356 : decode cX6_word 356 = .ok (.iload_n 3, 1) := by decide +kernel
theorem dX6_word_357 : decode cX6_word 357 = .ok (.bipush 12, 2) := by decide +kernel
theorem dX6_word_359 : decode cX6_word 359 = .ok (.if_icmp .eq 11, 3) := by decide +kernel
theorem dX6_word_362 : decode cX6_word 362 = .ok (.aload_n 0, 1) := by decide +kernel
theorem dX6_word_363 : decode cX6_word 363 = .ok (.iload_n 3, 1) := by decide +kernel
theorem dX6_word_364 : decode cX6_word 364 = .ok (.invokevirtual 56, 3) := by decide +kernel
theorem dX6_word_367 : decode cX6_word 367 = .ok (.ifCond .eq 12, 3) := by decide +kernel
theorem dX6_word_370 : decode cX6_word 370 = .ok (.iload 8, 2) := by decide +kernel
theorem dX6_word_372 : decode cX6_word 372 = .ok (.bipush 16, 2) := by decide +kernel
theorem dX6_word_374 : decode cX6_word 374 = .ok (.if_icmp .ne 5, 3) := by decide +kernel
theorem dX6_word_377 : decode cX6_word 377 = .ok (.iconst 0, 1) := by decide +kernel
theorem dX6_word_378 : decode cX6_word 378 = .ok (.ireturn, 1) := by decide +kernel
theorem dX6_word_379 : decode cX6_word 379 = .ok (.iload 5, 2) := by decide +kernel
theorem dX6_word_381 : decode cX6_word 381 = .ok (.bipush 8, 2) := by decide +kernel
theorem dX6_word_383 : decode cX6_word 383 = .ok (.if_icmp .ne 11, 3) := by decide +kernel
theorem dX6_word_386 : decode cX6_word 386 = .ok (.iload_n 3, 1) := by decide +kernel
theorem dX6_word_387 : decode cX6_word 387 = .ok (.bipush 8, 2) := by decide +kernel
theorem dX6_word_389 : decode cX6_word 389 = .ok (.if_icmp .ne 5, 3) := by decide +kernel
theorem dX6_word_392 : decode cX6_word 392 = .ok (.iconst 0, 1) := by decide +kernel
theorem dX6_word_393 : decode cX6_word 393 = .ok (.ireturn, 1) := by decide +kernel
theorem dX6_word_394 : decode cX6_word 394 = .ok (.aload_n 0, 1) := by decide +kernel
theorem dX6_word_395 : decode cX6_word 395 = .ok (.iload 5, 2) := by decide +kernel
theorem dX6_word_397 : decode cX6_word 397 = .ok (.invokevirtual 53, 3) := by decide +kernel
theorem dX6_word_400 : decode cX6_word 400 = .ok (.ifCond .ne 17, 3) := by decide +kernel
theorem dX6_word_403 : decode cX6_word 403 = .ok (.iload 5, 2) := by decide +kernel
theorem dX6_word_405 : decode cX6_word 405 = .ok (.bipush 16, 2) := by decide +kernel
theorem dX6_word_407 : decode cX6_word 407 = .ok (.if_icmp .eq 10, 3) := by decide +kernel
theorem dX6_word_410 : decode cX6_word 410 = .ok (.iload 5, 2) := by decide +kernel
theorem dX6_word_412 : decode cX6_word 412 = .ok (.bipush 8, 2) := by decide +kernel
theorem dX6_word_414 : decode cX6_word 414 = .ok (.if_icmp .ne 7, 3) := by decide +kernel
theorem dX6_word_417 : decode cX6_word 417 = .ok (.iconst 1, 1) := by decide +kernel
theorem dX6_word_418 : decode cX6_word 418 = .ok (.goto 4, 3) := by decide +kernel
theorem dX6_word_421 : decode cX6_word 421 = .ok (.iconst 0, 1) := by decide +kernel
theorem dX6_word_422 : decode cX6_word 422 = .ok (.istore 9, 2) := by decide +kernel
theorem dX6_word_424 : decode cX6_word 424 = .ok (.aload_n 0, 1) := by decide +kernel
theorem dX6_word_425 : decode cX6_word 425 = .ok (.iload_n 3, 1) := by decide +kernel
theorem dX6_word_426 : decode cX6_word 426 = .ok (.invokevirtual 53, 3) := by decide +kernel
theorem dX6_word_429 : decode cX6_word 429 = .ok (.ifCond .ne 15, 3) := by decide +kernel
theorem dX6_word_432 : decode cX6_word 432 = .ok (.iload_n 3, 1) := by decide +kernel
theorem dX6_word_433 : decode cX6_word 433 = .ok (.bipush 16, 2) := by decide +kernel
theorem dX6_word_435 : decode cX6_word 435 = .ok (.if_icmp .eq 9, 3) := by decide +kernel
theorem dX6_word_438 : decode cX6_word 438 = .ok (.iload_n 3, 1) := by decide +kernel
theorem dX6_word_439 : decode cX6_word 439 = .ok (.bipush 8, 2) := by decide +kernel
theorem dX6_word_441 : decode cX6_word 441 = .ok (.if_icmp .ne 7, 3) := by decide +kernel
theorem dX6_word_444 : decode cX6_word 444 = .ok (.iconst 1, 1) := by decide +kernel
theorem dX6_word_445 : decode cX6_word 445 = .ok (.goto 4, 3) := by decide +kernel
theorem dX6_word_448 : decode cX6_word 448 = .ok (.iconst 0, 1) := by decide +kernel
theorem dX6_word_449 : decode cX6_word 449 = .ok (.istore 10, 2) := by decide +kernel
theorem dX6_word_451 : decode cX6_word 451 = .ok (.iload 9, 2) := by decide +kernel
theorem dX6_word_453 : decode cX6_word 453 = .ok (.ifCond .ne 10, 3) := by decide +kernel
theorem dX6_word_456 : decode cX6_word 456 = .ok (.iload 5, 2) := by decide +kernel
theorem dX6_word_458 : decode cX6_word 458 = .ok (.bipush 17, 2) := by decide +kernel
theorem dX6_word_460 : decode cX6_word 460 = .ok (.if_icmp .ne 9, 3) := by decide +kernel
theorem dX6_word_463 : decode cX6_word 463 = .ok (.iload_n 3, 1) := by decide +kernel
theorem dX6_word_464 : decode cX6_word 464 = .ok (.bipush 17, 2) := by decide +kernel
theorem dX6_word_466 : decode cX6_word 466 = .ok (.if_icmp .eq 15, 3) := by decide +kernel
theorem dX6_word_469 : decode cX6_word 469 = .ok (.iload 5, 2) := by decide +kernel
theorem dX6_word_471 : decode cX6_word 471 = .ok (.bipush 17, 2) := by decide +kernel
theorem dX6_word_473 : decode cX6_word 473 = .ok (.if_icmp .ne 10, 3) := by decide +kernel
theorem dX6_word_476 : decode cX6_word 476 = .ok (.iload 10, 2) := by decide +kernel
theorem dX6_word_478 : decode cX6_word 478 = .ok (.ifCond .eq 5, 3) := by decide +kernel
theorem dX6_word_481 : decode cX6_word 481 = .ok (.iconst 0, 1) := by decide +kernel
theorem dX6_word_482 : decode cX6_word 482 = .ok (.ireturn, 1) := by decide +kernel
theorem dX6_word_483 : decode cX6_word 483 = .ok (.iload 5, 2) := by decide +kernel
theorem dX6_word_485 : decode cX6_word 485 = .ok (.bipush 6, 2) := by decide +kernel
theorem dX6_word_487 : decode cX6_word 487 = .ok (.if_icmp .ne 57, 3) := by decide +kernel
theorem dX6_word_490 : decode cX6_word 490 = .ok (.iload_n 3, 1) := by decide +kernel
theorem dX6_word_491 : decode cX6_word 491 = .ok (.bipush 6, 2) := by decide +kernel
theorem dX6_word_493 : decode cX6_word 493 = .ok (.if_icmp .ne 51, 3) := by decide +kernel
theorem dX6_word_496 : decode cX6_word 496 = .ok (.iconst 0, 1) := by decide +kernel
theorem dX6_word_497 : decode cX6_word 497 = .ok (.istore 11, 2) := by decide +kernel
theorem dX6_word_499 : decode cX6_word 499 = .ok (.iload 4, 2) := by decide +kernel
theorem dX6_word_501 : decode cX6_word 501 = .ok (.istore 12, 2) := by decide +kernel
theorem dX6_word_503 : decode cX6_word 503 = .ok (.iload 12, 2) := by decide +kernel
theorem dX6_word_505 : decode cX6_word 505 = .ok (.ifCond .lt 29, 3) := by decide +kernel
theorem dX6_word_508 : decode cX6_word 508 = .ok (.aload_n 0, 1) := by decide +kernel
theorem dX6_word_509 : decode cX6_word 509 = .ok (.getfield 13, 3) := by decide +kernel
theorem dX6_word_512 : decode cX6_word 512 = .ok (.iload 12, 2) := by decide +kernel
theorem dX6_word_514 : decode cX6_word 514 = .ok (.iaload, 1) := by decide +kernel
theorem dX6_word_515 : decode cX6_word 515 = .ok (.bipush 6, 2) := by decide +kernel
theorem dX6_word_517 : decode cX6_word 517 = .ok (.if_icmp .ne 17, 3) := by decide +kernel
theorem dX6_word_520 : decode cX6_word 520 = .ok (.iinc 11 1, 3) := by decide +kernel
theorem dX6_word_523 : decode cX6_word 523 = .ok (.aload_n 0, 1) := by decide +kernel
theorem dX6_word_524 : decode cX6_word 524 = .ok (.iload 12, 2) := by decide +kernel
theorem dX6_word_526 : decode cX6_word 526 = .ok (.invokevirtual 44, 3) := by decide +kernel
theorem dX6_word_529 : decode cX6_word 529 = .ok (.istore 12, 2) := by decide +kernel
theorem dX6_word_531 : decode cX6_word 531 = .ok (.goto (-28), 3) := by decide +kernel
theorem dX6_word_534 : decode cX6_word 534 = .ok (.iload 11, 2) := by decide +kernel
theorem dX6_word_536 : decode cX6_word 536 = .ok (.iconst 2, 1) := by decide +kernel
theorem dX6_word_537 : decode cX6_word 537 = .ok (.irem, 1) := by decide +kernel
theorem dX6_word_538 : decode cX6_word 538 = .ok (.iconst 1, 1) := by decide +kernel
theorem dX6_word_539 : decode cX6_word 539 = .ok (.if_icmp .ne 5, 3) := by decide +kernel
theorem dX6_word_542 : decode cX6_word 542 = .ok (.iconst 0, 1) := by decide +kernel
theorem dX6_word_543 : decode cX6_word 543 = .ok (.ireturn, 1) := by decide +kernel
theorem dX6_word_544 : decode cX6_word 544 = .ok (.iconst 1, 1) := by decide +kernel
theorem dX6_word_545 : decode cX6_word 545 = .ok (.ireturn, 1) := by decide +kernel
theorem dX6_cluster_0 : decode cX6_cluster 0 = .ok (.aload_n 0, 1) := by decide +kernel
theorem dX6_cluster_1 : decode cX6_cluster 1 = .ok (.getfield 7, 3) := by decide +kernel
theorem dX6_cluster_4 : decode cX6_cluster 4 = .ok (.iload_n 1, 1) := by decide +kernel
theorem dX6_cluster_5 : decode cX6_cluster 5 = .ok (.iconst 1, 1) := by decide +kernel
theorem dX6_cluster_6 : decode cX6_cluster 6 = .ok (.isub, 1) := by decide +kernel
theorem dX6_cluster_7 : decode cX6_cluster 7 = .ok (.iaload, 1) := by decide +kernel
theorem dX6_cluster_8 : decode cX6_cluster 8 = .ok (.istore_n 2, 1) := by decide +kernel
theorem dX6_cluster_9 : decode cX6_cluster 9 = .ok (.aload_n 0, 1) := by decide +kernel
theorem dX6_cluster_10 : decode cX6_cluster 10 = .ok (.getfield 7, 3) := by decide +kernel
theorem dX6_cluster_13 : decode cX6_cluster 13 = .ok (.iload_n 1, 1) := by decide +kernel
theorem dX6_cluster_14 : decode cX6_cluster 14 = .ok (.iaload, 1) := by decide +kernel
theorem dX6_cluster_15 : decode cX6_cluster 15 = .ok (.istore_n 3, 1) := by decide +kernel
theorem dX6_cluster_16 : decode cX6_cluster 16 = .ok (.iload_n 2, 1) := by decide +kernel
theorem dX6_cluster_17 : decode cX6_cluster 17 = .ok (.iconst 1, 1) := by decide +kernel
theorem dX6_cluster_18 : decode cX6_cluster 18 = .ok (.if_icmp .ne 10, 3) := by decide +kernel
theorem dX6_cluster_21 : decode cX6_cluster 21 = .ok (.iload_n 3, 1) := by decide +kernel
theorem dX6_cluster_22 : decode cX6_cluster 22 = .ok (.iconst 2, 1) := by decide +kernel
theorem dX6_cluster_23 : decode cX6_cluster 23 = .ok (.if_icmp .ne 5, 3) := by decide +kernel
theorem dX6_cluster_26 : decode cX6_cluster 26 = .ok (.iconst 0, 1) := by decide +kernel
theorem dX6_cluster_27 : decode cX6_cluster 27 = .ok (.ireturn, 1) := by decide +kernel
theorem dX6_cluster_28 : decode cX6_cluster 28 = .ok (.iload_n 2, 1) := by decide +kernel
theorem dX6_cluster_29 : decode cX6_cluster 29 = .ok (.iconst 1, 1) := by decide +kernel
theorem dX6_cluster_30 : decode cX6_cluster 30 = .ok (.if_icmp .lt 8, 3) := by decide +kernel
theorem dX6_cluster_33 : decode cX6_cluster 33 = .ok (.iload_n 2, 1) := by decide +kernel
theorem dX6_cluster_34 : decode cX6_cluster 34 = .ok (.iconst 3, 1) := by decide +kernel
theorem dX6_cluster_35 : decode cX6_cluster 35 = .ok (.if_icmp .le 13, 3) := by decide +kernel
theorem dX6_cluster_38 : decode cX6_cluster 38 = .ok (.iload_n 3, 1) := by decide +kernel
theorem dX6_cluster_39 : decode cX6_cluster 39 = .ok (.iconst 1, 1) := by decide +kernel
theorem dX6_cluster_40 : decode cX6_cluster 40 = .ok (.if_icmp .lt 10, 3) := by decide +kernel
theorem dX6_cluster_43 : decode cX6_cluster 43 = .ok (.iload_n 3, 1) := by decide +kernel
theorem dX6_cluster_44 : decode cX6_cluster 44 = .ok (.iconst 3, 1) := by decide +kernel
theorem dX6_cluster_45 : decode cX6_cluster 45 = .ok (.if_icmp .gt 5, 3) := by decide +kernel
theorem dX6_cluster_48 : decode cX6_cluster 48 = .ok (.iconst 1, 1) := by decide +kernel
theorem dX6_cluster_49 : decode cX6_cluster 49 = .ok (.ireturn, 1) := by decide +kernel
theorem dX6_cluster_50 : decode cX6_cluster 50 = .ok (.iload_n 2, 1) := by decide +kernel
theorem dX6_cluster_51 : decode cX6_cluster 51 = .ok (.bipush 9, 2) := by decide +kernel
theorem dX6_cluster_53 : decode cX6_cluster 53 = .ok (.if_icmp .ne 29, 3) := by decide +kernel
theorem dX6_cluster_56 : decode cX6_cluster 56 = .ok (.iload_n 3, 1) := by decide +kernel
theorem dX6_cluster_57 : decode cX6_cluster 57 = .ok (.bipush 9, 2) := by decide +kernel
theorem dX6_cluster_59 : decode cX6_cluster 59 = .ok (.if_icmp .eq 21, 3) := by decide +kernel
theorem dX6_cluster_62 : decode cX6_cluster 62 = .ok (.iload_n 3, 1) := by decide +kernel
theorem dX6_cluster_63 : decode cX6_cluster 63 = .ok (.bipush 10, 2) := by decide +kernel
theorem dX6_cluster_65 : decode cX6_cluster 65 = .ok (.if_icmp .eq 15, 3) := by decide +kernel
theorem dX6_cluster_68 : decode cX6_cluster 68 = .ok (.iload_n 3, 1) := by decide +kernel
theorem dX6_cluster_69 : decode cX6_cluster 69 = .ok (.bipush 12, 2) := by decide +kernel
theorem dX6_cluster_71 : decode cX6_cluster 71 = .ok (.if_icmp .eq 9, 3) := by decide +kernel
theorem dX6_cluster_74 : decode cX6_cluster 74 = .ok (.iload_n 3, 1) := by decide +kernel
theorem dX6_cluster_75 : decode cX6_cluster 75 = .ok (.bipush 13, 2) := by decide +kernel
theorem dX6_cluster_77 : decode cX6_cluster 77 = .ok (.if_icmp .ne 5, 3) := by decide +kernel
theorem dX6_cluster_80 : decode cX6_cluster 80 = .ok (.iconst 0, 1) := by decide +kernel
theorem dX6_cluster_81 : decode cX6_cluster 81 = .ok (.ireturn, 1) := by decide +kernel
theorem dX6_cluster_82 : decode cX6_cluster 82 = .ok (.iload_n 2, 1) := by decide +kernel
theorem dX6_cluster_83 : decode cX6_cluster 83 = .ok (.bipush 12, 2) := by decide +kernel
theorem dX6_cluster_85 : decode cX6_cluster 85 = .ok (.if_icmp .eq 9, 3) := by decide +kernel
theorem dX6_cluster_88 : decode cX6_cluster 88 = .ok (.iload_n 2, 1) := by decide +kernel
theorem dX6_cluster_89 : decode cX6_cluster 89 = .ok (.bipush 10, 2) := by decide +kernel
theorem dX6_cluster_91 : decode cX6_cluster 91 = .ok (.if_icmp .ne 17, 3) := by decide +kernel
theorem dX6_cluster_94 : decode cX6_cluster 94 = .ok (.iload_n 3, 1) := by decide +kernel
theorem dX6_cluster_95 : decode cX6_cluster 95 = .ok (.bipush 10, 2) := by decide +kernel
theorem dX6_cluster_97 : decode cX6_cluster 97 = .ok (.if_icmp .eq 9, 3) := by decide +kernel
theorem dX6_cluster_100 : decode cX6_cluster 100 = .ok (.iload_n 3, 1) := by decide +kernel
theorem dX6_cluster_101 : decode cX6_cluster 101 = .ok (.bipush 11, 2) := by decide +kernel
theorem dX6_cluster_103 : decode cX6_cluster 103 = .ok (.if_icmp .ne 5, 3) := by decide +kernel
theorem dX6_cluster_106 : decode cX6_cluster 106 = .ok (.iconst 0, 1) := by decide +kernel
theorem dX6_cluster_107 : decode cX6_cluster 107 = .ok (.ireturn, 1) := by decide +kernel
theorem dX6_cluster_108 : decode cX6_cluster 108 = .ok (.iload_n 2, 1) := by decide +kernel
theorem dX6_cluster_109 : decode cX6_cluster 109 = .ok (.bipush 13, 2) := by decide +kernel
theorem dX6_cluster_111 : decode cX6_cluster 111 = .ok (.if_icmp .eq 9, 3) := by decide +kernel
theorem dX6_cluster_114 : decode cX6_cluster 114 = .ok (.iload_n 2, 1) := by decide +kernel
theorem dX6_cluster_115 : decode cX6_cluster 115 = .ok (.bipush 11, 2) := by decide +kernel
theorem dX6_cluster_117 : decode cX6_cluster 117 = .ok (.if_icmp .ne 11, 3) := by decide +kernel
theorem dX6_cluster_120 : decode cX6_cluster 120 = .ok (.iload_n 3, 1) := by decide +kernel
theorem dX6_cluster_121 : decode cX6_cluster 121 = .ok (.bipush 11, 2) := by decide +kernel
theorem dX6_cluster_123 : decode cX6_cluster 123 = .ok (.if_icmp .ne 5, 3) := by decide +kernel
theorem dX6_cluster_126 : decode cX6_cluster 126 = .ok (.iconst 0, 1) := by decide +kernel
theorem dX6_cluster_127 : decode cX6_cluster 127 = .ok (.ireturn, 1) := by decide +kernel
theorem dX6_cluster_128 : decode cX6_cluster 128 = .ok (.iload_n 3, 1) := by decide +kernel
theorem dX6_cluster_129 : decode cX6_cluster 129 = .ok (.iconst 4, 1) := by decide +kernel
theorem dX6_cluster_130 : decode cX6_cluster 130 = .ok (.if_icmp .eq 20, 3) := by decide +kernel
theorem dX6_cluster_133 : decode cX6_cluster 133 = .ok (.iload_n 3, 1) := by decide +kernel
theorem dX6_cluster_134 : decode cX6_cluster 134 = .ok (.iconst 5, 1) := by decide +kernel
theorem dX6_cluster_135 : decode cX6_cluster 135 = .ok (.if_icmp .eq 15, 3) := by decide +kernel
theorem dX6_cluster_138 : decode cX6_cluster 138 = .ok (.iload_n 3, 1) := by decide +kernel
theorem dX6_cluster_139 : decode cX6_cluster 139 = .ok (.bipush 8, 2) := by decide +kernel
theorem dX6_cluster_141 : decode cX6_cluster 141 = .ok (.if_icmp .eq 9, 3) := by decide +kernel
theorem dX6_cluster_144 : decode cX6_cluster 144 = .ok (.iload_n 2, 1) := by decide +kernel
theorem dX6_cluster_145 : decode cX6_cluster 145 = .ok (.bipush 7, 2) := by decide +kernel
theorem dX6_cluster_147 : decode cX6_cluster 147 = .ok (.if_icmp .ne 5, 3) := by decide +kernel
theorem dX6_cluster_150 : decode cX6_cluster 150 = .ok (.iconst 0, 1) := by decide +kernel
theorem dX6_cluster_151 : decode cX6_cluster 151 = .ok (.ireturn, 1) := by decide +kernel
theorem dX6_cluster_152 : decode cX6_cluster 152 = .ok (.iload_n 2, 1) := by decide +kernel
theorem dX6_cluster_153 : decode cX6_cluster 153 = .ok (.iconst 5, 1) := by decide +kernel
theorem dX6_cluster_154 : decode cX6_cluster 154 = .ok (.if_icmp .ne 66, 3) := by decide +kernel
theorem dX6_cluster_157 : decode cX6_cluster 157 = .ok (.aload_n 0, 1) := by decide +kernel
theorem dX6_cluster_158 : decode cX6_cluster 158 = .ok (.getfield 16, 3) := by decide +kernel
theorem dX6_cluster_161 : decode cX6_cluster 161 = .ok (.iload_n 1, 1) := by decide +kernel
theorem dX6_cluster_162 : decode cX6_cluster 162 = .ok (.baload, 1) := by decide +kernel
theorem dX6_cluster_163 : decode cX6_cluster 163 = .ok (.ifCond .eq 57, 3) := by decide +kernel
theorem dX6_cluster_166 : decode cX6_cluster 166 = .ok (.iload_n 1, 1) := by decide +kernel
theorem dX6_cluster_167 : decode cX6_cluster 167 = .ok (.iconst 2, 1) := by decide +kernel
theorem dX6_cluster_168 : decode cX6_cluster 168 = .ok (.isub, 1) := by decide +kernel
theorem dX6_cluster_169 : decode cX6_cluster 169 = .ok (.istore 4, 2) := by decide +kernel
theorem dX6_cluster_171 : decode cX6_cluster 171 = .ok (.iload 4, 2) := by decide +kernel
theorem dX6_cluster_173 : decode cX6_cluster 173 = .ok (.ifCond .lt 30, 3) := by decide +kernel
theorem dX6_cluster_176 : decode cX6_cluster 176 = .ok (.aload_n 0, 1) := by decide +kernel
theorem dX6_cluster_177 : decode cX6_cluster 177 = .ok (.getfield 16, 3) := by decide +kernel
theorem dX6_cluster_180 : decode cX6_cluster 180 = .ok (.iload 4, 2) := by decide +kernel
theorem dX6_cluster_182 : decode cX6_cluster 182 = .ok (.baload, 1) := by decide +kernel
theorem dX6_cluster_183 : decode cX6_cluster 183 = .ok (.ifCond .ne 20, 3) := by decide +kernel
theorem dX6_cluster_186 : decode cX6_cluster 186 = .ok (.aload_n 0, 1) := by decide +kernel
theorem dX6_cluster_187 : decode cX6_cluster 187 = .ok (.getfield 7, 3) := by decide +kernel
theorem dX6_cluster_190 : decode cX6_cluster 190 = .ok (.iload 4, 2) := by decide +kernel
theorem dX6_cluster_192 : decode cX6_cluster 192 = .ok (.iaload, 1) := by decide +kernel
theorem dX6_cluster_193 : decode cX6_cluster 193 = .ok (.iconst 4, 1) := by decide +kernel
theorem dX6_cluster_194 : decode cX6_cluster 194 = .ok (.if_icmp .ne 9, 3) := by decide +kernel
theorem dX6_cluster_197 : decode cX6_cluster 197 = .ok (.iinc 4 (-1), 3) := by decide +kernel
theorem dX6_cluster_200 : decode cX6_cluster 200 = .ok (.goto (-29), 3) := by decide +kernel
theorem dX6_cluster_203 : decode cX6_cluster 203 = .ok (.iload 4, 2) := by decide +kernel
theorem dX6_cluster_205 : decode cX6_cluster 205 = .ok (.ifCond .lt 15, 3) := by decide +kernel
theorem dX6_cluster_208 : decode cX6_cluster 208 = .ok (.aload_n 0, 1) := by decide +kernel
theorem dX6_cluster_209 : decode cX6_cluster 209 = .ok (.getfield 16, 3) := by decide +kernel
theorem dX6_cluster_212 : decode cX6_cluster 212 = .ok (.iload 4, 2) := by decide +kernel
theorem dX6_cluster_214 : decode cX6_cluster 214 = .ok (.baload, 1) := by decide +kernel
theorem dX6_cluster_215 : decode cX6_cluster 215 = .ok (.ifCond .eq 5, 3) := by decide +kernel
theorem dX6_cluster_218 : decode cX6_cluster 218 = .ok (.iconst 0, 1) := by decide +kernel
theorem dX6_cluster_219 : decode cX6_cluster 219 = .ok (.ireturn, 1) := by decide +kernel
theorem dX6_cluster_220 : decode cX6_cluster 220 = .ok (.iload_n 2, 1) := by decide +kernel
theorem dX6_cluster_221 : decode cX6_cluster 221 = .ok (.bipush 6, 2) := by decide +kernel
theorem dX6_cluster_223 : decode cX6_cluster 223 = .ok (.if_icmp .ne 53, 3) := by decide +kernel
theorem dX6_cluster_226 : decode cX6_cluster 226 = .ok (.iload_n 3, 1) := by decide +kernel
theorem dX6_cluster_227 : decode cX6_cluster 227 = .ok (.bipush 6, 2) := by decide +kernel
theorem dX6_cluster_229 : decode cX6_cluster 229 = .ok (.if_icmp .ne 47, 3) := by decide +kernel
theorem dX6_cluster_232 : decode cX6_cluster 232 = .ok (.iconst 0, 1) := by decide +kernel
theorem dX6_cluster_233 : decode cX6_cluster 233 = .ok (.istore 4, 2) := by decide +kernel
theorem dX6_cluster_235 : decode cX6_cluster 235 = .ok (.iload_n 1, 1) := by decide +kernel
theorem dX6_cluster_236 : decode cX6_cluster 236 = .ok (.iconst 1, 1) := by decide +kernel
theorem dX6_cluster_237 : decode cX6_cluster 237 = .ok (.isub, 1) := by decide +kernel
theorem dX6_cluster_238 : decode cX6_cluster 238 = .ok (.istore 5, 2) := by decide +kernel
theorem dX6_cluster_240 : decode cX6_cluster 240 = .ok (.iload 5, 2) := by decide +kernel
theorem dX6_cluster_242 : decode cX6_cluster 242 = .ok (.ifCond .lt 24, 3) := by decide +kernel
theorem dX6_cluster_245 : decode cX6_cluster 245 = .ok (.aload_n 0, 1) := by decide +kernel
theorem dX6_cluster_246 : decode cX6_cluster 246 = .ok (.getfield 7, 3) := by decide +kernel
theorem dX6_cluster_249 : decode cX6_cluster 249 = .ok (.iload 5, 2) := by decide +kernel
theorem dX6_cluster_251 : decode cX6_cluster 251 = .ok (.iaload, 1) := by decide +kernel
theorem dX6_cluster_252 : decode cX6_cluster 252 = .ok (.bipush 6, 2) := by decide +kernel
theorem dX6_cluster_254 : decode cX6_cluster 254 = .ok (.if_icmp .ne 12, 3) := by decide +kernel
theorem dX6_cluster_257 : decode cX6_cluster 257 = .ok (.iinc 4 1, 3) := by decide +kernel
theorem dX6_cluster_260 : decode cX6_cluster 260 = .ok (.iinc 5 (-1), 3) := by decide +kernel
theorem dX6_cluster_263 : decode cX6_cluster 263 = .ok (.goto (-23), 3) := by decide +kernel
theorem dX6_cluster_266 : decode cX6_cluster 266 = .ok (.iload 4, 2) := by decide +kernel
theorem dX6_cluster_268 : decode cX6_cluster 268 = .ok (.iconst 2, 1) := by decide +kernel
theorem dX6_cluster_269 : decode cX6_cluster 269 = .ok (.irem, 1) := by decide +kernel
theorem dX6_cluster_270 : decode cX6_cluster 270 = .ok (.iconst 1, 1) := by decide +kernel
theorem dX6_cluster_271 : decode cX6_cluster 271 = .ok (.if_icmp .ne 5, 3) := by decide +kernel
theorem dX6_cluster_274 : decode cX6_cluster 274 = .ok (.iconst 0, 1) := by decide +kernel
theorem dX6_cluster_275 : decode cX6_cluster 275 = .ok (.ireturn, 1) := by decide +kernel
theorem dX6_cluster_276 : decode cX6_cluster 276 = .ok (.iconst 1, 1) := by decide +kernel
theorem dX6_cluster_277 : decode cX6_cluster 277 = .ok (.ireturn, 1) := by decide +kernel
