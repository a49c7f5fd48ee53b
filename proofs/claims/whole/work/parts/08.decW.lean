theorem cd_W_read_0 : decode cb_W_read 0 = .ok (.aload_n 1, 1) := by decide +kernel
theorem cd_W_read_1 : decode cb_W_read 1 = .ok (.iconst 0, 1) := by decide +kernel
theorem cd_W_read_2 : decode cb_W_read 2 = .ok (.aload_n 0, 1) := by decide +kernel
theorem cd_W_read_3 : decode cb_W_read 3 = .ok (.invokevirtual 7, 3) := by decide +kernel
theorem cd_W_read_6 : decode cb_W_read 6 = .ok (.i2l, 1) := by decide +kernel
theorem cd_W_read_7 : decode cb_W_read 7 = .ok (.lastore, 1) := by decide +kernel
theorem cd_W_read_8 : decode cb_W_read 8 = .ok (.goto 6, 3) := by decide +kernel
theorem cd_W_read_11 : decode cb_W_read 11 = .ok (.astore_n 2, 1) := by decide +kernel
theorem cd_W_read_12 : decode cb_W_read 12 = .ok (.iconst 1, 1) := by decide +kernel
theorem cd_W_read_13 : decode cb_W_read 13 = .ok (.ireturn, 1) := by decide +kernel
theorem cd_W_read_14 : decode cb_W_read 14 = .ok (.iconst 0, 1) := by decide +kernel
theorem cd_W_read_15 : decode cb_W_read 15 = .ok (.ireturn, 1) := by decide +kernel
theorem cd_W_merge_0 : decode cb_W_merge 0 = .ok (.aload_n 1, 1) := by decide +kernel
theorem cd_W_merge_1 : decode cb_W_merge 1 = .ok (.iconst 0, 1) := by decide +kernel
theorem cd_W_merge_2 : decode cb_W_merge 2 = .ok (.aload_n 0, 1) := by decide +kernel
theorem cd_W_merge_3 : decode cb_W_merge 3 = .ok (.invokevirtual 15, 3) := by decide +kernel
theorem cd_W_merge_6 : decode cb_W_merge 6 = .ok (.i2l, 1) := by decide +kernel
theorem cd_W_merge_7 : decode cb_W_merge 7 = .ok (.lastore, 1) := by decide +kernel
theorem cd_W_merge_8 : decode cb_W_merge 8 = .ok (.goto 6, 3) := by decide +kernel
theorem cd_W_merge_11 : decode cb_W_merge 11 = .ok (.astore_n 2, 1) := by decide +kernel
theorem cd_W_merge_12 : decode cb_W_merge 12 = .ok (.iconst 1, 1) := by decide +kernel
theorem cd_W_merge_13 : decode cb_W_merge 13 = .ok (.ireturn, 1) := by decide +kernel
theorem cd_W_merge_14 : decode cb_W_merge 14 = .ok (.iconst 0, 1) := by decide +kernel
theorem cd_W_merge_15 : decode cb_W_merge 15 = .ok (.ireturn, 1) := by decide +kernel
theorem cd_W_law_0 : decode cb_W_law 0 = .ok (.new 8, 3) := by decide +kernel
theorem cd_W_law_3 : decode cb_W_law 3 = .ok (.dup, 1) := by decide +kernel
theorem cd_W_law_4 : decode cb_W_law 4 = .ok (.invokespecial 18, 3) := by decide +kernel
theorem cd_W_law_7 : decode cb_W_law 7 = .ok (.astore_n 1, 1) := by decide +kernel
theorem cd_W_law_8 : decode cb_W_law 8 = .ok (.new 19, 3) := by decide +kernel
theorem cd_W_law_11 : decode cb_W_law 11 = .ok (.dup, 1) := by decide +kernel
theorem cd_W_law_12 : decode cb_W_law 12 = .ok (.invokespecial 21, 3) := by decide +kernel
theorem cd_W_law_15 : decode cb_W_law 15 = .ok (.astore_n 2, 1) := by decide +kernel
theorem cd_W_law_16 : decode cb_W_law 16 = .ok (.iconst 1, 1) := by decide +kernel
theorem cd_W_law_17 : decode cb_W_law 17 = .ok (.newarray .long, 2) := by decide +kernel
theorem cd_W_law_19 : decode cb_W_law 19 = .ok (.astore_n 3, 1) := by decide +kernel
theorem cd_W_law_20 : decode cb_W_law 20 = .ok (.iconst 0, 1) := by decide +kernel
theorem cd_W_law_21 : decode cb_W_law 21 = .ok (.istore 4, 2) := by decide +kernel
theorem cd_W_law_23 : decode cb_W_law 23 = .ok (.iload 4, 2) := by decide +kernel
theorem cd_W_law_25 : decode cb_W_law 25 = .ok (.aload_n 0, 1) := by decide +kernel
theorem cd_W_law_26 : decode cb_W_law 26 = .ok (.arraylength, 1) := by decide +kernel
theorem cd_W_law_27 : decode cb_W_law 27 = .ok (.iconst 4, 1) := by decide +kernel
theorem cd_W_law_28 : decode cb_W_law 28 = .ok (.isub, 1) := by decide +kernel
theorem cd_W_law_29 : decode cb_W_law 29 = .ok (.if_icmp .gt 822, 3) := by decide +kernel
theorem cd_W_law_32 : decode cb_W_law 32 = .ok (.aload_n 0, 1) := by decide +kernel
theorem cd_W_law_33 : decode cb_W_law 33 = .ok (.iload 4, 2) := by decide +kernel
theorem cd_W_law_35 : decode cb_W_law 35 = .ok (.iaload, 1) := by decide +kernel
theorem cd_W_law_36 : decode cb_W_law 36 = .ok (.bipush 31, 2) := by decide +kernel
theorem cd_W_law_38 : decode cb_W_law 38 = .ok (.iand, 1) := by decide +kernel
theorem cd_W_law_39 : decode cb_W_law 39 = .ok (.tableswitch 806 0 20 #[97, 120, 164, 177, 214, 251, 288, 325, 350, 375, 424, 461, 498, 535, 572, 609, 662, 706, 743, 768, 781], 97) := by decide +kernel
theorem cd_W_law_136 : decode cb_W_law 136 = .ok (.aload_n 1, 1) := by decide +kernel
theorem cd_W_law_137 : decode cb_W_law 137 = .ok (.aload_n 0, 1) := by decide +kernel
theorem cd_W_law_138 : decode cb_W_law 138 = .ok (.iload 4, 2) := by decide +kernel
theorem cd_W_law_140 : decode cb_W_law 140 = .ok (.iconst 1, 1) := by decide +kernel
theorem cd_W_law_141 : decode cb_W_law 141 = .ok (.iadd, 1) := by decide +kernel
theorem cd_W_law_142 : decode cb_W_law 142 = .ok (.iaload, 1) := by decide +kernel
theorem cd_W_law_143 : decode cb_W_law 143 = .ok (.invokevirtual 22, 3) := by decide +kernel
theorem cd_W_law_146 : decode cb_W_law 146 = .ok (.aload_n 2, 1) := by decide +kernel
theorem cd_W_law_147 : decode cb_W_law 147 = .ok (.aload_n 0, 1) := by decide +kernel
theorem cd_W_law_148 : decode cb_W_law 148 = .ok (.iload 4, 2) := by decide +kernel
theorem cd_W_law_150 : decode cb_W_law 150 = .ok (.iconst 1, 1) := by decide +kernel
theorem cd_W_law_151 : decode cb_W_law 151 = .ok (.iadd, 1) := by decide +kernel
theorem cd_W_law_152 : decode cb_W_law 152 = .ok (.iaload, 1) := by decide +kernel
theorem cd_W_law_153 : decode cb_W_law 153 = .ok (.invokevirtual 26, 3) := by decide +kernel
theorem cd_W_law_156 : decode cb_W_law 156 = .ok (.goto 689, 3) := by decide +kernel
theorem cd_W_law_159 : decode cb_W_law 159 = .ok (.aload_n 1, 1) := by decide +kernel
theorem cd_W_law_160 : decode cb_W_law 160 = .ok (.aload_n 3, 1) := by decide +kernel
theorem cd_W_law_161 : decode cb_W_law 161 = .ok (.invokestatic 27, 3) := by decide +kernel
theorem cd_W_law_164 : decode cb_W_law 164 = .ok (.istore 5, 2) := by decide +kernel
theorem cd_W_law_166 : decode cb_W_law 166 = .ok (.aload_n 2, 1) := by decide +kernel
theorem cd_W_law_167 : decode cb_W_law 167 = .ok (.invokevirtual 32, 3) := by decide +kernel
theorem cd_W_law_170 : decode cb_W_law 170 = .ok (.istore 6, 2) := by decide +kernel
theorem cd_W_law_172 : decode cb_W_law 172 = .ok (.aload_n 2, 1) := by decide +kernel
theorem cd_W_law_173 : decode cb_W_law 173 = .ok (.invokevirtual 33, 3) := by decide +kernel
theorem cd_W_law_176 : decode cb_W_law 176 = .ok (.iload 5, 2) := by decide +kernel
theorem cd_W_law_178 : decode cb_W_law 178 = .ok (.if_icmp .eq 5, 3) := by decide +kernel
theorem cd_W_law_181 : decode cb_W_law 181 = .ok (.iconst 0, 1) := by decide +kernel
theorem cd_W_law_182 : decode cb_W_law 182 = .ok (.ireturn, 1) := by decide +kernel
theorem cd_W_law_183 : decode cb_W_law 183 = .ok (.iload 5, 2) := by decide +kernel
theorem cd_W_law_185 : decode cb_W_law 185 = .ok (.ifCond .ne 15, 3) := by decide +kernel
theorem cd_W_law_188 : decode cb_W_law 188 = .ok (.aload_n 3, 1) := by decide +kernel
theorem cd_W_law_189 : decode cb_W_law 189 = .ok (.iconst 0, 1) := by decide +kernel
theorem cd_W_law_190 : decode cb_W_law 190 = .ok (.laload, 1) := by decide +kernel
theorem cd_W_law_191 : decode cb_W_law 191 = .ok (.iload 6, 2) := by decide +kernel
theorem cd_W_law_193 : decode cb_W_law 193 = .ok (.i2l, 1) := by decide +kernel
theorem cd_W_law_194 : decode cb_W_law 194 = .ok (.lcmp, 1) := by decide +kernel
theorem cd_W_law_195 : decode cb_W_law 195 = .ok (.ifCond .eq 5, 3) := by decide +kernel
theorem cd_W_law_198 : decode cb_W_law 198 = .ok (.iconst 0, 1) := by decide +kernel
theorem cd_W_law_199 : decode cb_W_law 199 = .ok (.ireturn, 1) := by decide +kernel
theorem cd_W_law_200 : decode cb_W_law 200 = .ok (.goto 645, 3) := by decide +kernel
theorem cd_W_law_203 : decode cb_W_law 203 = .ok (.aload_n 1, 1) := by decide +kernel
theorem cd_W_law_204 : decode cb_W_law 204 = .ok (.invokevirtual 36, 3) := by decide +kernel
theorem cd_W_law_207 : decode cb_W_law 207 = .ok (.aload_n 2, 1) := by decide +kernel
theorem cd_W_law_208 : decode cb_W_law 208 = .ok (.invokevirtual 39, 3) := by decide +kernel
theorem cd_W_law_211 : decode cb_W_law 211 = .ok (.if_icmp .eq 634, 3) := by decide +kernel
theorem cd_W_law_214 : decode cb_W_law 214 = .ok (.iconst 0, 1) := by decide +kernel
theorem cd_W_law_215 : decode cb_W_law 215 = .ok (.ireturn, 1) := by decide +kernel
theorem cd_W_law_216 : decode cb_W_law 216 = .ok (.aload_n 1, 1) := by decide +kernel
theorem cd_W_law_217 : decode cb_W_law 217 = .ok (.aload_n 0, 1) := by decide +kernel
theorem cd_W_law_218 : decode cb_W_law 218 = .ok (.iload 4, 2) := by decide +kernel
theorem cd_W_law_220 : decode cb_W_law 220 = .ok (.iconst 1, 1) := by decide +kernel
theorem cd_W_law_221 : decode cb_W_law 221 = .ok (.iadd, 1) := by decide +kernel
theorem cd_W_law_222 : decode cb_W_law 222 = .ok (.iaload, 1) := by decide +kernel
theorem cd_W_law_223 : decode cb_W_law 223 = .ok (.aload_n 0, 1) := by decide +kernel
theorem cd_W_law_224 : decode cb_W_law 224 = .ok (.iload 4, 2) := by decide +kernel
theorem cd_W_law_226 : decode cb_W_law 226 = .ok (.iconst 2, 1) := by decide +kernel
theorem cd_W_law_227 : decode cb_W_law 227 = .ok (.iadd, 1) := by decide +kernel
theorem cd_W_law_228 : decode cb_W_law 228 = .ok (.iaload, 1) := by decide +kernel
theorem cd_W_law_229 : decode cb_W_law 229 = .ok (.invokevirtual 40, 3) := by decide +kernel
theorem cd_W_law_232 : decode cb_W_law 232 = .ok (.aload_n 2, 1) := by decide +kernel
theorem cd_W_law_233 : decode cb_W_law 233 = .ok (.aload_n 0, 1) := by decide +kernel
theorem cd_W_law_234 : decode cb_W_law 234 = .ok (.iload 4, 2) := by decide +kernel
theorem cd_W_law_236 : decode cb_W_law 236 = .ok (.iconst 1, 1) := by decide +kernel
theorem cd_W_law_237 : decode cb_W_law 237 = .ok (.iadd, 1) := by decide +kernel
theorem cd_W_law_238 : decode cb_W_law 238 = .ok (.iaload, 1) := by decide +kernel
theorem cd_W_law_239 : decode cb_W_law 239 = .ok (.aload_n 0, 1) := by decide +kernel
theorem cd_W_law_240 : decode cb_W_law 240 = .ok (.iload 4, 2) := by decide +kernel
theorem cd_W_law_242 : decode cb_W_law 242 = .ok (.iconst 2, 1) := by decide +kernel
theorem cd_W_law_243 : decode cb_W_law 243 = .ok (.iadd, 1) := by decide +kernel
theorem cd_W_law_244 : decode cb_W_law 244 = .ok (.iaload, 1) := by decide +kernel
theorem cd_W_law_245 : decode cb_W_law 245 = .ok (.invokevirtual 44, 3) := by decide +kernel
theorem cd_W_law_248 : decode cb_W_law 248 = .ok (.if_icmp .eq 597, 3) := by decide +kernel
theorem cd_W_law_251 : decode cb_W_law 251 = .ok (.iconst 0, 1) := by decide +kernel
theorem cd_W_law_252 : decode cb_W_law 252 = .ok (.ireturn, 1) := by decide +kernel
theorem cd_W_law_253 : decode cb_W_law 253 = .ok (.aload_n 1, 1) := by decide +kernel
theorem cd_W_law_254 : decode cb_W_law 254 = .ok (.aload_n 0, 1) := by decide +kernel
theorem cd_W_law_255 : decode cb_W_law 255 = .ok (.iload 4, 2) := by decide +kernel
theorem cd_W_law_257 : decode cb_W_law 257 = .ok (.iconst 1, 1) := by decide +kernel
theorem cd_W_law_258 : decode cb_W_law 258 = .ok (.iadd, 1) := by decide +kernel
theorem cd_W_law_259 : decode cb_W_law 259 = .ok (.iaload, 1) := by decide +kernel
theorem cd_W_law_260 : decode cb_W_law 260 = .ok (.aload_n 0, 1) := by decide +kernel
theorem cd_W_law_261 : decode cb_W_law 261 = .ok (.iload 4, 2) := by decide +kernel
theorem cd_W_law_263 : decode cb_W_law 263 = .ok (.iconst 2, 1) := by decide +kernel
theorem cd_W_law_264 : decode cb_W_law 264 = .ok (.iadd, 1) := by decide +kernel
theorem cd_W_law_265 : decode cb_W_law 265 = .ok (.iaload, 1) := by decide +kernel
theorem cd_W_law_266 : decode cb_W_law 266 = .ok (.invokevirtual 45, 3) := by decide +kernel
theorem cd_W_law_269 : decode cb_W_law 269 = .ok (.aload_n 2, 1) := by decide +kernel
theorem cd_W_law_270 : decode cb_W_law 270 = .ok (.aload_n 0, 1) := by decide +kernel
theorem cd_W_law_271 : decode cb_W_law 271 = .ok (.iload 4, 2) := by decide +kernel
theorem cd_W_law_273 : decode cb_W_law 273 = .ok (.iconst 1, 1) := by decide +kernel
theorem cd_W_law_274 : decode cb_W_law 274 = .ok (.iadd, 1) := by decide +kernel
theorem cd_W_law_275 : decode cb_W_law 275 = .ok (.iaload, 1) := by decide +kernel
theorem cd_W_law_276 : decode cb_W_law 276 = .ok (.aload_n 0, 1) := by decide +kernel
theorem cd_W_law_277 : decode cb_W_law 277 = .ok (.iload 4, 2) := by decide +kernel
theorem cd_W_law_279 : decode cb_W_law 279 = .ok (.iconst 2, 1) := by decide +kernel
theorem cd_W_law_280 : decode cb_W_law 280 = .ok (.iadd, 1) := by decide +kernel
theorem cd_W_law_281 : decode cb_W_law 281 = .ok (.iaload, 1) := by decide +kernel
theorem cd_W_law_282 : decode cb_W_law 282 = .ok (.invokevirtual 48, 3) := by decide +kernel
theorem cd_W_law_285 : decode cb_W_law 285 = .ok (.if_icmp .eq 560, 3) := by decide +kernel
theorem cd_W_law_288 : decode cb_W_law 288 = .ok (.iconst 0, 1) := by decide +kernel
theorem cd_W_law_289 : decode cb_W_law 289 = .ok (.ireturn, 1) := by decide +kernel
theorem cd_W_law_290 : decode cb_W_law 290 = .ok (.aload_n 1, 1) := by decide +kernel
theorem cd_W_law_291 : decode cb_W_law 291 = .ok (.aload_n 0, 1) := by decide +kernel
theorem cd_W_law_292 : decode cb_W_law 292 = .ok (.iload 4, 2) := by decide +kernel
theorem cd_W_law_294 : decode cb_W_law 294 = .ok (.iconst 1, 1) := by decide +kernel
theorem cd_W_law_295 : decode cb_W_law 295 = .ok (.iadd, 1) := by decide +kernel
theorem cd_W_law_296 : decode cb_W_law 296 = .ok (.iaload, 1) := by decide +kernel
theorem cd_W_law_297 : decode cb_W_law 297 = .ok (.aload_n 0, 1) := by decide +kernel
theorem cd_W_law_298 : decode cb_W_law 298 = .ok (.iload 4, 2) := by decide +kernel
theorem cd_W_law_300 : decode cb_W_law 300 = .ok (.iconst 2, 1) := by decide +kernel
theorem cd_W_law_301 : decode cb_W_law 301 = .ok (.iadd, 1) := by decide +kernel
theorem cd_W_law_302 : decode cb_W_law 302 = .ok (.iaload, 1) := by decide +kernel
theorem cd_W_law_303 : decode cb_W_law 303 = .ok (.invokevirtual 49, 3) := by decide +kernel
theorem cd_W_law_306 : decode cb_W_law 306 = .ok (.aload_n 2, 1) := by decide +kernel
theorem cd_W_law_307 : decode cb_W_law 307 = .ok (.aload_n 0, 1) := by decide +kernel
theorem cd_W_law_308 : decode cb_W_law 308 = .ok (.iload 4, 2) := by decide +kernel
theorem cd_W_law_310 : decode cb_W_law 310 = .ok (.iconst 1, 1) := by decide +kernel
theorem cd_W_law_311 : decode cb_W_law 311 = .ok (.iadd, 1) := by decide +kernel
theorem cd_W_law_312 : decode cb_W_law 312 = .ok (.iaload, 1) := by decide +kernel
theorem cd_W_law_313 : decode cb_W_law 313 = .ok (.aload_n 0, 1) := by decide +kernel
theorem cd_W_law_314 : decode cb_W_law 314 = .ok (.iload 4, 2) := by decide +kernel
theorem cd_W_law_316 : decode cb_W_law 316 = .ok (.iconst 2, 1) := by decide +kernel
theorem cd_W_law_317 : decode cb_W_law 317 = .ok (.iadd, 1) := by decide +kernel
theorem cd_W_law_318 : decode cb_W_law 318 = .ok (.iaload, 1) := by decide +kernel
theorem cd_W_law_319 : decode cb_W_law 319 = .ok (.invokevirtual 52, 3) := by decide +kernel
theorem cd_W_law_322 : decode cb_W_law 322 = .ok (.if_icmp .eq 523, 3) := by decide +kernel
theorem cd_W_law_325 : decode cb_W_law 325 = .ok (.iconst 0, 1) := by decide +kernel
theorem cd_W_law_326 : decode cb_W_law 326 = .ok (.ireturn, 1) := by decide +kernel
theorem cd_W_law_327 : decode cb_W_law 327 = .ok (.aload_n 1, 1) := by decide +kernel
theorem cd_W_law_328 : decode cb_W_law 328 = .ok (.aload_n 0, 1) := by decide +kernel
theorem cd_W_law_329 : decode cb_W_law 329 = .ok (.iload 4, 2) := by decide +kernel
theorem cd_W_law_331 : decode cb_W_law 331 = .ok (.iconst 1, 1) := by decide +kernel
theorem cd_W_law_332 : decode cb_W_law 332 = .ok (.iadd, 1) := by decide +kernel
theorem cd_W_law_333 : decode cb_W_law 333 = .ok (.iaload, 1) := by decide +kernel
theorem cd_W_law_334 : decode cb_W_law 334 = .ok (.aload_n 0, 1) := by decide +kernel
theorem cd_W_law_335 : decode cb_W_law 335 = .ok (.iload 4, 2) := by decide +kernel
theorem cd_W_law_337 : decode cb_W_law 337 = .ok (.iconst 2, 1) := by decide +kernel
theorem cd_W_law_338 : decode cb_W_law 338 = .ok (.iadd, 1) := by decide +kernel
theorem cd_W_law_339 : decode cb_W_law 339 = .ok (.iaload, 1) := by decide +kernel
theorem cd_W_law_340 : decode cb_W_law 340 = .ok (.invokevirtual 53, 3) := by decide +kernel
theorem cd_W_law_343 : decode cb_W_law 343 = .ok (.aload_n 2, 1) := by decide +kernel
theorem cd_W_law_344 : decode cb_W_law 344 = .ok (.aload_n 0, 1) := by decide +kernel
theorem cd_W_law_345 : decode cb_W_law 345 = .ok (.iload 4, 2) := by decide +kernel
theorem cd_W_law_347 : decode cb_W_law 347 = .ok (.iconst 1, 1) := by decide +kernel
theorem cd_W_law_348 : decode cb_W_law 348 = .ok (.iadd, 1) := by decide +kernel
theorem cd_W_law_349 : decode cb_W_law 349 = .ok (.iaload, 1) := by decide +kernel
theorem cd_W_law_350 : decode cb_W_law 350 = .ok (.aload_n 0, 1) := by decide +kernel
theorem cd_W_law_351 : decode cb_W_law 351 = .ok (.iload 4, 2) := by decide +kernel
theorem cd_W_law_353 : decode cb_W_law 353 = .ok (.iconst 2, 1) := by decide +kernel
theorem cd_W_law_354 : decode cb_W_law 354 = .ok (.iadd, 1) := by decide +kernel
theorem cd_W_law_355 : decode cb_W_law 355 = .ok (.iaload, 1) := by decide +kernel
theorem cd_W_law_356 : decode cb_W_law 356 = .ok (.invokevirtual 56, 3) := by decide +kernel
theorem cd_W_law_359 : decode cb_W_law 359 = .ok (.if_icmp .eq 486, 3) := by decide +kernel
theorem cd_W_law_362 : decode cb_W_law 362 = .ok (.iconst 0, 1) := by decide +kernel
theorem cd_W_law_363 : decode cb_W_law 363 = .ok (.ireturn, 1) := by decide +kernel
theorem cd_W_law_364 : decode cb_W_law 364 = .ok (.aload_n 1, 1) := by decide +kernel
theorem cd_W_law_365 : decode cb_W_law 365 = .ok (.aload_n 0, 1) := by decide +kernel
theorem cd_W_law_366 : decode cb_W_law 366 = .ok (.iload 4, 2) := by decide +kernel
theorem cd_W_law_368 : decode cb_W_law 368 = .ok (.iconst 1, 1) := by decide +kernel
theorem cd_W_law_369 : decode cb_W_law 369 = .ok (.iadd, 1) := by decide +kernel
theorem cd_W_law_370 : decode cb_W_law 370 = .ok (.iaload, 1) := by decide +kernel
theorem cd_W_law_371 : decode cb_W_law 371 = .ok (.invokevirtual 57, 3) := by decide +kernel
theorem cd_W_law_374 : decode cb_W_law 374 = .ok (.aload_n 2, 1) := by decide +kernel
theorem cd_W_law_375 : decode cb_W_law 375 = .ok (.aload_n 0, 1) := by decide +kernel
theorem cd_W_law_376 : decode cb_W_law 376 = .ok (.iload 4, 2) := by decide +kernel
theorem cd_W_law_378 : decode cb_W_law 378 = .ok (.iconst 1, 1) := by decide +kernel
theorem cd_W_law_379 : decode cb_W_law 379 = .ok (.iadd, 1) := by decide +kernel
theorem cd_W_law_380 : decode cb_W_law 380 = .ok (.iaload, 1) := by decide +kernel
theorem cd_W_law_381 : decode cb_W_law 381 = .ok (.invokevirtual 61, 3) := by decide +kernel
theorem cd_W_law_384 : decode cb_W_law 384 = .ok (.if_icmp .eq 461, 3) := by decide +kernel
theorem cd_W_law_387 : decode cb_W_law 387 = .ok (.iconst 0, 1) := by decide +kernel
theorem cd_W_law_388 : decode cb_W_law 388 = .ok (.ireturn, 1) := by decide +kernel
theorem cd_W_law_389 : decode cb_W_law 389 = .ok (.aload_n 1, 1) := by decide +kernel
theorem cd_W_law_390 : decode cb_W_law 390 = .ok (.aload_n 0, 1) := by decide +kernel
theorem cd_W_law_391 : decode cb_W_law 391 = .ok (.iload 4, 2) := by decide +kernel
theorem cd_W_law_393 : decode cb_W_law 393 = .ok (.iconst 1, 1) := by decide +kernel
theorem cd_W_law_394 : decode cb_W_law 394 = .ok (.iadd, 1) := by decide +kernel
theorem cd_W_law_395 : decode cb_W_law 395 = .ok (.iaload, 1) := by decide +kernel
theorem cd_W_law_396 : decode cb_W_law 396 = .ok (.invokevirtual 62, 3) := by decide +kernel
theorem cd_W_law_399 : decode cb_W_law 399 = .ok (.aload_n 2, 1) := by decide +kernel
theorem cd_W_law_400 : decode cb_W_law 400 = .ok (.aload_n 0, 1) := by decide +kernel
theorem cd_W_law_401 : decode cb_W_law 401 = .ok (.iload 4, 2) := by decide +kernel
theorem cd_W_law_403 : decode cb_W_law 403 = .ok (.iconst 1, 1) := by decide +kernel
theorem cd_W_law_404 : decode cb_W_law 404 = .ok (.iadd, 1) := by decide +kernel
theorem cd_W_law_405 : decode cb_W_law 405 = .ok (.iaload, 1) := by decide +kernel
theorem cd_W_law_406 : decode cb_W_law 406 = .ok (.invokevirtual 65, 3) := by decide +kernel
theorem cd_W_law_409 : decode cb_W_law 409 = .ok (.if_icmp .eq 436, 3) := by decide +kernel
theorem cd_W_law_412 : decode cb_W_law 412 = .ok (.iconst 0, 1) := by decide +kernel
theorem cd_W_law_413 : decode cb_W_law 413 = .ok (.ireturn, 1) := by decide +kernel
theorem cd_W_law_414 : decode cb_W_law 414 = .ok (.aload_n 1, 1) := by decide +kernel
theorem cd_W_law_415 : decode cb_W_law 415 = .ok (.aload_n 0, 1) := by decide +kernel
theorem cd_W_law_416 : decode cb_W_law 416 = .ok (.iload 4, 2) := by decide +kernel
theorem cd_W_law_418 : decode cb_W_law 418 = .ok (.iconst 1, 1) := by decide +kernel
theorem cd_W_law_419 : decode cb_W_law 419 = .ok (.iadd, 1) := by decide +kernel
theorem cd_W_law_420 : decode cb_W_law 420 = .ok (.iaload, 1) := by decide +kernel
theorem cd_W_law_421 : decode cb_W_law 421 = .ok (.aload_n 0, 1) := by decide +kernel
theorem cd_W_law_422 : decode cb_W_law 422 = .ok (.iload 4, 2) := by decide +kernel
theorem cd_W_law_424 : decode cb_W_law 424 = .ok (.iconst 2, 1) := by decide +kernel
theorem cd_W_law_425 : decode cb_W_law 425 = .ok (.iadd, 1) := by decide +kernel
theorem cd_W_law_426 : decode cb_W_law 426 = .ok (.iaload, 1) := by decide +kernel
theorem cd_W_law_427 : decode cb_W_law 427 = .ok (.aload_n 0, 1) := by decide +kernel
theorem cd_W_law_428 : decode cb_W_law 428 = .ok (.iload 4, 2) := by decide +kernel
theorem cd_W_law_430 : decode cb_W_law 430 = .ok (.iconst 3, 1) := by decide +kernel
theorem cd_W_law_431 : decode cb_W_law 431 = .ok (.iadd, 1) := by decide +kernel
theorem cd_W_law_432 : decode cb_W_law 432 = .ok (.iaload, 1) := by decide +kernel
theorem cd_W_law_433 : decode cb_W_law 433 = .ok (.invokevirtual 66, 3) := by decide +kernel
theorem cd_W_law_436 : decode cb_W_law 436 = .ok (.aload_n 2, 1) := by decide +kernel
theorem cd_W_law_437 : decode cb_W_law 437 = .ok (.aload_n 0, 1) := by decide +kernel
theorem cd_W_law_438 : decode cb_W_law 438 = .ok (.iload 4, 2) := by decide +kernel
theorem cd_W_law_440 : decode cb_W_law 440 = .ok (.iconst 1, 1) := by decide +kernel
theorem cd_W_law_441 : decode cb_W_law 441 = .ok (.iadd, 1) := by decide +kernel
theorem cd_W_law_442 : decode cb_W_law 442 = .ok (.iaload, 1) := by decide +kernel
theorem cd_W_law_443 : decode cb_W_law 443 = .ok (.aload_n 0, 1) := by decide +kernel
theorem cd_W_law_444 : decode cb_W_law 444 = .ok (.iload 4, 2) := by decide +kernel
theorem cd_W_law_446 : decode cb_W_law 446 = .ok (.iconst 2, 1) := by decide +kernel
theorem cd_W_law_447 : decode cb_W_law 447 = .ok (.iadd, 1) := by decide +kernel
theorem cd_W_law_448 : decode cb_W_law 448 = .ok (.iaload, 1) := by decide +kernel
theorem cd_W_law_449 : decode cb_W_law 449 = .ok (.aload_n 0, 1) := by decide +kernel
theorem cd_W_law_450 : decode cb_W_law 450 = .ok (.iload 4, 2) := by decide +kernel
theorem cd_W_law_452 : decode cb_W_law 452 = .ok (.iconst 3, 1) := by decide +kernel
theorem cd_W_law_453 : decode cb_W_law 453 = .ok (.iadd, 1) := by decide +kernel
theorem cd_W_law_454 : decode cb_W_law 454 = .ok (.iaload, 1) := by decide +kernel
theorem cd_W_law_455 : decode cb_W_law 455 = .ok (.invokevirtual 70, 3) := by decide +kernel
theorem cd_W_law_458 : decode cb_W_law 458 = .ok (.if_icmp .eq 387, 3) := by decide +kernel
theorem cd_W_law_461 : decode cb_W_law 461 = .ok (.iconst 0, 1) := by decide +kernel
theorem cd_W_law_462 : decode cb_W_law 462 = .ok (.ireturn, 1) := by decide +kernel
theorem cd_W_law_463 : decode cb_W_law 463 = .ok (.aload_n 1, 1) := by decide +kernel
theorem cd_W_law_464 : decode cb_W_law 464 = .ok (.aload_n 0, 1) := by decide +kernel
theorem cd_W_law_465 : decode cb_W_law 465 = .ok (.iload 4, 2) := by decide +kernel
theorem cd_W_law_467 : decode cb_W_law 467 = .ok (.iconst 1, 1) := by decide +kernel
theorem cd_W_law_468 : decode cb_W_law 468 = .ok (.iadd, 1) := by decide +kernel
theorem cd_W_law_469 : decode cb_W_law 469 = .ok (.iaload, 1) := by decide +kernel
theorem cd_W_law_470 : decode cb_W_law 470 = .ok (.aload_n 0, 1) := by decide +kernel
theorem cd_W_law_471 : decode cb_W_law 471 = .ok (.iload 4, 2) := by decide +kernel
theorem cd_W_law_473 : decode cb_W_law 473 = .ok (.iconst 2, 1) := by decide +kernel
theorem cd_W_law_474 : decode cb_W_law 474 = .ok (.iadd, 1) := by decide +kernel
theorem cd_W_law_475 : decode cb_W_law 475 = .ok (.iaload, 1) := by decide +kernel
theorem cd_W_law_476 : decode cb_W_law 476 = .ok (.invokevirtual 71, 3) := by decide +kernel
theorem cd_W_law_479 : decode cb_W_law 479 = .ok (.aload_n 2, 1) := by decide +kernel
theorem cd_W_law_480 : decode cb_W_law 480 = .ok (.aload_n 0, 1) := by decide +kernel
theorem cd_W_law_481 : decode cb_W_law 481 = .ok (.iload 4, 2) := by decide +kernel
theorem cd_W_law_483 : decode cb_W_law 483 = .ok (.iconst 1, 1) := by decide +kernel
theorem cd_W_law_484 : decode cb_W_law 484 = .ok (.iadd, 1) := by decide +kernel
theorem cd_W_law_485 : decode cb_W_law 485 = .ok (.iaload, 1) := by decide +kernel
theorem cd_W_law_486 : decode cb_W_law 486 = .ok (.aload_n 0, 1) := by decide +kernel
theorem cd_W_law_487 : decode cb_W_law 487 = .ok (.iload 4, 2) := by decide +kernel
theorem cd_W_law_489 : decode cb_W_law 489 = .ok (.iconst 2, 1) := by decide +kernel
theorem cd_W_law_490 : decode cb_W_law 490 = .ok (.iadd, 1) := by decide +kernel
theorem cd_W_law_491 : decode cb_W_law 491 = .ok (.iaload, 1) := by decide +kernel
theorem cd_W_law_492 : decode cb_W_law 492 = .ok (.invokevirtual 74, 3) := by decide +kernel
theorem cd_W_law_495 : decode cb_W_law 495 = .ok (.if_icmp .eq 350, 3) := by decide +kernel
theorem cd_W_law_498 : decode cb_W_law 498 = .ok (.iconst 0, 1) := by decide +kernel
theorem cd_W_law_499 : decode cb_W_law 499 = .ok (.ireturn, 1) := by decide +kernel
theorem cd_W_law_500 : decode cb_W_law 500 = .ok (.aload_n 1, 1) := by decide +kernel
theorem cd_W_law_501 : decode cb_W_law 501 = .ok (.aload_n 0, 1) := by decide +kernel
theorem cd_W_law_502 : decode cb_W_law 502 = .ok (.iload 4, 2) := by decide +kernel
theorem cd_W_law_504 : decode cb_W_law 504 = .ok (.iconst 1, 1) := by decide +kernel
theorem cd_W_law_505 : decode cb_W_law 505 = .ok (.iadd, 1) := by decide +kernel
theorem cd_W_law_506 : decode cb_W_law 506 = .ok (.iaload, 1) := by decide +kernel
theorem cd_W_law_507 : decode cb_W_law 507 = .ok (.aload_n 0, 1) := by decide +kernel
theorem cd_W_law_508 : decode cb_W_law 508 = .ok (.iload 4, 2) := by decide +kernel
theorem cd_W_law_510 : decode cb_W_law 510 = .ok (.iconst 2, 1) := by decide +kernel
theorem cd_W_law_511 : decode cb_W_law 511 = .ok (.iadd, 1) := by decide +kernel
theorem cd_W_law_512 : decode cb_W_law 512 = .ok (.iaload, 1) := by decide +kernel
theorem cd_W_law_513 : decode cb_W_law 513 = .ok (.invokevirtual 75, 3) := by decide +kernel
theorem cd_W_law_516 : decode cb_W_law 516 = .ok (.aload_n 2, 1) := by decide +kernel
theorem cd_W_law_517 : decode cb_W_law 517 = .ok (.aload_n 0, 1) := by decide +kernel
theorem cd_W_law_518 : decode cb_W_law 518 = .ok (.iload 4, 2) := by decide +kernel
theorem cd_W_law_520 : decode cb_W_law 520 = .ok (.iconst 1, 1) := by decide +kernel
theorem cd_W_law_521 : decode cb_W_law 521 = .ok (.iadd, 1) := by decide +kernel
theorem cd_W_law_522 : decode cb_W_law 522 = .ok (.iaload, 1) := by decide +kernel
theorem cd_W_law_523 : decode cb_W_law 523 = .ok (.aload_n 0, 1) := by decide +kernel
theorem cd_W_law_524 : decode cb_W_law 524 = .ok (.iload 4, 2) := by decide +kernel
theorem cd_W_law_526 : decode cb_W_law 526 = .ok (.iconst 2, 1) := by decide +kernel
theorem cd_W_law_527 : decode cb_W_law 527 = .ok (.iadd, 1) := by decide +kernel
theorem cd_W_law_528 : decode cb_W_law 528 = .ok (.iaload, 1) := by decide +kernel
theorem cd_W_law_529 : decode cb_W_law 529 = .ok (.invokevirtual 78, 3) := by decide +kernel
theorem cd_W_law_532 : decode cb_W_law 532 = .ok (.if_icmp .eq 313, 3) := by decide +kernel
theorem cd_W_law_535 : decode cb_W_law 535 = .ok (.iconst 0, 1) := by decide +kernel
theorem cd_W_law_536 : decode cb_W_law 536 = .ok (.ireturn, 1) := by decide +kernel
theorem cd_W_law_537 : decode cb_W_law 537 = .ok (.aload_n 1, 1) := by decide +kernel
theorem cd_W_law_538 : decode cb_W_law 538 = .ok (.aload_n 0, 1) := by decide +kernel
theorem cd_W_law_539 : decode cb_W_law 539 = .ok (.iload 4, 2) := by decide +kernel
theorem cd_W_law_541 : decode cb_W_law 541 = .ok (.iconst 1, 1) := by decide +kernel
theorem cd_W_law_542 : decode cb_W_law 542 = .ok (.iadd, 1) := by decide +kernel
theorem cd_W_law_543 : decode cb_W_law 543 = .ok (.iaload, 1) := by decide +kernel
theorem cd_W_law_544 : decode cb_W_law 544 = .ok (.aload_n 0, 1) := by decide +kernel
theorem cd_W_law_545 : decode cb_W_law 545 = .ok (.iload 4, 2) := by decide +kernel
theorem cd_W_law_547 : decode cb_W_law 547 = .ok (.iconst 2, 1) := by decide +kernel
theorem cd_W_law_548 : decode cb_W_law 548 = .ok (.iadd, 1) := by decide +kernel
theorem cd_W_law_549 : decode cb_W_law 549 = .ok (.iaload, 1) := by decide +kernel
theorem cd_W_law_550 : decode cb_W_law 550 = .ok (.invokevirtual 79, 3) := by decide +kernel
theorem cd_W_law_553 : decode cb_W_law 553 = .ok (.aload_n 2, 1) := by decide +kernel
theorem cd_W_law_554 : decode cb_W_law 554 = .ok (.aload_n 0, 1) := by decide +kernel
theorem cd_W_law_555 : decode cb_W_law 555 = .ok (.iload 4, 2) := by decide +kernel
theorem cd_W_law_557 : decode cb_W_law 557 = .ok (.iconst 1, 1) := by decide +kernel
theorem cd_W_law_558 : decode cb_W_law 558 = .ok (.iadd, 1) := by decide +kernel
theorem cd_W_law_559 : decode cb_W_law 559 = .ok (.iaload, 1) := by decide +kernel
theorem cd_W_law_560 : decode cb_W_law 560 = .ok (.aload_n 0, 1) := by decide +kernel
theorem cd_W_law_561 : decode cb_W_law 561 = .ok (.iload 4, 2) := by decide +kernel
theorem cd_W_law_563 : decode cb_W_law 563 = .ok (.iconst 2, 1) := by decide +kernel
theorem cd_W_law_564 : decode cb_W_law 564 = .ok (.iadd, 1) := by decide +kernel
theorem cd_W_law_565 : decode cb_W_law 565 = .ok (.iaload, 1) := by decide +kernel
theorem cd_W_law_566 : decode cb_W_law 566 = .ok (.invokevirtual 82, 3) := by decide +kernel
theorem cd_W_law_569 : decode cb_W_law 569 = .ok (.if_icmp .eq 276, 3) := by decide +kernel
theorem cd_W_law_572 : decode cb_W_law 572 = .ok (.iconst 0, 1) := by decide +kernel
theorem cd_W_law_573 : decode cb_W_law 573 = .ok (.ireturn, 1) := by decide +kernel
theorem cd_W_law_574 : decode cb_W_law 574 = .ok (.aload_n 1, 1) := by decide +kernel
theorem cd_W_law_575 : decode cb_W_law 575 = .ok (.aload_n 0, 1) := by decide +kernel
theorem cd_W_law_576 : decode cb_W_law 576 = .ok (.iload 4, 2) := by decide +kernel
theorem cd_W_law_578 : decode cb_W_law 578 = .ok (.iconst 1, 1) := by decide +kernel
theorem cd_W_law_579 : decode cb_W_law 579 = .ok (.iadd, 1) := by decide +kernel
theorem cd_W_law_580 : decode cb_W_law 580 = .ok (.iaload, 1) := by decide +kernel
theorem cd_W_law_581 : decode cb_W_law 581 = .ok (.aload_n 0, 1) := by decide +kernel
theorem cd_W_law_582 : decode cb_W_law 582 = .ok (.iload 4, 2) := by decide +kernel
theorem cd_W_law_584 : decode cb_W_law 584 = .ok (.iconst 2, 1) := by decide +kernel
theorem cd_W_law_585 : decode cb_W_law 585 = .ok (.iadd, 1) := by decide +kernel
theorem cd_W_law_586 : decode cb_W_law 586 = .ok (.iaload, 1) := by decide +kernel
theorem cd_W_law_587 : decode cb_W_law 587 = .ok (.invokevirtual 83, 3) := by decide +kernel
theorem cd_W_law_590 : decode cb_W_law 590 = .ok (.aload_n 2, 1) := by decide +kernel
theorem cd_W_law_591 : decode cb_W_law 591 = .ok (.aload_n 0, 1) := by decide +kernel
theorem cd_W_law_592 : decode cb_W_law 592 = .ok (.iload 4, 2) := by decide +kernel
theorem cd_W_law_594 : decode cb_W_law 594 = .ok (.iconst 1, 1) := by decide +kernel
theorem cd_W_law_595 : decode cb_W_law 595 = .ok (.iadd, 1) := by decide +kernel
theorem cd_W_law_596 : decode cb_W_law 596 = .ok (.iaload, 1) := by decide +kernel
theorem cd_W_law_597 : decode cb_W_law 597 = .ok (.aload_n 0, 1) := by decide +kernel
theorem cd_W_law_598 : decode cb_W_law 598 = .ok (.iload 4, 2) := by decide +kernel
theorem cd_W_law_600 : decode cb_W_law 600 = .ok (.iconst 2, 1) := by decide +kernel
theorem cd_W_law_601 : decode cb_W_law 601 = .ok (.iadd, 1) := by decide +kernel
theorem cd_W_law_602 : decode cb_W_law 602 = .ok (.iaload, 1) := by decide +kernel
theorem cd_W_law_603 : decode cb_W_law 603 = .ok (.invokevirtual 86, 3) := by decide +kernel
theorem cd_W_law_606 : decode cb_W_law 606 = .ok (.if_icmp .eq 239, 3) := by decide +kernel
theorem cd_W_law_609 : decode cb_W_law 609 = .ok (.iconst 0, 1) := by decide +kernel
theorem cd_W_law_610 : decode cb_W_law 610 = .ok (.ireturn, 1) := by decide +kernel
theorem cd_W_law_611 : decode cb_W_law 611 = .ok (.aload_n 1, 1) := by decide +kernel
theorem cd_W_law_612 : decode cb_W_law 612 = .ok (.aload_n 0, 1) := by decide +kernel
theorem cd_W_law_613 : decode cb_W_law 613 = .ok (.iload 4, 2) := by decide +kernel
theorem cd_W_law_615 : decode cb_W_law 615 = .ok (.iconst 1, 1) := by decide +kernel
theorem cd_W_law_616 : decode cb_W_law 616 = .ok (.iadd, 1) := by decide +kernel
theorem cd_W_law_617 : decode cb_W_law 617 = .ok (.iaload, 1) := by decide +kernel
theorem cd_W_law_618 : decode cb_W_law 618 = .ok (.aload_n 0, 1) := by decide +kernel
theorem cd_W_law_619 : decode cb_W_law 619 = .ok (.iload 4, 2) := by decide +kernel
theorem cd_W_law_621 : decode cb_W_law 621 = .ok (.iconst 2, 1) := by decide +kernel
theorem cd_W_law_622 : decode cb_W_law 622 = .ok (.iadd, 1) := by decide +kernel
theorem cd_W_law_623 : decode cb_W_law 623 = .ok (.iaload, 1) := by decide +kernel
theorem cd_W_law_624 : decode cb_W_law 624 = .ok (.invokevirtual 87, 3) := by decide +kernel
theorem cd_W_law_627 : decode cb_W_law 627 = .ok (.aload_n 2, 1) := by decide +kernel
theorem cd_W_law_628 : decode cb_W_law 628 = .ok (.aload_n 0, 1) := by decide +kernel
theorem cd_W_law_629 : decode cb_W_law 629 = .ok (.iload 4, 2) := by decide +kernel
theorem cd_W_law_631 : decode cb_W_law 631 = .ok (.iconst 1, 1) := by decide +kernel
theorem cd_W_law_632 : decode cb_W_law 632 = .ok (.iadd, 1) := by decide +kernel
theorem cd_W_law_633 : decode cb_W_law 633 = .ok (.iaload, 1) := by decide +kernel
theorem cd_W_law_634 : decode cb_W_law 634 = .ok (.aload_n 0, 1) := by decide +kernel
theorem cd_W_law_635 : decode cb_W_law 635 = .ok (.iload 4, 2) := by decide +kernel
theorem cd_W_law_637 : decode cb_W_law 637 = .ok (.iconst 2, 1) := by decide +kernel
theorem cd_W_law_638 : decode cb_W_law 638 = .ok (.iadd, 1) := by decide +kernel
theorem cd_W_law_639 : decode cb_W_law 639 = .ok (.iaload, 1) := by decide +kernel
theorem cd_W_law_640 : decode cb_W_law 640 = .ok (.invokevirtual 90, 3) := by decide +kernel
theorem cd_W_law_643 : decode cb_W_law 643 = .ok (.if_icmp .eq 202, 3) := by decide +kernel
theorem cd_W_law_646 : decode cb_W_law 646 = .ok (.iconst 0, 1) := by decide +kernel
theorem cd_W_law_647 : decode cb_W_law 647 = .ok (.ireturn, 1) := by decide +kernel
theorem cd_W_law_648 : decode cb_W_law 648 = .ok (.aload_n 1, 1) := by decide +kernel
theorem cd_W_law_649 : decode cb_W_law 649 = .ok (.aload_n 0, 1) := by decide +kernel
theorem cd_W_law_650 : decode cb_W_law 650 = .ok (.iload 4, 2) := by decide +kernel
theorem cd_W_law_652 : decode cb_W_law 652 = .ok (.iconst 1, 1) := by decide +kernel
theorem cd_W_law_653 : decode cb_W_law 653 = .ok (.iadd, 1) := by decide +kernel
theorem cd_W_law_654 : decode cb_W_law 654 = .ok (.iaload, 1) := by decide +kernel
theorem cd_W_law_655 : decode cb_W_law 655 = .ok (.aload_n 0, 1) := by decide +kernel
theorem cd_W_law_656 : decode cb_W_law 656 = .ok (.iload 4, 2) := by decide +kernel
theorem cd_W_law_658 : decode cb_W_law 658 = .ok (.iconst 2, 1) := by decide +kernel
theorem cd_W_law_659 : decode cb_W_law 659 = .ok (.iadd, 1) := by decide +kernel
theorem cd_W_law_660 : decode cb_W_law 660 = .ok (.iaload, 1) := by decide +kernel
theorem cd_W_law_661 : decode cb_W_law 661 = .ok (.ifCond .eq 7, 3) := by decide +kernel
theorem cd_W_law_664 : decode cb_W_law 664 = .ok (.iconst 1, 1) := by decide +kernel
theorem cd_W_law_665 : decode cb_W_law 665 = .ok (.goto 4, 3) := by decide +kernel
theorem cd_W_law_668 : decode cb_W_law 668 = .ok (.iconst 0, 1) := by decide +kernel
theorem cd_W_law_669 : decode cb_W_law 669 = .ok (.invokevirtual 91, 3) := by decide +kernel
theorem cd_W_law_672 : decode cb_W_law 672 = .ok (.aload_n 2, 1) := by decide +kernel
theorem cd_W_law_673 : decode cb_W_law 673 = .ok (.aload_n 0, 1) := by decide +kernel
theorem cd_W_law_674 : decode cb_W_law 674 = .ok (.iload 4, 2) := by decide +kernel
theorem cd_W_law_676 : decode cb_W_law 676 = .ok (.iconst 1, 1) := by decide +kernel
theorem cd_W_law_677 : decode cb_W_law 677 = .ok (.iadd, 1) := by decide +kernel
theorem cd_W_law_678 : decode cb_W_law 678 = .ok (.iaload, 1) := by decide +kernel
theorem cd_W_law_679 : decode cb_W_law 679 = .ok (.aload_n 0, 1) := by decide +kernel
theorem cd_W_law_680 : decode cb_W_law 680 = .ok (.iload 4, 2) := by decide +kernel
theorem cd_W_law_682 : decode cb_W_law 682 = .ok (.iconst 2, 1) := by decide +kernel
theorem cd_W_law_683 : decode cb_W_law 683 = .ok (.iadd, 1) := by decide +kernel
theorem cd_W_law_684 : decode cb_W_law 684 = .ok (.iaload, 1) := by decide +kernel
theorem cd_W_law_685 : decode cb_W_law 685 = .ok (.ifCond .eq 7, 3) := by decide +kernel
theorem cd_W_law_688 : decode cb_W_law 688 = .ok (.iconst 1, 1) := by decide +kernel
theorem cd_W_law_689 : decode cb_W_law 689 = .ok (.goto 4, 3) := by decide +kernel
theorem cd_W_law_692 : decode cb_W_law 692 = .ok (.iconst 0, 1) := by decide +kernel
theorem cd_W_law_693 : decode cb_W_law 693 = .ok (.invokevirtual 95, 3) := by decide +kernel
theorem cd_W_law_696 : decode cb_W_law 696 = .ok (.if_icmp .eq 149, 3) := by decide +kernel
theorem cd_W_law_699 : decode cb_W_law 699 = .ok (.iconst 0, 1) := by decide +kernel
theorem cd_W_law_700 : decode cb_W_law 700 = .ok (.ireturn, 1) := by decide +kernel
theorem cd_W_law_701 : decode cb_W_law 701 = .ok (.aload_n 1, 1) := by decide +kernel
theorem cd_W_law_702 : decode cb_W_law 702 = .ok (.aload_n 3, 1) := by decide +kernel
theorem cd_W_law_703 : decode cb_W_law 703 = .ok (.invokestatic 96, 3) := by decide +kernel
theorem cd_W_law_706 : decode cb_W_law 706 = .ok (.istore 5, 2) := by decide +kernel
theorem cd_W_law_708 : decode cb_W_law 708 = .ok (.aload_n 2, 1) := by decide +kernel
theorem cd_W_law_709 : decode cb_W_law 709 = .ok (.invokevirtual 98, 3) := by decide +kernel
theorem cd_W_law_712 : decode cb_W_law 712 = .ok (.istore 6, 2) := by decide +kernel
theorem cd_W_law_714 : decode cb_W_law 714 = .ok (.aload_n 2, 1) := by decide +kernel
theorem cd_W_law_715 : decode cb_W_law 715 = .ok (.invokevirtual 33, 3) := by decide +kernel
theorem cd_W_law_718 : decode cb_W_law 718 = .ok (.iload 5, 2) := by decide +kernel
theorem cd_W_law_720 : decode cb_W_law 720 = .ok (.if_icmp .eq 5, 3) := by decide +kernel
theorem cd_W_law_723 : decode cb_W_law 723 = .ok (.iconst 0, 1) := by decide +kernel
theorem cd_W_law_724 : decode cb_W_law 724 = .ok (.ireturn, 1) := by decide +kernel
theorem cd_W_law_725 : decode cb_W_law 725 = .ok (.iload 5, 2) := by decide +kernel
theorem cd_W_law_727 : decode cb_W_law 727 = .ok (.ifCond .ne 15, 3) := by decide +kernel
theorem cd_W_law_730 : decode cb_W_law 730 = .ok (.aload_n 3, 1) := by decide +kernel
theorem cd_W_law_731 : decode cb_W_law 731 = .ok (.iconst 0, 1) := by decide +kernel
theorem cd_W_law_732 : decode cb_W_law 732 = .ok (.laload, 1) := by decide +kernel
theorem cd_W_law_733 : decode cb_W_law 733 = .ok (.iload 6, 2) := by decide +kernel
theorem cd_W_law_735 : decode cb_W_law 735 = .ok (.i2l, 1) := by decide +kernel
theorem cd_W_law_736 : decode cb_W_law 736 = .ok (.lcmp, 1) := by decide +kernel
theorem cd_W_law_737 : decode cb_W_law 737 = .ok (.ifCond .eq 5, 3) := by decide +kernel
theorem cd_W_law_740 : decode cb_W_law 740 = .ok (.iconst 0, 1) := by decide +kernel
theorem cd_W_law_741 : decode cb_W_law 741 = .ok (.ireturn, 1) := by decide +kernel
theorem cd_W_law_742 : decode cb_W_law 742 = .ok (.goto 103, 3) := by decide +kernel
theorem cd_W_law_745 : decode cb_W_law 745 = .ok (.aload_n 1, 1) := by decide +kernel
theorem cd_W_law_746 : decode cb_W_law 746 = .ok (.aload_n 0, 1) := by decide +kernel
theorem cd_W_law_747 : decode cb_W_law 747 = .ok (.iload 4, 2) := by decide +kernel
theorem cd_W_law_749 : decode cb_W_law 749 = .ok (.iconst 1, 1) := by decide +kernel
theorem cd_W_law_750 : decode cb_W_law 750 = .ok (.iadd, 1) := by decide +kernel
theorem cd_W_law_751 : decode cb_W_law 751 = .ok (.iaload, 1) := by decide +kernel
theorem cd_W_law_752 : decode cb_W_law 752 = .ok (.aload_n 0, 1) := by decide +kernel
theorem cd_W_law_753 : decode cb_W_law 753 = .ok (.iload 4, 2) := by decide +kernel
theorem cd_W_law_755 : decode cb_W_law 755 = .ok (.iconst 2, 1) := by decide +kernel
theorem cd_W_law_756 : decode cb_W_law 756 = .ok (.iadd, 1) := by decide +kernel
theorem cd_W_law_757 : decode cb_W_law 757 = .ok (.iaload, 1) := by decide +kernel
theorem cd_W_law_758 : decode cb_W_law 758 = .ok (.invokevirtual 99, 3) := by decide +kernel
theorem cd_W_law_761 : decode cb_W_law 761 = .ok (.aload_n 2, 1) := by decide +kernel
theorem cd_W_law_762 : decode cb_W_law 762 = .ok (.aload_n 0, 1) := by decide +kernel
theorem cd_W_law_763 : decode cb_W_law 763 = .ok (.iload 4, 2) := by decide +kernel
theorem cd_W_law_765 : decode cb_W_law 765 = .ok (.iconst 1, 1) := by decide +kernel
theorem cd_W_law_766 : decode cb_W_law 766 = .ok (.iadd, 1) := by decide +kernel
theorem cd_W_law_767 : decode cb_W_law 767 = .ok (.iaload, 1) := by decide +kernel
theorem cd_W_law_768 : decode cb_W_law 768 = .ok (.aload_n 0, 1) := by decide +kernel
theorem cd_W_law_769 : decode cb_W_law 769 = .ok (.iload 4, 2) := by decide +kernel
theorem cd_W_law_771 : decode cb_W_law 771 = .ok (.iconst 2, 1) := by decide +kernel
theorem cd_W_law_772 : decode cb_W_law 772 = .ok (.iadd, 1) := by decide +kernel
theorem cd_W_law_773 : decode cb_W_law 773 = .ok (.iaload, 1) := by decide +kernel
theorem cd_W_law_774 : decode cb_W_law 774 = .ok (.invokevirtual 102, 3) := by decide +kernel
theorem cd_W_law_777 : decode cb_W_law 777 = .ok (.if_icmp .eq 68, 3) := by decide +kernel
theorem cd_W_law_780 : decode cb_W_law 780 = .ok (.iconst 0, 1) := by decide +kernel
theorem cd_W_law_781 : decode cb_W_law 781 = .ok (.ireturn, 1) := by decide +kernel
theorem cd_W_law_782 : decode cb_W_law 782 = .ok (.aload_n 1, 1) := by decide +kernel
theorem cd_W_law_783 : decode cb_W_law 783 = .ok (.aload_n 0, 1) := by decide +kernel
theorem cd_W_law_784 : decode cb_W_law 784 = .ok (.iload 4, 2) := by decide +kernel
theorem cd_W_law_786 : decode cb_W_law 786 = .ok (.iconst 1, 1) := by decide +kernel
theorem cd_W_law_787 : decode cb_W_law 787 = .ok (.iadd, 1) := by decide +kernel
theorem cd_W_law_788 : decode cb_W_law 788 = .ok (.iaload, 1) := by decide +kernel
theorem cd_W_law_789 : decode cb_W_law 789 = .ok (.invokevirtual 103, 3) := by decide +kernel
theorem cd_W_law_792 : decode cb_W_law 792 = .ok (.aload_n 2, 1) := by decide +kernel
theorem cd_W_law_793 : decode cb_W_law 793 = .ok (.aload_n 0, 1) := by decide +kernel
theorem cd_W_law_794 : decode cb_W_law 794 = .ok (.iload 4, 2) := by decide +kernel
theorem cd_W_law_796 : decode cb_W_law 796 = .ok (.iconst 1, 1) := by decide +kernel
theorem cd_W_law_797 : decode cb_W_law 797 = .ok (.iadd, 1) := by decide +kernel
theorem cd_W_law_798 : decode cb_W_law 798 = .ok (.iaload, 1) := by decide +kernel
theorem cd_W_law_799 : decode cb_W_law 799 = .ok (.invokevirtual 106, 3) := by decide +kernel
theorem cd_W_law_802 : decode cb_W_law 802 = .ok (.if_icmp .eq 43, 3) := by decide +kernel
theorem cd_W_law_805 : decode cb_W_law 805 = .ok (.iconst 0, 1) := by decide +kernel
theorem cd_W_law_806 : decode cb_W_law 806 = .ok (.ireturn, 1) := by decide +kernel
theorem cd_W_law_807 : decode cb_W_law 807 = .ok (.aload_n 1, 1) := by decide +kernel
theorem cd_W_law_808 : decode cb_W_law 808 = .ok (.invokevirtual 107, 3) := by decide +kernel
theorem cd_W_law_811 : decode cb_W_law 811 = .ok (.aload_n 2, 1) := by decide +kernel
theorem cd_W_law_812 : decode cb_W_law 812 = .ok (.invokevirtual 110, 3) := by decide +kernel
theorem cd_W_law_815 : decode cb_W_law 815 = .ok (.if_icmp .eq 30, 3) := by decide +kernel
theorem cd_W_law_818 : decode cb_W_law 818 = .ok (.iconst 0, 1) := by decide +kernel
theorem cd_W_law_819 : decode cb_W_law 819 = .ok (.ireturn, 1) := by decide +kernel
theorem cd_W_law_820 : decode cb_W_law 820 = .ok (.aload_n 1, 1) := by decide +kernel
theorem cd_W_law_821 : decode cb_W_law 821 = .ok (.aload_n 0, 1) := by decide +kernel
theorem cd_W_law_822 : decode cb_W_law 822 = .ok (.iload 4, 2) := by decide +kernel
theorem cd_W_law_824 : decode cb_W_law 824 = .ok (.iconst 1, 1) := by decide +kernel
theorem cd_W_law_825 : decode cb_W_law 825 = .ok (.iadd, 1) := by decide +kernel
theorem cd_W_law_826 : decode cb_W_law 826 = .ok (.iaload, 1) := by decide +kernel
theorem cd_W_law_827 : decode cb_W_law 827 = .ok (.invokevirtual 111, 3) := by decide +kernel
theorem cd_W_law_830 : decode cb_W_law 830 = .ok (.aload_n 2, 1) := by decide +kernel
theorem cd_W_law_831 : decode cb_W_law 831 = .ok (.aload_n 0, 1) := by decide +kernel
theorem cd_W_law_832 : decode cb_W_law 832 = .ok (.iload 4, 2) := by decide +kernel
theorem cd_W_law_834 : decode cb_W_law 834 = .ok (.iconst 1, 1) := by decide +kernel
theorem cd_W_law_835 : decode cb_W_law 835 = .ok (.iadd, 1) := by decide +kernel
theorem cd_W_law_836 : decode cb_W_law 836 = .ok (.iaload, 1) := by decide +kernel
theorem cd_W_law_837 : decode cb_W_law 837 = .ok (.invokevirtual 114, 3) := by decide +kernel
theorem cd_W_law_840 : decode cb_W_law 840 = .ok (.if_icmp .eq 5, 3) := by decide +kernel
theorem cd_W_law_843 : decode cb_W_law 843 = .ok (.iconst 0, 1) := by decide +kernel
theorem cd_W_law_844 : decode cb_W_law 844 = .ok (.ireturn, 1) := by decide +kernel
theorem cd_W_law_845 : decode cb_W_law 845 = .ok (.iinc 4 4, 3) := by decide +kernel
theorem cd_W_law_848 : decode cb_W_law 848 = .ok (.goto (-825), 3) := by decide +kernel
theorem cd_W_law_851 : decode cb_W_law 851 = .ok (.iconst 1, 1) := by decide +kernel
theorem cd_W_law_852 : decode cb_W_law 852 = .ok (.ireturn, 1) := by decide +kernel
