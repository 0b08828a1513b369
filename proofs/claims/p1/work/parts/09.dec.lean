theorem dL_law_0 : decode cL_law 0 = .ok (.new 7, 3) := by decide +kernel
theorem dL_law_3 : decode cL_law 3 = .ok (.dup, 1) := by decide +kernel
theorem dL_law_4 : decode cL_law 4 = .ok (.invokespecial 9, 3) := by decide +kernel
theorem dL_law_7 : decode cL_law 7 = .ok (.astore_n 1, 1) := by decide +kernel
theorem dL_law_8 : decode cL_law 8 = .ok (.new 10, 3) := by decide +kernel
theorem dL_law_11 : decode cL_law 11 = .ok (.dup, 1) := by decide +kernel
theorem dL_law_12 : decode cL_law 12 = .ok (.invokespecial 12, 3) := by decide +kernel
theorem dL_law_15 : decode cL_law 15 = .ok (.astore_n 2, 1) := by decide +kernel
theorem dL_law_16 : decode cL_law 16 = .ok (.iconst 0, 1) := by decide +kernel
theorem dL_law_17 : decode cL_law 17 = .ok (.istore_n 3, 1) := by decide +kernel
theorem dL_law_18 : decode cL_law 18 = .ok (.iload_n 3, 1) := by decide +kernel
theorem dL_law_19 : decode cL_law 19 = .ok (.aload_n 0, 1) := by decide +kernel
theorem dL_law_20 : decode cL_law 20 = .ok (.arraylength, 1) := by decide +kernel
theorem dL_law_21 : decode cL_law 21 = .ok (.iconst 5, 1) := by decide +kernel
theorem dL_law_22 : decode cL_law 22 = .ok (.isub, 1) := by decide +kernel
theorem dL_law_23 : decode cL_law 23 = .ok (.if_icmp .gt 912, 3) := by decide +kernel
theorem dL_law_26 : decode cL_law 26 = .ok (.aload_n 0, 1) := by decide +kernel
theorem dL_law_27 : decode cL_law 27 = .ok (.iload_n 3, 1) := by decide +kernel
theorem dL_law_28 : decode cL_law 28 = .ok (.iaload, 1) := by decide +kernel
theorem dL_law_29 : decode cL_law 29 = .ok (.bipush 31, 2) := by decide +kernel
theorem dL_law_31 : decode cL_law 31 = .ok (.iand, 1) := by decide +kernel
theorem dL_law_32 : decode cL_law 32 = .ok (.tableswitch 897 0 24 #[116, 179, 192, 205, 228, 261, 294, 327, 380, 413, 472, 495, 528, 541, 554, 587, 620, 663, 696, 719, 772, 815, 828, 851, 874], 116) := by decide +kernel
theorem dL_law_148 : decode cL_law 148 = .ok (.aload_n 1, 1) := by decide +kernel
theorem dL_law_149 : decode cL_law 149 = .ok (.aload_n 0, 1) := by decide +kernel
theorem dL_law_150 : decode cL_law 150 = .ok (.iload_n 3, 1) := by decide +kernel
theorem dL_law_151 : decode cL_law 151 = .ok (.iconst 1, 1) := by decide +kernel
theorem dL_law_152 : decode cL_law 152 = .ok (.iadd, 1) := by decide +kernel
theorem dL_law_153 : decode cL_law 153 = .ok (.iaload, 1) := by decide +kernel
theorem dL_law_154 : decode cL_law 154 = .ok (.aload_n 0, 1) := by decide +kernel
theorem dL_law_155 : decode cL_law 155 = .ok (.iload_n 3, 1) := by decide +kernel
theorem dL_law_156 : decode cL_law 156 = .ok (.iconst 2, 1) := by decide +kernel
theorem dL_law_157 : decode cL_law 157 = .ok (.iadd, 1) := by decide +kernel
theorem dL_law_158 : decode cL_law 158 = .ok (.iaload, 1) := by decide +kernel
theorem dL_law_159 : decode cL_law 159 = .ok (.i2l, 1) := by decide +kernel
theorem dL_law_160 : decode cL_law 160 = .ok (.bipush 32, 2) := by decide +kernel
theorem dL_law_162 : decode cL_law 162 = .ok (.lshl, 1) := by decide +kernel
theorem dL_law_163 : decode cL_law 163 = .ok (.aload_n 0, 1) := by decide +kernel
theorem dL_law_164 : decode cL_law 164 = .ok (.iload_n 3, 1) := by decide +kernel
theorem dL_law_165 : decode cL_law 165 = .ok (.iconst 3, 1) := by decide +kernel
theorem dL_law_166 : decode cL_law 166 = .ok (.iadd, 1) := by decide +kernel
theorem dL_law_167 : decode cL_law 167 = .ok (.iaload, 1) := by decide +kernel
theorem dL_law_168 : decode cL_law 168 = .ok (.i2l, 1) := by decide +kernel
theorem dL_law_169 : decode cL_law 169 = .ok (.ldc2_w 13, 3) := by decide +kernel
theorem dL_law_172 : decode cL_law 172 = .ok (.land, 1) := by decide +kernel
theorem dL_law_173 : decode cL_law 173 = .ok (.lor, 1) := by decide +kernel
theorem dL_law_174 : decode cL_law 174 = .ok (.invokevirtual 15, 3) := by decide +kernel
theorem dL_law_177 : decode cL_law 177 = .ok (.aload_n 2, 1) := by decide +kernel
theorem dL_law_178 : decode cL_law 178 = .ok (.aload_n 0, 1) := by decide +kernel
theorem dL_law_179 : decode cL_law 179 = .ok (.iload_n 3, 1) := by decide +kernel
theorem dL_law_180 : decode cL_law 180 = .ok (.iconst 1, 1) := by decide +kernel
theorem dL_law_181 : decode cL_law 181 = .ok (.iadd, 1) := by decide +kernel
theorem dL_law_182 : decode cL_law 182 = .ok (.iaload, 1) := by decide +kernel
theorem dL_law_183 : decode cL_law 183 = .ok (.aload_n 0, 1) := by decide +kernel
theorem dL_law_184 : decode cL_law 184 = .ok (.iload_n 3, 1) := by decide +kernel
theorem dL_law_185 : decode cL_law 185 = .ok (.iconst 2, 1) := by decide +kernel
theorem dL_law_186 : decode cL_law 186 = .ok (.iadd, 1) := by decide +kernel
theorem dL_law_187 : decode cL_law 187 = .ok (.iaload, 1) := by decide +kernel
theorem dL_law_188 : decode cL_law 188 = .ok (.i2l, 1) := by decide +kernel
theorem dL_law_189 : decode cL_law 189 = .ok (.bipush 32, 2) := by decide +kernel
theorem dL_law_191 : decode cL_law 191 = .ok (.lshl, 1) := by decide +kernel
theorem dL_law_192 : decode cL_law 192 = .ok (.aload_n 0, 1) := by decide +kernel
theorem dL_law_193 : decode cL_law 193 = .ok (.iload_n 3, 1) := by decide +kernel
theorem dL_law_194 : decode cL_law 194 = .ok (.iconst 3, 1) := by decide +kernel
theorem dL_law_195 : decode cL_law 195 = .ok (.iadd, 1) := by decide +kernel
theorem dL_law_196 : decode cL_law 196 = .ok (.iaload, 1) := by decide +kernel
theorem dL_law_197 : decode cL_law 197 = .ok (.i2l, 1) := by decide +kernel
theorem dL_law_198 : decode cL_law 198 = .ok (.ldc2_w 13, 3) := by decide +kernel
theorem dL_law_201 : decode cL_law 201 = .ok (.land, 1) := by decide +kernel
theorem dL_law_202 : decode cL_law 202 = .ok (.lor, 1) := by decide +kernel
theorem dL_law_203 : decode cL_law 203 = .ok (.invokevirtual 19, 3) := by decide +kernel
theorem dL_law_206 : decode cL_law 206 = .ok (.if_icmp .eq 723, 3) := by decide +kernel
theorem dL_law_209 : decode cL_law 209 = .ok (.iconst 0, 1) := by decide +kernel
theorem dL_law_210 : decode cL_law 210 = .ok (.ireturn, 1) := by decide +kernel
theorem dL_law_211 : decode cL_law 211 = .ok (.aload_n 1, 1) := by decide +kernel
theorem dL_law_212 : decode cL_law 212 = .ok (.invokevirtual 20, 3) := by decide +kernel
theorem dL_law_215 : decode cL_law 215 = .ok (.aload_n 2, 1) := by decide +kernel
theorem dL_law_216 : decode cL_law 216 = .ok (.invokevirtual 24, 3) := by decide +kernel
theorem dL_law_219 : decode cL_law 219 = .ok (.if_icmp .eq 710, 3) := by decide +kernel
theorem dL_law_222 : decode cL_law 222 = .ok (.iconst 0, 1) := by decide +kernel
theorem dL_law_223 : decode cL_law 223 = .ok (.ireturn, 1) := by decide +kernel
theorem dL_law_224 : decode cL_law 224 = .ok (.aload_n 1, 1) := by decide +kernel
theorem dL_law_225 : decode cL_law 225 = .ok (.invokevirtual 25, 3) := by decide +kernel
theorem dL_law_228 : decode cL_law 228 = .ok (.aload_n 2, 1) := by decide +kernel
theorem dL_law_229 : decode cL_law 229 = .ok (.invokevirtual 28, 3) := by decide +kernel
theorem dL_law_232 : decode cL_law 232 = .ok (.if_icmp .eq 697, 3) := by decide +kernel
theorem dL_law_235 : decode cL_law 235 = .ok (.iconst 0, 1) := by decide +kernel
theorem dL_law_236 : decode cL_law 236 = .ok (.ireturn, 1) := by decide +kernel
theorem dL_law_237 : decode cL_law 237 = .ok (.aload_n 1, 1) := by decide +kernel
theorem dL_law_238 : decode cL_law 238 = .ok (.aload_n 0, 1) := by decide +kernel
theorem dL_law_239 : decode cL_law 239 = .ok (.iload_n 3, 1) := by decide +kernel
theorem dL_law_240 : decode cL_law 240 = .ok (.iconst 1, 1) := by decide +kernel
theorem dL_law_241 : decode cL_law 241 = .ok (.iadd, 1) := by decide +kernel
theorem dL_law_242 : decode cL_law 242 = .ok (.iaload, 1) := by decide +kernel
theorem dL_law_243 : decode cL_law 243 = .ok (.invokevirtual 29, 3) := by decide +kernel
theorem dL_law_246 : decode cL_law 246 = .ok (.aload_n 2, 1) := by decide +kernel
theorem dL_law_247 : decode cL_law 247 = .ok (.aload_n 0, 1) := by decide +kernel
theorem dL_law_248 : decode cL_law 248 = .ok (.iload_n 3, 1) := by decide +kernel
theorem dL_law_249 : decode cL_law 249 = .ok (.iconst 1, 1) := by decide +kernel
theorem dL_law_250 : decode cL_law 250 = .ok (.iadd, 1) := by decide +kernel
theorem dL_law_251 : decode cL_law 251 = .ok (.iaload, 1) := by decide +kernel
theorem dL_law_252 : decode cL_law 252 = .ok (.invokevirtual 33, 3) := by decide +kernel
theorem dL_law_255 : decode cL_law 255 = .ok (.if_icmp .eq 674, 3) := by decide +kernel
theorem dL_law_258 : decode cL_law 258 = .ok (.iconst 0, 1) := by decide +kernel
theorem dL_law_259 : decode cL_law 259 = .ok (.ireturn, 1) := by decide +kernel
theorem dL_law_260 : decode cL_law 260 = .ok (.aload_n 1, 1) := by decide +kernel
theorem dL_law_261 : decode cL_law 261 = .ok (.aload_n 0, 1) := by decide +kernel
theorem dL_law_262 : decode cL_law 262 = .ok (.iload_n 3, 1) := by decide +kernel
theorem dL_law_263 : decode cL_law 263 = .ok (.iconst 1, 1) := by decide +kernel
theorem dL_law_264 : decode cL_law 264 = .ok (.iadd, 1) := by decide +kernel
theorem dL_law_265 : decode cL_law 265 = .ok (.iaload, 1) := by decide +kernel
theorem dL_law_266 : decode cL_law 266 = .ok (.aload_n 0, 1) := by decide +kernel
theorem dL_law_267 : decode cL_law 267 = .ok (.iload_n 3, 1) := by decide +kernel
theorem dL_law_268 : decode cL_law 268 = .ok (.iconst 2, 1) := by decide +kernel
theorem dL_law_269 : decode cL_law 269 = .ok (.iadd, 1) := by decide +kernel
theorem dL_law_270 : decode cL_law 270 = .ok (.iaload, 1) := by decide +kernel
theorem dL_law_271 : decode cL_law 271 = .ok (.invokevirtual 34, 3) := by decide +kernel
theorem dL_law_274 : decode cL_law 274 = .ok (.aload_n 2, 1) := by decide +kernel
theorem dL_law_275 : decode cL_law 275 = .ok (.aload_n 0, 1) := by decide +kernel
theorem dL_law_276 : decode cL_law 276 = .ok (.iload_n 3, 1) := by decide +kernel
theorem dL_law_277 : decode cL_law 277 = .ok (.iconst 1, 1) := by decide +kernel
theorem dL_law_278 : decode cL_law 278 = .ok (.iadd, 1) := by decide +kernel
theorem dL_law_279 : decode cL_law 279 = .ok (.iaload, 1) := by decide +kernel
theorem dL_law_280 : decode cL_law 280 = .ok (.aload_n 0, 1) := by decide +kernel
theorem dL_law_281 : decode cL_law 281 = .ok (.iload_n 3, 1) := by decide +kernel
theorem dL_law_282 : decode cL_law 282 = .ok (.iconst 2, 1) := by decide +kernel
theorem dL_law_283 : decode cL_law 283 = .ok (.iadd, 1) := by decide +kernel
theorem dL_law_284 : decode cL_law 284 = .ok (.iaload, 1) := by decide +kernel
theorem dL_law_285 : decode cL_law 285 = .ok (.invokevirtual 38, 3) := by decide +kernel
theorem dL_law_288 : decode cL_law 288 = .ok (.if_icmp .eq 641, 3) := by decide +kernel
theorem dL_law_291 : decode cL_law 291 = .ok (.iconst 0, 1) := by decide +kernel
theorem dL_law_292 : decode cL_law 292 = .ok (.ireturn, 1) := by decide +kernel
theorem dL_law_293 : decode cL_law 293 = .ok (.aload_n 1, 1) := by decide +kernel
theorem dL_law_294 : decode cL_law 294 = .ok (.aload_n 0, 1) := by decide +kernel
theorem dL_law_295 : decode cL_law 295 = .ok (.iload_n 3, 1) := by decide +kernel
theorem dL_law_296 : decode cL_law 296 = .ok (.iconst 1, 1) := by decide +kernel
theorem dL_law_297 : decode cL_law 297 = .ok (.iadd, 1) := by decide +kernel
theorem dL_law_298 : decode cL_law 298 = .ok (.iaload, 1) := by decide +kernel
theorem dL_law_299 : decode cL_law 299 = .ok (.aload_n 0, 1) := by decide +kernel
theorem dL_law_300 : decode cL_law 300 = .ok (.iload_n 3, 1) := by decide +kernel
theorem dL_law_301 : decode cL_law 301 = .ok (.iconst 2, 1) := by decide +kernel
theorem dL_law_302 : decode cL_law 302 = .ok (.iadd, 1) := by decide +kernel
theorem dL_law_303 : decode cL_law 303 = .ok (.iaload, 1) := by decide +kernel
theorem dL_law_304 : decode cL_law 304 = .ok (.invokevirtual 39, 3) := by decide +kernel
theorem dL_law_307 : decode cL_law 307 = .ok (.aload_n 2, 1) := by decide +kernel
theorem dL_law_308 : decode cL_law 308 = .ok (.aload_n 0, 1) := by decide +kernel
theorem dL_law_309 : decode cL_law 309 = .ok (.iload_n 3, 1) := by decide +kernel
theorem dL_law_310 : decode cL_law 310 = .ok (.iconst 1, 1) := by decide +kernel
theorem dL_law_311 : decode cL_law 311 = .ok (.iadd, 1) := by decide +kernel
theorem dL_law_312 : decode cL_law 312 = .ok (.iaload, 1) := by decide +kernel
theorem dL_law_313 : decode cL_law 313 = .ok (.aload_n 0, 1) := by decide +kernel
theorem dL_law_314 : decode cL_law 314 = .ok (.iload_n 3, 1) := by decide +kernel
theorem dL_law_315 : decode cL_law 315 = .ok (.iconst 2, 1) := by decide +kernel
theorem dL_law_316 : decode cL_law 316 = .ok (.iadd, 1) := by decide +kernel
theorem dL_law_317 : decode cL_law 317 = .ok (.iaload, 1) := by decide +kernel
theorem dL_law_318 : decode cL_law 318 = .ok (.invokevirtual 42, 3) := by decide +kernel
theorem dL_law_321 : decode cL_law 321 = .ok (.if_icmp .eq 608, 3) := by decide +kernel
theorem dL_law_324 : decode cL_law 324 = .ok (.iconst 0, 1) := by decide +kernel
theorem dL_law_325 : decode cL_law 325 = .ok (.ireturn, 1) := by decide +kernel
theorem dL_law_326 : decode cL_law 326 = .ok (.aload_n 1, 1) := by decide +kernel
theorem dL_law_327 : decode cL_law 327 = .ok (.aload_n 0, 1) := by decide +kernel
theorem dL_law_328 : decode cL_law 328 = .ok (.iload_n 3, 1) := by decide +kernel
theorem dL_law_329 : decode cL_law 329 = .ok (.iconst 1, 1) := by decide +kernel
theorem dL_law_330 : decode cL_law 330 = .ok (.iadd, 1) := by decide +kernel
theorem dL_law_331 : decode cL_law 331 = .ok (.iaload, 1) := by decide +kernel
theorem dL_law_332 : decode cL_law 332 = .ok (.aload_n 0, 1) := by decide +kernel
theorem dL_law_333 : decode cL_law 333 = .ok (.iload_n 3, 1) := by decide +kernel
theorem dL_law_334 : decode cL_law 334 = .ok (.iconst 2, 1) := by decide +kernel
theorem dL_law_335 : decode cL_law 335 = .ok (.iadd, 1) := by decide +kernel
theorem dL_law_336 : decode cL_law 336 = .ok (.iaload, 1) := by decide +kernel
theorem dL_law_337 : decode cL_law 337 = .ok (.invokevirtual 43, 3) := by decide +kernel
theorem dL_law_340 : decode cL_law 340 = .ok (.aload_n 2, 1) := by decide +kernel
theorem dL_law_341 : decode cL_law 341 = .ok (.aload_n 0, 1) := by decide +kernel
theorem dL_law_342 : decode cL_law 342 = .ok (.iload_n 3, 1) := by decide +kernel
theorem dL_law_343 : decode cL_law 343 = .ok (.iconst 1, 1) := by decide +kernel
theorem dL_law_344 : decode cL_law 344 = .ok (.iadd, 1) := by decide +kernel
theorem dL_law_345 : decode cL_law 345 = .ok (.iaload, 1) := by decide +kernel
theorem dL_law_346 : decode cL_law 346 = .ok (.aload_n 0, 1) := by decide +kernel
theorem dL_law_347 : decode cL_law 347 = .ok (.iload_n 3, 1) := by decide +kernel
theorem dL_law_348 : decode cL_law 348 = .ok (.iconst 2, 1) := by decide +kernel
theorem dL_law_349 : decode cL_law 349 = .ok (.iadd, 1) := by decide +kernel
theorem dL_law_350 : decode cL_law 350 = .ok (.iaload, 1) := by decide +kernel
theorem dL_law_351 : decode cL_law 351 = .ok (.invokevirtual 46, 3) := by decide +kernel
theorem dL_law_354 : decode cL_law 354 = .ok (.if_icmp .eq 575, 3) := by decide +kernel
theorem dL_law_357 : decode cL_law 357 = .ok (.iconst 0, 1) := by decide +kernel
theorem dL_law_358 : decode cL_law 358 = .ok (.ireturn, 1) := by decide +kernel
theorem dL_law_359 : decode cL_law 359 = .ok (.aload_n 1, 1) := by decide +kernel
theorem dL_law_360 : decode cL_law 360 = .ok (.aload_n 0, 1) := by decide +kernel
theorem dL_law_361 : decode cL_law 361 = .ok (.iload_n 3, 1) := by decide +kernel
theorem dL_law_362 : decode cL_law 362 = .ok (.iconst 1, 1) := by decide +kernel
theorem dL_law_363 : decode cL_law 363 = .ok (.iadd, 1) := by decide +kernel
theorem dL_law_364 : decode cL_law 364 = .ok (.iaload, 1) := by decide +kernel
theorem dL_law_365 : decode cL_law 365 = .ok (.aload_n 0, 1) := by decide +kernel
theorem dL_law_366 : decode cL_law 366 = .ok (.iload_n 3, 1) := by decide +kernel
theorem dL_law_367 : decode cL_law 367 = .ok (.iconst 2, 1) := by decide +kernel
theorem dL_law_368 : decode cL_law 368 = .ok (.iadd, 1) := by decide +kernel
theorem dL_law_369 : decode cL_law 369 = .ok (.iaload, 1) := by decide +kernel
theorem dL_law_370 : decode cL_law 370 = .ok (.aload_n 0, 1) := by decide +kernel
theorem dL_law_371 : decode cL_law 371 = .ok (.iload_n 3, 1) := by decide +kernel
theorem dL_law_372 : decode cL_law 372 = .ok (.iconst 3, 1) := by decide +kernel
theorem dL_law_373 : decode cL_law 373 = .ok (.iadd, 1) := by decide +kernel
theorem dL_law_374 : decode cL_law 374 = .ok (.iaload, 1) := by decide +kernel
theorem dL_law_375 : decode cL_law 375 = .ok (.aload_n 0, 1) := by decide +kernel
theorem dL_law_376 : decode cL_law 376 = .ok (.iload_n 3, 1) := by decide +kernel
theorem dL_law_377 : decode cL_law 377 = .ok (.iconst 4, 1) := by decide +kernel
theorem dL_law_378 : decode cL_law 378 = .ok (.iadd, 1) := by decide +kernel
theorem dL_law_379 : decode cL_law 379 = .ok (.iaload, 1) := by decide +kernel
theorem dL_law_380 : decode cL_law 380 = .ok (.invokevirtual 47, 3) := by decide +kernel
theorem dL_law_383 : decode cL_law 383 = .ok (.aload_n 2, 1) := by decide +kernel
theorem dL_law_384 : decode cL_law 384 = .ok (.aload_n 0, 1) := by decide +kernel
theorem dL_law_385 : decode cL_law 385 = .ok (.iload_n 3, 1) := by decide +kernel
theorem dL_law_386 : decode cL_law 386 = .ok (.iconst 1, 1) := by decide +kernel
theorem dL_law_387 : decode cL_law 387 = .ok (.iadd, 1) := by decide +kernel
theorem dL_law_388 : decode cL_law 388 = .ok (.iaload, 1) := by decide +kernel
theorem dL_law_389 : decode cL_law 389 = .ok (.aload_n 0, 1) := by decide +kernel
theorem dL_law_390 : decode cL_law 390 = .ok (.iload_n 3, 1) := by decide +kernel
theorem dL_law_391 : decode cL_law 391 = .ok (.iconst 2, 1) := by decide +kernel
theorem dL_law_392 : decode cL_law 392 = .ok (.iadd, 1) := by decide +kernel
theorem dL_law_393 : decode cL_law 393 = .ok (.iaload, 1) := by decide +kernel
theorem dL_law_394 : decode cL_law 394 = .ok (.aload_n 0, 1) := by decide +kernel
theorem dL_law_395 : decode cL_law 395 = .ok (.iload_n 3, 1) := by decide +kernel
theorem dL_law_396 : decode cL_law 396 = .ok (.iconst 3, 1) := by decide +kernel
theorem dL_law_397 : decode cL_law 397 = .ok (.iadd, 1) := by decide +kernel
theorem dL_law_398 : decode cL_law 398 = .ok (.iaload, 1) := by decide +kernel
theorem dL_law_399 : decode cL_law 399 = .ok (.aload_n 0, 1) := by decide +kernel
theorem dL_law_400 : decode cL_law 400 = .ok (.iload_n 3, 1) := by decide +kernel
theorem dL_law_401 : decode cL_law 401 = .ok (.iconst 4, 1) := by decide +kernel
theorem dL_law_402 : decode cL_law 402 = .ok (.iadd, 1) := by decide +kernel
theorem dL_law_403 : decode cL_law 403 = .ok (.iaload, 1) := by decide +kernel
theorem dL_law_404 : decode cL_law 404 = .ok (.invokevirtual 51, 3) := by decide +kernel
theorem dL_law_407 : decode cL_law 407 = .ok (.if_icmp .eq 522, 3) := by decide +kernel
theorem dL_law_410 : decode cL_law 410 = .ok (.iconst 0, 1) := by decide +kernel
theorem dL_law_411 : decode cL_law 411 = .ok (.ireturn, 1) := by decide +kernel
theorem dL_law_412 : decode cL_law 412 = .ok (.aload_n 1, 1) := by decide +kernel
theorem dL_law_413 : decode cL_law 413 = .ok (.aload_n 0, 1) := by decide +kernel
theorem dL_law_414 : decode cL_law 414 = .ok (.iload_n 3, 1) := by decide +kernel
theorem dL_law_415 : decode cL_law 415 = .ok (.iconst 1, 1) := by decide +kernel
theorem dL_law_416 : decode cL_law 416 = .ok (.iadd, 1) := by decide +kernel
theorem dL_law_417 : decode cL_law 417 = .ok (.iaload, 1) := by decide +kernel
theorem dL_law_418 : decode cL_law 418 = .ok (.aload_n 0, 1) := by decide +kernel
theorem dL_law_419 : decode cL_law 419 = .ok (.iload_n 3, 1) := by decide +kernel
theorem dL_law_420 : decode cL_law 420 = .ok (.iconst 2, 1) := by decide +kernel
theorem dL_law_421 : decode cL_law 421 = .ok (.iadd, 1) := by decide +kernel
theorem dL_law_422 : decode cL_law 422 = .ok (.iaload, 1) := by decide +kernel
theorem dL_law_423 : decode cL_law 423 = .ok (.invokevirtual 52, 3) := by decide +kernel
theorem dL_law_426 : decode cL_law 426 = .ok (.aload_n 2, 1) := by decide +kernel
theorem dL_law_427 : decode cL_law 427 = .ok (.aload_n 0, 1) := by decide +kernel
theorem dL_law_428 : decode cL_law 428 = .ok (.iload_n 3, 1) := by decide +kernel
theorem dL_law_429 : decode cL_law 429 = .ok (.iconst 1, 1) := by decide +kernel
theorem dL_law_430 : decode cL_law 430 = .ok (.iadd, 1) := by decide +kernel
theorem dL_law_431 : decode cL_law 431 = .ok (.iaload, 1) := by decide +kernel
theorem dL_law_432 : decode cL_law 432 = .ok (.aload_n 0, 1) := by decide +kernel
theorem dL_law_433 : decode cL_law 433 = .ok (.iload_n 3, 1) := by decide +kernel
theorem dL_law_434 : decode cL_law 434 = .ok (.iconst 2, 1) := by decide +kernel
theorem dL_law_435 : decode cL_law 435 = .ok (.iadd, 1) := by decide +kernel
theorem dL_law_436 : decode cL_law 436 = .ok (.iaload, 1) := by decide +kernel
theorem dL_law_437 : decode cL_law 437 = .ok (.invokevirtual 55, 3) := by decide +kernel
theorem dL_law_440 : decode cL_law 440 = .ok (.if_icmp .eq 489, 3) := by decide +kernel
theorem dL_law_443 : decode cL_law 443 = .ok (.iconst 0, 1) := by decide +kernel
theorem dL_law_444 : decode cL_law 444 = .ok (.ireturn, 1) := by decide +kernel
theorem dL_law_445 : decode cL_law 445 = .ok (.aload_n 1, 1) := by decide +kernel
theorem dL_law_446 : decode cL_law 446 = .ok (.aload_n 0, 1) := by decide +kernel
theorem dL_law_447 : decode cL_law 447 = .ok (.iload_n 3, 1) := by decide +kernel
theorem dL_law_448 : decode cL_law 448 = .ok (.iconst 1, 1) := by decide +kernel
theorem dL_law_449 : decode cL_law 449 = .ok (.iadd, 1) := by decide +kernel
theorem dL_law_450 : decode cL_law 450 = .ok (.iaload, 1) := by decide +kernel
theorem dL_law_451 : decode cL_law 451 = .ok (.aload_n 0, 1) := by decide +kernel
theorem dL_law_452 : decode cL_law 452 = .ok (.iload_n 3, 1) := by decide +kernel
theorem dL_law_453 : decode cL_law 453 = .ok (.iconst 2, 1) := by decide +kernel
theorem dL_law_454 : decode cL_law 454 = .ok (.iadd, 1) := by decide +kernel
theorem dL_law_455 : decode cL_law 455 = .ok (.iaload, 1) := by decide +kernel
theorem dL_law_456 : decode cL_law 456 = .ok (.aload_n 0, 1) := by decide +kernel
theorem dL_law_457 : decode cL_law 457 = .ok (.iload_n 3, 1) := by decide +kernel
theorem dL_law_458 : decode cL_law 458 = .ok (.iconst 3, 1) := by decide +kernel
theorem dL_law_459 : decode cL_law 459 = .ok (.iadd, 1) := by decide +kernel
theorem dL_law_460 : decode cL_law 460 = .ok (.iaload, 1) := by decide +kernel
theorem dL_law_461 : decode cL_law 461 = .ok (.ifCond .eq 7, 3) := by decide +kernel
theorem dL_law_464 : decode cL_law 464 = .ok (.iconst 1, 1) := by decide +kernel
theorem dL_law_465 : decode cL_law 465 = .ok (.goto 4, 3) := by decide +kernel
theorem dL_law_468 : decode cL_law 468 = .ok (.iconst 0, 1) := by decide +kernel
theorem dL_law_469 : decode cL_law 469 = .ok (.invokevirtual 56, 3) := by decide +kernel
theorem dL_law_472 : decode cL_law 472 = .ok (.aload_n 2, 1) := by decide +kernel
theorem dL_law_473 : decode cL_law 473 = .ok (.aload_n 0, 1) := by decide +kernel
theorem dL_law_474 : decode cL_law 474 = .ok (.iload_n 3, 1) := by decide +kernel
theorem dL_law_475 : decode cL_law 475 = .ok (.iconst 1, 1) := by decide +kernel
theorem dL_law_476 : decode cL_law 476 = .ok (.iadd, 1) := by decide +kernel
theorem dL_law_477 : decode cL_law 477 = .ok (.iaload, 1) := by decide +kernel
theorem dL_law_478 : decode cL_law 478 = .ok (.aload_n 0, 1) := by decide +kernel
theorem dL_law_479 : decode cL_law 479 = .ok (.iload_n 3, 1) := by decide +kernel
theorem dL_law_480 : decode cL_law 480 = .ok (.iconst 2, 1) := by decide +kernel
theorem dL_law_481 : decode cL_law 481 = .ok (.iadd, 1) := by decide +kernel
theorem dL_law_482 : decode cL_law 482 = .ok (.iaload, 1) := by decide +kernel
theorem dL_law_483 : decode cL_law 483 = .ok (.aload_n 0, 1) := by decide +kernel
theorem dL_law_484 : decode cL_law 484 = .ok (.iload_n 3, 1) := by decide +kernel
theorem dL_law_485 : decode cL_law 485 = .ok (.iconst 3, 1) := by decide +kernel
theorem dL_law_486 : decode cL_law 486 = .ok (.iadd, 1) := by decide +kernel
theorem dL_law_487 : decode cL_law 487 = .ok (.iaload, 1) := by decide +kernel
theorem dL_law_488 : decode cL_law 488 = .ok (.ifCond .eq 7, 3) := by decide +kernel
theorem dL_law_491 : decode cL_law 491 = .ok (.iconst 1, 1) := by decide +kernel
theorem dL_law_492 : decode cL_law 492 = .ok (.goto 4, 3) := by decide +kernel
theorem dL_law_495 : decode cL_law 495 = .ok (.iconst 0, 1) := by decide +kernel
theorem dL_law_496 : decode cL_law 496 = .ok (.invokevirtual 60, 3) := by decide +kernel
theorem dL_law_499 : decode cL_law 499 = .ok (.if_icmp .eq 430, 3) := by decide +kernel
theorem dL_law_502 : decode cL_law 502 = .ok (.iconst 0, 1) := by decide +kernel
theorem dL_law_503 : decode cL_law 503 = .ok (.ireturn, 1) := by decide +kernel
theorem dL_law_504 : decode cL_law 504 = .ok (.aload_n 1, 1) := by decide +kernel
theorem dL_law_505 : decode cL_law 505 = .ok (.aload_n 0, 1) := by decide +kernel
theorem dL_law_506 : decode cL_law 506 = .ok (.iload_n 3, 1) := by decide +kernel
theorem dL_law_507 : decode cL_law 507 = .ok (.iconst 1, 1) := by decide +kernel
theorem dL_law_508 : decode cL_law 508 = .ok (.iadd, 1) := by decide +kernel
theorem dL_law_509 : decode cL_law 509 = .ok (.iaload, 1) := by decide +kernel
theorem dL_law_510 : decode cL_law 510 = .ok (.invokevirtual 61, 3) := by decide +kernel
theorem dL_law_513 : decode cL_law 513 = .ok (.aload_n 2, 1) := by decide +kernel
theorem dL_law_514 : decode cL_law 514 = .ok (.aload_n 0, 1) := by decide +kernel
theorem dL_law_515 : decode cL_law 515 = .ok (.iload_n 3, 1) := by decide +kernel
theorem dL_law_516 : decode cL_law 516 = .ok (.iconst 1, 1) := by decide +kernel
theorem dL_law_517 : decode cL_law 517 = .ok (.iadd, 1) := by decide +kernel
theorem dL_law_518 : decode cL_law 518 = .ok (.iaload, 1) := by decide +kernel
theorem dL_law_519 : decode cL_law 519 = .ok (.invokevirtual 64, 3) := by decide +kernel
theorem dL_law_522 : decode cL_law 522 = .ok (.if_icmp .eq 407, 3) := by decide +kernel
theorem dL_law_525 : decode cL_law 525 = .ok (.iconst 0, 1) := by decide +kernel
theorem dL_law_526 : decode cL_law 526 = .ok (.ireturn, 1) := by decide +kernel
theorem dL_law_527 : decode cL_law 527 = .ok (.aload_n 1, 1) := by decide +kernel
theorem dL_law_528 : decode cL_law 528 = .ok (.aload_n 0, 1) := by decide +kernel
theorem dL_law_529 : decode cL_law 529 = .ok (.iload_n 3, 1) := by decide +kernel
theorem dL_law_530 : decode cL_law 530 = .ok (.iconst 1, 1) := by decide +kernel
theorem dL_law_531 : decode cL_law 531 = .ok (.iadd, 1) := by decide +kernel
theorem dL_law_532 : decode cL_law 532 = .ok (.iaload, 1) := by decide +kernel
theorem dL_law_533 : decode cL_law 533 = .ok (.aload_n 0, 1) := by decide +kernel
theorem dL_law_534 : decode cL_law 534 = .ok (.iload_n 3, 1) := by decide +kernel
theorem dL_law_535 : decode cL_law 535 = .ok (.iconst 2, 1) := by decide +kernel
theorem dL_law_536 : decode cL_law 536 = .ok (.iadd, 1) := by decide +kernel
theorem dL_law_537 : decode cL_law 537 = .ok (.iaload, 1) := by decide +kernel
theorem dL_law_538 : decode cL_law 538 = .ok (.invokevirtual 65, 3) := by decide +kernel
theorem dL_law_541 : decode cL_law 541 = .ok (.aload_n 2, 1) := by decide +kernel
theorem dL_law_542 : decode cL_law 542 = .ok (.aload_n 0, 1) := by decide +kernel
theorem dL_law_543 : decode cL_law 543 = .ok (.iload_n 3, 1) := by decide +kernel
theorem dL_law_544 : decode cL_law 544 = .ok (.iconst 1, 1) := by decide +kernel
theorem dL_law_545 : decode cL_law 545 = .ok (.iadd, 1) := by decide +kernel
theorem dL_law_546 : decode cL_law 546 = .ok (.iaload, 1) := by decide +kernel
theorem dL_law_547 : decode cL_law 547 = .ok (.aload_n 0, 1) := by decide +kernel
theorem dL_law_548 : decode cL_law 548 = .ok (.iload_n 3, 1) := by decide +kernel
theorem dL_law_549 : decode cL_law 549 = .ok (.iconst 2, 1) := by decide +kernel
theorem dL_law_550 : decode cL_law 550 = .ok (.iadd, 1) := by decide +kernel
theorem dL_law_551 : decode cL_law 551 = .ok (.iaload, 1) := by decide +kernel
theorem dL_law_552 : decode cL_law 552 = .ok (.invokevirtual 68, 3) := by decide +kernel
theorem dL_law_555 : decode cL_law 555 = .ok (.if_icmp .eq 374, 3) := by decide +kernel
theorem dL_law_558 : decode cL_law 558 = .ok (.iconst 0, 1) := by decide +kernel
theorem dL_law_559 : decode cL_law 559 = .ok (.ireturn, 1) := by decide +kernel
theorem dL_law_560 : decode cL_law 560 = .ok (.aload_n 1, 1) := by decide +kernel
theorem dL_law_561 : decode cL_law 561 = .ok (.invokevirtual 69, 3) := by decide +kernel
theorem dL_law_564 : decode cL_law 564 = .ok (.aload_n 2, 1) := by decide +kernel
theorem dL_law_565 : decode cL_law 565 = .ok (.invokevirtual 72, 3) := by decide +kernel
theorem dL_law_568 : decode cL_law 568 = .ok (.if_icmp .eq 361, 3) := by decide +kernel
theorem dL_law_571 : decode cL_law 571 = .ok (.iconst 0, 1) := by decide +kernel
theorem dL_law_572 : decode cL_law 572 = .ok (.ireturn, 1) := by decide +kernel
theorem dL_law_573 : decode cL_law 573 = .ok (.aload_n 1, 1) := by decide +kernel
theorem dL_law_574 : decode cL_law 574 = .ok (.invokevirtual 73, 3) := by decide +kernel
theorem dL_law_577 : decode cL_law 577 = .ok (.aload_n 2, 1) := by decide +kernel
theorem dL_law_578 : decode cL_law 578 = .ok (.invokevirtual 76, 3) := by decide +kernel
theorem dL_law_581 : decode cL_law 581 = .ok (.if_icmp .eq 348, 3) := by decide +kernel
theorem dL_law_584 : decode cL_law 584 = .ok (.iconst 0, 1) := by decide +kernel
theorem dL_law_585 : decode cL_law 585 = .ok (.ireturn, 1) := by decide +kernel
theorem dL_law_586 : decode cL_law 586 = .ok (.aload_n 1, 1) := by decide +kernel
theorem dL_law_587 : decode cL_law 587 = .ok (.aload_n 0, 1) := by decide +kernel
theorem dL_law_588 : decode cL_law 588 = .ok (.iload_n 3, 1) := by decide +kernel
theorem dL_law_589 : decode cL_law 589 = .ok (.iconst 1, 1) := by decide +kernel
theorem dL_law_590 : decode cL_law 590 = .ok (.iadd, 1) := by decide +kernel
theorem dL_law_591 : decode cL_law 591 = .ok (.iaload, 1) := by decide +kernel
theorem dL_law_592 : decode cL_law 592 = .ok (.aload_n 0, 1) := by decide +kernel
theorem dL_law_593 : decode cL_law 593 = .ok (.iload_n 3, 1) := by decide +kernel
theorem dL_law_594 : decode cL_law 594 = .ok (.iconst 2, 1) := by decide +kernel
theorem dL_law_595 : decode cL_law 595 = .ok (.iadd, 1) := by decide +kernel
theorem dL_law_596 : decode cL_law 596 = .ok (.iaload, 1) := by decide +kernel
theorem dL_law_597 : decode cL_law 597 = .ok (.invokevirtual 77, 3) := by decide +kernel
theorem dL_law_600 : decode cL_law 600 = .ok (.aload_n 2, 1) := by decide +kernel
theorem dL_law_601 : decode cL_law 601 = .ok (.aload_n 0, 1) := by decide +kernel
theorem dL_law_602 : decode cL_law 602 = .ok (.iload_n 3, 1) := by decide +kernel
theorem dL_law_603 : decode cL_law 603 = .ok (.iconst 1, 1) := by decide +kernel
theorem dL_law_604 : decode cL_law 604 = .ok (.iadd, 1) := by decide +kernel
theorem dL_law_605 : decode cL_law 605 = .ok (.iaload, 1) := by decide +kernel
theorem dL_law_606 : decode cL_law 606 = .ok (.aload_n 0, 1) := by decide +kernel
theorem dL_law_607 : decode cL_law 607 = .ok (.iload_n 3, 1) := by decide +kernel
theorem dL_law_608 : decode cL_law 608 = .ok (.iconst 2, 1) := by decide +kernel
theorem dL_law_609 : decode cL_law 609 = .ok (.iadd, 1) := by decide +kernel
theorem dL_law_610 : decode cL_law 610 = .ok (.iaload, 1) := by decide +kernel
theorem dL_law_611 : decode cL_law 611 = .ok (.invokevirtual 80, 3) := by decide +kernel
theorem dL_law_614 : decode cL_law 614 = .ok (.if_icmp .eq 315, 3) := by decide +kernel
theorem dL_law_617 : decode cL_law 617 = .ok (.iconst 0, 1) := by decide +kernel
theorem dL_law_618 : decode cL_law 618 = .ok (.ireturn, 1) := by decide +kernel
theorem dL_law_619 : decode cL_law 619 = .ok (.aload_n 1, 1) := by decide +kernel
theorem dL_law_620 : decode cL_law 620 = .ok (.aload_n 0, 1) := by decide +kernel
theorem dL_law_621 : decode cL_law 621 = .ok (.iload_n 3, 1) := by decide +kernel
theorem dL_law_622 : decode cL_law 622 = .ok (.iconst 1, 1) := by decide +kernel
theorem dL_law_623 : decode cL_law 623 = .ok (.iadd, 1) := by decide +kernel
theorem dL_law_624 : decode cL_law 624 = .ok (.iaload, 1) := by decide +kernel
theorem dL_law_625 : decode cL_law 625 = .ok (.aload_n 0, 1) := by decide +kernel
theorem dL_law_626 : decode cL_law 626 = .ok (.iload_n 3, 1) := by decide +kernel
theorem dL_law_627 : decode cL_law 627 = .ok (.iconst 2, 1) := by decide +kernel
theorem dL_law_628 : decode cL_law 628 = .ok (.iadd, 1) := by decide +kernel
theorem dL_law_629 : decode cL_law 629 = .ok (.iaload, 1) := by decide +kernel
theorem dL_law_630 : decode cL_law 630 = .ok (.invokevirtual 81, 3) := by decide +kernel
theorem dL_law_633 : decode cL_law 633 = .ok (.aload_n 2, 1) := by decide +kernel
theorem dL_law_634 : decode cL_law 634 = .ok (.aload_n 0, 1) := by decide +kernel
theorem dL_law_635 : decode cL_law 635 = .ok (.iload_n 3, 1) := by decide +kernel
theorem dL_law_636 : decode cL_law 636 = .ok (.iconst 1, 1) := by decide +kernel
theorem dL_law_637 : decode cL_law 637 = .ok (.iadd, 1) := by decide +kernel
theorem dL_law_638 : decode cL_law 638 = .ok (.iaload, 1) := by decide +kernel
theorem dL_law_639 : decode cL_law 639 = .ok (.aload_n 0, 1) := by decide +kernel
theorem dL_law_640 : decode cL_law 640 = .ok (.iload_n 3, 1) := by decide +kernel
theorem dL_law_641 : decode cL_law 641 = .ok (.iconst 2, 1) := by decide +kernel
theorem dL_law_642 : decode cL_law 642 = .ok (.iadd, 1) := by decide +kernel
theorem dL_law_643 : decode cL_law 643 = .ok (.iaload, 1) := by decide +kernel
theorem dL_law_644 : decode cL_law 644 = .ok (.invokevirtual 84, 3) := by decide +kernel
theorem dL_law_647 : decode cL_law 647 = .ok (.if_icmp .eq 282, 3) := by decide +kernel
theorem dL_law_650 : decode cL_law 650 = .ok (.iconst 0, 1) := by decide +kernel
theorem dL_law_651 : decode cL_law 651 = .ok (.ireturn, 1) := by decide +kernel
theorem dL_law_652 : decode cL_law 652 = .ok (.aload_n 1, 1) := by decide +kernel
theorem dL_law_653 : decode cL_law 653 = .ok (.aload_n 0, 1) := by decide +kernel
theorem dL_law_654 : decode cL_law 654 = .ok (.iload_n 3, 1) := by decide +kernel
theorem dL_law_655 : decode cL_law 655 = .ok (.iconst 1, 1) := by decide +kernel
theorem dL_law_656 : decode cL_law 656 = .ok (.iadd, 1) := by decide +kernel
theorem dL_law_657 : decode cL_law 657 = .ok (.iaload, 1) := by decide +kernel
theorem dL_law_658 : decode cL_law 658 = .ok (.aload_n 0, 1) := by decide +kernel
theorem dL_law_659 : decode cL_law 659 = .ok (.iload_n 3, 1) := by decide +kernel
theorem dL_law_660 : decode cL_law 660 = .ok (.iconst 2, 1) := by decide +kernel
theorem dL_law_661 : decode cL_law 661 = .ok (.iadd, 1) := by decide +kernel
theorem dL_law_662 : decode cL_law 662 = .ok (.iaload, 1) := by decide +kernel
theorem dL_law_663 : decode cL_law 663 = .ok (.aload_n 0, 1) := by decide +kernel
theorem dL_law_664 : decode cL_law 664 = .ok (.iload_n 3, 1) := by decide +kernel
theorem dL_law_665 : decode cL_law 665 = .ok (.iconst 3, 1) := by decide +kernel
theorem dL_law_666 : decode cL_law 666 = .ok (.iadd, 1) := by decide +kernel
theorem dL_law_667 : decode cL_law 667 = .ok (.iaload, 1) := by decide +kernel
theorem dL_law_668 : decode cL_law 668 = .ok (.invokevirtual 85, 3) := by decide +kernel
theorem dL_law_671 : decode cL_law 671 = .ok (.aload_n 2, 1) := by decide +kernel
theorem dL_law_672 : decode cL_law 672 = .ok (.aload_n 0, 1) := by decide +kernel
theorem dL_law_673 : decode cL_law 673 = .ok (.iload_n 3, 1) := by decide +kernel
theorem dL_law_674 : decode cL_law 674 = .ok (.iconst 1, 1) := by decide +kernel
theorem dL_law_675 : decode cL_law 675 = .ok (.iadd, 1) := by decide +kernel
theorem dL_law_676 : decode cL_law 676 = .ok (.iaload, 1) := by decide +kernel
theorem dL_law_677 : decode cL_law 677 = .ok (.aload_n 0, 1) := by decide +kernel
theorem dL_law_678 : decode cL_law 678 = .ok (.iload_n 3, 1) := by decide +kernel
theorem dL_law_679 : decode cL_law 679 = .ok (.iconst 2, 1) := by decide +kernel
theorem dL_law_680 : decode cL_law 680 = .ok (.iadd, 1) := by decide +kernel
theorem dL_law_681 : decode cL_law 681 = .ok (.iaload, 1) := by decide +kernel
theorem dL_law_682 : decode cL_law 682 = .ok (.aload_n 0, 1) := by decide +kernel
theorem dL_law_683 : decode cL_law 683 = .ok (.iload_n 3, 1) := by decide +kernel
theorem dL_law_684 : decode cL_law 684 = .ok (.iconst 3, 1) := by decide +kernel
theorem dL_law_685 : decode cL_law 685 = .ok (.iadd, 1) := by decide +kernel
theorem dL_law_686 : decode cL_law 686 = .ok (.iaload, 1) := by decide +kernel
theorem dL_law_687 : decode cL_law 687 = .ok (.invokevirtual 89, 3) := by decide +kernel
theorem dL_law_690 : decode cL_law 690 = .ok (.if_icmp .eq 239, 3) := by decide +kernel
theorem dL_law_693 : decode cL_law 693 = .ok (.iconst 0, 1) := by decide +kernel
theorem dL_law_694 : decode cL_law 694 = .ok (.ireturn, 1) := by decide +kernel
theorem dL_law_695 : decode cL_law 695 = .ok (.aload_n 1, 1) := by decide +kernel
theorem dL_law_696 : decode cL_law 696 = .ok (.aload_n 0, 1) := by decide +kernel
theorem dL_law_697 : decode cL_law 697 = .ok (.iload_n 3, 1) := by decide +kernel
theorem dL_law_698 : decode cL_law 698 = .ok (.iconst 1, 1) := by decide +kernel
theorem dL_law_699 : decode cL_law 699 = .ok (.iadd, 1) := by decide +kernel
theorem dL_law_700 : decode cL_law 700 = .ok (.iaload, 1) := by decide +kernel
theorem dL_law_701 : decode cL_law 701 = .ok (.aload_n 0, 1) := by decide +kernel
theorem dL_law_702 : decode cL_law 702 = .ok (.iload_n 3, 1) := by decide +kernel
theorem dL_law_703 : decode cL_law 703 = .ok (.iconst 2, 1) := by decide +kernel
theorem dL_law_704 : decode cL_law 704 = .ok (.iadd, 1) := by decide +kernel
theorem dL_law_705 : decode cL_law 705 = .ok (.iaload, 1) := by decide +kernel
theorem dL_law_706 : decode cL_law 706 = .ok (.invokevirtual 90, 3) := by decide +kernel
theorem dL_law_709 : decode cL_law 709 = .ok (.aload_n 2, 1) := by decide +kernel
theorem dL_law_710 : decode cL_law 710 = .ok (.aload_n 0, 1) := by decide +kernel
theorem dL_law_711 : decode cL_law 711 = .ok (.iload_n 3, 1) := by decide +kernel
theorem dL_law_712 : decode cL_law 712 = .ok (.iconst 1, 1) := by decide +kernel
theorem dL_law_713 : decode cL_law 713 = .ok (.iadd, 1) := by decide +kernel
theorem dL_law_714 : decode cL_law 714 = .ok (.iaload, 1) := by decide +kernel
theorem dL_law_715 : decode cL_law 715 = .ok (.aload_n 0, 1) := by decide +kernel
theorem dL_law_716 : decode cL_law 716 = .ok (.iload_n 3, 1) := by decide +kernel
theorem dL_law_717 : decode cL_law 717 = .ok (.iconst 2, 1) := by decide +kernel
theorem dL_law_718 : decode cL_law 718 = .ok (.iadd, 1) := by decide +kernel
theorem dL_law_719 : decode cL_law 719 = .ok (.iaload, 1) := by decide +kernel
theorem dL_law_720 : decode cL_law 720 = .ok (.invokevirtual 93, 3) := by decide +kernel
theorem dL_law_723 : decode cL_law 723 = .ok (.if_icmp .eq 206, 3) := by decide +kernel
theorem dL_law_726 : decode cL_law 726 = .ok (.iconst 0, 1) := by decide +kernel
theorem dL_law_727 : decode cL_law 727 = .ok (.ireturn, 1) := by decide +kernel
theorem dL_law_728 : decode cL_law 728 = .ok (.aload_n 1, 1) := by decide +kernel
theorem dL_law_729 : decode cL_law 729 = .ok (.aload_n 0, 1) := by decide +kernel
theorem dL_law_730 : decode cL_law 730 = .ok (.iload_n 3, 1) := by decide +kernel
theorem dL_law_731 : decode cL_law 731 = .ok (.iconst 1, 1) := by decide +kernel
theorem dL_law_732 : decode cL_law 732 = .ok (.iadd, 1) := by decide +kernel
theorem dL_law_733 : decode cL_law 733 = .ok (.iaload, 1) := by decide +kernel
theorem dL_law_734 : decode cL_law 734 = .ok (.invokevirtual 94, 3) := by decide +kernel
theorem dL_law_737 : decode cL_law 737 = .ok (.aload_n 2, 1) := by decide +kernel
theorem dL_law_738 : decode cL_law 738 = .ok (.aload_n 0, 1) := by decide +kernel
theorem dL_law_739 : decode cL_law 739 = .ok (.iload_n 3, 1) := by decide +kernel
theorem dL_law_740 : decode cL_law 740 = .ok (.iconst 1, 1) := by decide +kernel
theorem dL_law_741 : decode cL_law 741 = .ok (.iadd, 1) := by decide +kernel
theorem dL_law_742 : decode cL_law 742 = .ok (.iaload, 1) := by decide +kernel
theorem dL_law_743 : decode cL_law 743 = .ok (.invokevirtual 97, 3) := by decide +kernel
theorem dL_law_746 : decode cL_law 746 = .ok (.if_icmp .eq 183, 3) := by decide +kernel
theorem dL_law_749 : decode cL_law 749 = .ok (.iconst 0, 1) := by decide +kernel
theorem dL_law_750 : decode cL_law 750 = .ok (.ireturn, 1) := by decide +kernel
theorem dL_law_751 : decode cL_law 751 = .ok (.aload_n 1, 1) := by decide +kernel
theorem dL_law_752 : decode cL_law 752 = .ok (.aload_n 0, 1) := by decide +kernel
theorem dL_law_753 : decode cL_law 753 = .ok (.iload_n 3, 1) := by decide +kernel
theorem dL_law_754 : decode cL_law 754 = .ok (.iconst 1, 1) := by decide +kernel
theorem dL_law_755 : decode cL_law 755 = .ok (.iadd, 1) := by decide +kernel
theorem dL_law_756 : decode cL_law 756 = .ok (.iaload, 1) := by decide +kernel
theorem dL_law_757 : decode cL_law 757 = .ok (.aload_n 0, 1) := by decide +kernel
theorem dL_law_758 : decode cL_law 758 = .ok (.iload_n 3, 1) := by decide +kernel
theorem dL_law_759 : decode cL_law 759 = .ok (.iconst 2, 1) := by decide +kernel
theorem dL_law_760 : decode cL_law 760 = .ok (.iadd, 1) := by decide +kernel
theorem dL_law_761 : decode cL_law 761 = .ok (.iaload, 1) := by decide +kernel
theorem dL_law_762 : decode cL_law 762 = .ok (.aload_n 0, 1) := by decide +kernel
theorem dL_law_763 : decode cL_law 763 = .ok (.iload_n 3, 1) := by decide +kernel
theorem dL_law_764 : decode cL_law 764 = .ok (.iconst 3, 1) := by decide +kernel
theorem dL_law_765 : decode cL_law 765 = .ok (.iadd, 1) := by decide +kernel
theorem dL_law_766 : decode cL_law 766 = .ok (.iaload, 1) := by decide +kernel
theorem dL_law_767 : decode cL_law 767 = .ok (.aload_n 0, 1) := by decide +kernel
theorem dL_law_768 : decode cL_law 768 = .ok (.iload_n 3, 1) := by decide +kernel
theorem dL_law_769 : decode cL_law 769 = .ok (.iconst 4, 1) := by decide +kernel
theorem dL_law_770 : decode cL_law 770 = .ok (.iadd, 1) := by decide +kernel
theorem dL_law_771 : decode cL_law 771 = .ok (.iaload, 1) := by decide +kernel
theorem dL_law_772 : decode cL_law 772 = .ok (.invokevirtual 98, 3) := by decide +kernel
theorem dL_law_775 : decode cL_law 775 = .ok (.aload_n 2, 1) := by decide +kernel
theorem dL_law_776 : decode cL_law 776 = .ok (.aload_n 0, 1) := by decide +kernel
theorem dL_law_777 : decode cL_law 777 = .ok (.iload_n 3, 1) := by decide +kernel
theorem dL_law_778 : decode cL_law 778 = .ok (.iconst 1, 1) := by decide +kernel
theorem dL_law_779 : decode cL_law 779 = .ok (.iadd, 1) := by decide +kernel
theorem dL_law_780 : decode cL_law 780 = .ok (.iaload, 1) := by decide +kernel
theorem dL_law_781 : decode cL_law 781 = .ok (.aload_n 0, 1) := by decide +kernel
theorem dL_law_782 : decode cL_law 782 = .ok (.iload_n 3, 1) := by decide +kernel
theorem dL_law_783 : decode cL_law 783 = .ok (.iconst 2, 1) := by decide +kernel
theorem dL_law_784 : decode cL_law 784 = .ok (.iadd, 1) := by decide +kernel
theorem dL_law_785 : decode cL_law 785 = .ok (.iaload, 1) := by decide +kernel
theorem dL_law_786 : decode cL_law 786 = .ok (.aload_n 0, 1) := by decide +kernel
theorem dL_law_787 : decode cL_law 787 = .ok (.iload_n 3, 1) := by decide +kernel
theorem dL_law_788 : decode cL_law 788 = .ok (.iconst 3, 1) := by decide +kernel
theorem dL_law_789 : decode cL_law 789 = .ok (.iadd, 1) := by decide +kernel
theorem dL_law_790 : decode cL_law 790 = .ok (.iaload, 1) := by decide +kernel
theorem dL_law_791 : decode cL_law 791 = .ok (.aload_n 0, 1) := by decide +kernel
theorem dL_law_792 : decode cL_law 792 = .ok (.iload_n 3, 1) := by decide +kernel
theorem dL_law_793 : decode cL_law 793 = .ok (.iconst 4, 1) := by decide +kernel
theorem dL_law_794 : decode cL_law 794 = .ok (.iadd, 1) := by decide +kernel
theorem dL_law_795 : decode cL_law 795 = .ok (.iaload, 1) := by decide +kernel
theorem dL_law_796 : decode cL_law 796 = .ok (.invokevirtual 101, 3) := by decide +kernel
theorem dL_law_799 : decode cL_law 799 = .ok (.if_icmp .eq 130, 3) := by decide +kernel
theorem dL_law_802 : decode cL_law 802 = .ok (.iconst 0, 1) := by decide +kernel
theorem dL_law_803 : decode cL_law 803 = .ok (.ireturn, 1) := by decide +kernel
theorem dL_law_804 : decode cL_law 804 = .ok (.aload_n 1, 1) := by decide +kernel
theorem dL_law_805 : decode cL_law 805 = .ok (.aload_n 0, 1) := by decide +kernel
theorem dL_law_806 : decode cL_law 806 = .ok (.iload_n 3, 1) := by decide +kernel
theorem dL_law_807 : decode cL_law 807 = .ok (.iconst 1, 1) := by decide +kernel
theorem dL_law_808 : decode cL_law 808 = .ok (.iadd, 1) := by decide +kernel
theorem dL_law_809 : decode cL_law 809 = .ok (.iaload, 1) := by decide +kernel
theorem dL_law_810 : decode cL_law 810 = .ok (.aload_n 0, 1) := by decide +kernel
theorem dL_law_811 : decode cL_law 811 = .ok (.iload_n 3, 1) := by decide +kernel
theorem dL_law_812 : decode cL_law 812 = .ok (.iconst 2, 1) := by decide +kernel
theorem dL_law_813 : decode cL_law 813 = .ok (.iadd, 1) := by decide +kernel
theorem dL_law_814 : decode cL_law 814 = .ok (.iaload, 1) := by decide +kernel
theorem dL_law_815 : decode cL_law 815 = .ok (.aload_n 0, 1) := by decide +kernel
theorem dL_law_816 : decode cL_law 816 = .ok (.iload_n 3, 1) := by decide +kernel
theorem dL_law_817 : decode cL_law 817 = .ok (.iconst 3, 1) := by decide +kernel
theorem dL_law_818 : decode cL_law 818 = .ok (.iadd, 1) := by decide +kernel
theorem dL_law_819 : decode cL_law 819 = .ok (.iaload, 1) := by decide +kernel
theorem dL_law_820 : decode cL_law 820 = .ok (.invokevirtual 102, 3) := by decide +kernel
theorem dL_law_823 : decode cL_law 823 = .ok (.aload_n 2, 1) := by decide +kernel
theorem dL_law_824 : decode cL_law 824 = .ok (.aload_n 0, 1) := by decide +kernel
theorem dL_law_825 : decode cL_law 825 = .ok (.iload_n 3, 1) := by decide +kernel
theorem dL_law_826 : decode cL_law 826 = .ok (.iconst 1, 1) := by decide +kernel
theorem dL_law_827 : decode cL_law 827 = .ok (.iadd, 1) := by decide +kernel
theorem dL_law_828 : decode cL_law 828 = .ok (.iaload, 1) := by decide +kernel
theorem dL_law_829 : decode cL_law 829 = .ok (.aload_n 0, 1) := by decide +kernel
theorem dL_law_830 : decode cL_law 830 = .ok (.iload_n 3, 1) := by decide +kernel
theorem dL_law_831 : decode cL_law 831 = .ok (.iconst 2, 1) := by decide +kernel
theorem dL_law_832 : decode cL_law 832 = .ok (.iadd, 1) := by decide +kernel
theorem dL_law_833 : decode cL_law 833 = .ok (.iaload, 1) := by decide +kernel
theorem dL_law_834 : decode cL_law 834 = .ok (.aload_n 0, 1) := by decide +kernel
theorem dL_law_835 : decode cL_law 835 = .ok (.iload_n 3, 1) := by decide +kernel
theorem dL_law_836 : decode cL_law 836 = .ok (.iconst 3, 1) := by decide +kernel
theorem dL_law_837 : decode cL_law 837 = .ok (.iadd, 1) := by decide +kernel
theorem dL_law_838 : decode cL_law 838 = .ok (.iaload, 1) := by decide +kernel
theorem dL_law_839 : decode cL_law 839 = .ok (.invokevirtual 105, 3) := by decide +kernel
theorem dL_law_842 : decode cL_law 842 = .ok (.if_icmp .eq 87, 3) := by decide +kernel
theorem dL_law_845 : decode cL_law 845 = .ok (.iconst 0, 1) := by decide +kernel
theorem dL_law_846 : decode cL_law 846 = .ok (.ireturn, 1) := by decide +kernel
theorem dL_law_847 : decode cL_law 847 = .ok (.aload_n 1, 1) := by decide +kernel
theorem dL_law_848 : decode cL_law 848 = .ok (.invokevirtual 106, 3) := by decide +kernel
theorem dL_law_851 : decode cL_law 851 = .ok (.aload_n 2, 1) := by decide +kernel
theorem dL_law_852 : decode cL_law 852 = .ok (.invokevirtual 109, 3) := by decide +kernel
theorem dL_law_855 : decode cL_law 855 = .ok (.if_icmp .eq 74, 3) := by decide +kernel
theorem dL_law_858 : decode cL_law 858 = .ok (.iconst 0, 1) := by decide +kernel
theorem dL_law_859 : decode cL_law 859 = .ok (.ireturn, 1) := by decide +kernel
theorem dL_law_860 : decode cL_law 860 = .ok (.aload_n 1, 1) := by decide +kernel
theorem dL_law_861 : decode cL_law 861 = .ok (.aload_n 0, 1) := by decide +kernel
theorem dL_law_862 : decode cL_law 862 = .ok (.iload_n 3, 1) := by decide +kernel
theorem dL_law_863 : decode cL_law 863 = .ok (.iconst 1, 1) := by decide +kernel
theorem dL_law_864 : decode cL_law 864 = .ok (.iadd, 1) := by decide +kernel
theorem dL_law_865 : decode cL_law 865 = .ok (.iaload, 1) := by decide +kernel
theorem dL_law_866 : decode cL_law 866 = .ok (.invokevirtual 110, 3) := by decide +kernel
theorem dL_law_869 : decode cL_law 869 = .ok (.aload_n 2, 1) := by decide +kernel
theorem dL_law_870 : decode cL_law 870 = .ok (.aload_n 0, 1) := by decide +kernel
theorem dL_law_871 : decode cL_law 871 = .ok (.iload_n 3, 1) := by decide +kernel
theorem dL_law_872 : decode cL_law 872 = .ok (.iconst 1, 1) := by decide +kernel
theorem dL_law_873 : decode cL_law 873 = .ok (.iadd, 1) := by decide +kernel
theorem dL_law_874 : decode cL_law 874 = .ok (.iaload, 1) := by decide +kernel
theorem dL_law_875 : decode cL_law 875 = .ok (.invokevirtual 113, 3) := by decide +kernel
theorem dL_law_878 : decode cL_law 878 = .ok (.if_icmp .eq 51, 3) := by decide +kernel
theorem dL_law_881 : decode cL_law 881 = .ok (.iconst 0, 1) := by decide +kernel
theorem dL_law_882 : decode cL_law 882 = .ok (.ireturn, 1) := by decide +kernel
theorem dL_law_883 : decode cL_law 883 = .ok (.aload_n 1, 1) := by decide +kernel
theorem dL_law_884 : decode cL_law 884 = .ok (.aload_n 0, 1) := by decide +kernel
theorem dL_law_885 : decode cL_law 885 = .ok (.iload_n 3, 1) := by decide +kernel
theorem dL_law_886 : decode cL_law 886 = .ok (.iconst 1, 1) := by decide +kernel
theorem dL_law_887 : decode cL_law 887 = .ok (.iadd, 1) := by decide +kernel
theorem dL_law_888 : decode cL_law 888 = .ok (.iaload, 1) := by decide +kernel
theorem dL_law_889 : decode cL_law 889 = .ok (.invokevirtual 114, 3) := by decide +kernel
theorem dL_law_892 : decode cL_law 892 = .ok (.aload_n 2, 1) := by decide +kernel
theorem dL_law_893 : decode cL_law 893 = .ok (.aload_n 0, 1) := by decide +kernel
theorem dL_law_894 : decode cL_law 894 = .ok (.iload_n 3, 1) := by decide +kernel
theorem dL_law_895 : decode cL_law 895 = .ok (.iconst 1, 1) := by decide +kernel
theorem dL_law_896 : decode cL_law 896 = .ok (.iadd, 1) := by decide +kernel
theorem dL_law_897 : decode cL_law 897 = .ok (.iaload, 1) := by decide +kernel
theorem dL_law_898 : decode cL_law 898 = .ok (.invokevirtual 117, 3) := by decide +kernel
theorem dL_law_901 : decode cL_law 901 = .ok (.if_icmp .eq 28, 3) := by decide +kernel
theorem dL_law_904 : decode cL_law 904 = .ok (.iconst 0, 1) := by decide +kernel
theorem dL_law_905 : decode cL_law 905 = .ok (.ireturn, 1) := by decide +kernel
theorem dL_law_906 : decode cL_law 906 = .ok (.aload_n 1, 1) := by decide +kernel
theorem dL_law_907 : decode cL_law 907 = .ok (.aload_n 0, 1) := by decide +kernel
theorem dL_law_908 : decode cL_law 908 = .ok (.iload_n 3, 1) := by decide +kernel
theorem dL_law_909 : decode cL_law 909 = .ok (.iconst 1, 1) := by decide +kernel
theorem dL_law_910 : decode cL_law 910 = .ok (.iadd, 1) := by decide +kernel
theorem dL_law_911 : decode cL_law 911 = .ok (.iaload, 1) := by decide +kernel
theorem dL_law_912 : decode cL_law 912 = .ok (.invokevirtual 118, 3) := by decide +kernel
theorem dL_law_915 : decode cL_law 915 = .ok (.aload_n 2, 1) := by decide +kernel
theorem dL_law_916 : decode cL_law 916 = .ok (.aload_n 0, 1) := by decide +kernel
theorem dL_law_917 : decode cL_law 917 = .ok (.iload_n 3, 1) := by decide +kernel
theorem dL_law_918 : decode cL_law 918 = .ok (.iconst 1, 1) := by decide +kernel
theorem dL_law_919 : decode cL_law 919 = .ok (.iadd, 1) := by decide +kernel
theorem dL_law_920 : decode cL_law 920 = .ok (.iaload, 1) := by decide +kernel
theorem dL_law_921 : decode cL_law 921 = .ok (.invokevirtual 121, 3) := by decide +kernel
theorem dL_law_924 : decode cL_law 924 = .ok (.if_icmp .eq 5, 3) := by decide +kernel
theorem dL_law_927 : decode cL_law 927 = .ok (.iconst 0, 1) := by decide +kernel
theorem dL_law_928 : decode cL_law 928 = .ok (.ireturn, 1) := by decide +kernel
theorem dL_law_929 : decode cL_law 929 = .ok (.iinc 3 5, 3) := by decide +kernel
theorem dL_law_932 : decode cL_law 932 = .ok (.goto (-914), 3) := by decide +kernel
theorem dL_law_935 : decode cL_law 935 = .ok (.iconst 1, 1) := by decide +kernel
theorem dL_law_936 : decode cL_law 936 = .ok (.ireturn, 1) := by decide +kernel
theorem dX0_init_0 : decode cX0_init 0 = .ok (.aload_n 0, 1) := by decide +kernel
theorem dX0_init_1 : decode cX0_init 1 = .ok (.invokespecial 3, 3) := by decide +kernel
theorem dX0_init_4 : decode cX0_init 4 = .ok (.aload_n 0, 1) := by decide +kernel
theorem dX0_init_5 : decode cX0_init 5 = .ok (.bipush 6, 2) := by decide +kernel
theorem dX0_init_7 : decode cX0_init 7 = .ok (.anewarray 9, 3) := by decide +kernel
theorem dX0_init_10 : decode cX0_init 10 = .ok (.putfield 11, 3) := by decide +kernel
theorem dX0_init_13 : decode cX0_init 13 = .ok (.aload_n 0, 1) := by decide +kernel
theorem dX0_init_14 : decode cX0_init 14 = .ok (.iconst 5, 1) := by decide +kernel
theorem dX0_init_15 : decode cX0_init 15 = .ok (.newarray .int, 2) := by decide +kernel
theorem dX0_init_17 : decode cX0_init 17 = .ok (.putfield 17, 3) := by decide +kernel
theorem dX0_init_20 : decode cX0_init 20 = .ok (.aload_n 0, 1) := by decide +kernel
theorem dX0_init_21 : decode cX0_init 21 = .ok (.iconst 5, 1) := by decide +kernel
theorem dX0_init_22 : decode cX0_init 22 = .ok (.newarray .int, 2) := by decide +kernel
theorem dX0_init_24 : decode cX0_init 24 = .ok (.putfield 21, 3) := by decide +kernel
theorem dX0_init_27 : decode cX0_init 27 = .ok (.aload_n 0, 1) := by decide +kernel
theorem dX0_init_28 : decode cX0_init 28 = .ok (.sipush 252, 3) := by decide +kernel
theorem dX0_init_31 : decode cX0_init 31 = .ok (.newarray .int, 2) := by decide +kernel
theorem dX0_init_33 : decode cX0_init 33 = .ok (.putfield 24, 3) := by decide +kernel
theorem dX0_init_36 : decode cX0_init 36 = .ok (.aload_n 0, 1) := by decide +kernel
theorem dX0_init_37 : decode cX0_init 37 = .ok (.aload_n 2, 1) := by decide +kernel
theorem dX0_init_38 : decode cX0_init 38 = .ok (.putfield 27, 3) := by decide +kernel
theorem dX0_init_41 : decode cX0_init 41 = .ok (.aload_n 0, 1) := by decide +kernel
theorem dX0_init_42 : decode cX0_init 42 = .ok (.aload_n 3, 1) := by decide +kernel
theorem dX0_init_43 : decode cX0_init 43 = .ok (.putfield 31, 3) := by decide +kernel
theorem dX0_init_46 : decode cX0_init 46 = .ok (.aload_n 0, 1) := by decide +kernel
theorem dX0_init_47 : decode cX0_init 47 = .ok (.aload 4, 2) := by decide +kernel
theorem dX0_init_49 : decode cX0_init 49 = .ok (.putfield 35, 3) := by decide +kernel
theorem dX0_init_52 : decode cX0_init 52 = .ok (.iconst 0, 1) := by decide +kernel
theorem dX0_init_53 : decode cX0_init 53 = .ok (.istore 5, 2) := by decide +kernel
theorem dX0_init_55 : decode cX0_init 55 = .ok (.iload 5, 2) := by decide +kernel
theorem dX0_init_57 : decode cX0_init 57 = .ok (.iconst 5, 1) := by decide +kernel
theorem dX0_init_58 : decode cX0_init 58 = .ok (.if_icmp .gt 25, 3) := by decide +kernel
theorem dX0_init_61 : decode cX0_init 61 = .ok (.aload_n 0, 1) := by decide +kernel
theorem dX0_init_62 : decode cX0_init 62 = .ok (.getfield 11, 3) := by decide +kernel
theorem dX0_init_65 : decode cX0_init 65 = .ok (.iload 5, 2) := by decide +kernel
theorem dX0_init_67 : decode cX0_init 67 = .ok (.new 9, 3) := by decide +kernel
theorem dX0_init_70 : decode cX0_init 70 = .ok (.dup, 1) := by decide +kernel
theorem dX0_init_71 : decode cX0_init 71 = .ok (.aload_n 1, 1) := by decide +kernel
theorem dX0_init_72 : decode cX0_init 72 = .ok (.aload_n 2, 1) := by decide +kernel
theorem dX0_init_73 : decode cX0_init 73 = .ok (.invokespecial 39, 3) := by decide +kernel
theorem dX0_init_76 : decode cX0_init 76 = .ok (.aastore, 1) := by decide +kernel
theorem dX0_init_77 : decode cX0_init 77 = .ok (.iinc 5 1, 3) := by decide +kernel
theorem dX0_init_80 : decode cX0_init 80 = .ok (.goto (-25), 3) := by decide +kernel
theorem dX0_init_83 : decode cX0_init 83 = .ok (.return_, 1) := by decide +kernel
theorem dX10_begin_0 : decode cX10_begin 0 = .ok (.aload_n 0, 1) := by decide +kernel
theorem dX10_begin_1 : decode cX10_begin 1 = .ok (.getfield 29, 3) := by decide +kernel
theorem dX10_begin_4 : decode cX10_begin 4 = .ok (.aload_n 0, 1) := by decide +kernel
theorem dX10_begin_5 : decode cX10_begin 5 = .ok (.getfield 19, 3) := by decide +kernel
theorem dX10_begin_8 : decode cX10_begin 8 = .ok (.invokevirtual 279, 3) := by decide +kernel
theorem dX10_begin_11 : decode cX10_begin 11 = .ok (.aload_n 0, 1) := by decide +kernel
theorem dX10_begin_12 : decode cX10_begin 12 = .ok (.getfield 33, 3) := by decide +kernel
theorem dX10_begin_15 : decode cX10_begin 15 = .ok (.aload_n 0, 1) := by decide +kernel
theorem dX10_begin_16 : decode cX10_begin 16 = .ok (.getfield 19, 3) := by decide +kernel
theorem dX10_begin_19 : decode cX10_begin 19 = .ok (.invokevirtual 279, 3) := by decide +kernel
theorem dX10_begin_22 : decode cX10_begin 22 = .ok (.aload_n 0, 1) := by decide +kernel
theorem dX10_begin_23 : decode cX10_begin 23 = .ok (.getfield 41, 3) := by decide +kernel
theorem dX10_begin_26 : decode cX10_begin 26 = .ok (.invokevirtual 283, 3) := by decide +kernel
theorem dX10_begin_29 : decode cX10_begin 29 = .ok (.aload_n 0, 1) := by decide +kernel
theorem dX10_begin_30 : decode cX10_begin 30 = .ok (.getfield 54, 3) := by decide +kernel
theorem dX10_begin_33 : decode cX10_begin 33 = .ok (.iconst 0, 1) := by decide +kernel
theorem dX10_begin_34 : decode cX10_begin 34 = .ok (.putfield 156, 3) := by decide +kernel
theorem dX10_begin_37 : decode cX10_begin 37 = .ok (.aload_n 0, 1) := by decide +kernel
theorem dX10_begin_38 : decode cX10_begin 38 = .ok (.getfield 61, 3) := by decide +kernel
theorem dX10_begin_41 : decode cX10_begin 41 = .ok (.iconst 0, 1) := by decide +kernel
theorem dX10_begin_42 : decode cX10_begin 42 = .ok (.putfield 157, 3) := by decide +kernel
theorem dX10_begin_45 : decode cX10_begin 45 = .ok (.aload_n 0, 1) := by decide +kernel
theorem dX10_begin_46 : decode cX10_begin 46 = .ok (.getfield 77, 3) := by decide +kernel
theorem dX10_begin_49 : decode cX10_begin 49 = .ok (.invokevirtual 219, 3) := by decide +kernel
theorem dX10_begin_52 : decode cX10_begin 52 = .ok (.iconst 0, 1) := by decide +kernel
theorem dX10_begin_53 : decode cX10_begin 53 = .ok (.istore_n 1, 1) := by decide +kernel
theorem dX10_begin_54 : decode cX10_begin 54 = .ok (.iload_n 1, 1) := by decide +kernel
theorem dX10_begin_55 : decode cX10_begin 55 = .ok (.iconst 2, 1) := by decide +kernel
theorem dX10_begin_56 : decode cX10_begin 56 = .ok (.if_icmp .ge 19, 3) := by decide +kernel
theorem dX10_begin_59 : decode cX10_begin 59 = .ok (.aload_n 0, 1) := by decide +kernel
theorem dX10_begin_60 : decode cX10_begin 60 = .ok (.getfield 92, 3) := by decide +kernel
theorem dX10_begin_63 : decode cX10_begin 63 = .ok (.iload_n 1, 1) := by decide +kernel
theorem dX10_begin_64 : decode cX10_begin 64 = .ok (.aaload, 1) := by decide +kernel
theorem dX10_begin_65 : decode cX10_begin 65 = .ok (.iconst 0, 1) := by decide +kernel
theorem dX10_begin_66 : decode cX10_begin 66 = .ok (.putfield 270, 3) := by decide +kernel
theorem dX10_begin_69 : decode cX10_begin 69 = .ok (.iinc 1 1, 3) := by decide +kernel
theorem dX10_begin_72 : decode cX10_begin 72 = .ok (.goto (-18), 3) := by decide +kernel
theorem dX10_begin_75 : decode cX10_begin 75 = .ok (.return_, 1) := by decide +kernel
theorem dX10_bestWall_0 : decode cX10_bestWall 0 = .ok (.iload_n 1, 1) := by decide +kernel
theorem dX10_bestWall_1 : decode cX10_bestWall 1 = .ok (.invokestatic 236, 3) := by decide +kernel
theorem dX10_bestWall_4 : decode cX10_bestWall 4 = .ok (.ifCond .ne 6, 3) := by decide +kernel
theorem dX10_bestWall_7 : decode cX10_bestWall 7 = .ok (.ldc 161, 2) := by decide +kernel
theorem dX10_bestWall_9 : decode cX10_bestWall 9 = .ok (.ireturn, 1) := by decide +kernel
theorem dX10_bestWall_10 : decode cX10_bestWall 10 = .ok (.iload_n 2, 1) := by decide +kernel
theorem dX10_bestWall_11 : decode cX10_bestWall 11 = .ok (.ifCond .lt 8, 3) := by decide +kernel
theorem dX10_bestWall_14 : decode cX10_bestWall 14 = .ok (.iload_n 2, 1) := by decide +kernel
theorem dX10_bestWall_15 : decode cX10_bestWall 15 = .ok (.iconst 1, 1) := by decide +kernel
theorem dX10_bestWall_16 : decode cX10_bestWall 16 = .ok (.if_icmp .le 6, 3) := by decide +kernel
theorem dX10_bestWall_19 : decode cX10_bestWall 19 = .ok (.ldc 100, 2) := by decide +kernel
theorem dX10_bestWall_21 : decode cX10_bestWall 21 = .ok (.ireturn, 1) := by decide +kernel
theorem dX10_bestWall_22 : decode cX10_bestWall 22 = .ok (.iconst (-1), 1) := by decide +kernel
theorem dX10_bestWall_23 : decode cX10_bestWall 23 = .ok (.istore_n 3, 1) := by decide +kernel
theorem dX10_bestWall_24 : decode cX10_bestWall 24 = .ok (.iconst 0, 1) := by decide +kernel
theorem dX10_bestWall_25 : decode cX10_bestWall 25 = .ok (.istore 4, 2) := by decide +kernel
theorem dX10_bestWall_27 : decode cX10_bestWall 27 = .ok (.aload_n 0, 1) := by decide +kernel
theorem dX10_bestWall_28 : decode cX10_bestWall 28 = .ok (.getfield 41, 3) := by decide +kernel
theorem dX10_bestWall_31 : decode cX10_bestWall 31 = .ok (.iload_n 1, 1) := by decide +kernel
theorem dX10_bestWall_32 : decode cX10_bestWall 32 = .ok (.iconst 1, 1) := by decide +kernel
theorem dX10_bestWall_33 : decode cX10_bestWall 33 = .ok (.invokevirtual 145, 3) := by decide +kernel
theorem dX10_bestWall_36 : decode cX10_bestWall 36 = .ok (.istore 5, 2) := by decide +kernel
theorem dX10_bestWall_38 : decode cX10_bestWall 38 = .ok (.aload_n 0, 1) := by decide +kernel
theorem dX10_bestWall_39 : decode cX10_bestWall 39 = .ok (.getfield 33, 3) := by decide +kernel
theorem dX10_bestWall_42 : decode cX10_bestWall 42 = .ok (.aload_n 0, 1) := by decide +kernel
theorem dX10_bestWall_43 : decode cX10_bestWall 43 = .ok (.getfield 29, 3) := by decide +kernel
theorem dX10_bestWall_46 : decode cX10_bestWall 46 = .ok (.invokevirtual 247, 3) := by decide +kernel
theorem dX10_bestWall_49 : decode cX10_bestWall 49 = .ok (.iconst 0, 1) := by decide +kernel
theorem dX10_bestWall_50 : decode cX10_bestWall 50 = .ok (.istore 6, 2) := by decide +kernel
theorem dX10_bestWall_52 : decode cX10_bestWall 52 = .ok (.iload 6, 2) := by decide +kernel
theorem dX10_bestWall_54 : decode cX10_bestWall 54 = .ok (.aload_n 0, 1) := by decide +kernel
theorem dX10_bestWall_55 : decode cX10_bestWall 55 = .ok (.getfield 29, 3) := by decide +kernel
theorem dX10_bestWall_58 : decode cX10_bestWall 58 = .ok (.getfield 114, 3) := by decide +kernel
theorem dX10_bestWall_61 : decode cX10_bestWall 61 = .ok (.if_icmp .ge 73, 3) := by decide +kernel
theorem dX10_bestWall_64 : decode cX10_bestWall 64 = .ok (.iload_n 3, 1) := by decide +kernel
theorem dX10_bestWall_65 : decode cX10_bestWall 65 = .ok (.iconst (-1), 1) := by decide +kernel
theorem dX10_bestWall_66 : decode cX10_bestWall 66 = .ok (.if_icmp .eq 10, 3) := by decide +kernel
theorem dX10_bestWall_69 : decode cX10_bestWall 69 = .ok (.iload 4, 2) := by decide +kernel
theorem dX10_bestWall_71 : decode cX10_bestWall 71 = .ok (.iload 5, 2) := by decide +kernel
theorem dX10_bestWall_73 : decode cX10_bestWall 73 = .ok (.if_icmp .le 61, 3) := by decide +kernel
theorem dX10_bestWall_76 : decode cX10_bestWall 76 = .ok (.aload_n 0, 1) := by decide +kernel
theorem dX10_bestWall_77 : decode cX10_bestWall 77 = .ok (.getfield 29, 3) := by decide +kernel
theorem dX10_bestWall_80 : decode cX10_bestWall 80 = .ok (.iload 6, 2) := by decide +kernel
theorem dX10_bestWall_82 : decode cX10_bestWall 82 = .ok (.invokevirtual 162, 3) := by decide +kernel
theorem dX10_bestWall_85 : decode cX10_bestWall 85 = .ok (.ifCond .ne 43, 3) := by decide +kernel
theorem dX10_bestWall_88 : decode cX10_bestWall 88 = .ok (.aload_n 0, 1) := by decide +kernel
theorem dX10_bestWall_89 : decode cX10_bestWall 89 = .ok (.getfield 41, 3) := by decide +kernel
theorem dX10_bestWall_92 : decode cX10_bestWall 92 = .ok (.iload 6, 2) := by decide +kernel
theorem dX10_bestWall_94 : decode cX10_bestWall 94 = .ok (.invokevirtual 222, 3) := by decide +kernel
theorem dX10_bestWall_97 : decode cX10_bestWall 97 = .ok (.ifCond .ne 31, 3) := by decide +kernel
theorem dX10_bestWall_100 : decode cX10_bestWall 100 = .ok (.aload_n 0, 1) := by decide +kernel
theorem dX10_bestWall_101 : decode cX10_bestWall 101 = .ok (.iload 6, 2) := by decide +kernel
theorem dX10_bestWall_103 : decode cX10_bestWall 103 = .ok (.iload_n 1, 1) := by decide +kernel
theorem dX10_bestWall_104 : decode cX10_bestWall 104 = .ok (.invokevirtual 251, 3) := by decide +kernel
theorem dX10_bestWall_107 : decode cX10_bestWall 107 = .ok (.istore 7, 2) := by decide +kernel
theorem dX10_bestWall_109 : decode cX10_bestWall 109 = .ok (.iload_n 3, 1) := by decide +kernel
theorem dX10_bestWall_110 : decode cX10_bestWall 110 = .ok (.iconst (-1), 1) := by decide +kernel
theorem dX10_bestWall_111 : decode cX10_bestWall 111 = .ok (.if_icmp .eq 10, 3) := by decide +kernel
theorem dX10_bestWall_114 : decode cX10_bestWall 114 = .ok (.iload 7, 2) := by decide +kernel
theorem dX10_bestWall_116 : decode cX10_bestWall 116 = .ok (.iload 4, 2) := by decide +kernel
theorem dX10_bestWall_118 : decode cX10_bestWall 118 = .ok (.if_icmp .ge 10, 3) := by decide +kernel
theorem dX10_bestWall_121 : decode cX10_bestWall 121 = .ok (.iload 6, 2) := by decide +kernel
theorem dX10_bestWall_123 : decode cX10_bestWall 123 = .ok (.istore_n 3, 1) := by decide +kernel
theorem dX10_bestWall_124 : decode cX10_bestWall 124 = .ok (.iload 7, 2) := by decide +kernel
theorem dX10_bestWall_126 : decode cX10_bestWall 126 = .ok (.istore 4, 2) := by decide +kernel
theorem dX10_bestWall_128 : decode cX10_bestWall 128 = .ok (.iinc 6 1, 3) := by decide +kernel
theorem dX10_bestWall_131 : decode cX10_bestWall 131 = .ok (.goto (-79), 3) := by decide +kernel
theorem dX10_bestWall_134 : decode cX10_bestWall 134 = .ok (.iload_n 3, 1) := by decide +kernel
theorem dX10_bestWall_135 : decode cX10_bestWall 135 = .ok (.iconst (-1), 1) := by decide +kernel
theorem dX10_bestWall_136 : decode cX10_bestWall 136 = .ok (.if_icmp .eq 7, 3) := by decide +kernel
theorem dX10_bestWall_139 : decode cX10_bestWall 139 = .ok (.iload_n 2, 1) := by decide +kernel
theorem dX10_bestWall_140 : decode cX10_bestWall 140 = .ok (.ifCond .ne 14, 3) := by decide +kernel
theorem dX10_bestWall_143 : decode cX10_bestWall 143 = .ok (.aload_n 0, 1) := by decide +kernel
theorem dX10_bestWall_144 : decode cX10_bestWall 144 = .ok (.getfield 29, 3) := by decide +kernel
theorem dX10_bestWall_147 : decode cX10_bestWall 147 = .ok (.iload_n 3, 1) := by decide +kernel
theorem dX10_bestWall_148 : decode cX10_bestWall 148 = .ok (.invokevirtual 141, 3) := by decide +kernel
theorem dX10_bestWall_151 : decode cX10_bestWall 151 = .ok (.goto 5, 3) := by decide +kernel
theorem dX10_bestWall_154 : decode cX10_bestWall 154 = .ok (.iload 4, 2) := by decide +kernel
theorem dX10_bestWall_156 : decode cX10_bestWall 156 = .ok (.ireturn, 1) := by decide +kernel
theorem dX10_cell_0 : decode cX10_cell 0 = .ok (.aload_n 0, 1) := by decide +kernel
theorem dX10_cell_1 : decode cX10_cell 1 = .ok (.getfield 29, 3) := by decide +kernel
theorem dX10_cell_4 : decode cX10_cell 4 = .ok (.iload_n 1, 1) := by decide +kernel
theorem dX10_cell_5 : decode cX10_cell 5 = .ok (.iload_n 2, 1) := by decide +kernel
theorem dX10_cell_6 : decode cX10_cell 6 = .ok (.invokevirtual 158, 3) := by decide +kernel
theorem dX10_cell_9 : decode cX10_cell 9 = .ok (.istore_n 3, 1) := by decide +kernel
theorem dX10_cell_10 : decode cX10_cell 10 = .ok (.iload_n 3, 1) := by decide +kernel
theorem dX10_cell_11 : decode cX10_cell 11 = .ok (.iconst (-1), 1) := by decide +kernel
theorem dX10_cell_12 : decode cX10_cell 12 = .ok (.if_icmp .ne 8, 3) := by decide +kernel
theorem dX10_cell_15 : decode cX10_cell 15 = .ok (.ldc 161, 2) := by decide +kernel
theorem dX10_cell_17 : decode cX10_cell 17 = .ok (.goto 11, 3) := by decide +kernel
theorem dX10_cell_20 : decode cX10_cell 20 = .ok (.aload_n 0, 1) := by decide +kernel
theorem dX10_cell_21 : decode cX10_cell 21 = .ok (.getfield 29, 3) := by decide +kernel
theorem dX10_cell_24 : decode cX10_cell 24 = .ok (.iload_n 3, 1) := by decide +kernel
theorem dX10_cell_25 : decode cX10_cell 25 = .ok (.invokevirtual 162, 3) := by decide +kernel
theorem dX10_cell_28 : decode cX10_cell 28 = .ok (.ireturn, 1) := by decide +kernel
theorem dX10_crowd_0 : decode cX10_crowd 0 = .ok (.aload_n 0, 1) := by decide +kernel
theorem dX10_crowd_1 : decode cX10_crowd 1 = .ok (.iload_n 1, 1) := by decide +kernel
theorem dX10_crowd_2 : decode cX10_crowd 2 = .ok (.invokevirtual 165, 3) := by decide +kernel
theorem dX10_crowd_5 : decode cX10_crowd 5 = .ok (.ifCond .ne 6, 3) := by decide +kernel
theorem dX10_crowd_8 : decode cX10_crowd 8 = .ok (.ldc 161, 2) := by decide +kernel
theorem dX10_crowd_10 : decode cX10_crowd 10 = .ok (.ireturn, 1) := by decide +kernel
theorem dX10_crowd_11 : decode cX10_crowd 11 = .ok (.iload_n 2, 1) := by decide +kernel
theorem dX10_crowd_12 : decode cX10_crowd 12 = .ok (.tableswitch 127 0 6 #[44, 54, 64, 74, 84, 101, 118], 44) := by decide +kernel
theorem dX10_crowd_56 : decode cX10_crowd 56 = .ok (.aload_n 0, 1) := by decide +kernel
theorem dX10_crowd_57 : decode cX10_crowd 57 = .ok (.getfield 19, 3) := by decide +kernel
theorem dX10_crowd_60 : decode cX10_crowd 60 = .ok (.getfield 169, 3) := by decide +kernel
theorem dX10_crowd_63 : decode cX10_crowd 63 = .ok (.iload_n 1, 1) := by decide +kernel
theorem dX10_crowd_64 : decode cX10_crowd 64 = .ok (.iaload, 1) := by decide +kernel
theorem dX10_crowd_65 : decode cX10_crowd 65 = .ok (.ireturn, 1) := by decide +kernel
theorem dX10_crowd_66 : decode cX10_crowd 66 = .ok (.aload_n 0, 1) := by decide +kernel
theorem dX10_crowd_67 : decode cX10_crowd 67 = .ok (.getfield 19, 3) := by decide +kernel
theorem dX10_crowd_70 : decode cX10_crowd 70 = .ok (.getfield 173, 3) := by decide +kernel
theorem dX10_crowd_73 : decode cX10_crowd 73 = .ok (.iload_n 1, 1) := by decide +kernel
theorem dX10_crowd_74 : decode cX10_crowd 74 = .ok (.iaload, 1) := by decide +kernel
theorem dX10_crowd_75 : decode cX10_crowd 75 = .ok (.ireturn, 1) := by decide +kernel
theorem dX10_crowd_76 : decode cX10_crowd 76 = .ok (.aload_n 0, 1) := by decide +kernel
theorem dX10_crowd_77 : decode cX10_crowd 77 = .ok (.getfield 19, 3) := by decide +kernel
theorem dX10_crowd_80 : decode cX10_crowd 80 = .ok (.getfield 175, 3) := by decide +kernel
theorem dX10_crowd_83 : decode cX10_crowd 83 = .ok (.iload_n 1, 1) := by decide +kernel
theorem dX10_crowd_84 : decode cX10_crowd 84 = .ok (.iaload, 1) := by decide +kernel
theorem dX10_crowd_85 : decode cX10_crowd 85 = .ok (.ireturn, 1) := by decide +kernel
theorem dX10_crowd_86 : decode cX10_crowd 86 = .ok (.aload_n 0, 1) := by decide +kernel
theorem dX10_crowd_87 : decode cX10_crowd 87 = .ok (.getfield 19, 3) := by decide +kernel
theorem dX10_crowd_90 : decode cX10_crowd 90 = .ok (.getfield 178, 3) := by decide +kernel
theorem dX10_crowd_93 : decode cX10_crowd 93 = .ok (.iload_n 1, 1) := by decide +kernel
theorem dX10_crowd_94 : decode cX10_crowd 94 = .ok (.iaload, 1) := by decide +kernel
theorem dX10_crowd_95 : decode cX10_crowd 95 = .ok (.ireturn, 1) := by decide +kernel
theorem dX10_crowd_96 : decode cX10_crowd 96 = .ok (.aload_n 0, 1) := by decide +kernel
theorem dX10_crowd_97 : decode cX10_crowd 97 = .ok (.getfield 29, 3) := by decide +kernel
theorem dX10_crowd_100 : decode cX10_crowd 100 = .ok (.aload_n 0, 1) := by decide +kernel
theorem dX10_crowd_101 : decode cX10_crowd 101 = .ok (.getfield 41, 3) := by decide +kernel
theorem dX10_crowd_104 : decode cX10_crowd 104 = .ok (.getfield 181, 3) := by decide +kernel
theorem dX10_crowd_107 : decode cX10_crowd 107 = .ok (.iload_n 1, 1) := by decide +kernel
theorem dX10_crowd_108 : decode cX10_crowd 108 = .ok (.iaload, 1) := by decide +kernel
theorem dX10_crowd_109 : decode cX10_crowd 109 = .ok (.invokevirtual 141, 3) := by decide +kernel
theorem dX10_crowd_112 : decode cX10_crowd 112 = .ok (.ireturn, 1) := by decide +kernel
theorem dX10_crowd_113 : decode cX10_crowd 113 = .ok (.aload_n 0, 1) := by decide +kernel
theorem dX10_crowd_114 : decode cX10_crowd 114 = .ok (.getfield 29, 3) := by decide +kernel
theorem dX10_crowd_117 : decode cX10_crowd 117 = .ok (.aload_n 0, 1) := by decide +kernel
theorem dX10_crowd_118 : decode cX10_crowd 118 = .ok (.getfield 41, 3) := by decide +kernel
theorem dX10_crowd_121 : decode cX10_crowd 121 = .ok (.getfield 184, 3) := by decide +kernel
theorem dX10_crowd_124 : decode cX10_crowd 124 = .ok (.iload_n 1, 1) := by decide +kernel
theorem dX10_crowd_125 : decode cX10_crowd 125 = .ok (.iaload, 1) := by decide +kernel
theorem dX10_crowd_126 : decode cX10_crowd 126 = .ok (.invokevirtual 141, 3) := by decide +kernel
theorem dX10_crowd_129 : decode cX10_crowd 129 = .ok (.ireturn, 1) := by decide +kernel
theorem dX10_crowd_130 : decode cX10_crowd 130 = .ok (.aload_n 0, 1) := by decide +kernel
theorem dX10_crowd_131 : decode cX10_crowd 131 = .ok (.getfield 41, 3) := by decide +kernel
theorem dX10_crowd_134 : decode cX10_crowd 134 = .ok (.iload_n 1, 1) := by decide +kernel
theorem dX10_crowd_135 : decode cX10_crowd 135 = .ok (.invokevirtual 187, 3) := by decide +kernel
theorem dX10_crowd_138 : decode cX10_crowd 138 = .ok (.ireturn, 1) := by decide +kernel
theorem dX10_crowd_139 : decode cX10_crowd 139 = .ok (.ldc 100, 2) := by decide +kernel
theorem dX10_crowd_141 : decode cX10_crowd 141 = .ok (.ireturn, 1) := by decide +kernel
theorem dX10_drift_0 : decode cX10_drift 0 = .ok (.iload_n 1, 1) := by decide +kernel
theorem dX10_drift_1 : decode cX10_drift 1 = .ok (.iconst 1, 1) := by decide +kernel
theorem dX10_drift_2 : decode cX10_drift 2 = .ok (.if_icmp .lt 9, 3) := by decide +kernel
theorem dX10_drift_5 : decode cX10_drift 5 = .ok (.iload_n 1, 1) := by decide +kernel
theorem dX10_drift_6 : decode cX10_drift 6 = .ok (.bipush 99, 2) := by decide +kernel
theorem dX10_drift_8 : decode cX10_drift 8 = .ok (.if_icmp .le 6, 3) := by decide +kernel
theorem dX10_drift_11 : decode cX10_drift 11 = .ok (.ldc 100, 2) := by decide +kernel
theorem dX10_drift_13 : decode cX10_drift 13 = .ok (.ireturn, 1) := by decide +kernel
theorem dX10_drift_14 : decode cX10_drift 14 = .ok (.aload_n 0, 1) := by decide +kernel
theorem dX10_drift_15 : decode cX10_drift 15 = .ok (.getfield 29, 3) := by decide +kernel
theorem dX10_drift_18 : decode cX10_drift 18 = .ok (.getfield 114, 3) := by decide +kernel
theorem dX10_drift_21 : decode cX10_drift 21 = .ok (.ifCond .ne 6, 3) := by decide +kernel
theorem dX10_drift_24 : decode cX10_drift 24 = .ok (.ldc 214, 2) := by decide +kernel
theorem dX10_drift_26 : decode cX10_drift 26 = .ok (.ireturn, 1) := by decide +kernel
theorem dX10_drift_27 : decode cX10_drift 27 = .ok (.iconst 0, 1) := by decide +kernel
theorem dX10_drift_28 : decode cX10_drift 28 = .ok (.istore_n 2, 1) := by decide +kernel
theorem dX10_drift_29 : decode cX10_drift 29 = .ok (.iload_n 2, 1) := by decide +kernel
theorem dX10_drift_30 : decode cX10_drift 30 = .ok (.iload_n 1, 1) := by decide +kernel
theorem dX10_drift_31 : decode cX10_drift 31 = .ok (.if_icmp .ge 71, 3) := by decide +kernel
theorem dX10_drift_34 : decode cX10_drift 34 = .ok (.aload_n 0, 1) := by decide +kernel
theorem dX10_drift_35 : decode cX10_drift 35 = .ok (.iconst 5, 1) := by decide +kernel
theorem dX10_drift_36 : decode cX10_drift 36 = .ok (.invokevirtual 228, 3) := by decide +kernel
theorem dX10_drift_39 : decode cX10_drift 39 = .ok (.istore_n 3, 1) := by decide +kernel
theorem dX10_drift_40 : decode cX10_drift 40 = .ok (.aload_n 0, 1) := by decide +kernel
theorem dX10_drift_41 : decode cX10_drift 41 = .ok (.aload_n 0, 1) := by decide +kernel
theorem dX10_drift_42 : decode cX10_drift 42 = .ok (.getfield 19, 3) := by decide +kernel
theorem dX10_drift_45 : decode cX10_drift 45 = .ok (.getfield 132, 3) := by decide +kernel
theorem dX10_drift_48 : decode cX10_drift 48 = .ok (.iconst 1, 1) := by decide +kernel
theorem dX10_drift_49 : decode cX10_drift 49 = .ok (.iadd, 1) := by decide +kernel
theorem dX10_drift_50 : decode cX10_drift 50 = .ok (.invokevirtual 228, 3) := by decide +kernel
theorem dX10_drift_53 : decode cX10_drift 53 = .ok (.istore 4, 2) := by decide +kernel
theorem dX10_drift_55 : decode cX10_drift 55 = .ok (.aload_n 0, 1) := by decide +kernel
theorem dX10_drift_56 : decode cX10_drift 56 = .ok (.getfield 41, 3) := by decide +kernel
theorem dX10_drift_59 : decode cX10_drift 59 = .ok (.aload_n 0, 1) := by decide +kernel
theorem dX10_drift_60 : decode cX10_drift 60 = .ok (.getfield 41, 3) := by decide +kernel
theorem dX10_drift_63 : decode cX10_drift 63 = .ok (.iload_n 3, 1) := by decide +kernel
theorem dX10_drift_64 : decode cX10_drift 64 = .ok (.invokevirtual 211, 3) := by decide +kernel
theorem dX10_drift_67 : decode cX10_drift 67 = .ok (.ifCond .eq 7, 3) := by decide +kernel
theorem dX10_drift_70 : decode cX10_drift 70 = .ok (.iload_n 3, 1) := by decide +kernel
theorem dX10_drift_71 : decode cX10_drift 71 = .ok (.goto 4, 3) := by decide +kernel
theorem dX10_drift_74 : decode cX10_drift 74 = .ok (.iconst 0, 1) := by decide +kernel
theorem dX10_drift_75 : decode cX10_drift 75 = .ok (.iload 4, 2) := by decide +kernel
theorem dX10_drift_77 : decode cX10_drift 77 = .ok (.aload_n 0, 1) := by decide +kernel
theorem dX10_drift_78 : decode cX10_drift 78 = .ok (.getfield 19, 3) := by decide +kernel
theorem dX10_drift_81 : decode cX10_drift 81 = .ok (.getfield 132, 3) := by decide +kernel
theorem dX10_drift_84 : decode cX10_drift 84 = .ok (.if_icmp .ge 8, 3) := by decide +kernel
theorem dX10_drift_87 : decode cX10_drift 87 = .ok (.iload 4, 2) := by decide +kernel
theorem dX10_drift_89 : decode cX10_drift 89 = .ok (.goto 4, 3) := by decide +kernel
theorem dX10_drift_92 : decode cX10_drift 92 = .ok (.iconst (-1), 1) := by decide +kernel
theorem dX10_drift_93 : decode cX10_drift 93 = .ok (.invokevirtual 215, 3) := by decide +kernel
theorem dX10_drift_96 : decode cX10_drift 96 = .ok (.iinc 2 1, 3) := by decide +kernel
theorem dX10_drift_99 : decode cX10_drift 99 = .ok (.goto (-70), 3) := by decide +kernel
theorem dX10_drift_102 : decode cX10_drift 102 = .ok (.aload_n 0, 1) := by decide +kernel
theorem dX10_drift_103 : decode cX10_drift 103 = .ok (.getfield 77, 3) := by decide +kernel
theorem dX10_drift_106 : decode cX10_drift 106 = .ok (.invokevirtual 219, 3) := by decide +kernel
theorem dX10_drift_109 : decode cX10_drift 109 = .ok (.aload_n 0, 1) := by decide +kernel
theorem dX10_drift_110 : decode cX10_drift 110 = .ok (.getfield 41, 3) := by decide +kernel
theorem dX10_drift_113 : decode cX10_drift 113 = .ok (.invokevirtual 149, 3) := by decide +kernel
theorem dX10_drift_116 : decode cX10_drift 116 = .ok (.ireturn, 1) := by decide +kernel
theorem dX10_drop_0 : decode cX10_drop 0 = .ok (.aload_n 0, 1) := by decide +kernel
theorem dX10_drop_1 : decode cX10_drop 1 = .ok (.getfield 54, 3) := by decide +kernel
theorem dX10_drop_4 : decode cX10_drop 4 = .ok (.getfield 156, 3) := by decide +kernel
theorem dX10_drop_7 : decode cX10_drop 7 = .ok (.istore_n 1, 1) := by decide +kernel
theorem dX10_drop_8 : decode cX10_drop 8 = .ok (.aload_n 0, 1) := by decide +kernel
theorem dX10_drop_9 : decode cX10_drop 9 = .ok (.getfield 54, 3) := by decide +kernel
theorem dX10_drop_12 : decode cX10_drop 12 = .ok (.iconst 0, 1) := by decide +kernel
theorem dX10_drop_13 : decode cX10_drop 13 = .ok (.putfield 156, 3) := by decide +kernel
theorem dX10_drop_16 : decode cX10_drop 16 = .ok (.iload_n 1, 1) := by decide +kernel
theorem dX10_drop_17 : decode cX10_drop 17 = .ok (.ireturn, 1) := by decide +kernel
theorem dX10_far_0 : decode cX10_far 0 = .ok (.aload_n 0, 1) := by decide +kernel
theorem dX10_far_1 : decode cX10_far 1 = .ok (.getfield 29, 3) := by decide +kernel
theorem dX10_far_4 : decode cX10_far 4 = .ok (.iload_n 1, 1) := by decide +kernel
theorem dX10_far_5 : decode cX10_far 5 = .ok (.iload_n 2, 1) := by decide +kernel
theorem dX10_far_6 : decode cX10_far 6 = .ok (.invokevirtual 158, 3) := by decide +kernel
theorem dX10_far_9 : decode cX10_far 9 = .ok (.istore 5, 2) := by decide +kernel
theorem dX10_far_11 : decode cX10_far 11 = .ok (.aload_n 0, 1) := by decide +kernel
theorem dX10_far_12 : decode cX10_far 12 = .ok (.getfield 29, 3) := by decide +kernel
theorem dX10_far_15 : decode cX10_far 15 = .ok (.iload_n 3, 1) := by decide +kernel
theorem dX10_far_16 : decode cX10_far 16 = .ok (.iload 4, 2) := by decide +kernel
theorem dX10_far_18 : decode cX10_far 18 = .ok (.invokevirtual 158, 3) := by decide +kernel
theorem dX10_far_21 : decode cX10_far 21 = .ok (.istore 6, 2) := by decide +kernel
theorem dX10_far_23 : decode cX10_far 23 = .ok (.iload 5, 2) := by decide +kernel
theorem dX10_far_25 : decode cX10_far 25 = .ok (.iconst (-1), 1) := by decide +kernel
theorem dX10_far_26 : decode cX10_far 26 = .ok (.if_icmp .eq 9, 3) := by decide +kernel
theorem dX10_far_29 : decode cX10_far 29 = .ok (.iload 6, 2) := by decide +kernel
theorem dX10_far_31 : decode cX10_far 31 = .ok (.iconst (-1), 1) := by decide +kernel
theorem dX10_far_32 : decode cX10_far 32 = .ok (.if_icmp .ne 8, 3) := by decide +kernel
theorem dX10_far_35 : decode cX10_far 35 = .ok (.ldc 161, 2) := by decide +kernel
theorem dX10_far_37 : decode cX10_far 37 = .ok (.goto 14, 3) := by decide +kernel
theorem dX10_far_40 : decode cX10_far 40 = .ok (.aload_n 0, 1) := by decide +kernel
theorem dX10_far_41 : decode cX10_far 41 = .ok (.getfield 29, 3) := by decide +kernel
theorem dX10_far_44 : decode cX10_far 44 = .ok (.iload 5, 2) := by decide +kernel
theorem dX10_far_46 : decode cX10_far 46 = .ok (.iload 6, 2) := by decide +kernel
theorem dX10_far_48 : decode cX10_far 48 = .ok (.invokevirtual 202, 3) := by decide +kernel
theorem dX10_far_51 : decode cX10_far 51 = .ok (.ireturn, 1) := by decide +kernel
theorem dX10_fault_0 : decode cX10_fault 0 = .ok (.aload_n 0, 1) := by decide +kernel
theorem dX10_fault_1 : decode cX10_fault 1 = .ok (.getfield 10, 3) := by decide +kernel
theorem dX10_fault_4 : decode cX10_fault 4 = .ok (.getfield 120, 3) := by decide +kernel
theorem dX10_fault_7 : decode cX10_fault 7 = .ok (.ireturn, 1) := by decide +kernel
theorem dX10_feed_0 : decode cX10_feed 0 = .ok (.iload_n 1, 1) := by decide +kernel
theorem dX10_feed_1 : decode cX10_feed 1 = .ok (.iconst 1, 1) := by decide +kernel
theorem dX10_feed_2 : decode cX10_feed 2 = .ok (.if_icmp .lt 9, 3) := by decide +kernel
theorem dX10_feed_5 : decode cX10_feed 5 = .ok (.iload_n 1, 1) := by decide +kernel
theorem dX10_feed_6 : decode cX10_feed 6 = .ok (.bipush 8, 2) := by decide +kernel
theorem dX10_feed_8 : decode cX10_feed 8 = .ok (.if_icmp .le 6, 3) := by decide +kernel
theorem dX10_feed_11 : decode cX10_feed 11 = .ok (.ldc 100, 2) := by decide +kernel
theorem dX10_feed_13 : decode cX10_feed 13 = .ok (.ireturn, 1) := by decide +kernel
theorem dX10_feed_14 : decode cX10_feed 14 = .ok (.aload_n 0, 1) := by decide +kernel
theorem dX10_feed_15 : decode cX10_feed 15 = .ok (.getfield 10, 3) := by decide +kernel
theorem dX10_feed_18 : decode cX10_feed 18 = .ok (.getfield 101, 3) := by decide +kernel
theorem dX10_feed_21 : decode cX10_feed 21 = .ok (.iload_n 1, 1) := by decide +kernel
theorem dX10_feed_22 : decode cX10_feed 22 = .ok (.iadd, 1) := by decide +kernel
theorem dX10_feed_23 : decode cX10_feed 23 = .ok (.sipush 500, 3) := by decide +kernel
theorem dX10_feed_26 : decode cX10_feed 26 = .ok (.if_icmp .le 6, 3) := by decide +kernel
theorem dX10_feed_29 : decode cX10_feed 29 = .ok (.ldc 105, 2) := by decide +kernel
theorem dX10_feed_31 : decode cX10_feed 31 = .ok (.ireturn, 1) := by decide +kernel
theorem dX10_feed_32 : decode cX10_feed 32 = .ok (.iload_n 1, 1) := by decide +kernel
theorem dX10_feed_33 : decode cX10_feed 33 = .ok (.iconst 1, 1) := by decide +kernel
theorem dX10_feed_34 : decode cX10_feed 34 = .ok (.isub, 1) := by decide +kernel
theorem dX10_feed_35 : decode cX10_feed 35 = .ok (.istore 4, 2) := by decide +kernel
theorem dX10_feed_37 : decode cX10_feed 37 = .ok (.iload 4, 2) := by decide +kernel
theorem dX10_feed_39 : decode cX10_feed 39 = .ok (.ifCond .lt 28, 3) := by decide +kernel
theorem dX10_feed_42 : decode cX10_feed 42 = .ok (.aload_n 0, 1) := by decide +kernel
theorem dX10_feed_43 : decode cX10_feed 43 = .ok (.getfield 10, 3) := by decide +kernel
theorem dX10_feed_46 : decode cX10_feed 46 = .ok (.lload_n 2, 1) := by decide +kernel
theorem dX10_feed_47 : decode cX10_feed 47 = .ok (.bipush 8, 2) := by decide +kernel
theorem dX10_feed_49 : decode cX10_feed 49 = .ok (.iload 4, 2) := by decide +kernel
theorem dX10_feed_51 : decode cX10_feed 51 = .ok (.imul, 1) := by decide +kernel
theorem dX10_feed_52 : decode cX10_feed 52 = .ok (.lushr, 1) := by decide +kernel
theorem dX10_feed_53 : decode cX10_feed 53 = .ok (.l2i, 1) := by decide +kernel
theorem dX10_feed_54 : decode cX10_feed 54 = .ok (.sipush 255, 3) := by decide +kernel
theorem dX10_feed_57 : decode cX10_feed 57 = .ok (.iand, 1) := by decide +kernel
theorem dX10_feed_58 : decode cX10_feed 58 = .ok (.invokevirtual 106, 3) := by decide +kernel
theorem dX10_feed_61 : decode cX10_feed 61 = .ok (.iinc 4 (-1), 3) := by decide +kernel
theorem dX10_feed_64 : decode cX10_feed 64 = .ok (.goto (-27), 3) := by decide +kernel
theorem dX10_feed_67 : decode cX10_feed 67 = .ok (.aload_n 0, 1) := by decide +kernel
theorem dX10_feed_68 : decode cX10_feed 68 = .ok (.getfield 10, 3) := by decide +kernel
theorem dX10_feed_71 : decode cX10_feed 71 = .ok (.getfield 101, 3) := by decide +kernel
theorem dX10_feed_74 : decode cX10_feed 74 = .ok (.ireturn, 1) := by decide +kernel
theorem dX10_goBack_0 : decode cX10_goBack 0 = .ok (.iload_n 1, 1) := by decide +kernel
theorem dX10_goBack_1 : decode cX10_goBack 1 = .ok (.invokestatic 263, 3) := by decide +kernel
theorem dX10_goBack_4 : decode cX10_goBack 4 = .ok (.ifCond .ne 6, 3) := by decide +kernel
theorem dX10_goBack_7 : decode cX10_goBack 7 = .ok (.ldc 161, 2) := by decide +kernel
theorem dX10_goBack_9 : decode cX10_goBack 9 = .ok (.ireturn, 1) := by decide +kernel
theorem dX10_goBack_10 : decode cX10_goBack 10 = .ok (.aload_n 0, 1) := by decide +kernel
theorem dX10_goBack_11 : decode cX10_goBack 11 = .ok (.getfield 92, 3) := by decide +kernel
theorem dX10_goBack_14 : decode cX10_goBack 14 = .ok (.iload_n 1, 1) := by decide +kernel
theorem dX10_goBack_15 : decode cX10_goBack 15 = .ok (.aaload, 1) := by decide +kernel
theorem dX10_goBack_16 : decode cX10_goBack 16 = .ok (.getfield 270, 3) := by decide +kernel
theorem dX10_goBack_19 : decode cX10_goBack 19 = .ok (.ifCond .ne 6, 3) := by decide +kernel
theorem dX10_goBack_22 : decode cX10_goBack 22 = .ok (.ldc 214, 2) := by decide +kernel
theorem dX10_goBack_24 : decode cX10_goBack 24 = .ok (.ireturn, 1) := by decide +kernel
theorem dX10_goBack_25 : decode cX10_goBack 25 = .ok (.aload_n 0, 1) := by decide +kernel
theorem dX10_goBack_26 : decode cX10_goBack 26 = .ok (.getfield 92, 3) := by decide +kernel
theorem dX10_goBack_29 : decode cX10_goBack 29 = .ok (.iload_n 1, 1) := by decide +kernel
theorem dX10_goBack_30 : decode cX10_goBack 30 = .ok (.aaload, 1) := by decide +kernel
theorem dX10_goBack_31 : decode cX10_goBack 31 = .ok (.aload_n 0, 1) := by decide +kernel
theorem dX10_goBack_32 : decode cX10_goBack 32 = .ok (.getfield 41, 3) := by decide +kernel
theorem dX10_goBack_35 : decode cX10_goBack 35 = .ok (.aload_n 0, 1) := by decide +kernel
theorem dX10_goBack_36 : decode cX10_goBack 36 = .ok (.getfield 29, 3) := by decide +kernel
theorem dX10_goBack_39 : decode cX10_goBack 39 = .ok (.invokevirtual 274, 3) := by decide +kernel
theorem dX10_goBack_42 : decode cX10_goBack 42 = .ok (.aload_n 0, 1) := by decide +kernel
theorem dX10_goBack_43 : decode cX10_goBack 43 = .ok (.aload_n 0, 1) := by decide +kernel
theorem dX10_goBack_44 : decode cX10_goBack 44 = .ok (.getfield 92, 3) := by decide +kernel
theorem dX10_goBack_47 : decode cX10_goBack 47 = .ok (.iload_n 1, 1) := by decide +kernel
theorem dX10_goBack_48 : decode cX10_goBack 48 = .ok (.aaload, 1) := by decide +kernel
theorem dX10_goBack_49 : decode cX10_goBack 49 = .ok (.getfield 278, 3) := by decide +kernel
theorem dX10_goBack_52 : decode cX10_goBack 52 = .ok (.putfield 260, 3) := by decide +kernel
theorem dX10_goBack_55 : decode cX10_goBack 55 = .ok (.aload_n 0, 1) := by decide +kernel
theorem dX10_goBack_56 : decode cX10_goBack 56 = .ok (.getfield 77, 3) := by decide +kernel
theorem dX10_goBack_59 : decode cX10_goBack 59 = .ok (.invokevirtual 219, 3) := by decide +kernel
theorem dX10_goBack_62 : decode cX10_goBack 62 = .ok (.iconst 1, 1) := by decide +kernel
theorem dX10_goBack_63 : decode cX10_goBack 63 = .ok (.ireturn, 1) := by decide +kernel
theorem dX10_init_0 : decode cX10_init 0 = .ok (.aload_n 0, 1) := by decide +kernel
theorem dX10_init_1 : decode cX10_init 1 = .ok (.invokespecial 1, 3) := by decide +kernel
theorem dX10_init_4 : decode cX10_init 4 = .ok (.aload_n 0, 1) := by decide +kernel
theorem dX10_init_5 : decode cX10_init 5 = .ok (.new 7, 3) := by decide +kernel
theorem dX10_init_8 : decode cX10_init 8 = .ok (.dup, 1) := by decide +kernel
theorem dX10_init_9 : decode cX10_init 9 = .ok (.invokespecial 9, 3) := by decide +kernel
theorem dX10_init_12 : decode cX10_init 12 = .ok (.putfield 10, 3) := by decide +kernel
theorem dX10_init_15 : decode cX10_init 15 = .ok (.aload_n 0, 1) := by decide +kernel
theorem dX10_init_16 : decode cX10_init 16 = .ok (.new 16, 3) := by decide +kernel
theorem dX10_init_19 : decode cX10_init 19 = .ok (.dup, 1) := by decide +kernel
theorem dX10_init_20 : decode cX10_init 20 = .ok (.invokespecial 18, 3) := by decide +kernel
theorem dX10_init_23 : decode cX10_init 23 = .ok (.putfield 19, 3) := by decide +kernel
theorem dX10_init_26 : decode cX10_init 26 = .ok (.aload_n 0, 1) := by decide +kernel
theorem dX10_init_27 : decode cX10_init 27 = .ok (.new 16, 3) := by decide +kernel
theorem dX10_init_30 : decode cX10_init 30 = .ok (.dup, 1) := by decide +kernel
theorem dX10_init_31 : decode cX10_init 31 = .ok (.invokespecial 18, 3) := by decide +kernel
theorem dX10_init_34 : decode cX10_init 34 = .ok (.putfield 23, 3) := by decide +kernel
theorem dX10_init_37 : decode cX10_init 37 = .ok (.aload_n 0, 1) := by decide +kernel
theorem dX10_init_38 : decode cX10_init 38 = .ok (.new 26, 3) := by decide +kernel
theorem dX10_init_41 : decode cX10_init 41 = .ok (.dup, 1) := by decide +kernel
theorem dX10_init_42 : decode cX10_init 42 = .ok (.invokespecial 28, 3) := by decide +kernel
theorem dX10_init_45 : decode cX10_init 45 = .ok (.putfield 29, 3) := by decide +kernel
theorem dX10_init_48 : decode cX10_init 48 = .ok (.aload_n 0, 1) := by decide +kernel
theorem dX10_init_49 : decode cX10_init 49 = .ok (.new 26, 3) := by decide +kernel
theorem dX10_init_52 : decode cX10_init 52 = .ok (.dup, 1) := by decide +kernel
theorem dX10_init_53 : decode cX10_init 53 = .ok (.invokespecial 28, 3) := by decide +kernel
theorem dX10_init_56 : decode cX10_init 56 = .ok (.putfield 33, 3) := by decide +kernel
theorem dX10_init_59 : decode cX10_init 59 = .ok (.aload_n 0, 1) := by decide +kernel
theorem dX10_init_60 : decode cX10_init 60 = .ok (.new 36, 3) := by decide +kernel
theorem dX10_init_63 : decode cX10_init 63 = .ok (.dup, 1) := by decide +kernel
theorem dX10_init_64 : decode cX10_init 64 = .ok (.aload_n 0, 1) := by decide +kernel
theorem dX10_init_65 : decode cX10_init 65 = .ok (.getfield 19, 3) := by decide +kernel
theorem dX10_init_68 : decode cX10_init 68 = .ok (.aload_n 0, 1) := by decide +kernel
theorem dX10_init_69 : decode cX10_init 69 = .ok (.getfield 29, 3) := by decide +kernel
theorem dX10_init_72 : decode cX10_init 72 = .ok (.invokespecial 38, 3) := by decide +kernel
theorem dX10_init_75 : decode cX10_init 75 = .ok (.putfield 41, 3) := by decide +kernel
theorem dX10_init_78 : decode cX10_init 78 = .ok (.aload_n 0, 1) := by decide +kernel
theorem dX10_init_79 : decode cX10_init 79 = .ok (.new 36, 3) := by decide +kernel
theorem dX10_init_82 : decode cX10_init 82 = .ok (.dup, 1) := by decide +kernel
theorem dX10_init_83 : decode cX10_init 83 = .ok (.aload_n 0, 1) := by decide +kernel
theorem dX10_init_84 : decode cX10_init 84 = .ok (.getfield 19, 3) := by decide +kernel
theorem dX10_init_87 : decode cX10_init 87 = .ok (.aload_n 0, 1) := by decide +kernel
theorem dX10_init_88 : decode cX10_init 88 = .ok (.getfield 29, 3) := by decide +kernel
theorem dX10_init_91 : decode cX10_init 91 = .ok (.invokespecial 38, 3) := by decide +kernel
theorem dX10_init_94 : decode cX10_init 94 = .ok (.putfield 45, 3) := by decide +kernel
theorem dX10_init_97 : decode cX10_init 97 = .ok (.aload_n 0, 1) := by decide +kernel
theorem dX10_init_98 : decode cX10_init 98 = .ok (.new 36, 3) := by decide +kernel
theorem dX10_init_101 : decode cX10_init 101 = .ok (.dup, 1) := by decide +kernel
theorem dX10_init_102 : decode cX10_init 102 = .ok (.aload_n 0, 1) := by decide +kernel
theorem dX10_init_103 : decode cX10_init 103 = .ok (.getfield 19, 3) := by decide +kernel
theorem dX10_init_106 : decode cX10_init 106 = .ok (.aload_n 0, 1) := by decide +kernel
theorem dX10_init_107 : decode cX10_init 107 = .ok (.getfield 33, 3) := by decide +kernel
theorem dX10_init_110 : decode cX10_init 110 = .ok (.invokespecial 38, 3) := by decide +kernel
theorem dX10_init_113 : decode cX10_init 113 = .ok (.putfield 48, 3) := by decide +kernel
theorem dX10_init_116 : decode cX10_init 116 = .ok (.aload_n 0, 1) := by decide +kernel
theorem dX10_init_117 : decode cX10_init 117 = .ok (.new 51, 3) := by decide +kernel
theorem dX10_init_120 : decode cX10_init 120 = .ok (.dup, 1) := by decide +kernel
theorem dX10_init_121 : decode cX10_init 121 = .ok (.invokespecial 53, 3) := by decide +kernel
theorem dX10_init_124 : decode cX10_init 124 = .ok (.putfield 54, 3) := by decide +kernel
theorem dX10_init_127 : decode cX10_init 127 = .ok (.aload_n 0, 1) := by decide +kernel
theorem dX10_init_128 : decode cX10_init 128 = .ok (.new 58, 3) := by decide +kernel
theorem dX10_init_131 : decode cX10_init 131 = .ok (.dup, 1) := by decide +kernel
theorem dX10_init_132 : decode cX10_init 132 = .ok (.invokespecial 60, 3) := by decide +kernel
theorem dX10_init_135 : decode cX10_init 135 = .ok (.putfield 61, 3) := by decide +kernel
theorem dX10_init_138 : decode cX10_init 138 = .ok (.aload_n 0, 1) := by decide +kernel
theorem dX10_init_139 : decode cX10_init 139 = .ok (.new 65, 3) := by decide +kernel
theorem dX10_init_142 : decode cX10_init 142 = .ok (.dup, 1) := by decide +kernel
theorem dX10_init_143 : decode cX10_init 143 = .ok (.invokespecial 67, 3) := by decide +kernel
theorem dX10_init_146 : decode cX10_init 146 = .ok (.putfield 68, 3) := by decide +kernel
theorem dX10_init_149 : decode cX10_init 149 = .ok (.aload_n 0, 1) := by decide +kernel
theorem dX10_init_150 : decode cX10_init 150 = .ok (.new 72, 3) := by decide +kernel
theorem dX10_init_153 : decode cX10_init 153 = .ok (.dup, 1) := by decide +kernel
theorem dX10_init_154 : decode cX10_init 154 = .ok (.aload_n 0, 1) := by decide +kernel
theorem dX10_init_155 : decode cX10_init 155 = .ok (.getfield 19, 3) := by decide +kernel
theorem dX10_init_158 : decode cX10_init 158 = .ok (.aload_n 0, 1) := by decide +kernel
theorem dX10_init_159 : decode cX10_init 159 = .ok (.getfield 29, 3) := by decide +kernel
theorem dX10_init_162 : decode cX10_init 162 = .ok (.aload_n 0, 1) := by decide +kernel
theorem dX10_init_163 : decode cX10_init 163 = .ok (.getfield 68, 3) := by decide +kernel
theorem dX10_init_166 : decode cX10_init 166 = .ok (.invokespecial 74, 3) := by decide +kernel
theorem dX10_init_169 : decode cX10_init 169 = .ok (.putfield 77, 3) := by decide +kernel
theorem dX10_init_172 : decode cX10_init 172 = .ok (.aload_n 0, 1) := by decide +kernel
theorem dX10_init_173 : decode cX10_init 173 = .ok (.new 81, 3) := by decide +kernel
theorem dX10_init_176 : decode cX10_init 176 = .ok (.dup, 1) := by decide +kernel
theorem dX10_init_177 : decode cX10_init 177 = .ok (.aload_n 0, 1) := by decide +kernel
theorem dX10_init_178 : decode cX10_init 178 = .ok (.getfield 19, 3) := by decide +kernel
theorem dX10_init_181 : decode cX10_init 181 = .ok (.aload_n 0, 1) := by decide +kernel
theorem dX10_init_182 : decode cX10_init 182 = .ok (.getfield 29, 3) := by decide +kernel
theorem dX10_init_185 : decode cX10_init 185 = .ok (.aload_n 0, 1) := by decide +kernel
theorem dX10_init_186 : decode cX10_init 186 = .ok (.getfield 61, 3) := by decide +kernel
theorem dX10_init_189 : decode cX10_init 189 = .ok (.aload_n 0, 1) := by decide +kernel
theorem dX10_init_190 : decode cX10_init 190 = .ok (.getfield 68, 3) := by decide +kernel
theorem dX10_init_193 : decode cX10_init 193 = .ok (.invokespecial 83, 3) := by decide +kernel
theorem dX10_init_196 : decode cX10_init 196 = .ok (.putfield 86, 3) := by decide +kernel
theorem dX10_init_199 : decode cX10_init 199 = .ok (.aload_n 0, 1) := by decide +kernel
theorem dX10_init_200 : decode cX10_init 200 = .ok (.iconst 2, 1) := by decide +kernel
theorem dX10_init_201 : decode cX10_init 201 = .ok (.anewarray 90, 3) := by decide +kernel
theorem dX10_init_204 : decode cX10_init 204 = .ok (.putfield 92, 3) := by decide +kernel
theorem dX10_init_207 : decode cX10_init 207 = .ok (.iconst 0, 1) := by decide +kernel
theorem dX10_init_208 : decode cX10_init 208 = .ok (.istore_n 1, 1) := by decide +kernel
theorem dX10_init_209 : decode cX10_init 209 = .ok (.iload_n 1, 1) := by decide +kernel
theorem dX10_init_210 : decode cX10_init 210 = .ok (.iconst 2, 1) := by decide +kernel
theorem dX10_init_211 : decode cX10_init 211 = .ok (.if_icmp .ge 30, 3) := by decide +kernel
theorem dX10_init_214 : decode cX10_init 214 = .ok (.aload_n 0, 1) := by decide +kernel
theorem dX10_init_215 : decode cX10_init 215 = .ok (.getfield 92, 3) := by decide +kernel
theorem dX10_init_218 : decode cX10_init 218 = .ok (.iload_n 1, 1) := by decide +kernel
theorem dX10_init_219 : decode cX10_init 219 = .ok (.new 90, 3) := by decide +kernel
theorem dX10_init_222 : decode cX10_init 222 = .ok (.dup, 1) := by decide +kernel
theorem dX10_init_223 : decode cX10_init 223 = .ok (.aload_n 0, 1) := by decide +kernel
theorem dX10_init_224 : decode cX10_init 224 = .ok (.getfield 19, 3) := by decide +kernel
theorem dX10_init_227 : decode cX10_init 227 = .ok (.aload_n 0, 1) := by decide +kernel
theorem dX10_init_228 : decode cX10_init 228 = .ok (.getfield 29, 3) := by decide +kernel
theorem dX10_init_231 : decode cX10_init 231 = .ok (.invokespecial 96, 3) := by decide +kernel
theorem dX10_init_234 : decode cX10_init 234 = .ok (.aastore, 1) := by decide +kernel
theorem dX10_init_235 : decode cX10_init 235 = .ok (.iinc 1 1, 3) := by decide +kernel
theorem dX10_init_238 : decode cX10_init 238 = .ok (.goto (-29), 3) := by decide +kernel
theorem dX10_init_241 : decode cX10_init 241 = .ok (.aload_n 0, 1) := by decide +kernel
theorem dX10_init_242 : decode cX10_init 242 = .ok (.invokevirtual 97, 3) := by decide +kernel
theorem dX10_init_245 : decode cX10_init 245 = .ok (.return_, 1) := by decide +kernel
theorem dX10_isCrowd_0 : decode cX10_isCrowd 0 = .ok (.iload_n 1, 1) := by decide +kernel
theorem dX10_isCrowd_1 : decode cX10_isCrowd 1 = .ok (.ifCond .lt 18, 3) := by decide +kernel
theorem dX10_isCrowd_4 : decode cX10_isCrowd 4 = .ok (.iload_n 1, 1) := by decide +kernel
theorem dX10_isCrowd_5 : decode cX10_isCrowd 5 = .ok (.aload_n 0, 1) := by decide +kernel
theorem dX10_isCrowd_6 : decode cX10_isCrowd 6 = .ok (.getfield 19, 3) := by decide +kernel
theorem dX10_isCrowd_9 : decode cX10_isCrowd 9 = .ok (.getfield 129, 3) := by decide +kernel
theorem dX10_isCrowd_12 : decode cX10_isCrowd 12 = .ok (.if_icmp .ge 7, 3) := by decide +kernel
theorem dX10_isCrowd_15 : decode cX10_isCrowd 15 = .ok (.iconst 1, 1) := by decide +kernel
theorem dX10_isCrowd_16 : decode cX10_isCrowd 16 = .ok (.goto 4, 3) := by decide +kernel
theorem dX10_isCrowd_19 : decode cX10_isCrowd 19 = .ok (.iconst 0, 1) := by decide +kernel
theorem dX10_isCrowd_20 : decode cX10_isCrowd 20 = .ok (.ireturn, 1) := by decide +kernel
theorem dX10_isImage_0 : decode cX10_isImage 0 = .ok (.iload_n 0, 1) := by decide +kernel
theorem dX10_isImage_1 : decode cX10_isImage 1 = .ok (.ifCond .lt 12, 3) := by decide +kernel
theorem dX10_isImage_4 : decode cX10_isImage 4 = .ok (.iload_n 0, 1) := by decide +kernel
theorem dX10_isImage_5 : decode cX10_isImage 5 = .ok (.iconst 2, 1) := by decide +kernel
theorem dX10_isImage_6 : decode cX10_isImage 6 = .ok (.if_icmp .ge 7, 3) := by decide +kernel
theorem dX10_isImage_9 : decode cX10_isImage 9 = .ok (.iconst 1, 1) := by decide +kernel
theorem dX10_isImage_10 : decode cX10_isImage 10 = .ok (.goto 4, 3) := by decide +kernel
theorem dX10_isImage_13 : decode cX10_isImage 13 = .ok (.iconst 0, 1) := by decide +kernel
theorem dX10_isImage_14 : decode cX10_isImage 14 = .ok (.ireturn, 1) := by decide +kernel
theorem dX10_isKind_0 : decode cX10_isKind 0 = .ok (.iload_n 0, 1) := by decide +kernel
theorem dX10_isKind_1 : decode cX10_isKind 1 = .ok (.ifCond .lt 12, 3) := by decide +kernel
theorem dX10_isKind_4 : decode cX10_isKind 4 = .ok (.iload_n 0, 1) := by decide +kernel
theorem dX10_isKind_5 : decode cX10_isKind 5 = .ok (.iconst 3, 1) := by decide +kernel
theorem dX10_isKind_6 : decode cX10_isKind 6 = .ok (.if_icmp .ge 7, 3) := by decide +kernel
theorem dX10_isKind_9 : decode cX10_isKind 9 = .ok (.iconst 1, 1) := by decide +kernel
theorem dX10_isKind_10 : decode cX10_isKind 10 = .ok (.goto 4, 3) := by decide +kernel
theorem dX10_isKind_13 : decode cX10_isKind 13 = .ok (.iconst 0, 1) := by decide +kernel
theorem dX10_isKind_14 : decode cX10_isKind 14 = .ok (.ireturn, 1) := by decide +kernel
theorem dX10_isStep_0 : decode cX10_isStep 0 = .ok (.iload_n 0, 1) := by decide +kernel
theorem dX10_isStep_1 : decode cX10_isStep 1 = .ok (.ifCond .lt 12, 3) := by decide +kernel
theorem dX10_isStep_4 : decode cX10_isStep 4 = .ok (.iload_n 0, 1) := by decide +kernel
theorem dX10_isStep_5 : decode cX10_isStep 5 = .ok (.iconst 4, 1) := by decide +kernel
theorem dX10_isStep_6 : decode cX10_isStep 6 = .ok (.if_icmp .gt 7, 3) := by decide +kernel
theorem dX10_isStep_9 : decode cX10_isStep 9 = .ok (.iconst 1, 1) := by decide +kernel
theorem dX10_isStep_10 : decode cX10_isStep 10 = .ok (.goto 4, 3) := by decide +kernel
theorem dX10_isStep_13 : decode cX10_isStep 13 = .ok (.iconst 0, 1) := by decide +kernel
theorem dX10_isStep_14 : decode cX10_isStep 14 = .ok (.ireturn, 1) := by decide +kernel
theorem dX10_isTune_0 : decode cX10_isTune 0 = .ok (.iload_n 1, 1) := by decide +kernel
theorem dX10_isTune_1 : decode cX10_isTune 1 = .ok (.ifCond .lt 18, 3) := by decide +kernel
theorem dX10_isTune_4 : decode cX10_isTune 4 = .ok (.iload_n 1, 1) := by decide +kernel
theorem dX10_isTune_5 : decode cX10_isTune 5 = .ok (.aload_n 0, 1) := by decide +kernel
theorem dX10_isTune_6 : decode cX10_isTune 6 = .ok (.getfield 19, 3) := by decide +kernel
theorem dX10_isTune_9 : decode cX10_isTune 9 = .ok (.getfield 132, 3) := by decide +kernel
theorem dX10_isTune_12 : decode cX10_isTune 12 = .ok (.if_icmp .ge 7, 3) := by decide +kernel
theorem dX10_isTune_15 : decode cX10_isTune 15 = .ok (.iconst 1, 1) := by decide +kernel
theorem dX10_isTune_16 : decode cX10_isTune 16 = .ok (.goto 4, 3) := by decide +kernel
theorem dX10_isTune_19 : decode cX10_isTune 19 = .ok (.iconst 0, 1) := by decide +kernel
theorem dX10_isTune_20 : decode cX10_isTune 20 = .ok (.ireturn, 1) := by decide +kernel
theorem dX10_isTuneOrNone_0 : decode cX10_isTuneOrNone 0 = .ok (.iload_n 1, 1) := by decide +kernel
theorem dX10_isTuneOrNone_1 : decode cX10_isTuneOrNone 1 = .ok (.iconst (-1), 1) := by decide +kernel
theorem dX10_isTuneOrNone_2 : decode cX10_isTuneOrNone 2 = .ok (.if_icmp .eq 11, 3) := by decide +kernel
theorem dX10_isTuneOrNone_5 : decode cX10_isTuneOrNone 5 = .ok (.aload_n 0, 1) := by decide +kernel
theorem dX10_isTuneOrNone_6 : decode cX10_isTuneOrNone 6 = .ok (.iload_n 1, 1) := by decide +kernel
theorem dX10_isTuneOrNone_7 : decode cX10_isTuneOrNone 7 = .ok (.invokevirtual 190, 3) := by decide +kernel
theorem dX10_isTuneOrNone_10 : decode cX10_isTuneOrNone 10 = .ok (.ifCond .eq 7, 3) := by decide +kernel
theorem dX10_isTuneOrNone_13 : decode cX10_isTuneOrNone 13 = .ok (.iconst 1, 1) := by decide +kernel
theorem dX10_isTuneOrNone_14 : decode cX10_isTuneOrNone 14 = .ok (.goto 4, 3) := by decide +kernel
theorem dX10_isTuneOrNone_17 : decode cX10_isTuneOrNone 17 = .ok (.iconst 0, 1) := by decide +kernel
theorem dX10_isTuneOrNone_18 : decode cX10_isTuneOrNone 18 = .ok (.ireturn, 1) := by decide +kernel
theorem dX10_judge_0 : decode cX10_judge 0 = .ok (.aload_n 0, 1) := by decide +kernel
theorem dX10_judge_1 : decode cX10_judge 1 = .ok (.bipush 30, 2) := by decide +kernel
theorem dX10_judge_3 : decode cX10_judge 3 = .ok (.invokevirtual 233, 3) := by decide +kernel
theorem dX10_judge_6 : decode cX10_judge 6 = .ok (.istore_n 1, 1) := by decide +kernel
theorem dX10_judge_7 : decode cX10_judge 7 = .ok (.iload_n 1, 1) := by decide +kernel
theorem dX10_judge_8 : decode cX10_judge 8 = .ok (.aload_n 0, 1) := by decide +kernel
theorem dX10_judge_9 : decode cX10_judge 9 = .ok (.getfield 54, 3) := by decide +kernel
theorem dX10_judge_12 : decode cX10_judge 12 = .ok (.getfield 156, 3) := by decide +kernel
theorem dX10_judge_15 : decode cX10_judge 15 = .ok (.if_icmp .ge 7, 3) := by decide +kernel
theorem dX10_judge_18 : decode cX10_judge 18 = .ok (.iload_n 1, 1) := by decide +kernel
theorem dX10_judge_19 : decode cX10_judge 19 = .ok (.goto 4, 3) := by decide +kernel
theorem dX10_judge_22 : decode cX10_judge 22 = .ok (.iconst (-1), 1) := by decide +kernel
theorem dX10_judge_23 : decode cX10_judge 23 = .ok (.ireturn, 1) := by decide +kernel
theorem dX10_keep_0 : decode cX10_keep 0 = .ok (.iload_n 1, 1) := by decide +kernel
theorem dX10_keep_1 : decode cX10_keep 1 = .ok (.invokestatic 263, 3) := by decide +kernel
theorem dX10_keep_4 : decode cX10_keep 4 = .ok (.ifCond .ne 6, 3) := by decide +kernel
theorem dX10_keep_7 : decode cX10_keep 7 = .ok (.ldc 161, 2) := by decide +kernel
theorem dX10_keep_9 : decode cX10_keep 9 = .ok (.ireturn, 1) := by decide +kernel
theorem dX10_keep_10 : decode cX10_keep 10 = .ok (.aload_n 0, 1) := by decide +kernel
theorem dX10_keep_11 : decode cX10_keep 11 = .ok (.getfield 92, 3) := by decide +kernel
theorem dX10_keep_14 : decode cX10_keep 14 = .ok (.iload_n 1, 1) := by decide +kernel
theorem dX10_keep_15 : decode cX10_keep 15 = .ok (.aaload, 1) := by decide +kernel
theorem dX10_keep_16 : decode cX10_keep 16 = .ok (.aload_n 0, 1) := by decide +kernel
theorem dX10_keep_17 : decode cX10_keep 17 = .ok (.getfield 41, 3) := by decide +kernel
theorem dX10_keep_20 : decode cX10_keep 20 = .ok (.aload_n 0, 1) := by decide +kernel
theorem dX10_keep_21 : decode cX10_keep 21 = .ok (.getfield 29, 3) := by decide +kernel
theorem dX10_keep_24 : decode cX10_keep 24 = .ok (.aload_n 0, 1) := by decide +kernel
theorem dX10_keep_25 : decode cX10_keep 25 = .ok (.getfield 260, 3) := by decide +kernel
theorem dX10_keep_28 : decode cX10_keep 28 = .ok (.invokevirtual 266, 3) := by decide +kernel
theorem dX10_keep_31 : decode cX10_keep 31 = .ok (.iconst 1, 1) := by decide +kernel
theorem dX10_keep_32 : decode cX10_keep 32 = .ok (.ireturn, 1) := by decide +kernel
theorem dX10_minute_0 : decode cX10_minute 0 = .ok (.aload_n 0, 1) := by decide +kernel
theorem dX10_minute_1 : decode cX10_minute 1 = .ok (.iload_n 2, 1) := by decide +kernel
theorem dX10_minute_2 : decode cX10_minute 2 = .ok (.invokevirtual 205, 3) := by decide +kernel
theorem dX10_minute_5 : decode cX10_minute 5 = .ok (.ifCond .ne 6, 3) := by decide +kernel
theorem dX10_minute_8 : decode cX10_minute 8 = .ok (.ldc 161, 2) := by decide +kernel
theorem dX10_minute_10 : decode cX10_minute 10 = .ok (.ireturn, 1) := by decide +kernel
theorem dX10_minute_11 : decode cX10_minute 11 = .ok (.iload_n 1, 1) := by decide +kernel
theorem dX10_minute_12 : decode cX10_minute 12 = .ok (.invokestatic 208, 3) := by decide +kernel
theorem dX10_minute_15 : decode cX10_minute 15 = .ok (.ifCond .ne 6, 3) := by decide +kernel
theorem dX10_minute_18 : decode cX10_minute 18 = .ok (.ldc 100, 2) := by decide +kernel
theorem dX10_minute_20 : decode cX10_minute 20 = .ok (.ireturn, 1) := by decide +kernel
theorem dX10_minute_21 : decode cX10_minute 21 = .ok (.aload_n 0, 1) := by decide +kernel
theorem dX10_minute_22 : decode cX10_minute 22 = .ok (.getfield 41, 3) := by decide +kernel
theorem dX10_minute_25 : decode cX10_minute 25 = .ok (.iload_n 1, 1) := by decide +kernel
theorem dX10_minute_26 : decode cX10_minute 26 = .ok (.invokevirtual 211, 3) := by decide +kernel
theorem dX10_minute_29 : decode cX10_minute 29 = .ok (.ifCond .ne 6, 3) := by decide +kernel
theorem dX10_minute_32 : decode cX10_minute 32 = .ok (.ldc 214, 2) := by decide +kernel
theorem dX10_minute_34 : decode cX10_minute 34 = .ok (.ireturn, 1) := by decide +kernel
theorem dX10_minute_35 : decode cX10_minute 35 = .ok (.aload_n 0, 1) := by decide +kernel
theorem dX10_minute_36 : decode cX10_minute 36 = .ok (.getfield 41, 3) := by decide +kernel
theorem dX10_minute_39 : decode cX10_minute 39 = .ok (.iload_n 1, 1) := by decide +kernel
theorem dX10_minute_40 : decode cX10_minute 40 = .ok (.iload_n 2, 1) := by decide +kernel
theorem dX10_minute_41 : decode cX10_minute 41 = .ok (.invokevirtual 215, 3) := by decide +kernel
theorem dX10_minute_44 : decode cX10_minute 44 = .ok (.aload_n 0, 1) := by decide +kernel
theorem dX10_minute_45 : decode cX10_minute 45 = .ok (.getfield 77, 3) := by decide +kernel
theorem dX10_minute_48 : decode cX10_minute 48 = .ok (.invokevirtual 219, 3) := by decide +kernel
theorem dX10_minute_51 : decode cX10_minute 51 = .ok (.aload_n 0, 1) := by decide +kernel
theorem dX10_minute_52 : decode cX10_minute 52 = .ok (.getfield 29, 3) := by decide +kernel
theorem dX10_minute_55 : decode cX10_minute 55 = .ok (.aload_n 0, 1) := by decide +kernel
theorem dX10_minute_56 : decode cX10_minute 56 = .ok (.getfield 41, 3) := by decide +kernel
theorem dX10_minute_59 : decode cX10_minute 59 = .ok (.getfield 138, 3) := by decide +kernel
theorem dX10_minute_62 : decode cX10_minute 62 = .ok (.invokevirtual 141, 3) := by decide +kernel
theorem dX10_minute_65 : decode cX10_minute 65 = .ok (.ireturn, 1) := by decide +kernel
theorem dX10_plan_0 : decode cX10_plan 0 = .ok (.aload_n 0, 1) := by decide +kernel
theorem dX10_plan_1 : decode cX10_plan 1 = .ok (.iload_n 2, 1) := by decide +kernel
theorem dX10_plan_2 : decode cX10_plan 2 = .ok (.invokevirtual 205, 3) := by decide +kernel
theorem dX10_plan_5 : decode cX10_plan 5 = .ok (.ifCond .ne 6, 3) := by decide +kernel
theorem dX10_plan_8 : decode cX10_plan 8 = .ok (.ldc 161, 2) := by decide +kernel
theorem dX10_plan_10 : decode cX10_plan 10 = .ok (.ireturn, 1) := by decide +kernel
theorem dX10_plan_11 : decode cX10_plan 11 = .ok (.iload_n 1, 1) := by decide +kernel
theorem dX10_plan_12 : decode cX10_plan 12 = .ok (.invokestatic 208, 3) := by decide +kernel
theorem dX10_plan_15 : decode cX10_plan 15 = .ok (.ifCond .ne 6, 3) := by decide +kernel
theorem dX10_plan_18 : decode cX10_plan 18 = .ok (.ldc 100, 2) := by decide +kernel
theorem dX10_plan_20 : decode cX10_plan 20 = .ok (.ireturn, 1) := by decide +kernel
theorem dX10_plan_21 : decode cX10_plan 21 = .ok (.aload_n 0, 1) := by decide +kernel
theorem dX10_plan_22 : decode cX10_plan 22 = .ok (.getfield 54, 3) := by decide +kernel
theorem dX10_plan_25 : decode cX10_plan 25 = .ok (.getfield 156, 3) := by decide +kernel
theorem dX10_plan_28 : decode cX10_plan 28 = .ok (.bipush 30, 2) := by decide +kernel
theorem dX10_plan_30 : decode cX10_plan 30 = .ok (.if_icmp .lt 6, 3) := by decide +kernel
theorem dX10_plan_33 : decode cX10_plan 33 = .ok (.ldc 105, 2) := by decide +kernel
theorem dX10_plan_35 : decode cX10_plan 35 = .ok (.ireturn, 1) := by decide +kernel
theorem dX10_plan_36 : decode cX10_plan 36 = .ok (.aload_n 0, 1) := by decide +kernel
theorem dX10_plan_37 : decode cX10_plan 37 = .ok (.getfield 54, 3) := by decide +kernel
theorem dX10_plan_40 : decode cX10_plan 40 = .ok (.iload_n 1, 1) := by decide +kernel
theorem dX10_plan_41 : decode cX10_plan 41 = .ok (.iload_n 2, 1) := by decide +kernel
theorem dX10_plan_42 : decode cX10_plan 42 = .ok (.invokevirtual 231, 3) := by decide +kernel
theorem dX10_plan_45 : decode cX10_plan 45 = .ok (.aload_n 0, 1) := by decide +kernel
theorem dX10_plan_46 : decode cX10_plan 46 = .ok (.getfield 54, 3) := by decide +kernel
theorem dX10_plan_49 : decode cX10_plan 49 = .ok (.getfield 156, 3) := by decide +kernel
theorem dX10_plan_52 : decode cX10_plan 52 = .ok (.ireturn, 1) := by decide +kernel
theorem dX10_see_0 : decode cX10_see 0 = .ok (.aload_n 0, 1) := by decide +kernel
theorem dX10_see_1 : decode cX10_see 1 = .ok (.getfield 29, 3) := by decide +kernel
theorem dX10_see_4 : decode cX10_see 4 = .ok (.iload_n 3, 1) := by decide +kernel
theorem dX10_see_5 : decode cX10_see 5 = .ok (.iload 4, 2) := by decide +kernel
theorem dX10_see_7 : decode cX10_see 7 = .ok (.invokevirtual 158, 3) := by decide +kernel
theorem dX10_see_10 : decode cX10_see 10 = .ok (.istore 5, 2) := by decide +kernel
theorem dX10_see_12 : decode cX10_see 12 = .ok (.aload_n 0, 1) := by decide +kernel
theorem dX10_see_13 : decode cX10_see 13 = .ok (.iload_n 1, 1) := by decide +kernel
theorem dX10_see_14 : decode cX10_see 14 = .ok (.invokevirtual 165, 3) := by decide +kernel
theorem dX10_see_17 : decode cX10_see 17 = .ok (.ifCond .eq 9, 3) := by decide +kernel
theorem dX10_see_20 : decode cX10_see 20 = .ok (.iload 5, 2) := by decide +kernel
theorem dX10_see_22 : decode cX10_see 22 = .ok (.iconst (-1), 1) := by decide +kernel
theorem dX10_see_23 : decode cX10_see 23 = .ok (.if_icmp .ne 6, 3) := by decide +kernel
theorem dX10_see_26 : decode cX10_see 26 = .ok (.ldc 161, 2) := by decide +kernel
theorem dX10_see_28 : decode cX10_see 28 = .ok (.ireturn, 1) := by decide +kernel
theorem dX10_see_29 : decode cX10_see 29 = .ok (.iload_n 2, 1) := by decide +kernel
theorem dX10_see_30 : decode cX10_see 30 = .ok (.iconst 1, 1) := by decide +kernel
theorem dX10_see_31 : decode cX10_see 31 = .ok (.if_icmp .lt 8, 3) := by decide +kernel
theorem dX10_see_34 : decode cX10_see 34 = .ok (.iload_n 2, 1) := by decide +kernel
theorem dX10_see_35 : decode cX10_see 35 = .ok (.iconst 5, 1) := by decide +kernel
theorem dX10_see_36 : decode cX10_see 36 = .ok (.if_icmp .le 6, 3) := by decide +kernel
theorem dX10_see_39 : decode cX10_see 39 = .ok (.ldc 100, 2) := by decide +kernel
theorem dX10_see_41 : decode cX10_see 41 = .ok (.ireturn, 1) := by decide +kernel
theorem dX10_see_42 : decode cX10_see 42 = .ok (.aload_n 0, 1) := by decide +kernel
theorem dX10_see_43 : decode cX10_see 43 = .ok (.getfield 61, 3) := by decide +kernel
theorem dX10_see_46 : decode cX10_see 46 = .ok (.getfield 157, 3) := by decide +kernel
theorem dX10_see_49 : decode cX10_see 49 = .ok (.bipush 10, 2) := by decide +kernel
theorem dX10_see_51 : decode cX10_see 51 = .ok (.if_icmp .lt 6, 3) := by decide +kernel
theorem dX10_see_54 : decode cX10_see 54 = .ok (.ldc 105, 2) := by decide +kernel
theorem dX10_see_56 : decode cX10_see 56 = .ok (.ireturn, 1) := by decide +kernel
theorem dX10_see_57 : decode cX10_see 57 = .ok (.aload_n 0, 1) := by decide +kernel
theorem dX10_see_58 : decode cX10_see 58 = .ok (.getfield 61, 3) := by decide +kernel
theorem dX10_see_61 : decode cX10_see 61 = .ok (.iload_n 1, 1) := by decide +kernel
theorem dX10_see_62 : decode cX10_see 62 = .ok (.iload_n 2, 1) := by decide +kernel
theorem dX10_see_63 : decode cX10_see 63 = .ok (.iload 5, 2) := by decide +kernel
theorem dX10_see_65 : decode cX10_see 65 = .ok (.invokevirtual 254, 3) := by decide +kernel
theorem dX10_see_68 : decode cX10_see 68 = .ok (.aload_n 0, 1) := by decide +kernel
theorem dX10_see_69 : decode cX10_see 69 = .ok (.getfield 61, 3) := by decide +kernel
theorem dX10_see_72 : decode cX10_see 72 = .ok (.getfield 157, 3) := by decide +kernel
theorem dX10_see_75 : decode cX10_see 75 = .ok (.ireturn, 1) := by decide +kernel
theorem dX10_seed_0 : decode cX10_seed 0 = .ok (.iload_n 1, 1) := by decide +kernel
theorem dX10_seed_1 : decode cX10_seed 1 = .ok (.ifCond .ge 6, 3) := by decide +kernel
theorem dX10_seed_4 : decode cX10_seed 4 = .ok (.ldc 100, 2) := by decide +kernel
theorem dX10_seed_6 : decode cX10_seed 6 = .ok (.ireturn, 1) := by decide +kernel
theorem dX10_seed_7 : decode cX10_seed 7 = .ok (.aload_n 0, 1) := by decide +kernel
theorem dX10_seed_8 : decode cX10_seed 8 = .ok (.getfield 260, 3) := by decide +kernel
theorem dX10_seed_11 : decode cX10_seed 11 = .ok (.istore_n 2, 1) := by decide +kernel
theorem dX10_seed_12 : decode cX10_seed 12 = .ok (.aload_n 0, 1) := by decide +kernel
theorem dX10_seed_13 : decode cX10_seed 13 = .ok (.iload_n 1, 1) := by decide +kernel
theorem dX10_seed_14 : decode cX10_seed 14 = .ok (.putfield 260, 3) := by decide +kernel
theorem dX10_seed_17 : decode cX10_seed 17 = .ok (.iload_n 2, 1) := by decide +kernel
theorem dX10_seed_18 : decode cX10_seed 18 = .ok (.ireturn, 1) := by decide +kernel
theorem dX10_soonest_0 : decode cX10_soonest 0 = .ok (.iload_n 1, 1) := by decide +kernel
theorem dX10_soonest_1 : decode cX10_soonest 1 = .ok (.invokestatic 236, 3) := by decide +kernel
theorem dX10_soonest_4 : decode cX10_soonest 4 = .ok (.ifCond .eq 11, 3) := by decide +kernel
theorem dX10_soonest_7 : decode cX10_soonest 7 = .ok (.aload_n 0, 1) := by decide +kernel
theorem dX10_soonest_8 : decode cX10_soonest 8 = .ok (.iload_n 2, 1) := by decide +kernel
theorem dX10_soonest_9 : decode cX10_soonest 9 = .ok (.invokevirtual 190, 3) := by decide +kernel
theorem dX10_soonest_12 : decode cX10_soonest 12 = .ok (.ifCond .ne 6, 3) := by decide +kernel
theorem dX10_soonest_15 : decode cX10_soonest 15 = .ok (.ldc 161, 2) := by decide +kernel
theorem dX10_soonest_17 : decode cX10_soonest 17 = .ok (.ireturn, 1) := by decide +kernel
theorem dX10_soonest_18 : decode cX10_soonest 18 = .ok (.aload_n 0, 1) := by decide +kernel
theorem dX10_soonest_19 : decode cX10_soonest 19 = .ok (.getfield 77, 3) := by decide +kernel
theorem dX10_soonest_22 : decode cX10_soonest 22 = .ok (.aload_n 0, 1) := by decide +kernel
theorem dX10_soonest_23 : decode cX10_soonest 23 = .ok (.getfield 41, 3) := by decide +kernel
theorem dX10_soonest_26 : decode cX10_soonest 26 = .ok (.iload_n 1, 1) := by decide +kernel
theorem dX10_soonest_27 : decode cX10_soonest 27 = .ok (.iload_n 2, 1) := by decide +kernel
theorem dX10_soonest_28 : decode cX10_soonest 28 = .ok (.invokevirtual 239, 3) := by decide +kernel
theorem dX10_soonest_31 : decode cX10_soonest 31 = .ok (.iload_n 3, 1) := by decide +kernel
theorem dX10_soonest_32 : decode cX10_soonest 32 = .ok (.iconst (-1), 1) := by decide +kernel
theorem dX10_soonest_33 : decode cX10_soonest 33 = .ok (.if_icmp .ne 13, 3) := by decide +kernel
theorem dX10_soonest_36 : decode cX10_soonest 36 = .ok (.aload_n 0, 1) := by decide +kernel
theorem dX10_soonest_37 : decode cX10_soonest 37 = .ok (.getfield 77, 3) := by decide +kernel
theorem dX10_soonest_40 : decode cX10_soonest 40 = .ok (.getfield 243, 3) := by decide +kernel
theorem dX10_soonest_43 : decode cX10_soonest 43 = .ok (.goto 11, 3) := by decide +kernel
theorem dX10_soonest_46 : decode cX10_soonest 46 = .ok (.aload_n 0, 1) := by decide +kernel
theorem dX10_soonest_47 : decode cX10_soonest 47 = .ok (.getfield 77, 3) := by decide +kernel
theorem dX10_soonest_50 : decode cX10_soonest 50 = .ok (.iload_n 3, 1) := by decide +kernel
theorem dX10_soonest_51 : decode cX10_soonest 51 = .ok (.invokevirtual 244, 3) := by decide +kernel
theorem dX10_soonest_54 : decode cX10_soonest 54 = .ok (.ireturn, 1) := by decide +kernel
theorem dX10_tear_0 : decode cX10_tear 0 = .ok (.aload_n 0, 1) := by decide +kernel
theorem dX10_tear_1 : decode cX10_tear 1 = .ok (.getfield 61, 3) := by decide +kernel
theorem dX10_tear_4 : decode cX10_tear 4 = .ok (.getfield 157, 3) := by decide +kernel
theorem dX10_tear_7 : decode cX10_tear 7 = .ok (.istore_n 1, 1) := by decide +kernel
theorem dX10_tear_8 : decode cX10_tear 8 = .ok (.aload_n 0, 1) := by decide +kernel
theorem dX10_tear_9 : decode cX10_tear 9 = .ok (.getfield 61, 3) := by decide +kernel
theorem dX10_tear_12 : decode cX10_tear 12 = .ok (.iconst 0, 1) := by decide +kernel
theorem dX10_tear_13 : decode cX10_tear 13 = .ok (.putfield 157, 3) := by decide +kernel
theorem dX10_tear_16 : decode cX10_tear 16 = .ok (.iload_n 1, 1) := by decide +kernel
theorem dX10_tear_17 : decode cX10_tear 17 = .ok (.ireturn, 1) := by decide +kernel
theorem dX10_told_0 : decode cX10_told 0 = .ok (.iload_n 1, 1) := by decide +kernel
theorem dX10_told_1 : decode cX10_told 1 = .ok (.tableswitch 196 0 12 #[67, 75, 83, 91, 99, 107, 115, 144, 154, 164, 172, 180, 188], 67) := by decide +kernel
theorem dX10_told_68 : decode cX10_told 68 = .ok (.aload_n 0, 1) := by decide +kernel
theorem dX10_told_69 : decode cX10_told 69 = .ok (.getfield 19, 3) := by decide +kernel
theorem dX10_told_72 : decode cX10_told 72 = .ok (.getfield 123, 3) := by decide +kernel
theorem dX10_told_75 : decode cX10_told 75 = .ok (.ireturn, 1) := by decide +kernel
theorem dX10_told_76 : decode cX10_told 76 = .ok (.aload_n 0, 1) := by decide +kernel
theorem dX10_told_77 : decode cX10_told 77 = .ok (.getfield 19, 3) := by decide +kernel
theorem dX10_told_80 : decode cX10_told 80 = .ok (.getfield 126, 3) := by decide +kernel
theorem dX10_told_83 : decode cX10_told 83 = .ok (.ireturn, 1) := by decide +kernel
theorem dX10_told_84 : decode cX10_told 84 = .ok (.aload_n 0, 1) := by decide +kernel
theorem dX10_told_85 : decode cX10_told 85 = .ok (.getfield 19, 3) := by decide +kernel
theorem dX10_told_88 : decode cX10_told 88 = .ok (.getfield 129, 3) := by decide +kernel
theorem dX10_told_91 : decode cX10_told 91 = .ok (.ireturn, 1) := by decide +kernel
theorem dX10_told_92 : decode cX10_told 92 = .ok (.aload_n 0, 1) := by decide +kernel
theorem dX10_told_93 : decode cX10_told 93 = .ok (.getfield 19, 3) := by decide +kernel
theorem dX10_told_96 : decode cX10_told 96 = .ok (.getfield 132, 3) := by decide +kernel
theorem dX10_told_99 : decode cX10_told 99 = .ok (.ireturn, 1) := by decide +kernel
theorem dX10_told_100 : decode cX10_told 100 = .ok (.aload_n 0, 1) := by decide +kernel
theorem dX10_told_101 : decode cX10_told 101 = .ok (.getfield 10, 3) := by decide +kernel
theorem dX10_told_104 : decode cX10_told 104 = .ok (.getfield 101, 3) := by decide +kernel
theorem dX10_told_107 : decode cX10_told 107 = .ok (.ireturn, 1) := by decide +kernel
theorem dX10_told_108 : decode cX10_told 108 = .ok (.aload_n 0, 1) := by decide +kernel
theorem dX10_told_109 : decode cX10_told 109 = .ok (.getfield 41, 3) := by decide +kernel
theorem dX10_told_112 : decode cX10_told 112 = .ok (.getfield 135, 3) := by decide +kernel
theorem dX10_told_115 : decode cX10_told 115 = .ok (.ireturn, 1) := by decide +kernel
theorem dX10_told_116 : decode cX10_told 116 = .ok (.aload_n 0, 1) := by decide +kernel
theorem dX10_told_117 : decode cX10_told 117 = .ok (.getfield 29, 3) := by decide +kernel
theorem dX10_told_120 : decode cX10_told 120 = .ok (.getfield 114, 3) := by decide +kernel
theorem dX10_told_123 : decode cX10_told 123 = .ok (.ifCond .ne 7, 3) := by decide +kernel
theorem dX10_told_126 : decode cX10_told 126 = .ok (.iconst 0, 1) := by decide +kernel
theorem dX10_told_127 : decode cX10_told 127 = .ok (.goto 17, 3) := by decide +kernel
theorem dX10_told_130 : decode cX10_told 130 = .ok (.aload_n 0, 1) := by decide +kernel
theorem dX10_told_131 : decode cX10_told 131 = .ok (.getfield 29, 3) := by decide +kernel
theorem dX10_told_134 : decode cX10_told 134 = .ok (.aload_n 0, 1) := by decide +kernel
theorem dX10_told_135 : decode cX10_told 135 = .ok (.getfield 41, 3) := by decide +kernel
theorem dX10_told_138 : decode cX10_told 138 = .ok (.getfield 138, 3) := by decide +kernel
theorem dX10_told_141 : decode cX10_told 141 = .ok (.invokevirtual 141, 3) := by decide +kernel
theorem dX10_told_144 : decode cX10_told 144 = .ok (.ireturn, 1) := by decide +kernel
theorem dX10_told_145 : decode cX10_told 145 = .ok (.aload_n 0, 1) := by decide +kernel
theorem dX10_told_146 : decode cX10_told 146 = .ok (.getfield 41, 3) := by decide +kernel
theorem dX10_told_149 : decode cX10_told 149 = .ok (.iconst (-1), 1) := by decide +kernel
theorem dX10_told_150 : decode cX10_told 150 = .ok (.iconst 1, 1) := by decide +kernel
theorem dX10_told_151 : decode cX10_told 151 = .ok (.invokevirtual 145, 3) := by decide +kernel
theorem dX10_told_154 : decode cX10_told 154 = .ok (.ireturn, 1) := by decide +kernel
theorem dX10_told_155 : decode cX10_told 155 = .ok (.aload_n 0, 1) := by decide +kernel
theorem dX10_told_156 : decode cX10_told 156 = .ok (.getfield 41, 3) := by decide +kernel
theorem dX10_told_159 : decode cX10_told 159 = .ok (.iconst (-1), 1) := by decide +kernel
theorem dX10_told_160 : decode cX10_told 160 = .ok (.iconst 2, 1) := by decide +kernel
theorem dX10_told_161 : decode cX10_told 161 = .ok (.invokevirtual 145, 3) := by decide +kernel
theorem dX10_told_164 : decode cX10_told 164 = .ok (.ireturn, 1) := by decide +kernel
theorem dX10_told_165 : decode cX10_told 165 = .ok (.aload_n 0, 1) := by decide +kernel
theorem dX10_told_166 : decode cX10_told 166 = .ok (.getfield 41, 3) := by decide +kernel
theorem dX10_told_169 : decode cX10_told 169 = .ok (.invokevirtual 149, 3) := by decide +kernel
theorem dX10_told_172 : decode cX10_told 172 = .ok (.ireturn, 1) := by decide +kernel
theorem dX10_told_173 : decode cX10_told 173 = .ok (.aload_n 0, 1) := by decide +kernel
theorem dX10_told_174 : decode cX10_told 174 = .ok (.getfield 41, 3) := by decide +kernel
theorem dX10_told_177 : decode cX10_told 177 = .ok (.invokevirtual 153, 3) := by decide +kernel
theorem dX10_told_180 : decode cX10_told 180 = .ok (.ireturn, 1) := by decide +kernel
theorem dX10_told_181 : decode cX10_told 181 = .ok (.aload_n 0, 1) := by decide +kernel
theorem dX10_told_182 : decode cX10_told 182 = .ok (.getfield 54, 3) := by decide +kernel
theorem dX10_told_185 : decode cX10_told 185 = .ok (.getfield 156, 3) := by decide +kernel
theorem dX10_told_188 : decode cX10_told 188 = .ok (.ireturn, 1) := by decide +kernel
theorem dX10_told_189 : decode cX10_told 189 = .ok (.aload_n 0, 1) := by decide +kernel
theorem dX10_told_190 : decode cX10_told 190 = .ok (.getfield 61, 3) := by decide +kernel
theorem dX10_told_193 : decode cX10_told 193 = .ok (.getfield 157, 3) := by decide +kernel
theorem dX10_told_196 : decode cX10_told 196 = .ok (.ireturn, 1) := by decide +kernel
theorem dX10_told_197 : decode cX10_told 197 = .ok (.ldc 100, 2) := by decide +kernel
theorem dX10_told_199 : decode cX10_told 199 = .ok (.ireturn, 1) := by decide +kernel
theorem dX10_town_0 : decode cX10_town 0 = .ok (.aload_n 0, 1) := by decide +kernel
theorem dX10_town_1 : decode cX10_town 1 = .ok (.getfield 10, 3) := by decide +kernel
theorem dX10_town_4 : decode cX10_town 4 = .ok (.aload_n 0, 1) := by decide +kernel
theorem dX10_town_5 : decode cX10_town 5 = .ok (.getfield 23, 3) := by decide +kernel
theorem dX10_town_8 : decode cX10_town 8 = .ok (.invokevirtual 110, 3) := by decide +kernel
theorem dX10_town_11 : decode cX10_town 11 = .ok (.istore_n 1, 1) := by decide +kernel
theorem dX10_town_12 : decode cX10_town 12 = .ok (.iload_n 1, 1) := by decide +kernel
theorem dX10_town_13 : decode cX10_town 13 = .ok (.ifCond .eq 19, 3) := by decide +kernel
theorem dX10_town_16 : decode cX10_town 16 = .ok (.aload_n 0, 1) := by decide +kernel
theorem dX10_town_17 : decode cX10_town 17 = .ok (.getfield 10, 3) := by decide +kernel
theorem dX10_town_20 : decode cX10_town 20 = .ok (.aload_n 0, 1) := by decide +kernel
theorem dX10_town_21 : decode cX10_town 21 = .ok (.getfield 19, 3) := by decide +kernel
theorem dX10_town_24 : decode cX10_town 24 = .ok (.invokevirtual 110, 3) := by decide +kernel
theorem dX10_town_27 : decode cX10_town 27 = .ok (.pop, 1) := by decide +kernel
theorem dX10_town_28 : decode cX10_town 28 = .ok (.aload_n 0, 1) := by decide +kernel
theorem dX10_town_29 : decode cX10_town 29 = .ok (.invokevirtual 97, 3) := by decide +kernel
theorem dX10_town_32 : decode cX10_town 32 = .ok (.aload_n 0, 1) := by decide +kernel
theorem dX10_town_33 : decode cX10_town 33 = .ok (.getfield 10, 3) := by decide +kernel
theorem dX10_town_36 : decode cX10_town 36 = .ok (.iconst 0, 1) := by decide +kernel
theorem dX10_town_37 : decode cX10_town 37 = .ok (.putfield 101, 3) := by decide +kernel
theorem dX10_town_40 : decode cX10_town 40 = .ok (.iload_n 1, 1) := by decide +kernel
theorem dX10_town_41 : decode cX10_town 41 = .ok (.ifCond .eq 13, 3) := by decide +kernel
theorem dX10_town_44 : decode cX10_town 44 = .ok (.aload_n 0, 1) := by decide +kernel
theorem dX10_town_45 : decode cX10_town 45 = .ok (.getfield 29, 3) := by decide +kernel
theorem dX10_town_48 : decode cX10_town 48 = .ok (.getfield 114, 3) := by decide +kernel
theorem dX10_town_51 : decode cX10_town 51 = .ok (.goto 13, 3) := by decide +kernel
theorem dX10_town_54 : decode cX10_town 54 = .ok (.bipush (-10), 2) := by decide +kernel
theorem dX10_town_56 : decode cX10_town 56 = .ok (.aload_n 0, 1) := by decide +kernel
theorem dX10_town_57 : decode cX10_town 57 = .ok (.getfield 10, 3) := by decide +kernel
theorem dX10_town_60 : decode cX10_town 60 = .ok (.getfield 117, 3) := by decide +kernel
theorem dX10_town_63 : decode cX10_town 63 = .ok (.isub, 1) := by decide +kernel
theorem dX10_town_64 : decode cX10_town 64 = .ok (.ireturn, 1) := by decide +kernel
theorem dX10_tried_0 : decode cX10_tried 0 = .ok (.iload_n 1, 1) := by decide +kernel
theorem dX10_tried_1 : decode cX10_tried 1 = .ok (.iconst (-1), 1) := by decide +kernel
theorem dX10_tried_2 : decode cX10_tried 2 = .ok (.if_icmp .eq 13, 3) := by decide +kernel
theorem dX10_tried_5 : decode cX10_tried 5 = .ok (.iload_n 1, 1) := by decide +kernel
theorem dX10_tried_6 : decode cX10_tried 6 = .ok (.invokestatic 236, 3) := by decide +kernel
theorem dX10_tried_9 : decode cX10_tried 9 = .ok (.ifCond .ne 6, 3) := by decide +kernel
theorem dX10_tried_12 : decode cX10_tried 12 = .ok (.ldc 161, 2) := by decide +kernel
theorem dX10_tried_14 : decode cX10_tried 14 = .ok (.ireturn, 1) := by decide +kernel
theorem dX10_tried_15 : decode cX10_tried 15 = .ok (.iload_n 1, 1) := by decide +kernel
theorem dX10_tried_16 : decode cX10_tried 16 = .ok (.iconst (-1), 1) := by decide +kernel
theorem dX10_tried_17 : decode cX10_tried 17 = .ok (.if_icmp .eq 15, 3) := by decide +kernel
theorem dX10_tried_20 : decode cX10_tried 20 = .ok (.iload_n 2, 1) := by decide +kernel
theorem dX10_tried_21 : decode cX10_tried 21 = .ok (.ifCond .lt 8, 3) := by decide +kernel
theorem dX10_tried_24 : decode cX10_tried 24 = .ok (.iload_n 2, 1) := by decide +kernel
theorem dX10_tried_25 : decode cX10_tried 25 = .ok (.iconst 1, 1) := by decide +kernel
theorem dX10_tried_26 : decode cX10_tried 26 = .ok (.if_icmp .le 6, 3) := by decide +kernel
theorem dX10_tried_29 : decode cX10_tried 29 = .ok (.ldc 100, 2) := by decide +kernel
theorem dX10_tried_31 : decode cX10_tried 31 = .ok (.ireturn, 1) := by decide +kernel
theorem dX10_tried_32 : decode cX10_tried 32 = .ok (.aload_n 0, 1) := by decide +kernel
theorem dX10_tried_33 : decode cX10_tried 33 = .ok (.bipush 30, 2) := by decide +kernel
theorem dX10_tried_35 : decode cX10_tried 35 = .ok (.invokevirtual 233, 3) := by decide +kernel
theorem dX10_tried_38 : decode cX10_tried 38 = .ok (.pop, 1) := by decide +kernel
theorem dX10_tried_39 : decode cX10_tried 39 = .ok (.iload_n 1, 1) := by decide +kernel
theorem dX10_tried_40 : decode cX10_tried 40 = .ok (.iconst (-1), 1) := by decide +kernel
theorem dX10_tried_41 : decode cX10_tried 41 = .ok (.if_icmp .ne 13, 3) := by decide +kernel
theorem dX10_tried_44 : decode cX10_tried 44 = .ok (.aload_n 0, 1) := by decide +kernel
theorem dX10_tried_45 : decode cX10_tried 45 = .ok (.getfield 45, 3) := by decide +kernel
theorem dX10_tried_48 : decode cX10_tried 48 = .ok (.invokevirtual 153, 3) := by decide +kernel
theorem dX10_tried_51 : decode cX10_tried 51 = .ok (.goto 20, 3) := by decide +kernel
theorem dX10_tried_54 : decode cX10_tried 54 = .ok (.aload_n 0, 1) := by decide +kernel
theorem dX10_tried_55 : decode cX10_tried 55 = .ok (.getfield 45, 3) := by decide +kernel
theorem dX10_tried_58 : decode cX10_tried 58 = .ok (.iload_n 1, 1) := by decide +kernel
theorem dX10_tried_59 : decode cX10_tried 59 = .ok (.iload_n 2, 1) := by decide +kernel
theorem dX10_tried_60 : decode cX10_tried 60 = .ok (.ifCond .ne 7, 3) := by decide +kernel
theorem dX10_tried_63 : decode cX10_tried 63 = .ok (.iconst 1, 1) := by decide +kernel
theorem dX10_tried_64 : decode cX10_tried 64 = .ok (.goto 4, 3) := by decide +kernel
theorem dX10_tried_67 : decode cX10_tried 67 = .ok (.iconst 2, 1) := by decide +kernel
theorem dX10_tried_68 : decode cX10_tried 68 = .ok (.invokevirtual 145, 3) := by decide +kernel
theorem dX10_tried_71 : decode cX10_tried 71 = .ok (.ireturn, 1) := by decide +kernel
theorem dX10_tryPlan_0 : decode cX10_tryPlan 0 = .ok (.aload_n 0, 1) := by decide +kernel
theorem dX10_tryPlan_1 : decode cX10_tryPlan 1 = .ok (.getfield 45, 3) := by decide +kernel
theorem dX10_tryPlan_4 : decode cX10_tryPlan 4 = .ok (.aload_n 0, 1) := by decide +kernel
theorem dX10_tryPlan_5 : decode cX10_tryPlan 5 = .ok (.getfield 41, 3) := by decide +kernel
theorem dX10_tryPlan_8 : decode cX10_tryPlan 8 = .ok (.invokevirtual 291, 3) := by decide +kernel
theorem dX10_tryPlan_11 : decode cX10_tryPlan 11 = .ok (.aload_n 0, 1) := by decide +kernel
theorem dX10_tryPlan_12 : decode cX10_tryPlan 12 = .ok (.getfield 54, 3) := by decide +kernel
theorem dX10_tryPlan_15 : decode cX10_tryPlan 15 = .ok (.aload_n 0, 1) := by decide +kernel
theorem dX10_tryPlan_16 : decode cX10_tryPlan 16 = .ok (.getfield 45, 3) := by decide +kernel
theorem dX10_tryPlan_19 : decode cX10_tryPlan 19 = .ok (.iload_n 1, 1) := by decide +kernel
theorem dX10_tryPlan_20 : decode cX10_tryPlan 20 = .ok (.invokevirtual 294, 3) := by decide +kernel
theorem dX10_tryPlan_23 : decode cX10_tryPlan 23 = .ok (.ireturn, 1) := by decide +kernel
theorem dX10_tune_0 : decode cX10_tune 0 = .ok (.aload_n 0, 1) := by decide +kernel
theorem dX10_tune_1 : decode cX10_tune 1 = .ok (.iload_n 1, 1) := by decide +kernel
theorem dX10_tune_2 : decode cX10_tune 2 = .ok (.invokevirtual 190, 3) := by decide +kernel
theorem dX10_tune_5 : decode cX10_tune 5 = .ok (.ifCond .ne 6, 3) := by decide +kernel
theorem dX10_tune_8 : decode cX10_tune 8 = .ok (.ldc 161, 2) := by decide +kernel
theorem dX10_tune_10 : decode cX10_tune 10 = .ok (.ireturn, 1) := by decide +kernel
theorem dX10_tune_11 : decode cX10_tune 11 = .ok (.iload_n 2, 1) := by decide +kernel
theorem dX10_tune_12 : decode cX10_tune 12 = .ok (.tableswitch 57 0 2 #[28, 38, 48], 28) := by decide +kernel
theorem dX10_tune_40 : decode cX10_tune 40 = .ok (.aload_n 0, 1) := by decide +kernel
theorem dX10_tune_41 : decode cX10_tune 41 = .ok (.getfield 19, 3) := by decide +kernel
theorem dX10_tune_44 : decode cX10_tune 44 = .ok (.getfield 193, 3) := by decide +kernel
theorem dX10_tune_47 : decode cX10_tune 47 = .ok (.iload_n 1, 1) := by decide +kernel
theorem dX10_tune_48 : decode cX10_tune 48 = .ok (.iaload, 1) := by decide +kernel
theorem dX10_tune_49 : decode cX10_tune 49 = .ok (.ireturn, 1) := by decide +kernel
theorem dX10_tune_50 : decode cX10_tune 50 = .ok (.aload_n 0, 1) := by decide +kernel
theorem dX10_tune_51 : decode cX10_tune 51 = .ok (.getfield 19, 3) := by decide +kernel
theorem dX10_tune_54 : decode cX10_tune 54 = .ok (.getfield 196, 3) := by decide +kernel
theorem dX10_tune_57 : decode cX10_tune 57 = .ok (.iload_n 1, 1) := by decide +kernel
theorem dX10_tune_58 : decode cX10_tune 58 = .ok (.iaload, 1) := by decide +kernel
theorem dX10_tune_59 : decode cX10_tune 59 = .ok (.ireturn, 1) := by decide +kernel
theorem dX10_tune_60 : decode cX10_tune 60 = .ok (.aload_n 0, 1) := by decide +kernel
theorem dX10_tune_61 : decode cX10_tune 61 = .ok (.getfield 41, 3) := by decide +kernel
theorem dX10_tune_64 : decode cX10_tune 64 = .ok (.iload_n 1, 1) := by decide +kernel
theorem dX10_tune_65 : decode cX10_tune 65 = .ok (.invokevirtual 199, 3) := by decide +kernel
theorem dX10_tune_68 : decode cX10_tune 68 = .ok (.ireturn, 1) := by decide +kernel
theorem dX10_tune_69 : decode cX10_tune 69 = .ok (.ldc 100, 2) := by decide +kernel
theorem dX10_tune_71 : decode cX10_tune 71 = .ok (.ireturn, 1) := by decide +kernel
theorem dX10_walks_0 : decode cX10_walks 0 = .ok (.aload_n 0, 1) := by decide +kernel
theorem dX10_walks_1 : decode cX10_walks 1 = .ok (.iload_n 2, 1) := by decide +kernel
theorem dX10_walks_2 : decode cX10_walks 2 = .ok (.invokevirtual 190, 3) := by decide +kernel
theorem dX10_walks_5 : decode cX10_walks 5 = .ok (.ifCond .ne 6, 3) := by decide +kernel
theorem dX10_walks_8 : decode cX10_walks 8 = .ok (.ldc 161, 2) := by decide +kernel
theorem dX10_walks_10 : decode cX10_walks 10 = .ok (.ireturn, 1) := by decide +kernel
theorem dX10_walks_11 : decode cX10_walks 11 = .ok (.iload_n 1, 1) := by decide +kernel
theorem dX10_walks_12 : decode cX10_walks 12 = .ok (.iconst 1, 1) := by decide +kernel
theorem dX10_walks_13 : decode cX10_walks 13 = .ok (.if_icmp .lt 8, 3) := by decide +kernel
theorem dX10_walks_16 : decode cX10_walks 16 = .ok (.iload_n 1, 1) := by decide +kernel
theorem dX10_walks_17 : decode cX10_walks 17 = .ok (.iconst 5, 1) := by decide +kernel
theorem dX10_walks_18 : decode cX10_walks 18 = .ok (.if_icmp .le 6, 3) := by decide +kernel
theorem dX10_walks_21 : decode cX10_walks 21 = .ok (.ldc 100, 2) := by decide +kernel
theorem dX10_walks_23 : decode cX10_walks 23 = .ok (.ireturn, 1) := by decide +kernel
theorem dX10_walks_24 : decode cX10_walks 24 = .ok (.aload_n 0, 1) := by decide +kernel
theorem dX10_walks_25 : decode cX10_walks 25 = .ok (.getfield 86, 3) := by decide +kernel
theorem dX10_walks_28 : decode cX10_walks 28 = .ok (.aload_n 0, 1) := by decide +kernel
theorem dX10_walks_29 : decode cX10_walks 29 = .ok (.getfield 41, 3) := by decide +kernel
theorem dX10_walks_32 : decode cX10_walks 32 = .ok (.iload_n 1, 1) := by decide +kernel
theorem dX10_walks_33 : decode cX10_walks 33 = .ok (.iload_n 2, 1) := by decide +kernel
theorem dX10_walks_34 : decode cX10_walks 34 = .ok (.invokevirtual 257, 3) := by decide +kernel
theorem dX10_walks_37 : decode cX10_walks 37 = .ok (.iload_n 3, 1) := by decide +kernel
theorem dX10_walks_38 : decode cX10_walks 38 = .ok (.iconst (-1), 1) := by decide +kernel
theorem dX10_walks_39 : decode cX10_walks 39 = .ok (.if_icmp .ne 13, 3) := by decide +kernel
theorem dX10_walks_42 : decode cX10_walks 42 = .ok (.aload_n 0, 1) := by decide +kernel
theorem dX10_walks_43 : decode cX10_walks 43 = .ok (.getfield 86, 3) := by decide +kernel
theorem dX10_walks_46 : decode cX10_walks 46 = .ok (.getfield 258, 3) := by decide +kernel
theorem dX10_walks_49 : decode cX10_walks 49 = .ok (.goto 11, 3) := by decide +kernel
theorem dX10_walks_52 : decode cX10_walks 52 = .ok (.aload_n 0, 1) := by decide +kernel
theorem dX10_walks_53 : decode cX10_walks 53 = .ok (.getfield 86, 3) := by decide +kernel
theorem dX10_walks_56 : decode cX10_walks 56 = .ok (.iload_n 3, 1) := by decide +kernel
theorem dX10_walks_57 : decode cX10_walks 57 = .ok (.invokevirtual 259, 3) := by decide +kernel
theorem dX10_walks_60 : decode cX10_walks 60 = .ok (.ireturn, 1) := by decide +kernel
theorem dX10_wall_0 : decode cX10_wall 0 = .ok (.aload_n 0, 1) := by decide +kernel
theorem dX10_wall_1 : decode cX10_wall 1 = .ok (.getfield 29, 3) := by decide +kernel
theorem dX10_wall_4 : decode cX10_wall 4 = .ok (.iload_n 1, 1) := by decide +kernel
theorem dX10_wall_5 : decode cX10_wall 5 = .ok (.iload_n 2, 1) := by decide +kernel
theorem dX10_wall_6 : decode cX10_wall 6 = .ok (.invokevirtual 158, 3) := by decide +kernel
theorem dX10_wall_9 : decode cX10_wall 9 = .ok (.istore 4, 2) := by decide +kernel
theorem dX10_wall_11 : decode cX10_wall 11 = .ok (.iload 4, 2) := by decide +kernel
theorem dX10_wall_13 : decode cX10_wall 13 = .ok (.iconst (-1), 1) := by decide +kernel
theorem dX10_wall_14 : decode cX10_wall 14 = .ok (.if_icmp .ne 6, 3) := by decide +kernel
theorem dX10_wall_17 : decode cX10_wall 17 = .ok (.ldc 161, 2) := by decide +kernel
theorem dX10_wall_19 : decode cX10_wall 19 = .ok (.ireturn, 1) := by decide +kernel
theorem dX10_wall_20 : decode cX10_wall 20 = .ok (.aload_n 0, 1) := by decide +kernel
theorem dX10_wall_21 : decode cX10_wall 21 = .ok (.getfield 29, 3) := by decide +kernel
theorem dX10_wall_24 : decode cX10_wall 24 = .ok (.iload 4, 2) := by decide +kernel
theorem dX10_wall_26 : decode cX10_wall 26 = .ok (.invokevirtual 162, 3) := by decide +kernel
theorem dX10_wall_29 : decode cX10_wall 29 = .ok (.istore 5, 2) := by decide +kernel
theorem dX10_wall_31 : decode cX10_wall 31 = .ok (.iload 5, 2) := by decide +kernel
theorem dX10_wall_33 : decode cX10_wall 33 = .ok (.iconst 2, 1) := by decide +kernel
theorem dX10_wall_34 : decode cX10_wall 34 = .ok (.if_icmp .eq 21, 3) := by decide +kernel
theorem dX10_wall_37 : decode cX10_wall 37 = .ok (.iload 5, 2) := by decide +kernel
theorem dX10_wall_39 : decode cX10_wall 39 = .ok (.iconst 3, 1) := by decide +kernel
theorem dX10_wall_40 : decode cX10_wall 40 = .ok (.if_icmp .eq 15, 3) := by decide +kernel
theorem dX10_wall_43 : decode cX10_wall 43 = .ok (.aload_n 0, 1) := by decide +kernel
theorem dX10_wall_44 : decode cX10_wall 44 = .ok (.getfield 41, 3) := by decide +kernel
theorem dX10_wall_47 : decode cX10_wall 47 = .ok (.iload 4, 2) := by decide +kernel
theorem dX10_wall_49 : decode cX10_wall 49 = .ok (.invokevirtual 222, 3) := by decide +kernel
theorem dX10_wall_52 : decode cX10_wall 52 = .ok (.ifCond .eq 6, 3) := by decide +kernel
theorem dX10_wall_55 : decode cX10_wall 55 = .ok (.ldc 214, 2) := by decide +kernel
theorem dX10_wall_57 : decode cX10_wall 57 = .ok (.ireturn, 1) := by decide +kernel
theorem dX10_wall_58 : decode cX10_wall 58 = .ok (.iload_n 3, 1) := by decide +kernel
theorem dX10_wall_59 : decode cX10_wall 59 = .ok (.iload 5, 2) := by decide +kernel
theorem dX10_wall_61 : decode cX10_wall 61 = .ok (.iconst 1, 1) := by decide +kernel
theorem dX10_wall_62 : decode cX10_wall 62 = .ok (.if_icmp .ne 7, 3) := by decide +kernel
theorem dX10_wall_65 : decode cX10_wall 65 = .ok (.iconst 1, 1) := by decide +kernel
theorem dX10_wall_66 : decode cX10_wall 66 = .ok (.goto 4, 3) := by decide +kernel
theorem dX10_wall_69 : decode cX10_wall 69 = .ok (.iconst 0, 1) := by decide +kernel
theorem dX10_wall_70 : decode cX10_wall 70 = .ok (.if_icmp .eq 28, 3) := by decide +kernel
theorem dX10_wall_73 : decode cX10_wall 73 = .ok (.aload_n 0, 1) := by decide +kernel
theorem dX10_wall_74 : decode cX10_wall 74 = .ok (.getfield 29, 3) := by decide +kernel
theorem dX10_wall_77 : decode cX10_wall 77 = .ok (.iload 4, 2) := by decide +kernel
theorem dX10_wall_79 : decode cX10_wall 79 = .ok (.iload_n 3, 1) := by decide +kernel
theorem dX10_wall_80 : decode cX10_wall 80 = .ok (.ifCond .eq 7, 3) := by decide +kernel
theorem dX10_wall_83 : decode cX10_wall 83 = .ok (.iconst 1, 1) := by decide +kernel
theorem dX10_wall_84 : decode cX10_wall 84 = .ok (.goto 4, 3) := by decide +kernel
theorem dX10_wall_87 : decode cX10_wall 87 = .ok (.iconst 0, 1) := by decide +kernel
theorem dX10_wall_88 : decode cX10_wall 88 = .ok (.invokevirtual 225, 3) := by decide +kernel
theorem dX10_wall_91 : decode cX10_wall 91 = .ok (.aload_n 0, 1) := by decide +kernel
theorem dX10_wall_92 : decode cX10_wall 92 = .ok (.getfield 77, 3) := by decide +kernel
theorem dX10_wall_95 : decode cX10_wall 95 = .ok (.invokevirtual 219, 3) := by decide +kernel
theorem dX10_wall_98 : decode cX10_wall 98 = .ok (.iload 5, 2) := by decide +kernel
theorem dX10_wall_100 : decode cX10_wall 100 = .ok (.iconst 1, 1) := by decide +kernel
theorem dX10_wall_101 : decode cX10_wall 101 = .ok (.if_icmp .ne 7, 3) := by decide +kernel
theorem dX10_wall_104 : decode cX10_wall 104 = .ok (.iconst 1, 1) := by decide +kernel
theorem dX10_wall_105 : decode cX10_wall 105 = .ok (.goto 4, 3) := by decide +kernel
theorem dX10_wall_108 : decode cX10_wall 108 = .ok (.iconst 0, 1) := by decide +kernel
theorem dX10_wall_109 : decode cX10_wall 109 = .ok (.ireturn, 1) := by decide +kernel
theorem dX10_wax_0 : decode cX10_wax 0 = .ok (.iload_n 1, 1) := by decide +kernel
theorem dX10_wax_1 : decode cX10_wax 1 = .ok (.invokestatic 236, 3) := by decide +kernel
theorem dX10_wax_4 : decode cX10_wax 4 = .ok (.ifCond .ne 6, 3) := by decide +kernel
theorem dX10_wax_7 : decode cX10_wax 7 = .ok (.ldc 161, 2) := by decide +kernel
theorem dX10_wax_9 : decode cX10_wax 9 = .ok (.ireturn, 1) := by decide +kernel
theorem dX10_wax_10 : decode cX10_wax 10 = .ok (.aload_n 0, 1) := by decide +kernel
theorem dX10_wax_11 : decode cX10_wax 11 = .ok (.bipush 30, 2) := by decide +kernel
theorem dX10_wax_13 : decode cX10_wax 13 = .ok (.invokevirtual 233, 3) := by decide +kernel
theorem dX10_wax_16 : decode cX10_wax 16 = .ok (.pop, 1) := by decide +kernel
theorem dX10_wax_17 : decode cX10_wax 17 = .ok (.iconst 0, 1) := by decide +kernel
theorem dX10_wax_18 : decode cX10_wax 18 = .ok (.istore_n 2, 1) := by decide +kernel
theorem dX10_wax_19 : decode cX10_wax 19 = .ok (.iconst 0, 1) := by decide +kernel
theorem dX10_wax_20 : decode cX10_wax 20 = .ok (.istore_n 3, 1) := by decide +kernel
theorem dX10_wax_21 : decode cX10_wax 21 = .ok (.iload_n 3, 1) := by decide +kernel
theorem dX10_wax_22 : decode cX10_wax 22 = .ok (.aload_n 0, 1) := by decide +kernel
theorem dX10_wax_23 : decode cX10_wax 23 = .ok (.getfield 19, 3) := by decide +kernel
theorem dX10_wax_26 : decode cX10_wax 26 = .ok (.getfield 129, 3) := by decide +kernel
theorem dX10_wax_29 : decode cX10_wax 29 = .ok (.if_icmp .ge 47, 3) := by decide +kernel
theorem dX10_wax_32 : decode cX10_wax 32 = .ok (.aload_n 0, 1) := by decide +kernel
theorem dX10_wax_33 : decode cX10_wax 33 = .ok (.getfield 19, 3) := by decide +kernel
theorem dX10_wax_36 : decode cX10_wax 36 = .ok (.getfield 169, 3) := by decide +kernel
theorem dX10_wax_39 : decode cX10_wax 39 = .ok (.iload_n 3, 1) := by decide +kernel
theorem dX10_wax_40 : decode cX10_wax 40 = .ok (.iaload, 1) := by decide +kernel
theorem dX10_wax_41 : decode cX10_wax 41 = .ok (.iload_n 1, 1) := by decide +kernel
theorem dX10_wax_42 : decode cX10_wax 42 = .ok (.if_icmp .ne 28, 3) := by decide +kernel
theorem dX10_wax_45 : decode cX10_wax 45 = .ok (.aload_n 0, 1) := by decide +kernel
theorem dX10_wax_46 : decode cX10_wax 46 = .ok (.getfield 45, 3) := by decide +kernel
theorem dX10_wax_49 : decode cX10_wax 49 = .ok (.iload_n 3, 1) := by decide +kernel
theorem dX10_wax_50 : decode cX10_wax 50 = .ok (.invokevirtual 187, 3) := by decide +kernel
theorem dX10_wax_53 : decode cX10_wax 53 = .ok (.aload_n 0, 1) := by decide +kernel
theorem dX10_wax_54 : decode cX10_wax 54 = .ok (.getfield 41, 3) := by decide +kernel
theorem dX10_wax_57 : decode cX10_wax 57 = .ok (.iload_n 3, 1) := by decide +kernel
theorem dX10_wax_58 : decode cX10_wax 58 = .ok (.invokevirtual 187, 3) := by decide +kernel
theorem dX10_wax_61 : decode cX10_wax 61 = .ok (.if_icmp .eq 9, 3) := by decide +kernel
theorem dX10_wax_64 : decode cX10_wax 64 = .ok (.iload_n 2, 1) := by decide +kernel
theorem dX10_wax_65 : decode cX10_wax 65 = .ok (.iconst 1, 1) := by decide +kernel
theorem dX10_wax_66 : decode cX10_wax 66 = .ok (.iload_n 3, 1) := by decide +kernel
theorem dX10_wax_67 : decode cX10_wax 67 = .ok (.ishl, 1) := by decide +kernel
theorem dX10_wax_68 : decode cX10_wax 68 = .ok (.ior, 1) := by decide +kernel
theorem dX10_wax_69 : decode cX10_wax 69 = .ok (.istore_n 2, 1) := by decide +kernel
theorem dX10_wax_70 : decode cX10_wax 70 = .ok (.iinc 3 1, 3) := by decide +kernel
theorem dX10_wax_73 : decode cX10_wax 73 = .ok (.goto (-52), 3) := by decide +kernel
theorem dX10_wax_76 : decode cX10_wax 76 = .ok (.iload_n 2, 1) := by decide +kernel
theorem dX10_wax_77 : decode cX10_wax 77 = .ok (.ireturn, 1) := by decide +kernel
theorem dX10_where_0 : decode cX10_where 0 = .ok (.aload_n 0, 1) := by decide +kernel
theorem dX10_where_1 : decode cX10_where 1 = .ok (.iload_n 1, 1) := by decide +kernel
theorem dX10_where_2 : decode cX10_where 2 = .ok (.invokevirtual 165, 3) := by decide +kernel
theorem dX10_where_5 : decode cX10_where 5 = .ok (.ifCond .ne 6, 3) := by decide +kernel
theorem dX10_where_8 : decode cX10_where 8 = .ok (.ldc 161, 2) := by decide +kernel
theorem dX10_where_10 : decode cX10_where 10 = .ok (.ireturn, 1) := by decide +kernel
theorem dX10_where_11 : decode cX10_where 11 = .ok (.iload_n 2, 1) := by decide +kernel
theorem dX10_where_12 : decode cX10_where 12 = .ok (.ifCond .lt 9, 3) := by decide +kernel
theorem dX10_where_15 : decode cX10_where 15 = .ok (.iload_n 2, 1) := by decide +kernel
theorem dX10_where_16 : decode cX10_where 16 = .ok (.bipush 30, 2) := by decide +kernel
theorem dX10_where_18 : decode cX10_where 18 = .ok (.if_icmp .le 6, 3) := by decide +kernel
theorem dX10_where_21 : decode cX10_where 21 = .ok (.ldc 100, 2) := by decide +kernel
theorem dX10_where_23 : decode cX10_where 23 = .ok (.ireturn, 1) := by decide +kernel
theorem dX10_where_24 : decode cX10_where 24 = .ok (.aload_n 0, 1) := by decide +kernel
theorem dX10_where_25 : decode cX10_where 25 = .ok (.iload_n 2, 1) := by decide +kernel
theorem dX10_where_26 : decode cX10_where 26 = .ok (.invokevirtual 233, 3) := by decide +kernel
theorem dX10_where_29 : decode cX10_where 29 = .ok (.pop, 1) := by decide +kernel
theorem dX10_where_30 : decode cX10_where 30 = .ok (.aload_n 0, 1) := by decide +kernel
theorem dX10_where_31 : decode cX10_where 31 = .ok (.getfield 29, 3) := by decide +kernel
theorem dX10_where_34 : decode cX10_where 34 = .ok (.aload_n 0, 1) := by decide +kernel
theorem dX10_where_35 : decode cX10_where 35 = .ok (.getfield 45, 3) := by decide +kernel
theorem dX10_where_38 : decode cX10_where 38 = .ok (.getfield 181, 3) := by decide +kernel
theorem dX10_where_41 : decode cX10_where 41 = .ok (.iload_n 1, 1) := by decide +kernel
theorem dX10_where_42 : decode cX10_where 42 = .ok (.iaload, 1) := by decide +kernel
theorem dX10_where_43 : decode cX10_where 43 = .ok (.invokevirtual 141, 3) := by decide +kernel
theorem dX10_where_46 : decode cX10_where 46 = .ok (.ireturn, 1) := by decide +kernel
theorem dX11_allHeads_0 : decode cX11_allHeads 0 = .ok (.iconst 0, 1) := by decide +kernel
theorem dX11_allHeads_1 : decode cX11_allHeads 1 = .ok (.istore_n 1, 1) := by decide +kernel
theorem dX11_allHeads_2 : decode cX11_allHeads 2 = .ok (.iconst 0, 1) := by decide +kernel
theorem dX11_allHeads_3 : decode cX11_allHeads 3 = .ok (.istore_n 2, 1) := by decide +kernel
theorem dX11_allHeads_4 : decode cX11_allHeads 4 = .ok (.iload_n 2, 1) := by decide +kernel
theorem dX11_allHeads_5 : decode cX11_allHeads 5 = .ok (.aload_n 0, 1) := by decide +kernel
theorem dX11_allHeads_6 : decode cX11_allHeads 6 = .ok (.getfield 121, 3) := by decide +kernel
theorem dX11_allHeads_9 : decode cX11_allHeads 9 = .ok (.if_icmp .ge 18, 3) := by decide +kernel
theorem dX11_allHeads_12 : decode cX11_allHeads 12 = .ok (.iload_n 1, 1) := by decide +kernel
theorem dX11_allHeads_13 : decode cX11_allHeads 13 = .ok (.aload_n 0, 1) := by decide +kernel
theorem dX11_allHeads_14 : decode cX11_allHeads 14 = .ok (.getfield 16, 3) := by decide +kernel
theorem dX11_allHeads_17 : decode cX11_allHeads 17 = .ok (.iload_n 2, 1) := by decide +kernel
theorem dX11_allHeads_18 : decode cX11_allHeads 18 = .ok (.iaload, 1) := by decide +kernel
theorem dX11_allHeads_19 : decode cX11_allHeads 19 = .ok (.iadd, 1) := by decide +kernel
theorem dX11_allHeads_20 : decode cX11_allHeads 20 = .ok (.istore_n 1, 1) := by decide +kernel
theorem dX11_allHeads_21 : decode cX11_allHeads 21 = .ok (.iinc 2 1, 3) := by decide +kernel
theorem dX11_allHeads_24 : decode cX11_allHeads 24 = .ok (.goto (-20), 3) := by decide +kernel
theorem dX11_allHeads_27 : decode cX11_allHeads 27 = .ok (.iload_n 1, 1) := by decide +kernel
theorem dX11_allHeads_28 : decode cX11_allHeads 28 = .ok (.ireturn, 1) := by decide +kernel
theorem dX11_bestWall_0 : decode cX11_bestWall 0 = .ok (.iload_n 1, 1) := by decide +kernel
theorem dX11_bestWall_1 : decode cX11_bestWall 1 = .ok (.i2l, 1) := by decide +kernel
theorem dX11_bestWall_2 : decode cX11_bestWall 2 = .ok (.lconst 0, 1) := by decide +kernel
theorem dX11_bestWall_3 : decode cX11_bestWall 3 = .ok (.ldc2_w 366, 3) := by decide +kernel
theorem dX11_bestWall_6 : decode cX11_bestWall 6 = .ok (.invokestatic 114, 3) := by decide +kernel
theorem dX11_bestWall_9 : decode cX11_bestWall 9 = .ok (.ifCond .ne 7, 3) := by decide +kernel
theorem dX11_bestWall_12 : decode cX11_bestWall 12 = .ok (.ldc_w 285, 3) := by decide +kernel
theorem dX11_bestWall_15 : decode cX11_bestWall 15 = .ok (.ireturn, 1) := by decide +kernel
theorem dX11_bestWall_16 : decode cX11_bestWall 16 = .ok (.iload_n 2, 1) := by decide +kernel
theorem dX11_bestWall_17 : decode cX11_bestWall 17 = .ok (.i2l, 1) := by decide +kernel
theorem dX11_bestWall_18 : decode cX11_bestWall 18 = .ok (.lconst 0, 1) := by decide +kernel
theorem dX11_bestWall_19 : decode cX11_bestWall 19 = .ok (.lconst 1, 1) := by decide +kernel
theorem dX11_bestWall_20 : decode cX11_bestWall 20 = .ok (.invokestatic 114, 3) := by decide +kernel
theorem dX11_bestWall_23 : decode cX11_bestWall 23 = .ok (.ifCond .ne 6, 3) := by decide +kernel
theorem dX11_bestWall_26 : decode cX11_bestWall 26 = .ok (.ldc 129, 2) := by decide +kernel
theorem dX11_bestWall_28 : decode cX11_bestWall 28 = .ok (.ireturn, 1) := by decide +kernel
theorem dX11_bestWall_29 : decode cX11_bestWall 29 = .ok (.iconst (-1), 1) := by decide +kernel
theorem dX11_bestWall_30 : decode cX11_bestWall 30 = .ok (.istore_n 3, 1) := by decide +kernel
theorem dX11_bestWall_31 : decode cX11_bestWall 31 = .ok (.iconst 0, 1) := by decide +kernel
theorem dX11_bestWall_32 : decode cX11_bestWall 32 = .ok (.istore 4, 2) := by decide +kernel
theorem dX11_bestWall_34 : decode cX11_bestWall 34 = .ok (.aload_n 0, 1) := by decide +kernel
theorem dX11_bestWall_35 : decode cX11_bestWall 35 = .ok (.invokevirtual 355, 3) := by decide +kernel
theorem dX11_bestWall_38 : decode cX11_bestWall 38 = .ok (.iconst 0, 1) := by decide +kernel
theorem dX11_bestWall_39 : decode cX11_bestWall 39 = .ok (.istore 5, 2) := by decide +kernel
theorem dX11_bestWall_41 : decode cX11_bestWall 41 = .ok (.iload 5, 2) := by decide +kernel
theorem dX11_bestWall_43 : decode cX11_bestWall 43 = .ok (.aload_n 0, 1) := by decide +kernel
theorem dX11_bestWall_44 : decode cX11_bestWall 44 = .ok (.getfield 111, 3) := by decide +kernel
theorem dX11_bestWall_47 : decode cX11_bestWall 47 = .ok (.aload_n 0, 1) := by decide +kernel
theorem dX11_bestWall_48 : decode cX11_bestWall 48 = .ok (.getfield 118, 3) := by decide +kernel
theorem dX11_bestWall_51 : decode cX11_bestWall 51 = .ok (.imul, 1) := by decide +kernel
theorem dX11_bestWall_52 : decode cX11_bestWall 52 = .ok (.if_icmp .ge 112, 3) := by decide +kernel
theorem dX11_bestWall_55 : decode cX11_bestWall 55 = .ok (.aload_n 0, 1) := by decide +kernel
theorem dX11_bestWall_56 : decode cX11_bestWall 56 = .ok (.getfield 7, 3) := by decide +kernel
theorem dX11_bestWall_59 : decode cX11_bestWall 59 = .ok (.iload 5, 2) := by decide +kernel
theorem dX11_bestWall_61 : decode cX11_bestWall 61 = .ok (.iaload, 1) := by decide +kernel
theorem dX11_bestWall_62 : decode cX11_bestWall 62 = .ok (.ifCond .ne 96, 3) := by decide +kernel
theorem dX11_bestWall_65 : decode cX11_bestWall 65 = .ok (.aload_n 0, 1) := by decide +kernel
theorem dX11_bestWall_66 : decode cX11_bestWall 66 = .ok (.iload 5, 2) := by decide +kernel
theorem dX11_bestWall_68 : decode cX11_bestWall 68 = .ok (.invokevirtual 331, 3) := by decide +kernel
theorem dX11_bestWall_71 : decode cX11_bestWall 71 = .ok (.ifCond .ne 87, 3) := by decide +kernel
theorem dX11_bestWall_74 : decode cX11_bestWall 74 = .ok (.aload_n 0, 1) := by decide +kernel
theorem dX11_bestWall_75 : decode cX11_bestWall 75 = .ok (.getfield 7, 3) := by decide +kernel
theorem dX11_bestWall_78 : decode cX11_bestWall 78 = .ok (.iload 5, 2) := by decide +kernel
theorem dX11_bestWall_80 : decode cX11_bestWall 80 = .ok (.iconst 1, 1) := by decide +kernel
theorem dX11_bestWall_81 : decode cX11_bestWall 81 = .ok (.iastore, 1) := by decide +kernel
theorem dX11_bestWall_82 : decode cX11_bestWall 82 = .ok (.aload_n 0, 1) := by decide +kernel
theorem dX11_bestWall_83 : decode cX11_bestWall 83 = .ok (.invokevirtual 271, 3) := by decide +kernel
theorem dX11_bestWall_86 : decode cX11_bestWall 86 = .ok (.aload_n 0, 1) := by decide +kernel
theorem dX11_bestWall_87 : decode cX11_bestWall 87 = .ok (.bipush 30, 2) := by decide +kernel
theorem dX11_bestWall_89 : decode cX11_bestWall 89 = .ok (.invokevirtual 358, 3) := by decide +kernel
theorem dX11_bestWall_92 : decode cX11_bestWall 92 = .ok (.istore 6, 2) := by decide +kernel
theorem dX11_bestWall_94 : decode cX11_bestWall 94 = .ok (.aload_n 0, 1) := by decide +kernel
theorem dX11_bestWall_95 : decode cX11_bestWall 95 = .ok (.iload_n 1, 1) := by decide +kernel
theorem dX11_bestWall_96 : decode cX11_bestWall 96 = .ok (.iconst 1, 1) := by decide +kernel
theorem dX11_bestWall_97 : decode cX11_bestWall 97 = .ok (.invokevirtual 289, 3) := by decide +kernel
theorem dX11_bestWall_100 : decode cX11_bestWall 100 = .ok (.istore 7, 2) := by decide +kernel
theorem dX11_bestWall_102 : decode cX11_bestWall 102 = .ok (.aload_n 0, 1) := by decide +kernel
theorem dX11_bestWall_103 : decode cX11_bestWall 103 = .ok (.invokevirtual 361, 3) := by decide +kernel
theorem dX11_bestWall_106 : decode cX11_bestWall 106 = .ok (.aload_n 0, 1) := by decide +kernel
theorem dX11_bestWall_107 : decode cX11_bestWall 107 = .ok (.getfield 7, 3) := by decide +kernel
theorem dX11_bestWall_110 : decode cX11_bestWall 110 = .ok (.iload 5, 2) := by decide +kernel
theorem dX11_bestWall_112 : decode cX11_bestWall 112 = .ok (.iconst 0, 1) := by decide +kernel
theorem dX11_bestWall_113 : decode cX11_bestWall 113 = .ok (.iastore, 1) := by decide +kernel
theorem dX11_bestWall_114 : decode cX11_bestWall 114 = .ok (.iload_n 3, 1) := by decide +kernel
theorem dX11_bestWall_115 : decode cX11_bestWall 115 = .ok (.ifCond .lt 10, 3) := by decide +kernel
theorem dX11_bestWall_118 : decode cX11_bestWall 118 = .ok (.iload 7, 2) := by decide +kernel
theorem dX11_bestWall_120 : decode cX11_bestWall 120 = .ok (.iload 4, 2) := by decide +kernel
theorem dX11_bestWall_122 : decode cX11_bestWall 122 = .ok (.if_icmp .ge 7, 3) := by decide +kernel
theorem dX11_bestWall_125 : decode cX11_bestWall 125 = .ok (.iconst 1, 1) := by decide +kernel
theorem dX11_bestWall_126 : decode cX11_bestWall 126 = .ok (.goto 4, 3) := by decide +kernel
theorem dX11_bestWall_129 : decode cX11_bestWall 129 = .ok (.iconst 0, 1) := by decide +kernel
theorem dX11_bestWall_130 : decode cX11_bestWall 130 = .ok (.istore 8, 2) := by decide +kernel
theorem dX11_bestWall_132 : decode cX11_bestWall 132 = .ok (.iload 8, 2) := by decide +kernel
theorem dX11_bestWall_134 : decode cX11_bestWall 134 = .ok (.ifCond .eq 8, 3) := by decide +kernel
theorem dX11_bestWall_137 : decode cX11_bestWall 137 = .ok (.iload 5, 2) := by decide +kernel
theorem dX11_bestWall_139 : decode cX11_bestWall 139 = .ok (.goto 4, 3) := by decide +kernel
theorem dX11_bestWall_142 : decode cX11_bestWall 142 = .ok (.iload_n 3, 1) := by decide +kernel
theorem dX11_bestWall_143 : decode cX11_bestWall 143 = .ok (.istore_n 3, 1) := by decide +kernel
theorem dX11_bestWall_144 : decode cX11_bestWall 144 = .ok (.iload 8, 2) := by decide +kernel
theorem dX11_bestWall_146 : decode cX11_bestWall 146 = .ok (.ifCond .eq 8, 3) := by decide +kernel
theorem dX11_bestWall_149 : decode cX11_bestWall 149 = .ok (.iload 7, 2) := by decide +kernel
theorem dX11_bestWall_151 : decode cX11_bestWall 151 = .ok (.goto 5, 3) := by decide +kernel
theorem dX11_bestWall_154 : decode cX11_bestWall 154 = .ok (.iload 4, 2) := by decide +kernel
theorem dX11_bestWall_156 : decode cX11_bestWall 156 = .ok (.istore 4, 2) := by decide +kernel
theorem dX11_bestWall_158 : decode cX11_bestWall 158 = .ok (.iinc 5 1, 3) := by decide +kernel
theorem dX11_bestWall_161 : decode cX11_bestWall 161 = .ok (.goto (-120), 3) := by decide +kernel
theorem dX11_bestWall_164 : decode cX11_bestWall 164 = .ok (.aload_n 0, 1) := by decide +kernel
theorem dX11_bestWall_165 : decode cX11_bestWall 165 = .ok (.invokevirtual 271, 3) := by decide +kernel
theorem dX11_bestWall_168 : decode cX11_bestWall 168 = .ok (.iload_n 3, 1) := by decide +kernel
theorem dX11_bestWall_169 : decode cX11_bestWall 169 = .ok (.ifCond .ge 7, 3) := by decide +kernel
theorem dX11_bestWall_172 : decode cX11_bestWall 172 = .ok (.iconst (-1), 1) := by decide +kernel
theorem dX11_bestWall_173 : decode cX11_bestWall 173 = .ok (.goto 17, 3) := by decide +kernel
theorem dX11_bestWall_176 : decode cX11_bestWall 176 = .ok (.iload_n 2, 1) := by decide +kernel
theorem dX11_bestWall_177 : decode cX11_bestWall 177 = .ok (.ifCond .ne 11, 3) := by decide +kernel
theorem dX11_bestWall_180 : decode cX11_bestWall 180 = .ok (.aload_n 0, 1) := by decide +kernel
theorem dX11_bestWall_181 : decode cX11_bestWall 181 = .ok (.iload_n 3, 1) := by decide +kernel
theorem dX11_bestWall_182 : decode cX11_bestWall 182 = .ok (.invokevirtual 292, 3) := by decide +kernel
theorem dX11_bestWall_185 : decode cX11_bestWall 185 = .ok (.goto 5, 3) := by decide +kernel
theorem dX11_bestWall_188 : decode cX11_bestWall 188 = .ok (.iload 4, 2) := by decide +kernel
theorem dX11_bestWall_190 : decode cX11_bestWall 190 = .ok (.ireturn, 1) := by decide +kernel
theorem dX11_cell_0 : decode cX11_cell 0 = .ok (.aload_n 0, 1) := by decide +kernel
theorem dX11_cell_1 : decode cX11_cell 1 = .ok (.iload_n 1, 1) := by decide +kernel
theorem dX11_cell_2 : decode cX11_cell 2 = .ok (.iload_n 2, 1) := by decide +kernel
theorem dX11_cell_3 : decode cX11_cell 3 = .ok (.invokevirtual 274, 3) := by decide +kernel
theorem dX11_cell_6 : decode cX11_cell 6 = .ok (.ifCond .eq 19, 3) := by decide +kernel
theorem dX11_cell_9 : decode cX11_cell 9 = .ok (.aload_n 0, 1) := by decide +kernel
theorem dX11_cell_10 : decode cX11_cell 10 = .ok (.getfield 7, 3) := by decide +kernel
theorem dX11_cell_13 : decode cX11_cell 13 = .ok (.aload_n 0, 1) := by decide +kernel
theorem dX11_cell_14 : decode cX11_cell 14 = .ok (.getfield 111, 3) := by decide +kernel
theorem dX11_cell_17 : decode cX11_cell 17 = .ok (.iload_n 2, 1) := by decide +kernel
theorem dX11_cell_18 : decode cX11_cell 18 = .ok (.imul, 1) := by decide +kernel
theorem dX11_cell_19 : decode cX11_cell 19 = .ok (.iload_n 1, 1) := by decide +kernel
theorem dX11_cell_20 : decode cX11_cell 20 = .ok (.iadd, 1) := by decide +kernel
theorem dX11_cell_21 : decode cX11_cell 21 = .ok (.iaload, 1) := by decide +kernel
theorem dX11_cell_22 : decode cX11_cell 22 = .ok (.goto 6, 3) := by decide +kernel
theorem dX11_cell_25 : decode cX11_cell 25 = .ok (.ldc_w 285, 3) := by decide +kernel
theorem dX11_cell_28 : decode cX11_cell 28 = .ok (.ireturn, 1) := by decide +kernel
theorem dX11_clear_0 : decode cX11_clear 0 = .ok (.aload_n 0, 1) := by decide +kernel
theorem dX11_clear_1 : decode cX11_clear 1 = .ok (.iconst 0, 1) := by decide +kernel
theorem dX11_clear_2 : decode cX11_clear 2 = .ok (.putfield 179, 3) := by decide +kernel
theorem dX11_clear_5 : decode cX11_clear 5 = .ok (.aload_n 0, 1) := by decide +kernel
theorem dX11_clear_6 : decode cX11_clear 6 = .ok (.iconst 0, 1) := by decide +kernel
theorem dX11_clear_7 : decode cX11_clear 7 = .ok (.putfield 182, 3) := by decide +kernel
theorem dX11_clear_10 : decode cX11_clear 10 = .ok (.aload_n 0, 1) := by decide +kernel
theorem dX11_clear_11 : decode cX11_clear 11 = .ok (.iconst 0, 1) := by decide +kernel
theorem dX11_clear_12 : decode cX11_clear 12 = .ok (.putfield 194, 3) := by decide +kernel
theorem dX11_clear_15 : decode cX11_clear 15 = .ok (.aload_n 0, 1) := by decide +kernel
theorem dX11_clear_16 : decode cX11_clear 16 = .ok (.iconst 0, 1) := by decide +kernel
theorem dX11_clear_17 : decode cX11_clear 17 = .ok (.putfield 191, 3) := by decide +kernel
theorem dX11_clear_20 : decode cX11_clear 20 = .ok (.aload_n 0, 1) := by decide +kernel
theorem dX11_clear_21 : decode cX11_clear 21 = .ok (.iconst 0, 1) := by decide +kernel
theorem dX11_clear_22 : decode cX11_clear 22 = .ok (.putfield 208, 3) := by decide +kernel
theorem dX11_clear_25 : decode cX11_clear 25 = .ok (.aload_n 0, 1) := by decide +kernel
theorem dX11_clear_26 : decode cX11_clear 26 = .ok (.iconst (-1), 1) := by decide +kernel
theorem dX11_clear_27 : decode cX11_clear 27 = .ok (.putfield 188, 3) := by decide +kernel
theorem dX11_clear_30 : decode cX11_clear 30 = .ok (.aload_n 0, 1) := by decide +kernel
theorem dX11_clear_31 : decode cX11_clear 31 = .ok (.iconst (-1), 1) := by decide +kernel
theorem dX11_clear_32 : decode cX11_clear 32 = .ok (.putfield 211, 3) := by decide +kernel
theorem dX11_clear_35 : decode cX11_clear 35 = .ok (.iconst 0, 1) := by decide +kernel
theorem dX11_clear_36 : decode cX11_clear 36 = .ok (.istore_n 1, 1) := by decide +kernel
theorem dX11_clear_37 : decode cX11_clear 37 = .ok (.iload_n 1, 1) := by decide +kernel
theorem dX11_clear_38 : decode cX11_clear 38 = .ok (.bipush 42, 2) := by decide +kernel
theorem dX11_clear_40 : decode cX11_clear 40 = .ok (.if_icmp .ge 16, 3) := by decide +kernel
theorem dX11_clear_43 : decode cX11_clear 43 = .ok (.aload_n 0, 1) := by decide +kernel
theorem dX11_clear_44 : decode cX11_clear 44 = .ok (.getfield 53, 3) := by decide +kernel
theorem dX11_clear_47 : decode cX11_clear 47 = .ok (.iload_n 1, 1) := by decide +kernel
theorem dX11_clear_48 : decode cX11_clear 48 = .ok (.iconst 0, 1) := by decide +kernel
theorem dX11_clear_49 : decode cX11_clear 49 = .ok (.iastore, 1) := by decide +kernel
theorem dX11_clear_50 : decode cX11_clear 50 = .ok (.iinc 1 1, 3) := by decide +kernel
theorem dX11_clear_53 : decode cX11_clear 53 = .ok (.goto (-16), 3) := by decide +kernel
theorem dX11_clear_56 : decode cX11_clear 56 = .ok (.return_, 1) := by decide +kernel
theorem dX11_crowd_0 : decode cX11_crowd 0 = .ok (.aload_n 0, 1) := by decide +kernel
theorem dX11_crowd_1 : decode cX11_crowd 1 = .ok (.iload_n 1, 1) := by decide +kernel
theorem dX11_crowd_2 : decode cX11_crowd 2 = .ok (.invokevirtual 301, 3) := by decide +kernel
theorem dX11_crowd_5 : decode cX11_crowd 5 = .ok (.ifCond .ne 7, 3) := by decide +kernel
theorem dX11_crowd_8 : decode cX11_crowd 8 = .ok (.ldc_w 285, 3) := by decide +kernel
theorem dX11_crowd_11 : decode cX11_crowd 11 = .ok (.ireturn, 1) := by decide +kernel
theorem dX11_crowd_12 : decode cX11_crowd 12 = .ok (.iload_n 2, 1) := by decide +kernel
theorem dX11_crowd_13 : decode cX11_crowd 13 = .ok (.tableswitch 113 0 6 #[43, 50, 57, 64, 71, 82, 106], 43) := by decide +kernel
theorem dX11_crowd_56 : decode cX11_crowd 56 = .ok (.aload_n 0, 1) := by decide +kernel
theorem dX11_crowd_57 : decode cX11_crowd 57 = .ok (.getfield 13, 3) := by decide +kernel
theorem dX11_crowd_60 : decode cX11_crowd 60 = .ok (.iload_n 1, 1) := by decide +kernel
theorem dX11_crowd_61 : decode cX11_crowd 61 = .ok (.iaload, 1) := by decide +kernel
theorem dX11_crowd_62 : decode cX11_crowd 62 = .ok (.ireturn, 1) := by decide +kernel
theorem dX11_crowd_63 : decode cX11_crowd 63 = .ok (.aload_n 0, 1) := by decide +kernel
theorem dX11_crowd_64 : decode cX11_crowd 64 = .ok (.getfield 16, 3) := by decide +kernel
theorem dX11_crowd_67 : decode cX11_crowd 67 = .ok (.iload_n 1, 1) := by decide +kernel
theorem dX11_crowd_68 : decode cX11_crowd 68 = .ok (.iaload, 1) := by decide +kernel
theorem dX11_crowd_69 : decode cX11_crowd 69 = .ok (.ireturn, 1) := by decide +kernel
theorem dX11_crowd_70 : decode cX11_crowd 70 = .ok (.aload_n 0, 1) := by decide +kernel
theorem dX11_crowd_71 : decode cX11_crowd 71 = .ok (.getfield 19, 3) := by decide +kernel
theorem dX11_crowd_74 : decode cX11_crowd 74 = .ok (.iload_n 1, 1) := by decide +kernel
theorem dX11_crowd_75 : decode cX11_crowd 75 = .ok (.iaload, 1) := by decide +kernel
theorem dX11_crowd_76 : decode cX11_crowd 76 = .ok (.ireturn, 1) := by decide +kernel
theorem dX11_crowd_77 : decode cX11_crowd 77 = .ok (.aload_n 0, 1) := by decide +kernel
theorem dX11_crowd_78 : decode cX11_crowd 78 = .ok (.getfield 22, 3) := by decide +kernel
theorem dX11_crowd_81 : decode cX11_crowd 81 = .ok (.iload_n 1, 1) := by decide +kernel
theorem dX11_crowd_82 : decode cX11_crowd 82 = .ok (.iaload, 1) := by decide +kernel
theorem dX11_crowd_83 : decode cX11_crowd 83 = .ok (.ireturn, 1) := by decide +kernel
theorem dX11_crowd_84 : decode cX11_crowd 84 = .ok (.aload_n 0, 1) := by decide +kernel
theorem dX11_crowd_85 : decode cX11_crowd 85 = .ok (.aload_n 0, 1) := by decide +kernel
theorem dX11_crowd_86 : decode cX11_crowd 86 = .ok (.getfield 38, 3) := by decide +kernel
theorem dX11_crowd_89 : decode cX11_crowd 89 = .ok (.iload_n 1, 1) := by decide +kernel
theorem dX11_crowd_90 : decode cX11_crowd 90 = .ok (.iaload, 1) := by decide +kernel
theorem dX11_crowd_91 : decode cX11_crowd 91 = .ok (.invokevirtual 292, 3) := by decide +kernel
theorem dX11_crowd_94 : decode cX11_crowd 94 = .ok (.ireturn, 1) := by decide +kernel
theorem dX11_crowd_95 : decode cX11_crowd 95 = .ok (.aload_n 0, 1) := by decide +kernel
theorem dX11_crowd_96 : decode cX11_crowd 96 = .ok (.getfield 41, 3) := by decide +kernel
theorem dX11_crowd_99 : decode cX11_crowd 99 = .ok (.iload_n 1, 1) := by decide +kernel
theorem dX11_crowd_100 : decode cX11_crowd 100 = .ok (.iaload, 1) := by decide +kernel
theorem dX11_crowd_101 : decode cX11_crowd 101 = .ok (.ifCond .ge 7, 3) := by decide +kernel
theorem dX11_crowd_104 : decode cX11_crowd 104 = .ok (.iconst (-1), 1) := by decide +kernel
theorem dX11_crowd_105 : decode cX11_crowd 105 = .ok (.goto 13, 3) := by decide +kernel
theorem dX11_crowd_108 : decode cX11_crowd 108 = .ok (.aload_n 0, 1) := by decide +kernel
theorem dX11_crowd_109 : decode cX11_crowd 109 = .ok (.aload_n 0, 1) := by decide +kernel
theorem dX11_crowd_110 : decode cX11_crowd 110 = .ok (.getfield 41, 3) := by decide +kernel
theorem dX11_crowd_113 : decode cX11_crowd 113 = .ok (.iload_n 1, 1) := by decide +kernel
theorem dX11_crowd_114 : decode cX11_crowd 114 = .ok (.iaload, 1) := by decide +kernel
theorem dX11_crowd_115 : decode cX11_crowd 115 = .ok (.invokevirtual 292, 3) := by decide +kernel
theorem dX11_crowd_118 : decode cX11_crowd 118 = .ok (.ireturn, 1) := by decide +kernel
theorem dX11_crowd_119 : decode cX11_crowd 119 = .ok (.aload_n 0, 1) := by decide +kernel
theorem dX11_crowd_120 : decode cX11_crowd 120 = .ok (.getfield 44, 3) := by decide +kernel
theorem dX11_crowd_123 : decode cX11_crowd 123 = .ok (.iload_n 1, 1) := by decide +kernel
theorem dX11_crowd_124 : decode cX11_crowd 124 = .ok (.iaload, 1) := by decide +kernel
theorem dX11_crowd_125 : decode cX11_crowd 125 = .ok (.ireturn, 1) := by decide +kernel
theorem dX11_crowd_126 : decode cX11_crowd 126 = .ok (.ldc 129, 2) := by decide +kernel
theorem dX11_crowd_128 : decode cX11_crowd 128 = .ok (.ireturn, 1) := by decide +kernel
theorem dX11_drift_0 : decode cX11_drift 0 = .ok (.iload_n 1, 1) := by decide +kernel
theorem dX11_drift_1 : decode cX11_drift 1 = .ok (.i2l, 1) := by decide +kernel
theorem dX11_drift_2 : decode cX11_drift 2 = .ok (.lconst 1, 1) := by decide +kernel
theorem dX11_drift_3 : decode cX11_drift 3 = .ok (.ldc2_w 344, 3) := by decide +kernel
theorem dX11_drift_6 : decode cX11_drift 6 = .ok (.invokestatic 114, 3) := by decide +kernel
theorem dX11_drift_9 : decode cX11_drift 9 = .ok (.ifCond .ne 6, 3) := by decide +kernel
theorem dX11_drift_12 : decode cX11_drift 12 = .ok (.ldc 129, 2) := by decide +kernel
theorem dX11_drift_14 : decode cX11_drift 14 = .ok (.ireturn, 1) := by decide +kernel
theorem dX11_drift_15 : decode cX11_drift 15 = .ok (.aload_n 0, 1) := by decide +kernel
theorem dX11_drift_16 : decode cX11_drift 16 = .ok (.getfield 111, 3) := by decide +kernel
theorem dX11_drift_19 : decode cX11_drift 19 = .ok (.ifCond .ne 7, 3) := by decide +kernel
theorem dX11_drift_22 : decode cX11_drift 22 = .ok (.ldc_w 330, 3) := by decide +kernel
theorem dX11_drift_25 : decode cX11_drift 25 = .ok (.ireturn, 1) := by decide +kernel
theorem dX11_drift_26 : decode cX11_drift 26 = .ok (.iconst 0, 1) := by decide +kernel
theorem dX11_drift_27 : decode cX11_drift 27 = .ok (.istore_n 2, 1) := by decide +kernel
theorem dX11_drift_28 : decode cX11_drift 28 = .ok (.iload_n 2, 1) := by decide +kernel
theorem dX11_drift_29 : decode cX11_drift 29 = .ok (.iload_n 1, 1) := by decide +kernel
theorem dX11_drift_30 : decode cX11_drift 30 = .ok (.if_icmp .ge 71, 3) := by decide +kernel
theorem dX11_drift_33 : decode cX11_drift 33 = .ok (.aload_n 0, 1) := by decide +kernel
theorem dX11_drift_34 : decode cX11_drift 34 = .ok (.iconst 5, 1) := by decide +kernel
theorem dX11_drift_35 : decode cX11_drift 35 = .ok (.invokevirtual 346, 3) := by decide +kernel
theorem dX11_drift_38 : decode cX11_drift 38 = .ok (.istore_n 3, 1) := by decide +kernel
theorem dX11_drift_39 : decode cX11_drift 39 = .ok (.aload_n 0, 1) := by decide +kernel
theorem dX11_drift_40 : decode cX11_drift 40 = .ok (.aload_n 0, 1) := by decide +kernel
theorem dX11_drift_41 : decode cX11_drift 41 = .ok (.getfield 124, 3) := by decide +kernel
theorem dX11_drift_44 : decode cX11_drift 44 = .ok (.iconst 1, 1) := by decide +kernel
theorem dX11_drift_45 : decode cX11_drift 45 = .ok (.iadd, 1) := by decide +kernel
theorem dX11_drift_46 : decode cX11_drift 46 = .ok (.invokevirtual 346, 3) := by decide +kernel
theorem dX11_drift_49 : decode cX11_drift 49 = .ok (.istore 4, 2) := by decide +kernel
theorem dX11_drift_51 : decode cX11_drift 51 = .ok (.aload_n 0, 1) := by decide +kernel
theorem dX11_drift_52 : decode cX11_drift 52 = .ok (.aload_n 0, 1) := by decide +kernel
theorem dX11_drift_53 : decode cX11_drift 53 = .ok (.iload_n 3, 1) := by decide +kernel
theorem dX11_drift_54 : decode cX11_drift 54 = .ok (.invokevirtual 319, 3) := by decide +kernel
theorem dX11_drift_57 : decode cX11_drift 57 = .ok (.ifCond .ge 7, 3) := by decide +kernel
theorem dX11_drift_60 : decode cX11_drift 60 = .ok (.iconst 0, 1) := by decide +kernel
theorem dX11_drift_61 : decode cX11_drift 61 = .ok (.goto 4, 3) := by decide +kernel
theorem dX11_drift_64 : decode cX11_drift 64 = .ok (.iload_n 3, 1) := by decide +kernel
theorem dX11_drift_65 : decode cX11_drift 65 = .ok (.iload 4, 2) := by decide +kernel
theorem dX11_drift_67 : decode cX11_drift 67 = .ok (.aload_n 0, 1) := by decide +kernel
theorem dX11_drift_68 : decode cX11_drift 68 = .ok (.getfield 124, 3) := by decide +kernel
theorem dX11_drift_71 : decode cX11_drift 71 = .ok (.if_icmp .ne 7, 3) := by decide +kernel
theorem dX11_drift_74 : decode cX11_drift 74 = .ok (.iconst (-1), 1) := by decide +kernel
theorem dX11_drift_75 : decode cX11_drift 75 = .ok (.goto 5, 3) := by decide +kernel
theorem dX11_drift_78 : decode cX11_drift 78 = .ok (.iload 4, 2) := by decide +kernel
theorem dX11_drift_80 : decode cX11_drift 80 = .ok (.invokevirtual 327, 3) := by decide +kernel
theorem dX11_drift_83 : decode cX11_drift 83 = .ok (.istore 5, 2) := by decide +kernel
theorem dX11_drift_85 : decode cX11_drift 85 = .ok (.aload_n 0, 1) := by decide +kernel
theorem dX11_drift_86 : decode cX11_drift 86 = .ok (.dup, 1) := by decide +kernel
theorem dX11_drift_87 : decode cX11_drift 87 = .ok (.getfield 262, 3) := by decide +kernel
theorem dX11_drift_90 : decode cX11_drift 90 = .ok (.iconst 1, 1) := by decide +kernel
theorem dX11_drift_91 : decode cX11_drift 91 = .ok (.iadd, 1) := by decide +kernel
theorem dX11_drift_92 : decode cX11_drift 92 = .ok (.putfield 262, 3) := by decide +kernel
theorem dX11_drift_95 : decode cX11_drift 95 = .ok (.iinc 2 1, 3) := by decide +kernel
theorem dX11_drift_98 : decode cX11_drift 98 = .ok (.goto (-70), 3) := by decide +kernel
theorem dX11_drift_101 : decode cX11_drift 101 = .ok (.aload_n 0, 1) := by decide +kernel
theorem dX11_drift_102 : decode cX11_drift 102 = .ok (.bipush 9, 2) := by decide +kernel
theorem dX11_drift_104 : decode cX11_drift 104 = .ok (.invokevirtual 349, 3) := by decide +kernel
theorem dX11_drift_107 : decode cX11_drift 107 = .ok (.ireturn, 1) := by decide +kernel
theorem dX11_drop_0 : decode cX11_drop 0 = .ok (.aload_n 0, 1) := by decide +kernel
theorem dX11_drop_1 : decode cX11_drop 1 = .ok (.getfield 265, 3) := by decide +kernel
theorem dX11_drop_4 : decode cX11_drop 4 = .ok (.istore_n 1, 1) := by decide +kernel
theorem dX11_drop_5 : decode cX11_drop 5 = .ok (.aload_n 0, 1) := by decide +kernel
theorem dX11_drop_6 : decode cX11_drop 6 = .ok (.iconst 0, 1) := by decide +kernel
theorem dX11_drop_7 : decode cX11_drop 7 = .ok (.putfield 265, 3) := by decide +kernel
theorem dX11_drop_10 : decode cX11_drop 10 = .ok (.iload_n 1, 1) := by decide +kernel
theorem dX11_drop_11 : decode cX11_drop 11 = .ok (.ireturn, 1) := by decide +kernel
theorem dX11_far_0 : decode cX11_far 0 = .ok (.aload_n 0, 1) := by decide +kernel
theorem dX11_far_1 : decode cX11_far 1 = .ok (.iload_n 1, 1) := by decide +kernel
theorem dX11_far_2 : decode cX11_far 2 = .ok (.iload_n 2, 1) := by decide +kernel
theorem dX11_far_3 : decode cX11_far 3 = .ok (.invokevirtual 274, 3) := by decide +kernel
theorem dX11_far_6 : decode cX11_far 6 = .ok (.ifCond .eq 13, 3) := by decide +kernel
theorem dX11_far_9 : decode cX11_far 9 = .ok (.aload_n 0, 1) := by decide +kernel
theorem dX11_far_10 : decode cX11_far 10 = .ok (.iload_n 3, 1) := by decide +kernel
theorem dX11_far_11 : decode cX11_far 11 = .ok (.iload 4, 2) := by decide +kernel
theorem dX11_far_13 : decode cX11_far 13 = .ok (.invokevirtual 274, 3) := by decide +kernel
theorem dX11_far_16 : decode cX11_far 16 = .ok (.ifCond .ne 7, 3) := by decide +kernel
theorem dX11_far_19 : decode cX11_far 19 = .ok (.ldc_w 285, 3) := by decide +kernel
theorem dX11_far_22 : decode cX11_far 22 = .ok (.ireturn, 1) := by decide +kernel
theorem dX11_far_23 : decode cX11_far 23 = .ok (.aload_n 0, 1) := by decide +kernel
theorem dX11_far_24 : decode cX11_far 24 = .ok (.getfield 77, 3) := by decide +kernel
theorem dX11_far_27 : decode cX11_far 27 = .ok (.bipush 42, 2) := by decide +kernel
theorem dX11_far_29 : decode cX11_far 29 = .ok (.aload_n 0, 1) := by decide +kernel
theorem dX11_far_30 : decode cX11_far 30 = .ok (.getfield 111, 3) := by decide +kernel
theorem dX11_far_33 : decode cX11_far 33 = .ok (.iload 4, 2) := by decide +kernel
theorem dX11_far_35 : decode cX11_far 35 = .ok (.imul, 1) := by decide +kernel
theorem dX11_far_36 : decode cX11_far 36 = .ok (.iload_n 3, 1) := by decide +kernel
theorem dX11_far_37 : decode cX11_far 37 = .ok (.iadd, 1) := by decide +kernel
theorem dX11_far_38 : decode cX11_far 38 = .ok (.imul, 1) := by decide +kernel
theorem dX11_far_39 : decode cX11_far 39 = .ok (.aload_n 0, 1) := by decide +kernel
theorem dX11_far_40 : decode cX11_far 40 = .ok (.getfield 111, 3) := by decide +kernel
theorem dX11_far_43 : decode cX11_far 43 = .ok (.iload_n 2, 1) := by decide +kernel
theorem dX11_far_44 : decode cX11_far 44 = .ok (.imul, 1) := by decide +kernel
theorem dX11_far_45 : decode cX11_far 45 = .ok (.iadd, 1) := by decide +kernel
theorem dX11_far_46 : decode cX11_far 46 = .ok (.iload_n 1, 1) := by decide +kernel
theorem dX11_far_47 : decode cX11_far 47 = .ok (.iadd, 1) := by decide +kernel
theorem dX11_far_48 : decode cX11_far 48 = .ok (.iaload, 1) := by decide +kernel
theorem dX11_far_49 : decode cX11_far 49 = .ok (.istore 5, 2) := by decide +kernel
theorem dX11_far_51 : decode cX11_far 51 = .ok (.iload 5, 2) := by decide +kernel
theorem dX11_far_53 : decode cX11_far 53 = .ok (.sipush 1000, 3) := by decide +kernel
theorem dX11_far_56 : decode cX11_far 56 = .ok (.if_icmp .ne 7, 3) := by decide +kernel
theorem dX11_far_59 : decode cX11_far 59 = .ok (.iconst (-1), 1) := by decide +kernel
theorem dX11_far_60 : decode cX11_far 60 = .ok (.goto 5, 3) := by decide +kernel
theorem dX11_far_63 : decode cX11_far 63 = .ok (.iload 5, 2) := by decide +kernel
theorem dX11_far_65 : decode cX11_far 65 = .ok (.ireturn, 1) := by decide +kernel
theorem dX11_fault_0 : decode cX11_fault 0 = .ok (.aload_n 0, 1) := by decide +kernel
theorem dX11_fault_1 : decode cX11_fault 1 = .ok (.getfield 50, 3) := by decide +kernel
theorem dX11_fault_4 : decode cX11_fault 4 = .ok (.ireturn, 1) := by decide +kernel
theorem dX11_feed_0 : decode cX11_feed 0 = .ok (.iload_n 1, 1) := by decide +kernel
theorem dX11_feed_1 : decode cX11_feed 1 = .ok (.i2l, 1) := by decide +kernel
theorem dX11_feed_2 : decode cX11_feed 2 = .ok (.lconst 1, 1) := by decide +kernel
theorem dX11_feed_3 : decode cX11_feed 3 = .ok (.ldc2_w 127, 3) := by decide +kernel
theorem dX11_feed_6 : decode cX11_feed 6 = .ok (.invokestatic 114, 3) := by decide +kernel
theorem dX11_feed_9 : decode cX11_feed 9 = .ok (.ifCond .ne 6, 3) := by decide +kernel
theorem dX11_feed_12 : decode cX11_feed 12 = .ok (.ldc 129, 2) := by decide +kernel
theorem dX11_feed_14 : decode cX11_feed 14 = .ok (.ireturn, 1) := by decide +kernel
theorem dX11_feed_15 : decode cX11_feed 15 = .ok (.aload_n 0, 1) := by decide +kernel
theorem dX11_feed_16 : decode cX11_feed 16 = .ok (.getfield 130, 3) := by decide +kernel
theorem dX11_feed_19 : decode cX11_feed 19 = .ok (.iload_n 1, 1) := by decide +kernel
theorem dX11_feed_20 : decode cX11_feed 20 = .ok (.iadd, 1) := by decide +kernel
theorem dX11_feed_21 : decode cX11_feed 21 = .ok (.sipush 500, 3) := by decide +kernel
theorem dX11_feed_24 : decode cX11_feed 24 = .ok (.if_icmp .le 6, 3) := by decide +kernel
theorem dX11_feed_27 : decode cX11_feed 27 = .ok (.ldc 133, 2) := by decide +kernel
theorem dX11_feed_29 : decode cX11_feed 29 = .ok (.ireturn, 1) := by decide +kernel
theorem dX11_feed_30 : decode cX11_feed 30 = .ok (.iload_n 1, 1) := by decide +kernel
theorem dX11_feed_31 : decode cX11_feed 31 = .ok (.iconst 1, 1) := by decide +kernel
theorem dX11_feed_32 : decode cX11_feed 32 = .ok (.isub, 1) := by decide +kernel
theorem dX11_feed_33 : decode cX11_feed 33 = .ok (.istore 4, 2) := by decide +kernel
theorem dX11_feed_35 : decode cX11_feed 35 = .ok (.iload 4, 2) := by decide +kernel
theorem dX11_feed_37 : decode cX11_feed 37 = .ok (.ifCond .lt 40, 3) := by decide +kernel
theorem dX11_feed_40 : decode cX11_feed 40 = .ok (.aload_n 0, 1) := by decide +kernel
theorem dX11_feed_41 : decode cX11_feed 41 = .ok (.getfield 47, 3) := by decide +kernel
theorem dX11_feed_44 : decode cX11_feed 44 = .ok (.aload_n 0, 1) := by decide +kernel
theorem dX11_feed_45 : decode cX11_feed 45 = .ok (.getfield 130, 3) := by decide +kernel
theorem dX11_feed_48 : decode cX11_feed 48 = .ok (.lload_n 2, 1) := by decide +kernel
theorem dX11_feed_49 : decode cX11_feed 49 = .ok (.bipush 8, 2) := by decide +kernel
theorem dX11_feed_51 : decode cX11_feed 51 = .ok (.iload 4, 2) := by decide +kernel
theorem dX11_feed_53 : decode cX11_feed 53 = .ok (.imul, 1) := by decide +kernel
theorem dX11_feed_54 : decode cX11_feed 54 = .ok (.lshr, 1) := by decide +kernel
theorem dX11_feed_55 : decode cX11_feed 55 = .ok (.ldc2_w 134, 3) := by decide +kernel
theorem dX11_feed_58 : decode cX11_feed 58 = .ok (.land, 1) := by decide +kernel
theorem dX11_feed_59 : decode cX11_feed 59 = .ok (.l2i, 1) := by decide +kernel
theorem dX11_feed_60 : decode cX11_feed 60 = .ok (.iastore, 1) := by decide +kernel
theorem dX11_feed_61 : decode cX11_feed 61 = .ok (.aload_n 0, 1) := by decide +kernel
theorem dX11_feed_62 : decode cX11_feed 62 = .ok (.dup, 1) := by decide +kernel
theorem dX11_feed_63 : decode cX11_feed 63 = .ok (.getfield 130, 3) := by decide +kernel
theorem dX11_feed_66 : decode cX11_feed 66 = .ok (.iconst 1, 1) := by decide +kernel
theorem dX11_feed_67 : decode cX11_feed 67 = .ok (.iadd, 1) := by decide +kernel
theorem dX11_feed_68 : decode cX11_feed 68 = .ok (.putfield 130, 3) := by decide +kernel
theorem dX11_feed_71 : decode cX11_feed 71 = .ok (.iinc 4 (-1), 3) := by decide +kernel
theorem dX11_feed_74 : decode cX11_feed 74 = .ok (.goto (-39), 3) := by decide +kernel
theorem dX11_feed_77 : decode cX11_feed 77 = .ok (.aload_n 0, 1) := by decide +kernel
theorem dX11_feed_78 : decode cX11_feed 78 = .ok (.getfield 130, 3) := by decide +kernel
theorem dX11_feed_81 : decode cX11_feed 81 = .ok (.ireturn, 1) := by decide +kernel
theorem dX11_findFar_0 : decode cX11_findFar 0 = .ok (.iconst 0, 1) := by decide +kernel
theorem dX11_findFar_1 : decode cX11_findFar 1 = .ok (.istore_n 1, 1) := by decide +kernel
theorem dX11_findFar_2 : decode cX11_findFar 2 = .ok (.iload_n 1, 1) := by decide +kernel
theorem dX11_findFar_3 : decode cX11_findFar 3 = .ok (.aload_n 0, 1) := by decide +kernel
theorem dX11_findFar_4 : decode cX11_findFar 4 = .ok (.getfield 111, 3) := by decide +kernel
theorem dX11_findFar_7 : decode cX11_findFar 7 = .ok (.aload_n 0, 1) := by decide +kernel
theorem dX11_findFar_8 : decode cX11_findFar 8 = .ok (.getfield 118, 3) := by decide +kernel
theorem dX11_findFar_11 : decode cX11_findFar 11 = .ok (.imul, 1) := by decide +kernel
theorem dX11_findFar_12 : decode cX11_findFar 12 = .ok (.if_icmp .ge 14, 3) := by decide +kernel
theorem dX11_findFar_15 : decode cX11_findFar 15 = .ok (.aload_n 0, 1) := by decide +kernel
theorem dX11_findFar_16 : decode cX11_findFar 16 = .ok (.iload_n 1, 1) := by decide +kernel
theorem dX11_findFar_17 : decode cX11_findFar 17 = .ok (.invokevirtual 281, 3) := by decide +kernel
theorem dX11_findFar_20 : decode cX11_findFar 20 = .ok (.iinc 1 1, 3) := by decide +kernel
theorem dX11_findFar_23 : decode cX11_findFar 23 = .ok (.goto (-21), 3) := by decide +kernel
theorem dX11_findFar_26 : decode cX11_findFar 26 = .ok (.return_, 1) := by decide +kernel
theorem dX11_firstFree_0 : decode cX11_firstFree 0 = .ok (.iconst 0, 1) := by decide +kernel
theorem dX11_firstFree_1 : decode cX11_firstFree 1 = .ok (.istore_n 1, 1) := by decide +kernel
theorem dX11_firstFree_2 : decode cX11_firstFree 2 = .ok (.iload_n 1, 1) := by decide +kernel
theorem dX11_firstFree_3 : decode cX11_firstFree 3 = .ok (.aload_n 0, 1) := by decide +kernel
theorem dX11_firstFree_4 : decode cX11_firstFree 4 = .ok (.getfield 111, 3) := by decide +kernel
theorem dX11_firstFree_7 : decode cX11_firstFree 7 = .ok (.aload_n 0, 1) := by decide +kernel
theorem dX11_firstFree_8 : decode cX11_firstFree 8 = .ok (.getfield 118, 3) := by decide +kernel
theorem dX11_firstFree_11 : decode cX11_firstFree 11 = .ok (.imul, 1) := by decide +kernel
theorem dX11_firstFree_12 : decode cX11_firstFree 12 = .ok (.if_icmp .ge 20, 3) := by decide +kernel
theorem dX11_firstFree_15 : decode cX11_firstFree 15 = .ok (.aload_n 0, 1) := by decide +kernel
theorem dX11_firstFree_16 : decode cX11_firstFree 16 = .ok (.getfield 7, 3) := by decide +kernel
theorem dX11_firstFree_19 : decode cX11_firstFree 19 = .ok (.iload_n 1, 1) := by decide +kernel
theorem dX11_firstFree_20 : decode cX11_firstFree 20 = .ok (.iaload, 1) := by decide +kernel
theorem dX11_firstFree_21 : decode cX11_firstFree 21 = .ok (.ifCond .ne 5, 3) := by decide +kernel
theorem dX11_firstFree_24 : decode cX11_firstFree 24 = .ok (.iload_n 1, 1) := by decide +kernel
theorem dX11_firstFree_25 : decode cX11_firstFree 25 = .ok (.ireturn, 1) := by decide +kernel
theorem dX11_firstFree_26 : decode cX11_firstFree 26 = .ok (.iinc 1 1, 3) := by decide +kernel
theorem dX11_firstFree_29 : decode cX11_firstFree 29 = .ok (.goto (-27), 3) := by decide +kernel
theorem dX11_firstFree_32 : decode cX11_firstFree 32 = .ok (.iconst 0, 1) := by decide +kernel
theorem dX11_firstFree_33 : decode cX11_firstFree 33 = .ok (.ireturn, 1) := by decide +kernel
theorem dX11_follow_0 : decode cX11_follow 0 = .ok (.iconst 0, 1) := by decide +kernel
theorem dX11_follow_1 : decode cX11_follow 1 = .ok (.istore_n 2, 1) := by decide +kernel
theorem dX11_follow_2 : decode cX11_follow 2 = .ok (.iload_n 2, 1) := by decide +kernel
theorem dX11_follow_3 : decode cX11_follow 3 = .ok (.iload_n 1, 1) := by decide +kernel
theorem dX11_follow_4 : decode cX11_follow 4 = .ok (.if_icmp .ge 36, 3) := by decide +kernel
theorem dX11_follow_7 : decode cX11_follow 7 = .ok (.iload_n 2, 1) := by decide +kernel
theorem dX11_follow_8 : decode cX11_follow 8 = .ok (.aload_n 0, 1) := by decide +kernel
theorem dX11_follow_9 : decode cX11_follow 9 = .ok (.getfield 265, 3) := by decide +kernel
theorem dX11_follow_12 : decode cX11_follow 12 = .ok (.if_icmp .ge 28, 3) := by decide +kernel
theorem dX11_follow_15 : decode cX11_follow 15 = .ok (.aload_n 0, 1) := by decide +kernel
theorem dX11_follow_16 : decode cX11_follow 16 = .ok (.aload_n 0, 1) := by decide +kernel
theorem dX11_follow_17 : decode cX11_follow 17 = .ok (.getfield 89, 3) := by decide +kernel
theorem dX11_follow_20 : decode cX11_follow 20 = .ok (.iload_n 2, 1) := by decide +kernel
theorem dX11_follow_21 : decode cX11_follow 21 = .ok (.iaload, 1) := by decide +kernel
theorem dX11_follow_22 : decode cX11_follow 22 = .ok (.aload_n 0, 1) := by decide +kernel
theorem dX11_follow_23 : decode cX11_follow 23 = .ok (.getfield 92, 3) := by decide +kernel
theorem dX11_follow_26 : decode cX11_follow 26 = .ok (.iload_n 2, 1) := by decide +kernel
theorem dX11_follow_27 : decode cX11_follow 27 = .ok (.iaload, 1) := by decide +kernel
theorem dX11_follow_28 : decode cX11_follow 28 = .ok (.invokevirtual 327, 3) := by decide +kernel
theorem dX11_follow_31 : decode cX11_follow 31 = .ok (.ifCond .eq 9, 3) := by decide +kernel
theorem dX11_follow_34 : decode cX11_follow 34 = .ok (.iinc 2 1, 3) := by decide +kernel
theorem dX11_follow_37 : decode cX11_follow 37 = .ok (.goto (-35), 3) := by decide +kernel
theorem dX11_follow_40 : decode cX11_follow 40 = .ok (.iload_n 2, 1) := by decide +kernel
theorem dX11_follow_41 : decode cX11_follow 41 = .ok (.ireturn, 1) := by decide +kernel
theorem dX11_goBack_0 : decode cX11_goBack 0 = .ok (.iload_n 1, 1) := by decide +kernel
theorem dX11_goBack_1 : decode cX11_goBack 1 = .ok (.i2l, 1) := by decide +kernel
theorem dX11_goBack_2 : decode cX11_goBack 2 = .ok (.lconst 0, 1) := by decide +kernel
theorem dX11_goBack_3 : decode cX11_goBack 3 = .ok (.lconst 1, 1) := by decide +kernel
theorem dX11_goBack_4 : decode cX11_goBack 4 = .ok (.invokestatic 114, 3) := by decide +kernel
theorem dX11_goBack_7 : decode cX11_goBack 7 = .ok (.ifCond .ne 7, 3) := by decide +kernel
theorem dX11_goBack_10 : decode cX11_goBack 10 = .ok (.ldc_w 285, 3) := by decide +kernel
theorem dX11_goBack_13 : decode cX11_goBack 13 = .ok (.ireturn, 1) := by decide +kernel
theorem dX11_goBack_14 : decode cX11_goBack 14 = .ok (.aload_n 0, 1) := by decide +kernel
theorem dX11_goBack_15 : decode cX11_goBack 15 = .ok (.getfield 107, 3) := by decide +kernel
theorem dX11_goBack_18 : decode cX11_goBack 18 = .ok (.iload_n 1, 1) := by decide +kernel
theorem dX11_goBack_19 : decode cX11_goBack 19 = .ok (.baload, 1) := by decide +kernel
theorem dX11_goBack_20 : decode cX11_goBack 20 = .ok (.ifCond .ne 7, 3) := by decide +kernel
theorem dX11_goBack_23 : decode cX11_goBack 23 = .ok (.ldc_w 330, 3) := by decide +kernel
theorem dX11_goBack_26 : decode cX11_goBack 26 = .ok (.ireturn, 1) := by decide +kernel
theorem dX11_goBack_27 : decode cX11_goBack 27 = .ok (.bipush 70, 2) := by decide +kernel
theorem dX11_goBack_29 : decode cX11_goBack 29 = .ok (.iload_n 1, 1) := by decide +kernel
theorem dX11_goBack_30 : decode cX11_goBack 30 = .ok (.imul, 1) := by decide +kernel
theorem dX11_goBack_31 : decode cX11_goBack 31 = .ok (.istore_n 2, 1) := by decide +kernel
theorem dX11_goBack_32 : decode cX11_goBack 32 = .ok (.iconst 0, 1) := by decide +kernel
theorem dX11_goBack_33 : decode cX11_goBack 33 = .ok (.istore_n 3, 1) := by decide +kernel
theorem dX11_goBack_34 : decode cX11_goBack 34 = .ok (.iload_n 3, 1) := by decide +kernel
theorem dX11_goBack_35 : decode cX11_goBack 35 = .ok (.bipush 42, 2) := by decide +kernel
theorem dX11_goBack_37 : decode cX11_goBack 37 = .ok (.if_icmp .ge 23, 3) := by decide +kernel
theorem dX11_goBack_40 : decode cX11_goBack 40 = .ok (.aload_n 0, 1) := by decide +kernel
theorem dX11_goBack_41 : decode cX11_goBack 41 = .ok (.getfield 7, 3) := by decide +kernel
theorem dX11_goBack_44 : decode cX11_goBack 44 = .ok (.iload_n 3, 1) := by decide +kernel
theorem dX11_goBack_45 : decode cX11_goBack 45 = .ok (.aload_n 0, 1) := by decide +kernel
theorem dX11_goBack_46 : decode cX11_goBack 46 = .ok (.getfield 104, 3) := by decide +kernel
theorem dX11_goBack_49 : decode cX11_goBack 49 = .ok (.iload_n 2, 1) := by decide +kernel
theorem dX11_goBack_50 : decode cX11_goBack 50 = .ok (.iload_n 3, 1) := by decide +kernel
theorem dX11_goBack_51 : decode cX11_goBack 51 = .ok (.iadd, 1) := by decide +kernel
theorem dX11_goBack_52 : decode cX11_goBack 52 = .ok (.iaload, 1) := by decide +kernel
theorem dX11_goBack_53 : decode cX11_goBack 53 = .ok (.iastore, 1) := by decide +kernel
theorem dX11_goBack_54 : decode cX11_goBack 54 = .ok (.iinc 3 1, 3) := by decide +kernel
theorem dX11_goBack_57 : decode cX11_goBack 57 = .ok (.goto (-23), 3) := by decide +kernel
theorem dX11_goBack_60 : decode cX11_goBack 60 = .ok (.iconst 0, 1) := by decide +kernel
theorem dX11_goBack_61 : decode cX11_goBack 61 = .ok (.istore_n 3, 1) := by decide +kernel
theorem dX11_goBack_62 : decode cX11_goBack 62 = .ok (.iload_n 3, 1) := by decide +kernel
theorem dX11_goBack_63 : decode cX11_goBack 63 = .ok (.bipush 6, 2) := by decide +kernel
theorem dX11_goBack_65 : decode cX11_goBack 65 = .ok (.if_icmp .ge 60, 3) := by decide +kernel
theorem dX11_goBack_68 : decode cX11_goBack 68 = .ok (.aload_n 0, 1) := by decide +kernel
theorem dX11_goBack_69 : decode cX11_goBack 69 = .ok (.getfield 38, 3) := by decide +kernel
theorem dX11_goBack_72 : decode cX11_goBack 72 = .ok (.iload_n 3, 1) := by decide +kernel
theorem dX11_goBack_73 : decode cX11_goBack 73 = .ok (.aload_n 0, 1) := by decide +kernel
theorem dX11_goBack_74 : decode cX11_goBack 74 = .ok (.getfield 104, 3) := by decide +kernel
theorem dX11_goBack_77 : decode cX11_goBack 77 = .ok (.iload_n 2, 1) := by decide +kernel
theorem dX11_goBack_78 : decode cX11_goBack 78 = .ok (.bipush 42, 2) := by decide +kernel
theorem dX11_goBack_80 : decode cX11_goBack 80 = .ok (.iadd, 1) := by decide +kernel
theorem dX11_goBack_81 : decode cX11_goBack 81 = .ok (.iload_n 3, 1) := by decide +kernel
theorem dX11_goBack_82 : decode cX11_goBack 82 = .ok (.iadd, 1) := by decide +kernel
theorem dX11_goBack_83 : decode cX11_goBack 83 = .ok (.iaload, 1) := by decide +kernel
theorem dX11_goBack_84 : decode cX11_goBack 84 = .ok (.iastore, 1) := by decide +kernel
theorem dX11_goBack_85 : decode cX11_goBack 85 = .ok (.aload_n 0, 1) := by decide +kernel
theorem dX11_goBack_86 : decode cX11_goBack 86 = .ok (.getfield 41, 3) := by decide +kernel
theorem dX11_goBack_89 : decode cX11_goBack 89 = .ok (.iload_n 3, 1) := by decide +kernel
theorem dX11_goBack_90 : decode cX11_goBack 90 = .ok (.aload_n 0, 1) := by decide +kernel
theorem dX11_goBack_91 : decode cX11_goBack 91 = .ok (.getfield 104, 3) := by decide +kernel
theorem dX11_goBack_94 : decode cX11_goBack 94 = .ok (.iload_n 2, 1) := by decide +kernel
theorem dX11_goBack_95 : decode cX11_goBack 95 = .ok (.bipush 48, 2) := by decide +kernel
theorem dX11_goBack_97 : decode cX11_goBack 97 = .ok (.iadd, 1) := by decide +kernel
theorem dX11_goBack_98 : decode cX11_goBack 98 = .ok (.iload_n 3, 1) := by decide +kernel
theorem dX11_goBack_99 : decode cX11_goBack 99 = .ok (.iadd, 1) := by decide +kernel
theorem dX11_goBack_100 : decode cX11_goBack 100 = .ok (.iaload, 1) := by decide +kernel
theorem dX11_goBack_101 : decode cX11_goBack 101 = .ok (.iastore, 1) := by decide +kernel
theorem dX11_goBack_102 : decode cX11_goBack 102 = .ok (.aload_n 0, 1) := by decide +kernel
theorem dX11_goBack_103 : decode cX11_goBack 103 = .ok (.getfield 44, 3) := by decide +kernel
theorem dX11_goBack_106 : decode cX11_goBack 106 = .ok (.iload_n 3, 1) := by decide +kernel
theorem dX11_goBack_107 : decode cX11_goBack 107 = .ok (.aload_n 0, 1) := by decide +kernel
theorem dX11_goBack_108 : decode cX11_goBack 108 = .ok (.getfield 104, 3) := by decide +kernel
theorem dX11_goBack_111 : decode cX11_goBack 111 = .ok (.iload_n 2, 1) := by decide +kernel
theorem dX11_goBack_112 : decode cX11_goBack 112 = .ok (.bipush 54, 2) := by decide +kernel
theorem dX11_goBack_114 : decode cX11_goBack 114 = .ok (.iadd, 1) := by decide +kernel
theorem dX11_goBack_115 : decode cX11_goBack 115 = .ok (.iload_n 3, 1) := by decide +kernel
theorem dX11_goBack_116 : decode cX11_goBack 116 = .ok (.iadd, 1) := by decide +kernel
theorem dX11_goBack_117 : decode cX11_goBack 117 = .ok (.iaload, 1) := by decide +kernel
theorem dX11_goBack_118 : decode cX11_goBack 118 = .ok (.iastore, 1) := by decide +kernel
theorem dX11_goBack_119 : decode cX11_goBack 119 = .ok (.iinc 3 1, 3) := by decide +kernel
theorem dX11_goBack_122 : decode cX11_goBack 122 = .ok (.goto (-60), 3) := by decide +kernel
theorem dX11_goBack_125 : decode cX11_goBack 125 = .ok (.aload_n 0, 1) := by decide +kernel
theorem dX11_goBack_126 : decode cX11_goBack 126 = .ok (.aload_n 0, 1) := by decide +kernel
theorem dX11_goBack_127 : decode cX11_goBack 127 = .ok (.getfield 104, 3) := by decide +kernel
theorem dX11_goBack_130 : decode cX11_goBack 130 = .ok (.iload_n 2, 1) := by decide +kernel
theorem dX11_goBack_131 : decode cX11_goBack 131 = .ok (.bipush 60, 2) := by decide +kernel
theorem dX11_goBack_133 : decode cX11_goBack 133 = .ok (.iadd, 1) := by decide +kernel
theorem dX11_goBack_134 : decode cX11_goBack 134 = .ok (.iaload, 1) := by decide +kernel
theorem dX11_goBack_135 : decode cX11_goBack 135 = .ok (.putfield 259, 3) := by decide +kernel
theorem dX11_goBack_138 : decode cX11_goBack 138 = .ok (.aload_n 0, 1) := by decide +kernel
theorem dX11_goBack_139 : decode cX11_goBack 139 = .ok (.aload_n 0, 1) := by decide +kernel
theorem dX11_goBack_140 : decode cX11_goBack 140 = .ok (.getfield 104, 3) := by decide +kernel
theorem dX11_goBack_143 : decode cX11_goBack 143 = .ok (.iload_n 2, 1) := by decide +kernel
theorem dX11_goBack_144 : decode cX11_goBack 144 = .ok (.bipush 61, 2) := by decide +kernel
theorem dX11_goBack_146 : decode cX11_goBack 146 = .ok (.iadd, 1) := by decide +kernel
theorem dX11_goBack_147 : decode cX11_goBack 147 = .ok (.iaload, 1) := by decide +kernel
theorem dX11_goBack_148 : decode cX11_goBack 148 = .ok (.putfield 262, 3) := by decide +kernel
theorem dX11_goBack_151 : decode cX11_goBack 151 = .ok (.aload_n 0, 1) := by decide +kernel
theorem dX11_goBack_152 : decode cX11_goBack 152 = .ok (.aload_n 0, 1) := by decide +kernel
theorem dX11_goBack_153 : decode cX11_goBack 153 = .ok (.getfield 104, 3) := by decide +kernel
theorem dX11_goBack_156 : decode cX11_goBack 156 = .ok (.iload_n 2, 1) := by decide +kernel
theorem dX11_goBack_157 : decode cX11_goBack 157 = .ok (.bipush 62, 2) := by decide +kernel
theorem dX11_goBack_159 : decode cX11_goBack 159 = .ok (.iadd, 1) := by decide +kernel
theorem dX11_goBack_160 : decode cX11_goBack 160 = .ok (.iaload, 1) := by decide +kernel
theorem dX11_goBack_161 : decode cX11_goBack 161 = .ok (.putfield 334, 3) := by decide +kernel
theorem dX11_goBack_164 : decode cX11_goBack 164 = .ok (.aload_n 0, 1) := by decide +kernel
theorem dX11_goBack_165 : decode cX11_goBack 165 = .ok (.invokevirtual 271, 3) := by decide +kernel
theorem dX11_goBack_168 : decode cX11_goBack 168 = .ok (.iconst 1, 1) := by decide +kernel
theorem dX11_goBack_169 : decode cX11_goBack 169 = .ok (.ireturn, 1) := by decide +kernel
theorem dX11_headsBy_0 : decode cX11_headsBy 0 = .ok (.iconst 0, 1) := by decide +kernel
theorem dX11_headsBy_1 : decode cX11_headsBy 1 = .ok (.istore_n 3, 1) := by decide +kernel
theorem dX11_headsBy_2 : decode cX11_headsBy 2 = .ok (.iconst 0, 1) := by decide +kernel
theorem dX11_headsBy_3 : decode cX11_headsBy 3 = .ok (.istore 4, 2) := by decide +kernel
theorem dX11_headsBy_5 : decode cX11_headsBy 5 = .ok (.iload 4, 2) := by decide +kernel
theorem dX11_headsBy_7 : decode cX11_headsBy 7 = .ok (.aload_n 0, 1) := by decide +kernel
theorem dX11_headsBy_8 : decode cX11_headsBy 8 = .ok (.getfield 121, 3) := by decide +kernel
theorem dX11_headsBy_11 : decode cX11_headsBy 11 = .ok (.if_icmp .ge 49, 3) := by decide +kernel
theorem dX11_headsBy_14 : decode cX11_headsBy 14 = .ok (.iload_n 3, 1) := by decide +kernel
theorem dX11_headsBy_15 : decode cX11_headsBy 15 = .ok (.iload_n 1, 1) := by decide +kernel
theorem dX11_headsBy_16 : decode cX11_headsBy 16 = .ok (.iconst (-1), 1) := by decide +kernel
theorem dX11_headsBy_17 : decode cX11_headsBy 17 = .ok (.if_icmp .eq 14, 3) := by decide +kernel
theorem dX11_headsBy_20 : decode cX11_headsBy 20 = .ok (.aload_n 0, 1) := by decide +kernel
theorem dX11_headsBy_21 : decode cX11_headsBy 21 = .ok (.getfield 13, 3) := by decide +kernel
theorem dX11_headsBy_24 : decode cX11_headsBy 24 = .ok (.iload 4, 2) := by decide +kernel
theorem dX11_headsBy_26 : decode cX11_headsBy 26 = .ok (.iaload, 1) := by decide +kernel
theorem dX11_headsBy_27 : decode cX11_headsBy 27 = .ok (.iload_n 1, 1) := by decide +kernel
theorem dX11_headsBy_28 : decode cX11_headsBy 28 = .ok (.if_icmp .ne 23, 3) := by decide +kernel
theorem dX11_headsBy_31 : decode cX11_headsBy 31 = .ok (.aload_n 0, 1) := by decide +kernel
theorem dX11_headsBy_32 : decode cX11_headsBy 32 = .ok (.getfield 44, 3) := by decide +kernel
theorem dX11_headsBy_35 : decode cX11_headsBy 35 = .ok (.iload 4, 2) := by decide +kernel
theorem dX11_headsBy_37 : decode cX11_headsBy 37 = .ok (.iaload, 1) := by decide +kernel
theorem dX11_headsBy_38 : decode cX11_headsBy 38 = .ok (.iload_n 2, 1) := by decide +kernel
theorem dX11_headsBy_39 : decode cX11_headsBy 39 = .ok (.if_icmp .ne 12, 3) := by decide +kernel
theorem dX11_headsBy_42 : decode cX11_headsBy 42 = .ok (.aload_n 0, 1) := by decide +kernel
theorem dX11_headsBy_43 : decode cX11_headsBy 43 = .ok (.iload 4, 2) := by decide +kernel
theorem dX11_headsBy_45 : decode cX11_headsBy 45 = .ok (.invokevirtual 286, 3) := by decide +kernel
theorem dX11_headsBy_48 : decode cX11_headsBy 48 = .ok (.goto 4, 3) := by decide +kernel
theorem dX11_headsBy_51 : decode cX11_headsBy 51 = .ok (.iconst 0, 1) := by decide +kernel
theorem dX11_headsBy_52 : decode cX11_headsBy 52 = .ok (.iadd, 1) := by decide +kernel
theorem dX11_headsBy_53 : decode cX11_headsBy 53 = .ok (.istore_n 3, 1) := by decide +kernel
theorem dX11_headsBy_54 : decode cX11_headsBy 54 = .ok (.iinc 4 1, 3) := by decide +kernel
theorem dX11_headsBy_57 : decode cX11_headsBy 57 = .ok (.goto (-52), 3) := by decide +kernel
theorem dX11_headsBy_60 : decode cX11_headsBy 60 = .ok (.iload_n 3, 1) := by decide +kernel
theorem dX11_headsBy_61 : decode cX11_headsBy 61 = .ok (.ireturn, 1) := by decide +kernel
theorem dX11_here_0 : decode cX11_here 0 = .ok (.aload_n 0, 1) := by decide +kernel
theorem dX11_here_1 : decode cX11_here 1 = .ok (.getfield 136, 3) := by decide +kernel
theorem dX11_here_4 : decode cX11_here 4 = .ok (.aload_n 0, 1) := by decide +kernel
theorem dX11_here_5 : decode cX11_here 5 = .ok (.getfield 130, 3) := by decide +kernel
theorem dX11_here_8 : decode cX11_here 8 = .ok (.if_icmp .ge 30, 3) := by decide +kernel
theorem dX11_here_11 : decode cX11_here 11 = .ok (.aload_n 0, 1) := by decide +kernel
theorem dX11_here_12 : decode cX11_here 12 = .ok (.getfield 47, 3) := by decide +kernel
theorem dX11_here_15 : decode cX11_here 15 = .ok (.aload_n 0, 1) := by decide +kernel
theorem dX11_here_16 : decode cX11_here 16 = .ok (.getfield 136, 3) := by decide +kernel
theorem dX11_here_19 : decode cX11_here 19 = .ok (.iaload, 1) := by decide +kernel
theorem dX11_here_20 : decode cX11_here 20 = .ok (.bipush 32, 2) := by decide +kernel
theorem dX11_here_22 : decode cX11_here 22 = .ok (.if_icmp .ne 16, 3) := by decide +kernel
theorem dX11_here_25 : decode cX11_here 25 = .ok (.aload_n 0, 1) := by decide +kernel
theorem dX11_here_26 : decode cX11_here 26 = .ok (.dup, 1) := by decide +kernel
theorem dX11_here_27 : decode cX11_here 27 = .ok (.getfield 136, 3) := by decide +kernel
theorem dX11_here_30 : decode cX11_here 30 = .ok (.iconst 1, 1) := by decide +kernel
theorem dX11_here_31 : decode cX11_here 31 = .ok (.iadd, 1) := by decide +kernel
theorem dX11_here_32 : decode cX11_here 32 = .ok (.putfield 136, 3) := by decide +kernel
theorem dX11_here_35 : decode cX11_here 35 = .ok (.goto (-35), 3) := by decide +kernel
theorem dX11_here_38 : decode cX11_here 38 = .ok (.aload_n 0, 1) := by decide +kernel
theorem dX11_here_39 : decode cX11_here 39 = .ok (.getfield 136, 3) := by decide +kernel
theorem dX11_here_42 : decode cX11_here 42 = .ok (.aload_n 0, 1) := by decide +kernel
theorem dX11_here_43 : decode cX11_here 43 = .ok (.getfield 130, 3) := by decide +kernel
theorem dX11_here_46 : decode cX11_here 46 = .ok (.if_icmp .ge 15, 3) := by decide +kernel
theorem dX11_here_49 : decode cX11_here 49 = .ok (.aload_n 0, 1) := by decide +kernel
theorem dX11_here_50 : decode cX11_here 50 = .ok (.getfield 47, 3) := by decide +kernel
theorem dX11_here_53 : decode cX11_here 53 = .ok (.aload_n 0, 1) := by decide +kernel
theorem dX11_here_54 : decode cX11_here 54 = .ok (.getfield 136, 3) := by decide +kernel
theorem dX11_here_57 : decode cX11_here 57 = .ok (.iaload, 1) := by decide +kernel
theorem dX11_here_58 : decode cX11_here 58 = .ok (.goto 4, 3) := by decide +kernel
theorem dX11_here_61 : decode cX11_here 61 = .ok (.iconst (-1), 1) := by decide +kernel
theorem dX11_here_62 : decode cX11_here 62 = .ok (.ireturn, 1) := by decide +kernel
theorem dX11_in_0 : decode cX11_in 0 = .ok (.lload_n 0, 1) := by decide +kernel
theorem dX11_in_1 : decode cX11_in 1 = .ok (.lload_n 2, 1) := by decide +kernel
theorem dX11_in_2 : decode cX11_in 2 = .ok (.lcmp, 1) := by decide +kernel
theorem dX11_in_3 : decode cX11_in 3 = .ok (.ifCond .lt 14, 3) := by decide +kernel
theorem dX11_in_6 : decode cX11_in 6 = .ok (.lload_n 0, 1) := by decide +kernel
theorem dX11_in_7 : decode cX11_in 7 = .ok (.lload 4, 2) := by decide +kernel
theorem dX11_in_9 : decode cX11_in 9 = .ok (.lcmp, 1) := by decide +kernel
theorem dX11_in_10 : decode cX11_in 10 = .ok (.ifCond .gt 7, 3) := by decide +kernel
theorem dX11_in_13 : decode cX11_in 13 = .ok (.iconst 1, 1) := by decide +kernel
theorem dX11_in_14 : decode cX11_in 14 = .ok (.goto 4, 3) := by decide +kernel
theorem dX11_in_17 : decode cX11_in 17 = .ok (.iconst 0, 1) := by decide +kernel
theorem dX11_in_18 : decode cX11_in 18 = .ok (.ireturn, 1) := by decide +kernel
theorem dX11_init_0 : decode cX11_init 0 = .ok (.aload_n 0, 1) := by decide +kernel
theorem dX11_init_1 : decode cX11_init 1 = .ok (.invokespecial 1, 3) := by decide +kernel
theorem dX11_init_4 : decode cX11_init 4 = .ok (.aload_n 0, 1) := by decide +kernel
theorem dX11_init_5 : decode cX11_init 5 = .ok (.bipush 42, 2) := by decide +kernel
theorem dX11_init_7 : decode cX11_init 7 = .ok (.newarray .int, 2) := by decide +kernel
theorem dX11_init_9 : decode cX11_init 9 = .ok (.putfield 7, 3) := by decide +kernel
theorem dX11_init_12 : decode cX11_init 12 = .ok (.aload_n 0, 1) := by decide +kernel
theorem dX11_init_13 : decode cX11_init 13 = .ok (.bipush 6, 2) := by decide +kernel
theorem dX11_init_15 : decode cX11_init 15 = .ok (.newarray .int, 2) := by decide +kernel
theorem dX11_init_17 : decode cX11_init 17 = .ok (.putfield 13, 3) := by decide +kernel
theorem dX11_init_20 : decode cX11_init 20 = .ok (.aload_n 0, 1) := by decide +kernel
theorem dX11_init_21 : decode cX11_init 21 = .ok (.bipush 6, 2) := by decide +kernel
theorem dX11_init_23 : decode cX11_init 23 = .ok (.newarray .int, 2) := by decide +kernel
theorem dX11_init_25 : decode cX11_init 25 = .ok (.putfield 16, 3) := by decide +kernel
theorem dX11_init_28 : decode cX11_init 28 = .ok (.aload_n 0, 1) := by decide +kernel
theorem dX11_init_29 : decode cX11_init 29 = .ok (.bipush 6, 2) := by decide +kernel
theorem dX11_init_31 : decode cX11_init 31 = .ok (.newarray .int, 2) := by decide +kernel
theorem dX11_init_33 : decode cX11_init 33 = .ok (.putfield 19, 3) := by decide +kernel
theorem dX11_init_36 : decode cX11_init 36 = .ok (.aload_n 0, 1) := by decide +kernel
theorem dX11_init_37 : decode cX11_init 37 = .ok (.bipush 6, 2) := by decide +kernel
theorem dX11_init_39 : decode cX11_init 39 = .ok (.newarray .int, 2) := by decide +kernel
theorem dX11_init_41 : decode cX11_init 41 = .ok (.putfield 22, 3) := by decide +kernel
theorem dX11_init_44 : decode cX11_init 44 = .ok (.aload_n 0, 1) := by decide +kernel
theorem dX11_init_45 : decode cX11_init 45 = .ok (.iconst 3, 1) := by decide +kernel
theorem dX11_init_46 : decode cX11_init 46 = .ok (.newarray .int, 2) := by decide +kernel
theorem dX11_init_48 : decode cX11_init 48 = .ok (.putfield 25, 3) := by decide +kernel
theorem dX11_init_51 : decode cX11_init 51 = .ok (.aload_n 0, 1) := by decide +kernel
theorem dX11_init_52 : decode cX11_init 52 = .ok (.iconst 3, 1) := by decide +kernel
theorem dX11_init_53 : decode cX11_init 53 = .ok (.newarray .int, 2) := by decide +kernel
theorem dX11_init_55 : decode cX11_init 55 = .ok (.putfield 28, 3) := by decide +kernel
theorem dX11_init_58 : decode cX11_init 58 = .ok (.aload_n 0, 1) := by decide +kernel
theorem dX11_init_59 : decode cX11_init 59 = .ok (.iconst 1, 1) := by decide +kernel
theorem dX11_init_60 : decode cX11_init 60 = .ok (.putfield 31, 3) := by decide +kernel
theorem dX11_init_63 : decode cX11_init 63 = .ok (.aload_n 0, 1) := by decide +kernel
theorem dX11_init_64 : decode cX11_init 64 = .ok (.iconst 1, 1) := by decide +kernel
theorem dX11_init_65 : decode cX11_init 65 = .ok (.putfield 35, 3) := by decide +kernel
theorem dX11_init_68 : decode cX11_init 68 = .ok (.aload_n 0, 1) := by decide +kernel
theorem dX11_init_69 : decode cX11_init 69 = .ok (.bipush 6, 2) := by decide +kernel
theorem dX11_init_71 : decode cX11_init 71 = .ok (.newarray .int, 2) := by decide +kernel
theorem dX11_init_73 : decode cX11_init 73 = .ok (.putfield 38, 3) := by decide +kernel
theorem dX11_init_76 : decode cX11_init 76 = .ok (.aload_n 0, 1) := by decide +kernel
theorem dX11_init_77 : decode cX11_init 77 = .ok (.bipush 6, 2) := by decide +kernel
theorem dX11_init_79 : decode cX11_init 79 = .ok (.newarray .int, 2) := by decide +kernel
theorem dX11_init_81 : decode cX11_init 81 = .ok (.putfield 41, 3) := by decide +kernel
theorem dX11_init_84 : decode cX11_init 84 = .ok (.aload_n 0, 1) := by decide +kernel
theorem dX11_init_85 : decode cX11_init 85 = .ok (.bipush 6, 2) := by decide +kernel
theorem dX11_init_87 : decode cX11_init 87 = .ok (.newarray .int, 2) := by decide +kernel
theorem dX11_init_89 : decode cX11_init 89 = .ok (.putfield 44, 3) := by decide +kernel
theorem dX11_init_92 : decode cX11_init 92 = .ok (.aload_n 0, 1) := by decide +kernel
theorem dX11_init_93 : decode cX11_init 93 = .ok (.sipush 500, 3) := by decide +kernel
theorem dX11_init_96 : decode cX11_init 96 = .ok (.newarray .int, 2) := by decide +kernel
theorem dX11_init_98 : decode cX11_init 98 = .ok (.putfield 47, 3) := by decide +kernel
theorem dX11_init_101 : decode cX11_init 101 = .ok (.aload_n 0, 1) := by decide +kernel
theorem dX11_init_102 : decode cX11_init 102 = .ok (.iconst (-1), 1) := by decide +kernel
theorem dX11_init_103 : decode cX11_init 103 = .ok (.putfield 50, 3) := by decide +kernel
theorem dX11_init_106 : decode cX11_init 106 = .ok (.aload_n 0, 1) := by decide +kernel
theorem dX11_init_107 : decode cX11_init 107 = .ok (.bipush 42, 2) := by decide +kernel
theorem dX11_init_109 : decode cX11_init 109 = .ok (.newarray .int, 2) := by decide +kernel
theorem dX11_init_111 : decode cX11_init 111 = .ok (.putfield 53, 3) := by decide +kernel
theorem dX11_init_114 : decode cX11_init 114 = .ok (.aload_n 0, 1) := by decide +kernel
theorem dX11_init_115 : decode cX11_init 115 = .ok (.bipush 6, 2) := by decide +kernel
theorem dX11_init_117 : decode cX11_init 117 = .ok (.newarray .int, 2) := by decide +kernel
theorem dX11_init_119 : decode cX11_init 119 = .ok (.putfield 56, 3) := by decide +kernel
theorem dX11_init_122 : decode cX11_init 122 = .ok (.aload_n 0, 1) := by decide +kernel
theorem dX11_init_123 : decode cX11_init 123 = .ok (.bipush 6, 2) := by decide +kernel
theorem dX11_init_125 : decode cX11_init 125 = .ok (.newarray .int, 2) := by decide +kernel
theorem dX11_init_127 : decode cX11_init 127 = .ok (.putfield 59, 3) := by decide +kernel
theorem dX11_init_130 : decode cX11_init 130 = .ok (.aload_n 0, 1) := by decide +kernel
theorem dX11_init_131 : decode cX11_init 131 = .ok (.bipush 6, 2) := by decide +kernel
theorem dX11_init_133 : decode cX11_init 133 = .ok (.newarray .int, 2) := by decide +kernel
theorem dX11_init_135 : decode cX11_init 135 = .ok (.putfield 62, 3) := by decide +kernel
theorem dX11_init_138 : decode cX11_init 138 = .ok (.aload_n 0, 1) := by decide +kernel
theorem dX11_init_139 : decode cX11_init 139 = .ok (.bipush 6, 2) := by decide +kernel
theorem dX11_init_141 : decode cX11_init 141 = .ok (.newarray .int, 2) := by decide +kernel
theorem dX11_init_143 : decode cX11_init 143 = .ok (.putfield 65, 3) := by decide +kernel
theorem dX11_init_146 : decode cX11_init 146 = .ok (.aload_n 0, 1) := by decide +kernel
theorem dX11_init_147 : decode cX11_init 147 = .ok (.bipush 6, 2) := by decide +kernel
theorem dX11_init_149 : decode cX11_init 149 = .ok (.newarray .int, 2) := by decide +kernel
theorem dX11_init_151 : decode cX11_init 151 = .ok (.putfield 68, 3) := by decide +kernel
theorem dX11_init_154 : decode cX11_init 154 = .ok (.aload_n 0, 1) := by decide +kernel
theorem dX11_init_155 : decode cX11_init 155 = .ok (.iconst 3, 1) := by decide +kernel
theorem dX11_init_156 : decode cX11_init 156 = .ok (.newarray .int, 2) := by decide +kernel
theorem dX11_init_158 : decode cX11_init 158 = .ok (.putfield 71, 3) := by decide +kernel
theorem dX11_init_161 : decode cX11_init 161 = .ok (.aload_n 0, 1) := by decide +kernel
theorem dX11_init_162 : decode cX11_init 162 = .ok (.iconst 3, 1) := by decide +kernel
theorem dX11_init_163 : decode cX11_init 163 = .ok (.newarray .int, 2) := by decide +kernel
theorem dX11_init_165 : decode cX11_init 165 = .ok (.putfield 74, 3) := by decide +kernel
theorem dX11_init_168 : decode cX11_init 168 = .ok (.aload_n 0, 1) := by decide +kernel
theorem dX11_init_169 : decode cX11_init 169 = .ok (.sipush 1764, 3) := by decide +kernel
theorem dX11_init_172 : decode cX11_init 172 = .ok (.newarray .int, 2) := by decide +kernel
theorem dX11_init_174 : decode cX11_init 174 = .ok (.putfield 77, 3) := by decide +kernel
theorem dX11_init_177 : decode cX11_init 177 = .ok (.aload_n 0, 1) := by decide +kernel
theorem dX11_init_178 : decode cX11_init 178 = .ok (.bipush 6, 2) := by decide +kernel
theorem dX11_init_180 : decode cX11_init 180 = .ok (.newarray .int, 2) := by decide +kernel
theorem dX11_init_182 : decode cX11_init 182 = .ok (.putfield 80, 3) := by decide +kernel
theorem dX11_init_185 : decode cX11_init 185 = .ok (.aload_n 0, 1) := by decide +kernel
theorem dX11_init_186 : decode cX11_init 186 = .ok (.bipush 6, 2) := by decide +kernel
theorem dX11_init_188 : decode cX11_init 188 = .ok (.newarray .int, 2) := by decide +kernel
theorem dX11_init_190 : decode cX11_init 190 = .ok (.putfield 83, 3) := by decide +kernel
theorem dX11_init_193 : decode cX11_init 193 = .ok (.aload_n 0, 1) := by decide +kernel
theorem dX11_init_194 : decode cX11_init 194 = .ok (.bipush 6, 2) := by decide +kernel
theorem dX11_init_196 : decode cX11_init 196 = .ok (.newarray .int, 2) := by decide +kernel
theorem dX11_init_198 : decode cX11_init 198 = .ok (.putfield 86, 3) := by decide +kernel
theorem dX11_init_201 : decode cX11_init 201 = .ok (.aload_n 0, 1) := by decide +kernel
theorem dX11_init_202 : decode cX11_init 202 = .ok (.bipush 30, 2) := by decide +kernel
theorem dX11_init_204 : decode cX11_init 204 = .ok (.newarray .int, 2) := by decide +kernel
theorem dX11_init_206 : decode cX11_init 206 = .ok (.putfield 89, 3) := by decide +kernel
theorem dX11_init_209 : decode cX11_init 209 = .ok (.aload_n 0, 1) := by decide +kernel
theorem dX11_init_210 : decode cX11_init 210 = .ok (.bipush 30, 2) := by decide +kernel
theorem dX11_init_212 : decode cX11_init 212 = .ok (.newarray .int, 2) := by decide +kernel
theorem dX11_init_214 : decode cX11_init 214 = .ok (.putfield 92, 3) := by decide +kernel
theorem dX11_init_217 : decode cX11_init 217 = .ok (.aload_n 0, 1) := by decide +kernel
theorem dX11_init_218 : decode cX11_init 218 = .ok (.bipush 10, 2) := by decide +kernel
theorem dX11_init_220 : decode cX11_init 220 = .ok (.newarray .int, 2) := by decide +kernel
theorem dX11_init_222 : decode cX11_init 222 = .ok (.putfield 95, 3) := by decide +kernel
theorem dX11_init_225 : decode cX11_init 225 = .ok (.aload_n 0, 1) := by decide +kernel
theorem dX11_init_226 : decode cX11_init 226 = .ok (.bipush 10, 2) := by decide +kernel
theorem dX11_init_228 : decode cX11_init 228 = .ok (.newarray .int, 2) := by decide +kernel
theorem dX11_init_230 : decode cX11_init 230 = .ok (.putfield 98, 3) := by decide +kernel
theorem dX11_init_233 : decode cX11_init 233 = .ok (.aload_n 0, 1) := by decide +kernel
theorem dX11_init_234 : decode cX11_init 234 = .ok (.bipush 10, 2) := by decide +kernel
theorem dX11_init_236 : decode cX11_init 236 = .ok (.newarray .int, 2) := by decide +kernel
theorem dX11_init_238 : decode cX11_init 238 = .ok (.putfield 101, 3) := by decide +kernel
theorem dX11_init_241 : decode cX11_init 241 = .ok (.aload_n 0, 1) := by decide +kernel
theorem dX11_init_242 : decode cX11_init 242 = .ok (.sipush 140, 3) := by decide +kernel
theorem dX11_init_245 : decode cX11_init 245 = .ok (.newarray .int, 2) := by decide +kernel
theorem dX11_init_247 : decode cX11_init 247 = .ok (.putfield 104, 3) := by decide +kernel
theorem dX11_init_250 : decode cX11_init 250 = .ok (.aload_n 0, 1) := by decide +kernel
theorem dX11_init_251 : decode cX11_init 251 = .ok (.iconst 2, 1) := by decide +kernel
theorem dX11_init_252 : decode cX11_init 252 = .ok (.newarray .boolean, 2) := by decide +kernel
theorem dX11_init_254 : decode cX11_init 254 = .ok (.putfield 107, 3) := by decide +kernel
theorem dX11_init_257 : decode cX11_init 257 = .ok (.aload_n 0, 1) := by decide +kernel
theorem dX11_init_258 : decode cX11_init 258 = .ok (.iconst 0, 1) := by decide +kernel
theorem dX11_init_259 : decode cX11_init 259 = .ok (.putfield 111, 3) := by decide +kernel
theorem dX11_init_262 : decode cX11_init 262 = .ok (.return_, 1) := by decide +kernel
theorem dX11_isCell_0 : decode cX11_isCell 0 = .ok (.iload_n 1, 1) := by decide +kernel
theorem dX11_isCell_1 : decode cX11_isCell 1 = .ok (.i2l, 1) := by decide +kernel
theorem dX11_isCell_2 : decode cX11_isCell 2 = .ok (.lconst 0, 1) := by decide +kernel
theorem dX11_isCell_3 : decode cX11_isCell 3 = .ok (.aload_n 0, 1) := by decide +kernel
theorem dX11_isCell_4 : decode cX11_isCell 4 = .ok (.getfield 111, 3) := by decide +kernel
theorem dX11_isCell_7 : decode cX11_isCell 7 = .ok (.iconst 1, 1) := by decide +kernel
theorem dX11_isCell_8 : decode cX11_isCell 8 = .ok (.isub, 1) := by decide +kernel
theorem dX11_isCell_9 : decode cX11_isCell 9 = .ok (.i2l, 1) := by decide +kernel
theorem dX11_isCell_10 : decode cX11_isCell 10 = .ok (.invokestatic 114, 3) := by decide +kernel
theorem dX11_isCell_13 : decode cX11_isCell 13 = .ok (.ifCond .eq 23, 3) := by decide +kernel
theorem dX11_isCell_16 : decode cX11_isCell 16 = .ok (.iload_n 2, 1) := by decide +kernel
theorem dX11_isCell_17 : decode cX11_isCell 17 = .ok (.i2l, 1) := by decide +kernel
theorem dX11_isCell_18 : decode cX11_isCell 18 = .ok (.lconst 0, 1) := by decide +kernel
theorem dX11_isCell_19 : decode cX11_isCell 19 = .ok (.aload_n 0, 1) := by decide +kernel
theorem dX11_isCell_20 : decode cX11_isCell 20 = .ok (.getfield 118, 3) := by decide +kernel
theorem dX11_isCell_23 : decode cX11_isCell 23 = .ok (.iconst 1, 1) := by decide +kernel
theorem dX11_isCell_24 : decode cX11_isCell 24 = .ok (.isub, 1) := by decide +kernel
theorem dX11_isCell_25 : decode cX11_isCell 25 = .ok (.i2l, 1) := by decide +kernel
theorem dX11_isCell_26 : decode cX11_isCell 26 = .ok (.invokestatic 114, 3) := by decide +kernel
theorem dX11_isCell_29 : decode cX11_isCell 29 = .ok (.ifCond .eq 7, 3) := by decide +kernel
theorem dX11_isCell_32 : decode cX11_isCell 32 = .ok (.iconst 1, 1) := by decide +kernel
theorem dX11_isCell_33 : decode cX11_isCell 33 = .ok (.goto 4, 3) := by decide +kernel
theorem dX11_isCell_36 : decode cX11_isCell 36 = .ok (.iconst 0, 1) := by decide +kernel
theorem dX11_isCell_37 : decode cX11_isCell 37 = .ok (.ireturn, 1) := by decide +kernel
theorem dX11_isCrowd_0 : decode cX11_isCrowd 0 = .ok (.iload_n 1, 1) := by decide +kernel
theorem dX11_isCrowd_1 : decode cX11_isCrowd 1 = .ok (.i2l, 1) := by decide +kernel
theorem dX11_isCrowd_2 : decode cX11_isCrowd 2 = .ok (.lconst 0, 1) := by decide +kernel
theorem dX11_isCrowd_3 : decode cX11_isCrowd 3 = .ok (.aload_n 0, 1) := by decide +kernel
theorem dX11_isCrowd_4 : decode cX11_isCrowd 4 = .ok (.getfield 121, 3) := by decide +kernel
theorem dX11_isCrowd_7 : decode cX11_isCrowd 7 = .ok (.iconst 1, 1) := by decide +kernel
theorem dX11_isCrowd_8 : decode cX11_isCrowd 8 = .ok (.isub, 1) := by decide +kernel
theorem dX11_isCrowd_9 : decode cX11_isCrowd 9 = .ok (.i2l, 1) := by decide +kernel
theorem dX11_isCrowd_10 : decode cX11_isCrowd 10 = .ok (.invokestatic 114, 3) := by decide +kernel
theorem dX11_isCrowd_13 : decode cX11_isCrowd 13 = .ok (.ireturn, 1) := by decide +kernel
theorem dX11_isTune_0 : decode cX11_isTune 0 = .ok (.iload_n 1, 1) := by decide +kernel
theorem dX11_isTune_1 : decode cX11_isTune 1 = .ok (.i2l, 1) := by decide +kernel
theorem dX11_isTune_2 : decode cX11_isTune 2 = .ok (.lconst 0, 1) := by decide +kernel
theorem dX11_isTune_3 : decode cX11_isTune 3 = .ok (.aload_n 0, 1) := by decide +kernel
theorem dX11_isTune_4 : decode cX11_isTune 4 = .ok (.getfield 124, 3) := by decide +kernel
theorem dX11_isTune_7 : decode cX11_isTune 7 = .ok (.iconst 1, 1) := by decide +kernel
theorem dX11_isTune_8 : decode cX11_isTune 8 = .ok (.isub, 1) := by decide +kernel
theorem dX11_isTune_9 : decode cX11_isTune 9 = .ok (.i2l, 1) := by decide +kernel
theorem dX11_isTune_10 : decode cX11_isTune 10 = .ok (.invokestatic 114, 3) := by decide +kernel
theorem dX11_isTune_13 : decode cX11_isTune 13 = .ok (.ireturn, 1) := by decide +kernel
theorem dX11_judge_0 : decode cX11_judge 0 = .ok (.aload_n 0, 1) := by decide +kernel
theorem dX11_judge_1 : decode cX11_judge 1 = .ok (.invokevirtual 355, 3) := by decide +kernel
theorem dX11_judge_4 : decode cX11_judge 4 = .ok (.aload_n 0, 1) := by decide +kernel
theorem dX11_judge_5 : decode cX11_judge 5 = .ok (.bipush 30, 2) := by decide +kernel
theorem dX11_judge_7 : decode cX11_judge 7 = .ok (.invokevirtual 358, 3) := by decide +kernel
theorem dX11_judge_10 : decode cX11_judge 10 = .ok (.istore_n 1, 1) := by decide +kernel
theorem dX11_judge_11 : decode cX11_judge 11 = .ok (.aload_n 0, 1) := by decide +kernel
theorem dX11_judge_12 : decode cX11_judge 12 = .ok (.invokevirtual 361, 3) := by decide +kernel
theorem dX11_judge_15 : decode cX11_judge 15 = .ok (.iload_n 1, 1) := by decide +kernel
theorem dX11_judge_16 : decode cX11_judge 16 = .ok (.aload_n 0, 1) := by decide +kernel
theorem dX11_judge_17 : decode cX11_judge 17 = .ok (.getfield 265, 3) := by decide +kernel
theorem dX11_judge_20 : decode cX11_judge 20 = .ok (.if_icmp .ne 7, 3) := by decide +kernel
theorem dX11_judge_23 : decode cX11_judge 23 = .ok (.iconst (-1), 1) := by decide +kernel
theorem dX11_judge_24 : decode cX11_judge 24 = .ok (.goto 4, 3) := by decide +kernel
theorem dX11_judge_27 : decode cX11_judge 27 = .ok (.iload_n 1, 1) := by decide +kernel
theorem dX11_judge_28 : decode cX11_judge 28 = .ok (.ireturn, 1) := by decide +kernel
theorem dX11_keep_0 : decode cX11_keep 0 = .ok (.iload_n 1, 1) := by decide +kernel
theorem dX11_keep_1 : decode cX11_keep 1 = .ok (.i2l, 1) := by decide +kernel
theorem dX11_keep_2 : decode cX11_keep 2 = .ok (.lconst 0, 1) := by decide +kernel
theorem dX11_keep_3 : decode cX11_keep 3 = .ok (.lconst 1, 1) := by decide +kernel
theorem dX11_keep_4 : decode cX11_keep 4 = .ok (.invokestatic 114, 3) := by decide +kernel
theorem dX11_keep_7 : decode cX11_keep 7 = .ok (.ifCond .ne 7, 3) := by decide +kernel
theorem dX11_keep_10 : decode cX11_keep 10 = .ok (.ldc_w 285, 3) := by decide +kernel
theorem dX11_keep_13 : decode cX11_keep 13 = .ok (.ireturn, 1) := by decide +kernel
theorem dX11_keep_14 : decode cX11_keep 14 = .ok (.bipush 70, 2) := by decide +kernel
theorem dX11_keep_16 : decode cX11_keep 16 = .ok (.iload_n 1, 1) := by decide +kernel
theorem dX11_keep_17 : decode cX11_keep 17 = .ok (.imul, 1) := by decide +kernel
theorem dX11_keep_18 : decode cX11_keep 18 = .ok (.istore_n 2, 1) := by decide +kernel
theorem dX11_keep_19 : decode cX11_keep 19 = .ok (.iconst 0, 1) := by decide +kernel
theorem dX11_keep_20 : decode cX11_keep 20 = .ok (.istore_n 3, 1) := by decide +kernel
theorem dX11_keep_21 : decode cX11_keep 21 = .ok (.iload_n 3, 1) := by decide +kernel
theorem dX11_keep_22 : decode cX11_keep 22 = .ok (.bipush 42, 2) := by decide +kernel
theorem dX11_keep_24 : decode cX11_keep 24 = .ok (.if_icmp .ge 23, 3) := by decide +kernel
theorem dX11_keep_27 : decode cX11_keep 27 = .ok (.aload_n 0, 1) := by decide +kernel
theorem dX11_keep_28 : decode cX11_keep 28 = .ok (.getfield 104, 3) := by decide +kernel
theorem dX11_keep_31 : decode cX11_keep 31 = .ok (.iload_n 2, 1) := by decide +kernel
theorem dX11_keep_32 : decode cX11_keep 32 = .ok (.iload_n 3, 1) := by decide +kernel
theorem dX11_keep_33 : decode cX11_keep 33 = .ok (.iadd, 1) := by decide +kernel
theorem dX11_keep_34 : decode cX11_keep 34 = .ok (.aload_n 0, 1) := by decide +kernel
theorem dX11_keep_35 : decode cX11_keep 35 = .ok (.getfield 7, 3) := by decide +kernel
theorem dX11_keep_38 : decode cX11_keep 38 = .ok (.iload_n 3, 1) := by decide +kernel
theorem dX11_keep_39 : decode cX11_keep 39 = .ok (.iaload, 1) := by decide +kernel
theorem dX11_keep_40 : decode cX11_keep 40 = .ok (.iastore, 1) := by decide +kernel
theorem dX11_keep_41 : decode cX11_keep 41 = .ok (.iinc 3 1, 3) := by decide +kernel
theorem dX11_keep_44 : decode cX11_keep 44 = .ok (.goto (-23), 3) := by decide +kernel
theorem dX11_keep_47 : decode cX11_keep 47 = .ok (.iconst 0, 1) := by decide +kernel
theorem dX11_keep_48 : decode cX11_keep 48 = .ok (.istore_n 3, 1) := by decide +kernel
theorem dX11_keep_49 : decode cX11_keep 49 = .ok (.iload_n 3, 1) := by decide +kernel
theorem dX11_keep_50 : decode cX11_keep 50 = .ok (.bipush 6, 2) := by decide +kernel
theorem dX11_keep_52 : decode cX11_keep 52 = .ok (.if_icmp .ge 60, 3) := by decide +kernel
theorem dX11_keep_55 : decode cX11_keep 55 = .ok (.aload_n 0, 1) := by decide +kernel
theorem dX11_keep_56 : decode cX11_keep 56 = .ok (.getfield 104, 3) := by decide +kernel
theorem dX11_keep_59 : decode cX11_keep 59 = .ok (.iload_n 2, 1) := by decide +kernel
theorem dX11_keep_60 : decode cX11_keep 60 = .ok (.bipush 42, 2) := by decide +kernel
theorem dX11_keep_62 : decode cX11_keep 62 = .ok (.iadd, 1) := by decide +kernel
theorem dX11_keep_63 : decode cX11_keep 63 = .ok (.iload_n 3, 1) := by decide +kernel
theorem dX11_keep_64 : decode cX11_keep 64 = .ok (.iadd, 1) := by decide +kernel
theorem dX11_keep_65 : decode cX11_keep 65 = .ok (.aload_n 0, 1) := by decide +kernel
theorem dX11_keep_66 : decode cX11_keep 66 = .ok (.getfield 38, 3) := by decide +kernel
theorem dX11_keep_69 : decode cX11_keep 69 = .ok (.iload_n 3, 1) := by decide +kernel
theorem dX11_keep_70 : decode cX11_keep 70 = .ok (.iaload, 1) := by decide +kernel
theorem dX11_keep_71 : decode cX11_keep 71 = .ok (.iastore, 1) := by decide +kernel
theorem dX11_keep_72 : decode cX11_keep 72 = .ok (.aload_n 0, 1) := by decide +kernel
theorem dX11_keep_73 : decode cX11_keep 73 = .ok (.getfield 104, 3) := by decide +kernel
theorem dX11_keep_76 : decode cX11_keep 76 = .ok (.iload_n 2, 1) := by decide +kernel
theorem dX11_keep_77 : decode cX11_keep 77 = .ok (.bipush 48, 2) := by decide +kernel
theorem dX11_keep_79 : decode cX11_keep 79 = .ok (.iadd, 1) := by decide +kernel
theorem dX11_keep_80 : decode cX11_keep 80 = .ok (.iload_n 3, 1) := by decide +kernel
theorem dX11_keep_81 : decode cX11_keep 81 = .ok (.iadd, 1) := by decide +kernel
theorem dX11_keep_82 : decode cX11_keep 82 = .ok (.aload_n 0, 1) := by decide +kernel
theorem dX11_keep_83 : decode cX11_keep 83 = .ok (.getfield 41, 3) := by decide +kernel
theorem dX11_keep_86 : decode cX11_keep 86 = .ok (.iload_n 3, 1) := by decide +kernel
theorem dX11_keep_87 : decode cX11_keep 87 = .ok (.iaload, 1) := by decide +kernel
theorem dX11_keep_88 : decode cX11_keep 88 = .ok (.iastore, 1) := by decide +kernel
theorem dX11_keep_89 : decode cX11_keep 89 = .ok (.aload_n 0, 1) := by decide +kernel
theorem dX11_keep_90 : decode cX11_keep 90 = .ok (.getfield 104, 3) := by decide +kernel
theorem dX11_keep_93 : decode cX11_keep 93 = .ok (.iload_n 2, 1) := by decide +kernel
theorem dX11_keep_94 : decode cX11_keep 94 = .ok (.bipush 54, 2) := by decide +kernel
theorem dX11_keep_96 : decode cX11_keep 96 = .ok (.iadd, 1) := by decide +kernel
theorem dX11_keep_97 : decode cX11_keep 97 = .ok (.iload_n 3, 1) := by decide +kernel
theorem dX11_keep_98 : decode cX11_keep 98 = .ok (.iadd, 1) := by decide +kernel
theorem dX11_keep_99 : decode cX11_keep 99 = .ok (.aload_n 0, 1) := by decide +kernel
theorem dX11_keep_100 : decode cX11_keep 100 = .ok (.getfield 44, 3) := by decide +kernel
theorem dX11_keep_103 : decode cX11_keep 103 = .ok (.iload_n 3, 1) := by decide +kernel
theorem dX11_keep_104 : decode cX11_keep 104 = .ok (.iaload, 1) := by decide +kernel
theorem dX11_keep_105 : decode cX11_keep 105 = .ok (.iastore, 1) := by decide +kernel
theorem dX11_keep_106 : decode cX11_keep 106 = .ok (.iinc 3 1, 3) := by decide +kernel
theorem dX11_keep_109 : decode cX11_keep 109 = .ok (.goto (-60), 3) := by decide +kernel
theorem dX11_keep_112 : decode cX11_keep 112 = .ok (.aload_n 0, 1) := by decide +kernel
theorem dX11_keep_113 : decode cX11_keep 113 = .ok (.getfield 104, 3) := by decide +kernel
theorem dX11_keep_116 : decode cX11_keep 116 = .ok (.iload_n 2, 1) := by decide +kernel
theorem dX11_keep_117 : decode cX11_keep 117 = .ok (.bipush 60, 2) := by decide +kernel
theorem dX11_keep_119 : decode cX11_keep 119 = .ok (.iadd, 1) := by decide +kernel
theorem dX11_keep_120 : decode cX11_keep 120 = .ok (.aload_n 0, 1) := by decide +kernel
theorem dX11_keep_121 : decode cX11_keep 121 = .ok (.getfield 259, 3) := by decide +kernel
theorem dX11_keep_124 : decode cX11_keep 124 = .ok (.iastore, 1) := by decide +kernel
theorem dX11_keep_125 : decode cX11_keep 125 = .ok (.aload_n 0, 1) := by decide +kernel
theorem dX11_keep_126 : decode cX11_keep 126 = .ok (.getfield 104, 3) := by decide +kernel
theorem dX11_keep_129 : decode cX11_keep 129 = .ok (.iload_n 2, 1) := by decide +kernel
theorem dX11_keep_130 : decode cX11_keep 130 = .ok (.bipush 61, 2) := by decide +kernel
theorem dX11_keep_132 : decode cX11_keep 132 = .ok (.iadd, 1) := by decide +kernel
theorem dX11_keep_133 : decode cX11_keep 133 = .ok (.aload_n 0, 1) := by decide +kernel
theorem dX11_keep_134 : decode cX11_keep 134 = .ok (.getfield 262, 3) := by decide +kernel
theorem dX11_keep_137 : decode cX11_keep 137 = .ok (.iastore, 1) := by decide +kernel
theorem dX11_keep_138 : decode cX11_keep 138 = .ok (.aload_n 0, 1) := by decide +kernel
theorem dX11_keep_139 : decode cX11_keep 139 = .ok (.getfield 104, 3) := by decide +kernel
theorem dX11_keep_142 : decode cX11_keep 142 = .ok (.iload_n 2, 1) := by decide +kernel
theorem dX11_keep_143 : decode cX11_keep 143 = .ok (.bipush 62, 2) := by decide +kernel
theorem dX11_keep_145 : decode cX11_keep 145 = .ok (.iadd, 1) := by decide +kernel
theorem dX11_keep_146 : decode cX11_keep 146 = .ok (.aload_n 0, 1) := by decide +kernel
theorem dX11_keep_147 : decode cX11_keep 147 = .ok (.getfield 334, 3) := by decide +kernel
theorem dX11_keep_150 : decode cX11_keep 150 = .ok (.iastore, 1) := by decide +kernel
theorem dX11_keep_151 : decode cX11_keep 151 = .ok (.aload_n 0, 1) := by decide +kernel
theorem dX11_keep_152 : decode cX11_keep 152 = .ok (.getfield 107, 3) := by decide +kernel
theorem dX11_keep_155 : decode cX11_keep 155 = .ok (.iload_n 1, 1) := by decide +kernel
theorem dX11_keep_156 : decode cX11_keep 156 = .ok (.iconst 1, 1) := by decide +kernel
theorem dX11_keep_157 : decode cX11_keep 157 = .ok (.bastore, 1) := by decide +kernel
theorem dX11_keep_158 : decode cX11_keep 158 = .ok (.iconst 1, 1) := by decide +kernel
theorem dX11_keep_159 : decode cX11_keep 159 = .ok (.ireturn, 1) := by decide +kernel
theorem dX11_minute_0 : decode cX11_minute 0 = .ok (.iload_n 2, 1) := by decide +kernel
theorem dX11_minute_1 : decode cX11_minute 1 = .ok (.iconst (-1), 1) := by decide +kernel
theorem dX11_minute_2 : decode cX11_minute 2 = .ok (.if_icmp .eq 15, 3) := by decide +kernel
theorem dX11_minute_5 : decode cX11_minute 5 = .ok (.aload_n 0, 1) := by decide +kernel
theorem dX11_minute_6 : decode cX11_minute 6 = .ok (.iload_n 2, 1) := by decide +kernel
theorem dX11_minute_7 : decode cX11_minute 7 = .ok (.invokevirtual 310, 3) := by decide +kernel
theorem dX11_minute_10 : decode cX11_minute 10 = .ok (.ifCond .ne 7, 3) := by decide +kernel
theorem dX11_minute_13 : decode cX11_minute 13 = .ok (.ldc_w 285, 3) := by decide +kernel
theorem dX11_minute_16 : decode cX11_minute 16 = .ok (.ireturn, 1) := by decide +kernel
theorem dX11_minute_17 : decode cX11_minute 17 = .ok (.iload_n 1, 1) := by decide +kernel
theorem dX11_minute_18 : decode cX11_minute 18 = .ok (.i2l, 1) := by decide +kernel
theorem dX11_minute_19 : decode cX11_minute 19 = .ok (.lconst 0, 1) := by decide +kernel
theorem dX11_minute_20 : decode cX11_minute 20 = .ok (.ldc2_w 325, 3) := by decide +kernel
theorem dX11_minute_23 : decode cX11_minute 23 = .ok (.invokestatic 114, 3) := by decide +kernel
theorem dX11_minute_26 : decode cX11_minute 26 = .ok (.ifCond .ne 6, 3) := by decide +kernel
theorem dX11_minute_29 : decode cX11_minute 29 = .ok (.ldc 129, 2) := by decide +kernel
theorem dX11_minute_31 : decode cX11_minute 31 = .ok (.ireturn, 1) := by decide +kernel
theorem dX11_minute_32 : decode cX11_minute 32 = .ok (.aload_n 0, 1) := by decide +kernel
theorem dX11_minute_33 : decode cX11_minute 33 = .ok (.iload_n 1, 1) := by decide +kernel
theorem dX11_minute_34 : decode cX11_minute 34 = .ok (.iload_n 2, 1) := by decide +kernel
theorem dX11_minute_35 : decode cX11_minute 35 = .ok (.invokevirtual 327, 3) := by decide +kernel
theorem dX11_minute_38 : decode cX11_minute 38 = .ok (.ifCond .ne 7, 3) := by decide +kernel
theorem dX11_minute_41 : decode cX11_minute 41 = .ok (.ldc_w 330, 3) := by decide +kernel
theorem dX11_minute_44 : decode cX11_minute 44 = .ok (.ireturn, 1) := by decide +kernel
theorem dX11_minute_45 : decode cX11_minute 45 = .ok (.aload_n 0, 1) := by decide +kernel
theorem dX11_minute_46 : decode cX11_minute 46 = .ok (.dup, 1) := by decide +kernel
theorem dX11_minute_47 : decode cX11_minute 47 = .ok (.getfield 262, 3) := by decide +kernel
theorem dX11_minute_50 : decode cX11_minute 50 = .ok (.iconst 1, 1) := by decide +kernel
theorem dX11_minute_51 : decode cX11_minute 51 = .ok (.iadd, 1) := by decide +kernel
theorem dX11_minute_52 : decode cX11_minute 52 = .ok (.putfield 262, 3) := by decide +kernel
theorem dX11_minute_55 : decode cX11_minute 55 = .ok (.aload_n 0, 1) := by decide +kernel
theorem dX11_minute_56 : decode cX11_minute 56 = .ok (.aload_n 0, 1) := by decide +kernel
theorem dX11_minute_57 : decode cX11_minute 57 = .ok (.getfield 259, 3) := by decide +kernel
theorem dX11_minute_60 : decode cX11_minute 60 = .ok (.invokevirtual 292, 3) := by decide +kernel
theorem dX11_minute_63 : decode cX11_minute 63 = .ok (.ireturn, 1) := by decide +kernel
theorem dX11_minuteBy_0 : decode cX11_minuteBy 0 = .ok (.aload_n 0, 1) := by decide +kernel
theorem dX11_minuteBy_1 : decode cX11_minuteBy 1 = .ok (.iload_n 1, 1) := by decide +kernel
theorem dX11_minuteBy_2 : decode cX11_minuteBy 2 = .ok (.invokevirtual 319, 3) := by decide +kernel
theorem dX11_minuteBy_5 : decode cX11_minuteBy 5 = .ok (.istore_n 3, 1) := by decide +kernel
theorem dX11_minuteBy_6 : decode cX11_minuteBy 6 = .ok (.iload_n 3, 1) := by decide +kernel
theorem dX11_minuteBy_7 : decode cX11_minuteBy 7 = .ok (.ifCond .ge 5, 3) := by decide +kernel
theorem dX11_minuteBy_10 : decode cX11_minuteBy 10 = .ok (.iconst 0, 1) := by decide +kernel
theorem dX11_minuteBy_11 : decode cX11_minuteBy 11 = .ok (.ireturn, 1) := by decide +kernel
theorem dX11_minuteBy_12 : decode cX11_minuteBy 12 = .ok (.aload_n 0, 1) := by decide +kernel
theorem dX11_minuteBy_13 : decode cX11_minuteBy 13 = .ok (.iload_n 3, 1) := by decide +kernel
theorem dX11_minuteBy_14 : decode cX11_minuteBy 14 = .ok (.putfield 259, 3) := by decide +kernel
theorem dX11_minuteBy_17 : decode cX11_minuteBy 17 = .ok (.iconst 0, 1) := by decide +kernel
theorem dX11_minuteBy_18 : decode cX11_minuteBy 18 = .ok (.istore 4, 2) := by decide +kernel
theorem dX11_minuteBy_20 : decode cX11_minuteBy 20 = .ok (.iload 4, 2) := by decide +kernel
theorem dX11_minuteBy_22 : decode cX11_minuteBy 22 = .ok (.aload_n 0, 1) := by decide +kernel
theorem dX11_minuteBy_23 : decode cX11_minuteBy 23 = .ok (.getfield 121, 3) := by decide +kernel
theorem dX11_minuteBy_26 : decode cX11_minuteBy 26 = .ok (.if_icmp .ge 45, 3) := by decide +kernel
theorem dX11_minuteBy_29 : decode cX11_minuteBy 29 = .ok (.iload_n 2, 1) := by decide +kernel
theorem dX11_minuteBy_30 : decode cX11_minuteBy 30 = .ok (.iconst (-1), 1) := by decide +kernel
theorem dX11_minuteBy_31 : decode cX11_minuteBy 31 = .ok (.if_icmp .eq 40, 3) := by decide +kernel
theorem dX11_minuteBy_34 : decode cX11_minuteBy 34 = .ok (.aload_n 0, 1) := by decide +kernel
theorem dX11_minuteBy_35 : decode cX11_minuteBy 35 = .ok (.getfield 41, 3) := by decide +kernel
theorem dX11_minuteBy_38 : decode cX11_minuteBy 38 = .ok (.iload 4, 2) := by decide +kernel
theorem dX11_minuteBy_40 : decode cX11_minuteBy 40 = .ok (.aload_n 0, 1) := by decide +kernel
theorem dX11_minuteBy_41 : decode cX11_minuteBy 41 = .ok (.iload 4, 2) := by decide +kernel
theorem dX11_minuteBy_43 : decode cX11_minuteBy 43 = .ok (.iload_n 2, 1) := by decide +kernel
theorem dX11_minuteBy_44 : decode cX11_minuteBy 44 = .ok (.invokevirtual 313, 3) := by decide +kernel
theorem dX11_minuteBy_47 : decode cX11_minuteBy 47 = .ok (.ifCond .eq 10, 3) := by decide +kernel
theorem dX11_minuteBy_50 : decode cX11_minuteBy 50 = .ok (.aload_n 0, 1) := by decide +kernel
theorem dX11_minuteBy_51 : decode cX11_minuteBy 51 = .ok (.getfield 259, 3) := by decide +kernel
theorem dX11_minuteBy_54 : decode cX11_minuteBy 54 = .ok (.goto 10, 3) := by decide +kernel
theorem dX11_minuteBy_57 : decode cX11_minuteBy 57 = .ok (.aload_n 0, 1) := by decide +kernel
theorem dX11_minuteBy_58 : decode cX11_minuteBy 58 = .ok (.getfield 41, 3) := by decide +kernel
theorem dX11_minuteBy_61 : decode cX11_minuteBy 61 = .ok (.iload 4, 2) := by decide +kernel
theorem dX11_minuteBy_63 : decode cX11_minuteBy 63 = .ok (.iaload, 1) := by decide +kernel
theorem dX11_minuteBy_64 : decode cX11_minuteBy 64 = .ok (.iastore, 1) := by decide +kernel
theorem dX11_minuteBy_65 : decode cX11_minuteBy 65 = .ok (.iinc 4 1, 3) := by decide +kernel
theorem dX11_minuteBy_68 : decode cX11_minuteBy 68 = .ok (.goto (-48), 3) := by decide +kernel
theorem dX11_minuteBy_71 : decode cX11_minuteBy 71 = .ok (.iconst 0, 1) := by decide +kernel
theorem dX11_minuteBy_72 : decode cX11_minuteBy 72 = .ok (.istore 4, 2) := by decide +kernel
theorem dX11_minuteBy_74 : decode cX11_minuteBy 74 = .ok (.iload 4, 2) := by decide +kernel
theorem dX11_minuteBy_76 : decode cX11_minuteBy 76 = .ok (.aload_n 0, 1) := by decide +kernel
theorem dX11_minuteBy_77 : decode cX11_minuteBy 77 = .ok (.getfield 121, 3) := by decide +kernel
theorem dX11_minuteBy_80 : decode cX11_minuteBy 80 = .ok (.if_icmp .ge 26, 3) := by decide +kernel
theorem dX11_minuteBy_83 : decode cX11_minuteBy 83 = .ok (.aload_n 0, 1) := by decide +kernel
theorem dX11_minuteBy_84 : decode cX11_minuteBy 84 = .ok (.getfield 41, 3) := by decide +kernel
theorem dX11_minuteBy_87 : decode cX11_minuteBy 87 = .ok (.iload 4, 2) := by decide +kernel
theorem dX11_minuteBy_89 : decode cX11_minuteBy 89 = .ok (.iaload, 1) := by decide +kernel
theorem dX11_minuteBy_90 : decode cX11_minuteBy 90 = .ok (.iconst (-1), 1) := by decide +kernel
theorem dX11_minuteBy_91 : decode cX11_minuteBy 91 = .ok (.if_icmp .eq 9, 3) := by decide +kernel
theorem dX11_minuteBy_94 : decode cX11_minuteBy 94 = .ok (.aload_n 0, 1) := by decide +kernel
theorem dX11_minuteBy_95 : decode cX11_minuteBy 95 = .ok (.iload 4, 2) := by decide +kernel
theorem dX11_minuteBy_97 : decode cX11_minuteBy 97 = .ok (.invokevirtual 322, 3) := by decide +kernel
theorem dX11_minuteBy_100 : decode cX11_minuteBy 100 = .ok (.iinc 4 1, 3) := by decide +kernel
theorem dX11_minuteBy_103 : decode cX11_minuteBy 103 = .ok (.goto (-29), 3) := by decide +kernel
theorem dX11_minuteBy_106 : decode cX11_minuteBy 106 = .ok (.iconst 1, 1) := by decide +kernel
theorem dX11_minuteBy_107 : decode cX11_minuteBy 107 = .ok (.ireturn, 1) := by decide +kernel
theorem dX11_plan_0 : decode cX11_plan 0 = .ok (.iload_n 2, 1) := by decide +kernel
theorem dX11_plan_1 : decode cX11_plan 1 = .ok (.iconst (-1), 1) := by decide +kernel
theorem dX11_plan_2 : decode cX11_plan 2 = .ok (.if_icmp .eq 15, 3) := by decide +kernel
theorem dX11_plan_5 : decode cX11_plan 5 = .ok (.aload_n 0, 1) := by decide +kernel
theorem dX11_plan_6 : decode cX11_plan 6 = .ok (.iload_n 2, 1) := by decide +kernel
theorem dX11_plan_7 : decode cX11_plan 7 = .ok (.invokevirtual 310, 3) := by decide +kernel
theorem dX11_plan_10 : decode cX11_plan 10 = .ok (.ifCond .ne 7, 3) := by decide +kernel
theorem dX11_plan_13 : decode cX11_plan 13 = .ok (.ldc_w 285, 3) := by decide +kernel
theorem dX11_plan_16 : decode cX11_plan 16 = .ok (.ireturn, 1) := by decide +kernel
theorem dX11_plan_17 : decode cX11_plan 17 = .ok (.iload_n 1, 1) := by decide +kernel
theorem dX11_plan_18 : decode cX11_plan 18 = .ok (.i2l, 1) := by decide +kernel
theorem dX11_plan_19 : decode cX11_plan 19 = .ok (.lconst 0, 1) := by decide +kernel
theorem dX11_plan_20 : decode cX11_plan 20 = .ok (.ldc2_w 325, 3) := by decide +kernel
theorem dX11_plan_23 : decode cX11_plan 23 = .ok (.invokestatic 114, 3) := by decide +kernel
theorem dX11_plan_26 : decode cX11_plan 26 = .ok (.ifCond .ne 6, 3) := by decide +kernel
theorem dX11_plan_29 : decode cX11_plan 29 = .ok (.ldc 129, 2) := by decide +kernel
theorem dX11_plan_31 : decode cX11_plan 31 = .ok (.ireturn, 1) := by decide +kernel
theorem dX11_plan_32 : decode cX11_plan 32 = .ok (.aload_n 0, 1) := by decide +kernel
theorem dX11_plan_33 : decode cX11_plan 33 = .ok (.getfield 265, 3) := by decide +kernel
theorem dX11_plan_36 : decode cX11_plan 36 = .ok (.bipush 30, 2) := by decide +kernel
theorem dX11_plan_38 : decode cX11_plan 38 = .ok (.if_icmp .ne 6, 3) := by decide +kernel
theorem dX11_plan_41 : decode cX11_plan 41 = .ok (.ldc 133, 2) := by decide +kernel
theorem dX11_plan_43 : decode cX11_plan 43 = .ok (.ireturn, 1) := by decide +kernel
theorem dX11_plan_44 : decode cX11_plan 44 = .ok (.aload_n 0, 1) := by decide +kernel
theorem dX11_plan_45 : decode cX11_plan 45 = .ok (.getfield 89, 3) := by decide +kernel
theorem dX11_plan_48 : decode cX11_plan 48 = .ok (.aload_n 0, 1) := by decide +kernel
theorem dX11_plan_49 : decode cX11_plan 49 = .ok (.getfield 265, 3) := by decide +kernel
theorem dX11_plan_52 : decode cX11_plan 52 = .ok (.iload_n 1, 1) := by decide +kernel
theorem dX11_plan_53 : decode cX11_plan 53 = .ok (.iastore, 1) := by decide +kernel
theorem dX11_plan_54 : decode cX11_plan 54 = .ok (.aload_n 0, 1) := by decide +kernel
theorem dX11_plan_55 : decode cX11_plan 55 = .ok (.getfield 92, 3) := by decide +kernel
theorem dX11_plan_58 : decode cX11_plan 58 = .ok (.aload_n 0, 1) := by decide +kernel
theorem dX11_plan_59 : decode cX11_plan 59 = .ok (.getfield 265, 3) := by decide +kernel
theorem dX11_plan_62 : decode cX11_plan 62 = .ok (.iload_n 2, 1) := by decide +kernel
theorem dX11_plan_63 : decode cX11_plan 63 = .ok (.iastore, 1) := by decide +kernel
theorem dX11_plan_64 : decode cX11_plan 64 = .ok (.aload_n 0, 1) := by decide +kernel
theorem dX11_plan_65 : decode cX11_plan 65 = .ok (.dup, 1) := by decide +kernel
theorem dX11_plan_66 : decode cX11_plan 66 = .ok (.getfield 265, 3) := by decide +kernel
theorem dX11_plan_69 : decode cX11_plan 69 = .ok (.iconst 1, 1) := by decide +kernel
theorem dX11_plan_70 : decode cX11_plan 70 = .ok (.iadd, 1) := by decide +kernel
theorem dX11_plan_71 : decode cX11_plan 71 = .ok (.putfield 265, 3) := by decide +kernel
theorem dX11_plan_74 : decode cX11_plan 74 = .ok (.aload_n 0, 1) := by decide +kernel
theorem dX11_plan_75 : decode cX11_plan 75 = .ok (.getfield 265, 3) := by decide +kernel
theorem dX11_plan_78 : decode cX11_plan 78 = .ok (.ireturn, 1) := by decide +kernel
theorem dX11_putBack_0 : decode cX11_putBack 0 = .ok (.aload_n 0, 1) := by decide +kernel
theorem dX11_putBack_1 : decode cX11_putBack 1 = .ok (.aload_n 0, 1) := by decide +kernel
theorem dX11_putBack_2 : decode cX11_putBack 2 = .ok (.getfield 352, 3) := by decide +kernel
theorem dX11_putBack_5 : decode cX11_putBack 5 = .ok (.putfield 259, 3) := by decide +kernel
theorem dX11_putBack_8 : decode cX11_putBack 8 = .ok (.iconst 0, 1) := by decide +kernel
theorem dX11_putBack_9 : decode cX11_putBack 9 = .ok (.istore_n 1, 1) := by decide +kernel
theorem dX11_putBack_10 : decode cX11_putBack 10 = .ok (.iload_n 1, 1) := by decide +kernel
theorem dX11_putBack_11 : decode cX11_putBack 11 = .ok (.aload_n 0, 1) := by decide +kernel
theorem dX11_putBack_12 : decode cX11_putBack 12 = .ok (.getfield 121, 3) := by decide +kernel
theorem dX11_putBack_15 : decode cX11_putBack 15 = .ok (.if_icmp .ge 45, 3) := by decide +kernel
theorem dX11_putBack_18 : decode cX11_putBack 18 = .ok (.aload_n 0, 1) := by decide +kernel
theorem dX11_putBack_19 : decode cX11_putBack 19 = .ok (.getfield 38, 3) := by decide +kernel
theorem dX11_putBack_22 : decode cX11_putBack 22 = .ok (.iload_n 1, 1) := by decide +kernel
theorem dX11_putBack_23 : decode cX11_putBack 23 = .ok (.aload_n 0, 1) := by decide +kernel
theorem dX11_putBack_24 : decode cX11_putBack 24 = .ok (.getfield 80, 3) := by decide +kernel
theorem dX11_putBack_27 : decode cX11_putBack 27 = .ok (.iload_n 1, 1) := by decide +kernel
theorem dX11_putBack_28 : decode cX11_putBack 28 = .ok (.iaload, 1) := by decide +kernel
theorem dX11_putBack_29 : decode cX11_putBack 29 = .ok (.iastore, 1) := by decide +kernel
theorem dX11_putBack_30 : decode cX11_putBack 30 = .ok (.aload_n 0, 1) := by decide +kernel
theorem dX11_putBack_31 : decode cX11_putBack 31 = .ok (.getfield 41, 3) := by decide +kernel
theorem dX11_putBack_34 : decode cX11_putBack 34 = .ok (.iload_n 1, 1) := by decide +kernel
theorem dX11_putBack_35 : decode cX11_putBack 35 = .ok (.aload_n 0, 1) := by decide +kernel
theorem dX11_putBack_36 : decode cX11_putBack 36 = .ok (.getfield 83, 3) := by decide +kernel
theorem dX11_putBack_39 : decode cX11_putBack 39 = .ok (.iload_n 1, 1) := by decide +kernel
theorem dX11_putBack_40 : decode cX11_putBack 40 = .ok (.iaload, 1) := by decide +kernel
theorem dX11_putBack_41 : decode cX11_putBack 41 = .ok (.iastore, 1) := by decide +kernel
theorem dX11_putBack_42 : decode cX11_putBack 42 = .ok (.aload_n 0, 1) := by decide +kernel
theorem dX11_putBack_43 : decode cX11_putBack 43 = .ok (.getfield 44, 3) := by decide +kernel
theorem dX11_putBack_46 : decode cX11_putBack 46 = .ok (.iload_n 1, 1) := by decide +kernel
theorem dX11_putBack_47 : decode cX11_putBack 47 = .ok (.aload_n 0, 1) := by decide +kernel
theorem dX11_putBack_48 : decode cX11_putBack 48 = .ok (.getfield 86, 3) := by decide +kernel
theorem dX11_putBack_51 : decode cX11_putBack 51 = .ok (.iload_n 1, 1) := by decide +kernel
theorem dX11_putBack_52 : decode cX11_putBack 52 = .ok (.iaload, 1) := by decide +kernel
theorem dX11_putBack_53 : decode cX11_putBack 53 = .ok (.iastore, 1) := by decide +kernel
theorem dX11_putBack_54 : decode cX11_putBack 54 = .ok (.iinc 1 1, 3) := by decide +kernel
theorem dX11_putBack_57 : decode cX11_putBack 57 = .ok (.goto (-47), 3) := by decide +kernel
theorem dX11_putBack_60 : decode cX11_putBack 60 = .ok (.return_, 1) := by decide +kernel
theorem dX11_save_0 : decode cX11_save 0 = .ok (.aload_n 0, 1) := by decide +kernel
theorem dX11_save_1 : decode cX11_save 1 = .ok (.aload_n 0, 1) := by decide +kernel
theorem dX11_save_2 : decode cX11_save 2 = .ok (.getfield 259, 3) := by decide +kernel
theorem dX11_save_5 : decode cX11_save 5 = .ok (.putfield 352, 3) := by decide +kernel
theorem dX11_save_8 : decode cX11_save 8 = .ok (.iconst 0, 1) := by decide +kernel
theorem dX11_save_9 : decode cX11_save 9 = .ok (.istore_n 1, 1) := by decide +kernel
theorem dX11_save_10 : decode cX11_save 10 = .ok (.iload_n 1, 1) := by decide +kernel
theorem dX11_save_11 : decode cX11_save 11 = .ok (.aload_n 0, 1) := by decide +kernel
theorem dX11_save_12 : decode cX11_save 12 = .ok (.getfield 121, 3) := by decide +kernel
theorem dX11_save_15 : decode cX11_save 15 = .ok (.if_icmp .ge 45, 3) := by decide +kernel
theorem dX11_save_18 : decode cX11_save 18 = .ok (.aload_n 0, 1) := by decide +kernel
theorem dX11_save_19 : decode cX11_save 19 = .ok (.getfield 80, 3) := by decide +kernel
theorem dX11_save_22 : decode cX11_save 22 = .ok (.iload_n 1, 1) := by decide +kernel
theorem dX11_save_23 : decode cX11_save 23 = .ok (.aload_n 0, 1) := by decide +kernel
theorem dX11_save_24 : decode cX11_save 24 = .ok (.getfield 38, 3) := by decide +kernel
theorem dX11_save_27 : decode cX11_save 27 = .ok (.iload_n 1, 1) := by decide +kernel
theorem dX11_save_28 : decode cX11_save 28 = .ok (.iaload, 1) := by decide +kernel
theorem dX11_save_29 : decode cX11_save 29 = .ok (.iastore, 1) := by decide +kernel
theorem dX11_save_30 : decode cX11_save 30 = .ok (.aload_n 0, 1) := by decide +kernel
theorem dX11_save_31 : decode cX11_save 31 = .ok (.getfield 83, 3) := by decide +kernel
theorem dX11_save_34 : decode cX11_save 34 = .ok (.iload_n 1, 1) := by decide +kernel
theorem dX11_save_35 : decode cX11_save 35 = .ok (.aload_n 0, 1) := by decide +kernel
theorem dX11_save_36 : decode cX11_save 36 = .ok (.getfield 41, 3) := by decide +kernel
theorem dX11_save_39 : decode cX11_save 39 = .ok (.iload_n 1, 1) := by decide +kernel
theorem dX11_save_40 : decode cX11_save 40 = .ok (.iaload, 1) := by decide +kernel
theorem dX11_save_41 : decode cX11_save 41 = .ok (.iastore, 1) := by decide +kernel
theorem dX11_save_42 : decode cX11_save 42 = .ok (.aload_n 0, 1) := by decide +kernel
theorem dX11_save_43 : decode cX11_save 43 = .ok (.getfield 86, 3) := by decide +kernel
theorem dX11_save_46 : decode cX11_save 46 = .ok (.iload_n 1, 1) := by decide +kernel
theorem dX11_save_47 : decode cX11_save 47 = .ok (.aload_n 0, 1) := by decide +kernel
theorem dX11_save_48 : decode cX11_save 48 = .ok (.getfield 44, 3) := by decide +kernel
theorem dX11_save_51 : decode cX11_save 51 = .ok (.iload_n 1, 1) := by decide +kernel
theorem dX11_save_52 : decode cX11_save 52 = .ok (.iaload, 1) := by decide +kernel
theorem dX11_save_53 : decode cX11_save 53 = .ok (.iastore, 1) := by decide +kernel
theorem dX11_save_54 : decode cX11_save 54 = .ok (.iinc 1 1, 3) := by decide +kernel
theorem dX11_save_57 : decode cX11_save 57 = .ok (.goto (-47), 3) := by decide +kernel
theorem dX11_save_60 : decode cX11_save 60 = .ok (.return_, 1) := by decide +kernel
theorem dX11_see_0 : decode cX11_see 0 = .ok (.aload_n 0, 1) := by decide +kernel
theorem dX11_see_1 : decode cX11_see 1 = .ok (.iload_n 1, 1) := by decide +kernel
theorem dX11_see_2 : decode cX11_see 2 = .ok (.invokevirtual 301, 3) := by decide +kernel
theorem dX11_see_5 : decode cX11_see 5 = .ok (.ifCond .eq 13, 3) := by decide +kernel
theorem dX11_see_8 : decode cX11_see 8 = .ok (.aload_n 0, 1) := by decide +kernel
theorem dX11_see_9 : decode cX11_see 9 = .ok (.iload_n 3, 1) := by decide +kernel
theorem dX11_see_10 : decode cX11_see 10 = .ok (.iload 4, 2) := by decide +kernel
theorem dX11_see_12 : decode cX11_see 12 = .ok (.invokevirtual 274, 3) := by decide +kernel
theorem dX11_see_15 : decode cX11_see 15 = .ok (.ifCond .ne 7, 3) := by decide +kernel
theorem dX11_see_18 : decode cX11_see 18 = .ok (.ldc_w 285, 3) := by decide +kernel
theorem dX11_see_21 : decode cX11_see 21 = .ok (.ireturn, 1) := by decide +kernel
theorem dX11_see_22 : decode cX11_see 22 = .ok (.iload_n 2, 1) := by decide +kernel
theorem dX11_see_23 : decode cX11_see 23 = .ok (.i2l, 1) := by decide +kernel
theorem dX11_see_24 : decode cX11_see 24 = .ok (.lconst 1, 1) := by decide +kernel
theorem dX11_see_25 : decode cX11_see 25 = .ok (.ldc2_w 384, 3) := by decide +kernel
theorem dX11_see_28 : decode cX11_see 28 = .ok (.invokestatic 114, 3) := by decide +kernel
theorem dX11_see_31 : decode cX11_see 31 = .ok (.ifCond .ne 6, 3) := by decide +kernel
theorem dX11_see_34 : decode cX11_see 34 = .ok (.ldc 129, 2) := by decide +kernel
theorem dX11_see_36 : decode cX11_see 36 = .ok (.ireturn, 1) := by decide +kernel
theorem dX11_see_37 : decode cX11_see 37 = .ok (.aload_n 0, 1) := by decide +kernel
theorem dX11_see_38 : decode cX11_see 38 = .ok (.getfield 268, 3) := by decide +kernel
theorem dX11_see_41 : decode cX11_see 41 = .ok (.bipush 10, 2) := by decide +kernel
theorem dX11_see_43 : decode cX11_see 43 = .ok (.if_icmp .ne 6, 3) := by decide +kernel
theorem dX11_see_46 : decode cX11_see 46 = .ok (.ldc 133, 2) := by decide +kernel
theorem dX11_see_48 : decode cX11_see 48 = .ok (.ireturn, 1) := by decide +kernel
theorem dX11_see_49 : decode cX11_see 49 = .ok (.aload_n 0, 1) := by decide +kernel
theorem dX11_see_50 : decode cX11_see 50 = .ok (.getfield 95, 3) := by decide +kernel
theorem dX11_see_53 : decode cX11_see 53 = .ok (.aload_n 0, 1) := by decide +kernel
theorem dX11_see_54 : decode cX11_see 54 = .ok (.getfield 268, 3) := by decide +kernel
theorem dX11_see_57 : decode cX11_see 57 = .ok (.iload_n 1, 1) := by decide +kernel
theorem dX11_see_58 : decode cX11_see 58 = .ok (.iastore, 1) := by decide +kernel
theorem dX11_see_59 : decode cX11_see 59 = .ok (.aload_n 0, 1) := by decide +kernel
theorem dX11_see_60 : decode cX11_see 60 = .ok (.getfield 98, 3) := by decide +kernel
theorem dX11_see_63 : decode cX11_see 63 = .ok (.aload_n 0, 1) := by decide +kernel
theorem dX11_see_64 : decode cX11_see 64 = .ok (.getfield 268, 3) := by decide +kernel
theorem dX11_see_67 : decode cX11_see 67 = .ok (.iload_n 2, 1) := by decide +kernel
theorem dX11_see_68 : decode cX11_see 68 = .ok (.iastore, 1) := by decide +kernel
theorem dX11_see_69 : decode cX11_see 69 = .ok (.aload_n 0, 1) := by decide +kernel
theorem dX11_see_70 : decode cX11_see 70 = .ok (.getfield 101, 3) := by decide +kernel
theorem dX11_see_73 : decode cX11_see 73 = .ok (.aload_n 0, 1) := by decide +kernel
theorem dX11_see_74 : decode cX11_see 74 = .ok (.getfield 268, 3) := by decide +kernel
theorem dX11_see_77 : decode cX11_see 77 = .ok (.aload_n 0, 1) := by decide +kernel
theorem dX11_see_78 : decode cX11_see 78 = .ok (.getfield 111, 3) := by decide +kernel
theorem dX11_see_81 : decode cX11_see 81 = .ok (.iload 4, 2) := by decide +kernel
theorem dX11_see_83 : decode cX11_see 83 = .ok (.imul, 1) := by decide +kernel
theorem dX11_see_84 : decode cX11_see 84 = .ok (.iload_n 3, 1) := by decide +kernel
theorem dX11_see_85 : decode cX11_see 85 = .ok (.iadd, 1) := by decide +kernel
theorem dX11_see_86 : decode cX11_see 86 = .ok (.iastore, 1) := by decide +kernel
theorem dX11_see_87 : decode cX11_see 87 = .ok (.aload_n 0, 1) := by decide +kernel
theorem dX11_see_88 : decode cX11_see 88 = .ok (.dup, 1) := by decide +kernel
theorem dX11_see_89 : decode cX11_see 89 = .ok (.getfield 268, 3) := by decide +kernel
theorem dX11_see_92 : decode cX11_see 92 = .ok (.iconst 1, 1) := by decide +kernel
theorem dX11_see_93 : decode cX11_see 93 = .ok (.iadd, 1) := by decide +kernel
theorem dX11_see_94 : decode cX11_see 94 = .ok (.putfield 268, 3) := by decide +kernel
theorem dX11_see_97 : decode cX11_see 97 = .ok (.aload_n 0, 1) := by decide +kernel
theorem dX11_see_98 : decode cX11_see 98 = .ok (.getfield 268, 3) := by decide +kernel
theorem dX11_see_101 : decode cX11_see 101 = .ok (.ireturn, 1) := by decide +kernel
theorem dX11_seed_0 : decode cX11_seed 0 = .ok (.iload_n 1, 1) := by decide +kernel
theorem dX11_seed_1 : decode cX11_seed 1 = .ok (.ifCond .ge 6, 3) := by decide +kernel
theorem dX11_seed_4 : decode cX11_seed 4 = .ok (.ldc 129, 2) := by decide +kernel
theorem dX11_seed_6 : decode cX11_seed 6 = .ok (.ireturn, 1) := by decide +kernel
theorem dX11_seed_7 : decode cX11_seed 7 = .ok (.aload_n 0, 1) := by decide +kernel
theorem dX11_seed_8 : decode cX11_seed 8 = .ok (.getfield 334, 3) := by decide +kernel
theorem dX11_seed_11 : decode cX11_seed 11 = .ok (.istore_n 2, 1) := by decide +kernel
theorem dX11_seed_12 : decode cX11_seed 12 = .ok (.aload_n 0, 1) := by decide +kernel
theorem dX11_seed_13 : decode cX11_seed 13 = .ok (.iload_n 1, 1) := by decide +kernel
theorem dX11_seed_14 : decode cX11_seed 14 = .ok (.putfield 334, 3) := by decide +kernel
theorem dX11_seed_17 : decode cX11_seed 17 = .ok (.iload_n 2, 1) := by decide +kernel
theorem dX11_seed_18 : decode cX11_seed 18 = .ok (.ireturn, 1) := by decide +kernel
theorem dX11_soonest_0 : decode cX11_soonest 0 = .ok (.iload_n 1, 1) := by decide +kernel
theorem dX11_soonest_1 : decode cX11_soonest 1 = .ok (.i2l, 1) := by decide +kernel
theorem dX11_soonest_2 : decode cX11_soonest 2 = .ok (.lconst 0, 1) := by decide +kernel
theorem dX11_soonest_3 : decode cX11_soonest 3 = .ok (.ldc2_w 366, 3) := by decide +kernel
theorem dX11_soonest_6 : decode cX11_soonest 6 = .ok (.invokestatic 114, 3) := by decide +kernel
theorem dX11_soonest_9 : decode cX11_soonest 9 = .ok (.ifCond .eq 11, 3) := by decide +kernel
theorem dX11_soonest_12 : decode cX11_soonest 12 = .ok (.aload_n 0, 1) := by decide +kernel
theorem dX11_soonest_13 : decode cX11_soonest 13 = .ok (.iload_n 2, 1) := by decide +kernel
theorem dX11_soonest_14 : decode cX11_soonest 14 = .ok (.invokevirtual 310, 3) := by decide +kernel
theorem dX11_soonest_17 : decode cX11_soonest 17 = .ok (.ifCond .ne 7, 3) := by decide +kernel
theorem dX11_soonest_20 : decode cX11_soonest 20 = .ok (.ldc_w 285, 3) := by decide +kernel
theorem dX11_soonest_23 : decode cX11_soonest 23 = .ok (.ireturn, 1) := by decide +kernel
theorem dX11_soonest_24 : decode cX11_soonest 24 = .ok (.aload_n 0, 1) := by decide +kernel
theorem dX11_soonest_25 : decode cX11_soonest 25 = .ok (.invokevirtual 355, 3) := by decide +kernel
theorem dX11_soonest_28 : decode cX11_soonest 28 = .ok (.iconst 0, 1) := by decide +kernel
theorem dX11_soonest_29 : decode cX11_soonest 29 = .ok (.istore 4, 2) := by decide +kernel
theorem dX11_soonest_31 : decode cX11_soonest 31 = .ok (.iload 4, 2) := by decide +kernel
theorem dX11_soonest_33 : decode cX11_soonest 33 = .ok (.bipush 7, 2) := by decide +kernel
theorem dX11_soonest_35 : decode cX11_soonest 35 = .ok (.if_icmp .ge 86, 3) := by decide +kernel
theorem dX11_soonest_38 : decode cX11_soonest 38 = .ok (.iconst 0, 1) := by decide +kernel
theorem dX11_soonest_39 : decode cX11_soonest 39 = .ok (.istore 5, 2) := by decide +kernel
theorem dX11_soonest_41 : decode cX11_soonest 41 = .ok (.iload 5, 2) := by decide +kernel
theorem dX11_soonest_43 : decode cX11_soonest 43 = .ok (.iload 4, 2) := by decide +kernel
theorem dX11_soonest_45 : decode cX11_soonest 45 = .ok (.invokestatic 370, 3) := by decide +kernel
theorem dX11_soonest_48 : decode cX11_soonest 48 = .ok (.if_icmp .ge 67, 3) := by decide +kernel
theorem dX11_soonest_51 : decode cX11_soonest 51 = .ok (.aload_n 0, 1) := by decide +kernel
theorem dX11_soonest_52 : decode cX11_soonest 52 = .ok (.iload_n 1, 1) := by decide +kernel
theorem dX11_soonest_53 : decode cX11_soonest 53 = .ok (.iload_n 2, 1) := by decide +kernel
theorem dX11_soonest_54 : decode cX11_soonest 54 = .ok (.iload 4, 2) := by decide +kernel
theorem dX11_soonest_56 : decode cX11_soonest 56 = .ok (.iload 5, 2) := by decide +kernel
theorem dX11_soonest_58 : decode cX11_soonest 58 = .ok (.invokevirtual 380, 3) := by decide +kernel
theorem dX11_soonest_61 : decode cX11_soonest 61 = .ok (.istore 6, 2) := by decide +kernel
theorem dX11_soonest_63 : decode cX11_soonest 63 = .ok (.aload_n 0, 1) := by decide +kernel
theorem dX11_soonest_64 : decode cX11_soonest 64 = .ok (.invokevirtual 361, 3) := by decide +kernel
theorem dX11_soonest_67 : decode cX11_soonest 67 = .ok (.iload 6, 2) := by decide +kernel
theorem dX11_soonest_69 : decode cX11_soonest 69 = .ok (.ifCond .eq 40, 3) := by decide +kernel
theorem dX11_soonest_72 : decode cX11_soonest 72 = .ok (.iload_n 3, 1) := by decide +kernel
theorem dX11_soonest_73 : decode cX11_soonest 73 = .ok (.iconst (-1), 1) := by decide +kernel
theorem dX11_soonest_74 : decode cX11_soonest 74 = .ok (.if_icmp .ne 8, 3) := by decide +kernel
theorem dX11_soonest_77 : decode cX11_soonest 77 = .ok (.iload 4, 2) := by decide +kernel
theorem dX11_soonest_79 : decode cX11_soonest 79 = .ok (.goto 29, 3) := by decide +kernel
theorem dX11_soonest_82 : decode cX11_soonest 82 = .ok (.iload_n 3, 1) := by decide +kernel
theorem dX11_soonest_83 : decode cX11_soonest 83 = .ok (.i2l, 1) := by decide +kernel
theorem dX11_soonest_84 : decode cX11_soonest 84 = .ok (.lconst 0, 1) := by decide +kernel
theorem dX11_soonest_85 : decode cX11_soonest 85 = .ok (.iload 4, 2) := by decide +kernel
theorem dX11_soonest_87 : decode cX11_soonest 87 = .ok (.iconst 1, 1) := by decide +kernel
theorem dX11_soonest_88 : decode cX11_soonest 88 = .ok (.isub, 1) := by decide +kernel
theorem dX11_soonest_89 : decode cX11_soonest 89 = .ok (.i2l, 1) := by decide +kernel
theorem dX11_soonest_90 : decode cX11_soonest 90 = .ok (.invokestatic 114, 3) := by decide +kernel
theorem dX11_soonest_93 : decode cX11_soonest 93 = .ok (.ifCond .eq 14, 3) := by decide +kernel
theorem dX11_soonest_96 : decode cX11_soonest 96 = .ok (.iload 5, 2) := by decide +kernel
theorem dX11_soonest_98 : decode cX11_soonest 98 = .ok (.iload 4, 2) := by decide +kernel
theorem dX11_soonest_100 : decode cX11_soonest 100 = .ok (.iload_n 3, 1) := by decide +kernel
theorem dX11_soonest_101 : decode cX11_soonest 101 = .ok (.invokestatic 373, 3) := by decide +kernel
theorem dX11_soonest_104 : decode cX11_soonest 104 = .ok (.goto 4, 3) := by decide +kernel
theorem dX11_soonest_107 : decode cX11_soonest 107 = .ok (.iconst (-1), 1) := by decide +kernel
theorem dX11_soonest_108 : decode cX11_soonest 108 = .ok (.ireturn, 1) := by decide +kernel
theorem dX11_soonest_109 : decode cX11_soonest 109 = .ok (.iinc 5 1, 3) := by decide +kernel
theorem dX11_soonest_112 : decode cX11_soonest 112 = .ok (.goto (-71), 3) := by decide +kernel
theorem dX11_soonest_115 : decode cX11_soonest 115 = .ok (.iinc 4 1, 3) := by decide +kernel
theorem dX11_soonest_118 : decode cX11_soonest 118 = .ok (.goto (-87), 3) := by decide +kernel
theorem dX11_soonest_121 : decode cX11_soonest 121 = .ok (.iconst (-1), 1) := by decide +kernel
theorem dX11_soonest_122 : decode cX11_soonest 122 = .ok (.ireturn, 1) := by decide +kernel
theorem dX11_stepTo_0 : decode cX11_stepTo 0 = .ok (.aload_n 0, 1) := by decide +kernel
theorem dX11_stepTo_1 : decode cX11_stepTo 1 = .ok (.getfield 111, 3) := by decide +kernel
theorem dX11_stepTo_4 : decode cX11_stepTo 4 = .ok (.ifCond .ne 7, 3) := by decide +kernel
theorem dX11_stepTo_7 : decode cX11_stepTo 7 = .ok (.iconst (-1), 1) := by decide +kernel
theorem dX11_stepTo_8 : decode cX11_stepTo 8 = .ok (.goto 23, 3) := by decide +kernel
theorem dX11_stepTo_11 : decode cX11_stepTo 11 = .ok (.iload_n 1, 1) := by decide +kernel
theorem dX11_stepTo_12 : decode cX11_stepTo 12 = .ok (.ifCond .ne 10, 3) := by decide +kernel
theorem dX11_stepTo_15 : decode cX11_stepTo 15 = .ok (.aload_n 0, 1) := by decide +kernel
theorem dX11_stepTo_16 : decode cX11_stepTo 16 = .ok (.getfield 259, 3) := by decide +kernel
theorem dX11_stepTo_19 : decode cX11_stepTo 19 = .ok (.goto 12, 3) := by decide +kernel
theorem dX11_stepTo_22 : decode cX11_stepTo 22 = .ok (.aload_n 0, 1) := by decide +kernel
theorem dX11_stepTo_23 : decode cX11_stepTo 23 = .ok (.aload_n 0, 1) := by decide +kernel
theorem dX11_stepTo_24 : decode cX11_stepTo 24 = .ok (.getfield 259, 3) := by decide +kernel
theorem dX11_stepTo_27 : decode cX11_stepTo 27 = .ok (.iload_n 1, 1) := by decide +kernel
theorem dX11_stepTo_28 : decode cX11_stepTo 28 = .ok (.invokevirtual 278, 3) := by decide +kernel
theorem dX11_stepTo_31 : decode cX11_stepTo 31 = .ok (.istore_n 2, 1) := by decide +kernel
theorem dX11_stepTo_32 : decode cX11_stepTo 32 = .ok (.iload_n 2, 1) := by decide +kernel
theorem dX11_stepTo_33 : decode cX11_stepTo 33 = .ok (.ifCond .lt 27, 3) := by decide +kernel
theorem dX11_stepTo_36 : decode cX11_stepTo 36 = .ok (.iload_n 1, 1) := by decide +kernel
theorem dX11_stepTo_37 : decode cX11_stepTo 37 = .ok (.ifCond .le 27, 3) := by decide +kernel
theorem dX11_stepTo_40 : decode cX11_stepTo 40 = .ok (.aload_n 0, 1) := by decide +kernel
theorem dX11_stepTo_41 : decode cX11_stepTo 41 = .ok (.getfield 7, 3) := by decide +kernel
theorem dX11_stepTo_44 : decode cX11_stepTo 44 = .ok (.iload_n 2, 1) := by decide +kernel
theorem dX11_stepTo_45 : decode cX11_stepTo 45 = .ok (.iaload, 1) := by decide +kernel
theorem dX11_stepTo_46 : decode cX11_stepTo 46 = .ok (.iconst 1, 1) := by decide +kernel
theorem dX11_stepTo_47 : decode cX11_stepTo 47 = .ok (.if_icmp .eq 13, 3) := by decide +kernel
theorem dX11_stepTo_50 : decode cX11_stepTo 50 = .ok (.aload_n 0, 1) := by decide +kernel
theorem dX11_stepTo_51 : decode cX11_stepTo 51 = .ok (.getfield 7, 3) := by decide +kernel
theorem dX11_stepTo_54 : decode cX11_stepTo 54 = .ok (.iload_n 2, 1) := by decide +kernel
theorem dX11_stepTo_55 : decode cX11_stepTo 55 = .ok (.iaload, 1) := by decide +kernel
theorem dX11_stepTo_56 : decode cX11_stepTo 56 = .ok (.iconst 2, 1) := by decide +kernel
theorem dX11_stepTo_57 : decode cX11_stepTo 57 = .ok (.if_icmp .ne 7, 3) := by decide +kernel
theorem dX11_stepTo_60 : decode cX11_stepTo 60 = .ok (.iconst (-1), 1) := by decide +kernel
theorem dX11_stepTo_61 : decode cX11_stepTo 61 = .ok (.goto 4, 3) := by decide +kernel
theorem dX11_stepTo_64 : decode cX11_stepTo 64 = .ok (.iload_n 2, 1) := by decide +kernel
theorem dX11_stepTo_65 : decode cX11_stepTo 65 = .ok (.ireturn, 1) := by decide +kernel
theorem dX11_tear_0 : decode cX11_tear 0 = .ok (.aload_n 0, 1) := by decide +kernel
theorem dX11_tear_1 : decode cX11_tear 1 = .ok (.getfield 268, 3) := by decide +kernel
theorem dX11_tear_4 : decode cX11_tear 4 = .ok (.istore_n 1, 1) := by decide +kernel
theorem dX11_tear_5 : decode cX11_tear 5 = .ok (.aload_n 0, 1) := by decide +kernel
theorem dX11_tear_6 : decode cX11_tear 6 = .ok (.iconst 0, 1) := by decide +kernel
theorem dX11_tear_7 : decode cX11_tear 7 = .ok (.putfield 268, 3) := by decide +kernel
theorem dX11_tear_10 : decode cX11_tear 10 = .ok (.iload_n 1, 1) := by decide +kernel
theorem dX11_tear_11 : decode cX11_tear 11 = .ok (.ireturn, 1) := by decide +kernel
theorem dX11_told_0 : decode cX11_told 0 = .ok (.iload_n 1, 1) := by decide +kernel
theorem dX11_told_1 : decode cX11_told 1 = .ok (.tableswitch 165 0 12 #[67, 72, 77, 82, 87, 92, 97, 117, 124, 131, 150, 155, 160], 67) := by decide +kernel
theorem dX11_told_68 : decode cX11_told 68 = .ok (.aload_n 0, 1) := by decide +kernel
theorem dX11_told_69 : decode cX11_told 69 = .ok (.getfield 111, 3) := by decide +kernel
theorem dX11_told_72 : decode cX11_told 72 = .ok (.ireturn, 1) := by decide +kernel
theorem dX11_told_73 : decode cX11_told 73 = .ok (.aload_n 0, 1) := by decide +kernel
theorem dX11_told_74 : decode cX11_told 74 = .ok (.getfield 118, 3) := by decide +kernel
theorem dX11_told_77 : decode cX11_told 77 = .ok (.ireturn, 1) := by decide +kernel
theorem dX11_told_78 : decode cX11_told 78 = .ok (.aload_n 0, 1) := by decide +kernel
theorem dX11_told_79 : decode cX11_told 79 = .ok (.getfield 121, 3) := by decide +kernel
theorem dX11_told_82 : decode cX11_told 82 = .ok (.ireturn, 1) := by decide +kernel
theorem dX11_told_83 : decode cX11_told 83 = .ok (.aload_n 0, 1) := by decide +kernel
theorem dX11_told_84 : decode cX11_told 84 = .ok (.getfield 124, 3) := by decide +kernel
theorem dX11_told_87 : decode cX11_told 87 = .ok (.ireturn, 1) := by decide +kernel
theorem dX11_told_88 : decode cX11_told 88 = .ok (.aload_n 0, 1) := by decide +kernel
theorem dX11_told_89 : decode cX11_told 89 = .ok (.getfield 130, 3) := by decide +kernel
theorem dX11_told_92 : decode cX11_told 92 = .ok (.ireturn, 1) := by decide +kernel
theorem dX11_told_93 : decode cX11_told 93 = .ok (.aload_n 0, 1) := by decide +kernel
theorem dX11_told_94 : decode cX11_told 94 = .ok (.getfield 262, 3) := by decide +kernel
theorem dX11_told_97 : decode cX11_told 97 = .ok (.ireturn, 1) := by decide +kernel
theorem dX11_told_98 : decode cX11_told 98 = .ok (.aload_n 0, 1) := by decide +kernel
theorem dX11_told_99 : decode cX11_told 99 = .ok (.getfield 111, 3) := by decide +kernel
theorem dX11_told_102 : decode cX11_told 102 = .ok (.ifCond .ne 7, 3) := by decide +kernel
theorem dX11_told_105 : decode cX11_told 105 = .ok (.iconst 0, 1) := by decide +kernel
theorem dX11_told_106 : decode cX11_told 106 = .ok (.goto 11, 3) := by decide +kernel
theorem dX11_told_109 : decode cX11_told 109 = .ok (.aload_n 0, 1) := by decide +kernel
theorem dX11_told_110 : decode cX11_told 110 = .ok (.aload_n 0, 1) := by decide +kernel
theorem dX11_told_111 : decode cX11_told 111 = .ok (.getfield 259, 3) := by decide +kernel
theorem dX11_told_114 : decode cX11_told 114 = .ok (.invokevirtual 292, 3) := by decide +kernel
theorem dX11_told_117 : decode cX11_told 117 = .ok (.ireturn, 1) := by decide +kernel
theorem dX11_told_118 : decode cX11_told 118 = .ok (.aload_n 0, 1) := by decide +kernel
theorem dX11_told_119 : decode cX11_told 119 = .ok (.iconst (-1), 1) := by decide +kernel
theorem dX11_told_120 : decode cX11_told 120 = .ok (.iconst 1, 1) := by decide +kernel
theorem dX11_told_121 : decode cX11_told 121 = .ok (.invokevirtual 289, 3) := by decide +kernel
theorem dX11_told_124 : decode cX11_told 124 = .ok (.ireturn, 1) := by decide +kernel
theorem dX11_told_125 : decode cX11_told 125 = .ok (.aload_n 0, 1) := by decide +kernel
theorem dX11_told_126 : decode cX11_told 126 = .ok (.iconst (-1), 1) := by decide +kernel
theorem dX11_told_127 : decode cX11_told 127 = .ok (.iconst 2, 1) := by decide +kernel
theorem dX11_told_128 : decode cX11_told 128 = .ok (.invokevirtual 289, 3) := by decide +kernel
theorem dX11_told_131 : decode cX11_told 131 = .ok (.ireturn, 1) := by decide +kernel
theorem dX11_told_132 : decode cX11_told 132 = .ok (.aload_n 0, 1) := by decide +kernel
theorem dX11_told_133 : decode cX11_told 133 = .ok (.invokevirtual 295, 3) := by decide +kernel
theorem dX11_told_136 : decode cX11_told 136 = .ok (.aload_n 0, 1) := by decide +kernel
theorem dX11_told_137 : decode cX11_told 137 = .ok (.iconst (-1), 1) := by decide +kernel
theorem dX11_told_138 : decode cX11_told 138 = .ok (.iconst 1, 1) := by decide +kernel
theorem dX11_told_139 : decode cX11_told 139 = .ok (.invokevirtual 289, 3) := by decide +kernel
theorem dX11_told_142 : decode cX11_told 142 = .ok (.isub, 1) := by decide +kernel
theorem dX11_told_143 : decode cX11_told 143 = .ok (.aload_n 0, 1) := by decide +kernel
theorem dX11_told_144 : decode cX11_told 144 = .ok (.iconst (-1), 1) := by decide +kernel
theorem dX11_told_145 : decode cX11_told 145 = .ok (.iconst 2, 1) := by decide +kernel
theorem dX11_told_146 : decode cX11_told 146 = .ok (.invokevirtual 289, 3) := by decide +kernel
theorem dX11_told_149 : decode cX11_told 149 = .ok (.isub, 1) := by decide +kernel
theorem dX11_told_150 : decode cX11_told 150 = .ok (.ireturn, 1) := by decide +kernel
theorem dX11_told_151 : decode cX11_told 151 = .ok (.aload_n 0, 1) := by decide +kernel
theorem dX11_told_152 : decode cX11_told 152 = .ok (.invokevirtual 298, 3) := by decide +kernel
theorem dX11_told_155 : decode cX11_told 155 = .ok (.ireturn, 1) := by decide +kernel
theorem dX11_told_156 : decode cX11_told 156 = .ok (.aload_n 0, 1) := by decide +kernel
theorem dX11_told_157 : decode cX11_told 157 = .ok (.getfield 265, 3) := by decide +kernel
theorem dX11_told_160 : decode cX11_told 160 = .ok (.ireturn, 1) := by decide +kernel
theorem dX11_told_161 : decode cX11_told 161 = .ok (.aload_n 0, 1) := by decide +kernel
theorem dX11_told_162 : decode cX11_told 162 = .ok (.getfield 268, 3) := by decide +kernel
theorem dX11_told_165 : decode cX11_told 165 = .ok (.ireturn, 1) := by decide +kernel
theorem dX11_told_166 : decode cX11_told 166 = .ok (.ldc 129, 2) := by decide +kernel
theorem dX11_told_168 : decode cX11_told 168 = .ok (.ireturn, 1) := by decide +kernel
theorem dX11_town_0 : decode cX11_town 0 = .ok (.aload_n 0, 1) := by decide +kernel
theorem dX11_town_1 : decode cX11_town 1 = .ok (.iconst (-1), 1) := by decide +kernel
theorem dX11_town_2 : decode cX11_town 2 = .ok (.putfield 50, 3) := by decide +kernel
theorem dX11_town_5 : decode cX11_town 5 = .ok (.aload_n 0, 1) := by decide +kernel
theorem dX11_town_6 : decode cX11_town 6 = .ok (.iconst 0, 1) := by decide +kernel
theorem dX11_town_7 : decode cX11_town 7 = .ok (.putfield 136, 3) := by decide +kernel
theorem dX11_town_10 : decode cX11_town 10 = .ok (.aload_n 0, 1) := by decide +kernel
theorem dX11_town_11 : decode cX11_town 11 = .ok (.invokevirtual 250, 3) := by decide +kernel
theorem dX11_town_14 : decode cX11_town 14 = .ok (.iconst 0, 1) := by decide +kernel
theorem dX11_town_15 : decode cX11_town 15 = .ok (.istore_n 1, 1) := by decide +kernel
theorem dX11_town_16 : decode cX11_town 16 = .ok (.iload_n 1, 1) := by decide +kernel
theorem dX11_town_17 : decode cX11_town 17 = .ok (.ifCond .ne 18, 3) := by decide +kernel
theorem dX11_town_20 : decode cX11_town 20 = .ok (.aload_n 0, 1) := by decide +kernel
theorem dX11_town_21 : decode cX11_town 21 = .ok (.invokevirtual 139, 3) := by decide +kernel
theorem dX11_town_24 : decode cX11_town 24 = .ok (.ifCond .lt 11, 3) := by decide +kernel
theorem dX11_town_27 : decode cX11_town 27 = .ok (.aload_n 0, 1) := by decide +kernel
theorem dX11_town_28 : decode cX11_town 28 = .ok (.invokevirtual 253, 3) := by decide +kernel
theorem dX11_town_31 : decode cX11_town 31 = .ok (.istore_n 1, 1) := by decide +kernel
theorem dX11_town_32 : decode cX11_town 32 = .ok (.goto (-16), 3) := by decide +kernel
theorem dX11_town_35 : decode cX11_town 35 = .ok (.aload_n 0, 1) := by decide +kernel
theorem dX11_town_36 : decode cX11_town 36 = .ok (.iconst 0, 1) := by decide +kernel
theorem dX11_town_37 : decode cX11_town 37 = .ok (.putfield 130, 3) := by decide +kernel
theorem dX11_town_40 : decode cX11_town 40 = .ok (.iload_n 1, 1) := by decide +kernel
theorem dX11_town_41 : decode cX11_town 41 = .ok (.ifCond .le 8, 3) := by decide +kernel
theorem dX11_town_44 : decode cX11_town 44 = .ok (.bipush (-10), 2) := by decide +kernel
theorem dX11_town_46 : decode cX11_town 46 = .ok (.iload_n 1, 1) := by decide +kernel
theorem dX11_town_47 : decode cX11_town 47 = .ok (.isub, 1) := by decide +kernel
theorem dX11_town_48 : decode cX11_town 48 = .ok (.ireturn, 1) := by decide +kernel
theorem dX11_town_49 : decode cX11_town 49 = .ok (.aload_n 0, 1) := by decide +kernel
theorem dX11_town_50 : decode cX11_town 50 = .ok (.aload_n 0, 1) := by decide +kernel
theorem dX11_town_51 : decode cX11_town 51 = .ok (.getfield 179, 3) := by decide +kernel
theorem dX11_town_54 : decode cX11_town 54 = .ok (.putfield 111, 3) := by decide +kernel
theorem dX11_town_57 : decode cX11_town 57 = .ok (.aload_n 0, 1) := by decide +kernel
theorem dX11_town_58 : decode cX11_town 58 = .ok (.aload_n 0, 1) := by decide +kernel
theorem dX11_town_59 : decode cX11_town 59 = .ok (.getfield 182, 3) := by decide +kernel
theorem dX11_town_62 : decode cX11_town 62 = .ok (.putfield 118, 3) := by decide +kernel
theorem dX11_town_65 : decode cX11_town 65 = .ok (.aload_n 0, 1) := by decide +kernel
theorem dX11_town_66 : decode cX11_town 66 = .ok (.aload_n 0, 1) := by decide +kernel
theorem dX11_town_67 : decode cX11_town 67 = .ok (.getfield 191, 3) := by decide +kernel
theorem dX11_town_70 : decode cX11_town 70 = .ok (.putfield 121, 3) := by decide +kernel
theorem dX11_town_73 : decode cX11_town 73 = .ok (.aload_n 0, 1) := by decide +kernel
theorem dX11_town_74 : decode cX11_town 74 = .ok (.aload_n 0, 1) := by decide +kernel
theorem dX11_town_75 : decode cX11_town 75 = .ok (.getfield 208, 3) := by decide +kernel
theorem dX11_town_78 : decode cX11_town 78 = .ok (.putfield 124, 3) := by decide +kernel
theorem dX11_town_81 : decode cX11_town 81 = .ok (.aload_n 0, 1) := by decide +kernel
theorem dX11_town_82 : decode cX11_town 82 = .ok (.aload_n 0, 1) := by decide +kernel
theorem dX11_town_83 : decode cX11_town 83 = .ok (.getfield 211, 3) := by decide +kernel
theorem dX11_town_86 : decode cX11_town 86 = .ok (.ifCond .ge 7, 3) := by decide +kernel
theorem dX11_town_89 : decode cX11_town 89 = .ok (.iconst 1, 1) := by decide +kernel
theorem dX11_town_90 : decode cX11_town 90 = .ok (.goto 7, 3) := by decide +kernel
theorem dX11_town_93 : decode cX11_town 93 = .ok (.aload_n 0, 1) := by decide +kernel
theorem dX11_town_94 : decode cX11_town 94 = .ok (.getfield 211, 3) := by decide +kernel
theorem dX11_town_97 : decode cX11_town 97 = .ok (.putfield 31, 3) := by decide +kernel
theorem dX11_town_100 : decode cX11_town 100 = .ok (.aload_n 0, 1) := by decide +kernel
theorem dX11_town_101 : decode cX11_town 101 = .ok (.aload_n 0, 1) := by decide +kernel
theorem dX11_town_102 : decode cX11_town 102 = .ok (.getfield 211, 3) := by decide +kernel
theorem dX11_town_105 : decode cX11_town 105 = .ok (.ifCond .ge 7, 3) := by decide +kernel
theorem dX11_town_108 : decode cX11_town 108 = .ok (.iconst 1, 1) := by decide +kernel
theorem dX11_town_109 : decode cX11_town 109 = .ok (.goto 7, 3) := by decide +kernel
theorem dX11_town_112 : decode cX11_town 112 = .ok (.aload_n 0, 1) := by decide +kernel
theorem dX11_town_113 : decode cX11_town 113 = .ok (.getfield 214, 3) := by decide +kernel
theorem dX11_town_116 : decode cX11_town 116 = .ok (.putfield 35, 3) := by decide +kernel
theorem dX11_town_119 : decode cX11_town 119 = .ok (.iconst 0, 1) := by decide +kernel
theorem dX11_town_120 : decode cX11_town 120 = .ok (.istore_n 2, 1) := by decide +kernel
theorem dX11_town_121 : decode cX11_town 121 = .ok (.iload_n 2, 1) := by decide +kernel
theorem dX11_town_122 : decode cX11_town 122 = .ok (.bipush 42, 2) := by decide +kernel
theorem dX11_town_124 : decode cX11_town 124 = .ok (.if_icmp .ge 21, 3) := by decide +kernel
theorem dX11_town_127 : decode cX11_town 127 = .ok (.aload_n 0, 1) := by decide +kernel
theorem dX11_town_128 : decode cX11_town 128 = .ok (.getfield 7, 3) := by decide +kernel
theorem dX11_town_131 : decode cX11_town 131 = .ok (.iload_n 2, 1) := by decide +kernel
theorem dX11_town_132 : decode cX11_town 132 = .ok (.aload_n 0, 1) := by decide +kernel
theorem dX11_town_133 : decode cX11_town 133 = .ok (.getfield 53, 3) := by decide +kernel
theorem dX11_town_136 : decode cX11_town 136 = .ok (.iload_n 2, 1) := by decide +kernel
theorem dX11_town_137 : decode cX11_town 137 = .ok (.iaload, 1) := by decide +kernel
theorem dX11_town_138 : decode cX11_town 138 = .ok (.iastore, 1) := by decide +kernel
theorem dX11_town_139 : decode cX11_town 139 = .ok (.iinc 2 1, 3) := by decide +kernel
theorem dX11_town_142 : decode cX11_town 142 = .ok (.goto (-21), 3) := by decide +kernel
theorem dX11_town_145 : decode cX11_town 145 = .ok (.iconst 0, 1) := by decide +kernel
theorem dX11_town_146 : decode cX11_town 146 = .ok (.istore_n 2, 1) := by decide +kernel
theorem dX11_town_147 : decode cX11_town 147 = .ok (.iload_n 2, 1) := by decide +kernel
theorem dX11_town_148 : decode cX11_town 148 = .ok (.bipush 6, 2) := by decide +kernel
theorem dX11_town_150 : decode cX11_town 150 = .ok (.if_icmp .ge 83, 3) := by decide +kernel
theorem dX11_town_153 : decode cX11_town 153 = .ok (.aload_n 0, 1) := by decide +kernel
theorem dX11_town_154 : decode cX11_town 154 = .ok (.getfield 13, 3) := by decide +kernel
theorem dX11_town_157 : decode cX11_town 157 = .ok (.iload_n 2, 1) := by decide +kernel
theorem dX11_town_158 : decode cX11_town 158 = .ok (.aload_n 0, 1) := by decide +kernel
theorem dX11_town_159 : decode cX11_town 159 = .ok (.getfield 56, 3) := by decide +kernel
theorem dX11_town_162 : decode cX11_town 162 = .ok (.iload_n 2, 1) := by decide +kernel
theorem dX11_town_163 : decode cX11_town 163 = .ok (.iaload, 1) := by decide +kernel
theorem dX11_town_164 : decode cX11_town 164 = .ok (.iastore, 1) := by decide +kernel
theorem dX11_town_165 : decode cX11_town 165 = .ok (.aload_n 0, 1) := by decide +kernel
theorem dX11_town_166 : decode cX11_town 166 = .ok (.getfield 16, 3) := by decide +kernel
theorem dX11_town_169 : decode cX11_town 169 = .ok (.iload_n 2, 1) := by decide +kernel
theorem dX11_town_170 : decode cX11_town 170 = .ok (.aload_n 0, 1) := by decide +kernel
theorem dX11_town_171 : decode cX11_town 171 = .ok (.getfield 62, 3) := by decide +kernel
theorem dX11_town_174 : decode cX11_town 174 = .ok (.iload_n 2, 1) := by decide +kernel
theorem dX11_town_175 : decode cX11_town 175 = .ok (.iaload, 1) := by decide +kernel
theorem dX11_town_176 : decode cX11_town 176 = .ok (.iastore, 1) := by decide +kernel
theorem dX11_town_177 : decode cX11_town 177 = .ok (.aload_n 0, 1) := by decide +kernel
theorem dX11_town_178 : decode cX11_town 178 = .ok (.getfield 19, 3) := by decide +kernel
theorem dX11_town_181 : decode cX11_town 181 = .ok (.iload_n 2, 1) := by decide +kernel
theorem dX11_town_182 : decode cX11_town 182 = .ok (.aload_n 0, 1) := by decide +kernel
theorem dX11_town_183 : decode cX11_town 183 = .ok (.getfield 65, 3) := by decide +kernel
theorem dX11_town_186 : decode cX11_town 186 = .ok (.iload_n 2, 1) := by decide +kernel
theorem dX11_town_187 : decode cX11_town 187 = .ok (.iaload, 1) := by decide +kernel
theorem dX11_town_188 : decode cX11_town 188 = .ok (.iastore, 1) := by decide +kernel
theorem dX11_town_189 : decode cX11_town 189 = .ok (.aload_n 0, 1) := by decide +kernel
theorem dX11_town_190 : decode cX11_town 190 = .ok (.getfield 22, 3) := by decide +kernel
theorem dX11_town_193 : decode cX11_town 193 = .ok (.iload_n 2, 1) := by decide +kernel
theorem dX11_town_194 : decode cX11_town 194 = .ok (.aload_n 0, 1) := by decide +kernel
theorem dX11_town_195 : decode cX11_town 195 = .ok (.getfield 68, 3) := by decide +kernel
theorem dX11_town_198 : decode cX11_town 198 = .ok (.iload_n 2, 1) := by decide +kernel
theorem dX11_town_199 : decode cX11_town 199 = .ok (.iaload, 1) := by decide +kernel
theorem dX11_town_200 : decode cX11_town 200 = .ok (.iastore, 1) := by decide +kernel
theorem dX11_town_201 : decode cX11_town 201 = .ok (.aload_n 0, 1) := by decide +kernel
theorem dX11_town_202 : decode cX11_town 202 = .ok (.getfield 38, 3) := by decide +kernel
theorem dX11_town_205 : decode cX11_town 205 = .ok (.iload_n 2, 1) := by decide +kernel
theorem dX11_town_206 : decode cX11_town 206 = .ok (.aload_n 0, 1) := by decide +kernel
theorem dX11_town_207 : decode cX11_town 207 = .ok (.getfield 59, 3) := by decide +kernel
theorem dX11_town_210 : decode cX11_town 210 = .ok (.iload_n 2, 1) := by decide +kernel
theorem dX11_town_211 : decode cX11_town 211 = .ok (.iaload, 1) := by decide +kernel
theorem dX11_town_212 : decode cX11_town 212 = .ok (.iastore, 1) := by decide +kernel
theorem dX11_town_213 : decode cX11_town 213 = .ok (.aload_n 0, 1) := by decide +kernel
theorem dX11_town_214 : decode cX11_town 214 = .ok (.getfield 41, 3) := by decide +kernel
theorem dX11_town_217 : decode cX11_town 217 = .ok (.iload_n 2, 1) := by decide +kernel
theorem dX11_town_218 : decode cX11_town 218 = .ok (.iconst (-1), 1) := by decide +kernel
theorem dX11_town_219 : decode cX11_town 219 = .ok (.iastore, 1) := by decide +kernel
theorem dX11_town_220 : decode cX11_town 220 = .ok (.aload_n 0, 1) := by decide +kernel
theorem dX11_town_221 : decode cX11_town 221 = .ok (.getfield 44, 3) := by decide +kernel
theorem dX11_town_224 : decode cX11_town 224 = .ok (.iload_n 2, 1) := by decide +kernel
theorem dX11_town_225 : decode cX11_town 225 = .ok (.iconst 0, 1) := by decide +kernel
theorem dX11_town_226 : decode cX11_town 226 = .ok (.iastore, 1) := by decide +kernel
theorem dX11_town_227 : decode cX11_town 227 = .ok (.iinc 2 1, 3) := by decide +kernel
theorem dX11_town_230 : decode cX11_town 230 = .ok (.goto (-83), 3) := by decide +kernel
theorem dX11_town_233 : decode cX11_town 233 = .ok (.iconst 0, 1) := by decide +kernel
theorem dX11_town_234 : decode cX11_town 234 = .ok (.istore_n 2, 1) := by decide +kernel
theorem dX11_town_235 : decode cX11_town 235 = .ok (.iload_n 2, 1) := by decide +kernel
theorem dX11_town_236 : decode cX11_town 236 = .ok (.iconst 3, 1) := by decide +kernel
theorem dX11_town_237 : decode cX11_town 237 = .ok (.if_icmp .ge 33, 3) := by decide +kernel
theorem dX11_town_240 : decode cX11_town 240 = .ok (.aload_n 0, 1) := by decide +kernel
theorem dX11_town_241 : decode cX11_town 241 = .ok (.getfield 25, 3) := by decide +kernel
theorem dX11_town_244 : decode cX11_town 244 = .ok (.iload_n 2, 1) := by decide +kernel
theorem dX11_town_245 : decode cX11_town 245 = .ok (.aload_n 0, 1) := by decide +kernel
theorem dX11_town_246 : decode cX11_town 246 = .ok (.getfield 71, 3) := by decide +kernel
theorem dX11_town_249 : decode cX11_town 249 = .ok (.iload_n 2, 1) := by decide +kernel
theorem dX11_town_250 : decode cX11_town 250 = .ok (.iaload, 1) := by decide +kernel
theorem dX11_town_251 : decode cX11_town 251 = .ok (.iastore, 1) := by decide +kernel
theorem dX11_town_252 : decode cX11_town 252 = .ok (.aload_n 0, 1) := by decide +kernel
theorem dX11_town_253 : decode cX11_town 253 = .ok (.getfield 28, 3) := by decide +kernel
theorem dX11_town_256 : decode cX11_town 256 = .ok (.iload_n 2, 1) := by decide +kernel
theorem dX11_town_257 : decode cX11_town 257 = .ok (.aload_n 0, 1) := by decide +kernel
theorem dX11_town_258 : decode cX11_town 258 = .ok (.getfield 74, 3) := by decide +kernel
theorem dX11_town_261 : decode cX11_town 261 = .ok (.iload_n 2, 1) := by decide +kernel
theorem dX11_town_262 : decode cX11_town 262 = .ok (.iaload, 1) := by decide +kernel
theorem dX11_town_263 : decode cX11_town 263 = .ok (.iastore, 1) := by decide +kernel
theorem dX11_town_264 : decode cX11_town 264 = .ok (.iinc 2 1, 3) := by decide +kernel
theorem dX11_town_267 : decode cX11_town 267 = .ok (.goto (-32), 3) := by decide +kernel
theorem dX11_town_270 : decode cX11_town 270 = .ok (.aload_n 0, 1) := by decide +kernel
theorem dX11_town_271 : decode cX11_town 271 = .ok (.aload_n 0, 1) := by decide +kernel
theorem dX11_town_272 : decode cX11_town 272 = .ok (.getfield 188, 3) := by decide +kernel
theorem dX11_town_275 : decode cX11_town 275 = .ok (.ifCond .ge 10, 3) := by decide +kernel
theorem dX11_town_278 : decode cX11_town 278 = .ok (.aload_n 0, 1) := by decide +kernel
theorem dX11_town_279 : decode cX11_town 279 = .ok (.invokevirtual 256, 3) := by decide +kernel
theorem dX11_town_282 : decode cX11_town 282 = .ok (.goto 7, 3) := by decide +kernel
theorem dX11_town_285 : decode cX11_town 285 = .ok (.aload_n 0, 1) := by decide +kernel
theorem dX11_town_286 : decode cX11_town 286 = .ok (.getfield 188, 3) := by decide +kernel
theorem dX11_town_289 : decode cX11_town 289 = .ok (.putfield 259, 3) := by decide +kernel
theorem dX11_town_292 : decode cX11_town 292 = .ok (.aload_n 0, 1) := by decide +kernel
theorem dX11_town_293 : decode cX11_town 293 = .ok (.iconst 0, 1) := by decide +kernel
theorem dX11_town_294 : decode cX11_town 294 = .ok (.putfield 262, 3) := by decide +kernel
theorem dX11_town_297 : decode cX11_town 297 = .ok (.aload_n 0, 1) := by decide +kernel
theorem dX11_town_298 : decode cX11_town 298 = .ok (.iconst 0, 1) := by decide +kernel
theorem dX11_town_299 : decode cX11_town 299 = .ok (.putfield 265, 3) := by decide +kernel
theorem dX11_town_302 : decode cX11_town 302 = .ok (.aload_n 0, 1) := by decide +kernel
theorem dX11_town_303 : decode cX11_town 303 = .ok (.iconst 0, 1) := by decide +kernel
theorem dX11_town_304 : decode cX11_town 304 = .ok (.putfield 268, 3) := by decide +kernel
theorem dX11_town_307 : decode cX11_town 307 = .ok (.aload_n 0, 1) := by decide +kernel
theorem dX11_town_308 : decode cX11_town 308 = .ok (.getfield 107, 3) := by decide +kernel
theorem dX11_town_311 : decode cX11_town 311 = .ok (.iconst 0, 1) := by decide +kernel
theorem dX11_town_312 : decode cX11_town 312 = .ok (.iconst 0, 1) := by decide +kernel
theorem dX11_town_313 : decode cX11_town 313 = .ok (.bastore, 1) := by decide +kernel
theorem dX11_town_314 : decode cX11_town 314 = .ok (.aload_n 0, 1) := by decide +kernel
theorem dX11_town_315 : decode cX11_town 315 = .ok (.getfield 107, 3) := by decide +kernel
theorem dX11_town_318 : decode cX11_town 318 = .ok (.iconst 1, 1) := by decide +kernel
theorem dX11_town_319 : decode cX11_town 319 = .ok (.iconst 0, 1) := by decide +kernel
theorem dX11_town_320 : decode cX11_town 320 = .ok (.bastore, 1) := by decide +kernel
theorem dX11_town_321 : decode cX11_town 321 = .ok (.aload_n 0, 1) := by decide +kernel
theorem dX11_town_322 : decode cX11_town 322 = .ok (.invokevirtual 271, 3) := by decide +kernel
theorem dX11_town_325 : decode cX11_town 325 = .ok (.aload_n 0, 1) := by decide +kernel
theorem dX11_town_326 : decode cX11_town 326 = .ok (.getfield 111, 3) := by decide +kernel
theorem dX11_town_329 : decode cX11_town 329 = .ok (.aload_n 0, 1) := by decide +kernel
theorem dX11_town_330 : decode cX11_town 330 = .ok (.getfield 118, 3) := by decide +kernel
theorem dX11_town_333 : decode cX11_town 333 = .ok (.imul, 1) := by decide +kernel
theorem dX11_town_334 : decode cX11_town 334 = .ok (.ireturn, 1) := by decide +kernel
theorem dX11_tried_0 : decode cX11_tried 0 = .ok (.iload_n 1, 1) := by decide +kernel
theorem dX11_tried_1 : decode cX11_tried 1 = .ok (.i2l, 1) := by decide +kernel
theorem dX11_tried_2 : decode cX11_tried 2 = .ok (.ldc2_w 364, 3) := by decide +kernel
theorem dX11_tried_5 : decode cX11_tried 5 = .ok (.ldc2_w 366, 3) := by decide +kernel
theorem dX11_tried_8 : decode cX11_tried 8 = .ok (.invokestatic 114, 3) := by decide +kernel
theorem dX11_tried_11 : decode cX11_tried 11 = .ok (.ifCond .ne 7, 3) := by decide +kernel
theorem dX11_tried_14 : decode cX11_tried 14 = .ok (.ldc_w 285, 3) := by decide +kernel
theorem dX11_tried_17 : decode cX11_tried 17 = .ok (.ireturn, 1) := by decide +kernel
theorem dX11_tried_18 : decode cX11_tried 18 = .ok (.iload_n 1, 1) := by decide +kernel
theorem dX11_tried_19 : decode cX11_tried 19 = .ok (.iconst (-1), 1) := by decide +kernel
theorem dX11_tried_20 : decode cX11_tried 20 = .ok (.if_icmp .eq 16, 3) := by decide +kernel
theorem dX11_tried_23 : decode cX11_tried 23 = .ok (.iload_n 2, 1) := by decide +kernel
theorem dX11_tried_24 : decode cX11_tried 24 = .ok (.i2l, 1) := by decide +kernel
theorem dX11_tried_25 : decode cX11_tried 25 = .ok (.lconst 0, 1) := by decide +kernel
theorem dX11_tried_26 : decode cX11_tried 26 = .ok (.lconst 1, 1) := by decide +kernel
theorem dX11_tried_27 : decode cX11_tried 27 = .ok (.invokestatic 114, 3) := by decide +kernel
theorem dX11_tried_30 : decode cX11_tried 30 = .ok (.ifCond .ne 6, 3) := by decide +kernel
theorem dX11_tried_33 : decode cX11_tried 33 = .ok (.ldc 129, 2) := by decide +kernel
theorem dX11_tried_35 : decode cX11_tried 35 = .ok (.ireturn, 1) := by decide +kernel
theorem dX11_tried_36 : decode cX11_tried 36 = .ok (.aload_n 0, 1) := by decide +kernel
theorem dX11_tried_37 : decode cX11_tried 37 = .ok (.invokevirtual 355, 3) := by decide +kernel
theorem dX11_tried_40 : decode cX11_tried 40 = .ok (.aload_n 0, 1) := by decide +kernel
theorem dX11_tried_41 : decode cX11_tried 41 = .ok (.bipush 30, 2) := by decide +kernel
theorem dX11_tried_43 : decode cX11_tried 43 = .ok (.invokevirtual 358, 3) := by decide +kernel
theorem dX11_tried_46 : decode cX11_tried 46 = .ok (.istore_n 3, 1) := by decide +kernel
theorem dX11_tried_47 : decode cX11_tried 47 = .ok (.iload_n 1, 1) := by decide +kernel
theorem dX11_tried_48 : decode cX11_tried 48 = .ok (.iconst (-1), 1) := by decide +kernel
theorem dX11_tried_49 : decode cX11_tried 49 = .ok (.if_icmp .ne 10, 3) := by decide +kernel
theorem dX11_tried_52 : decode cX11_tried 52 = .ok (.aload_n 0, 1) := by decide +kernel
theorem dX11_tried_53 : decode cX11_tried 53 = .ok (.invokevirtual 298, 3) := by decide +kernel
theorem dX11_tried_56 : decode cX11_tried 56 = .ok (.goto 11, 3) := by decide +kernel
theorem dX11_tried_59 : decode cX11_tried 59 = .ok (.aload_n 0, 1) := by decide +kernel
theorem dX11_tried_60 : decode cX11_tried 60 = .ok (.iload_n 1, 1) := by decide +kernel
theorem dX11_tried_61 : decode cX11_tried 61 = .ok (.iload_n 2, 1) := by decide +kernel
theorem dX11_tried_62 : decode cX11_tried 62 = .ok (.iconst 1, 1) := by decide +kernel
theorem dX11_tried_63 : decode cX11_tried 63 = .ok (.iadd, 1) := by decide +kernel
theorem dX11_tried_64 : decode cX11_tried 64 = .ok (.invokevirtual 289, 3) := by decide +kernel
theorem dX11_tried_67 : decode cX11_tried 67 = .ok (.istore 4, 2) := by decide +kernel
theorem dX11_tried_69 : decode cX11_tried 69 = .ok (.aload_n 0, 1) := by decide +kernel
theorem dX11_tried_70 : decode cX11_tried 70 = .ok (.invokevirtual 361, 3) := by decide +kernel
theorem dX11_tried_73 : decode cX11_tried 73 = .ok (.iload 4, 2) := by decide +kernel
theorem dX11_tried_75 : decode cX11_tried 75 = .ok (.ireturn, 1) := by decide +kernel
theorem dX11_tune_0 : decode cX11_tune 0 = .ok (.aload_n 0, 1) := by decide +kernel
theorem dX11_tune_1 : decode cX11_tune 1 = .ok (.iload_n 1, 1) := by decide +kernel
theorem dX11_tune_2 : decode cX11_tune 2 = .ok (.invokevirtual 310, 3) := by decide +kernel
theorem dX11_tune_5 : decode cX11_tune 5 = .ok (.ifCond .ne 7, 3) := by decide +kernel
theorem dX11_tune_8 : decode cX11_tune 8 = .ok (.ldc_w 285, 3) := by decide +kernel
theorem dX11_tune_11 : decode cX11_tune 11 = .ok (.ireturn, 1) := by decide +kernel
theorem dX11_tune_12 : decode cX11_tune 12 = .ok (.iload_n 2, 1) := by decide +kernel
theorem dX11_tune_13 : decode cX11_tune 13 = .ok (.iconst 2, 1) := by decide +kernel
theorem dX11_tune_14 : decode cX11_tune 14 = .ok (.if_icmp .ne 46, 3) := by decide +kernel
theorem dX11_tune_17 : decode cX11_tune 17 = .ok (.iconst 0, 1) := by decide +kernel
theorem dX11_tune_18 : decode cX11_tune 18 = .ok (.istore_n 3, 1) := by decide +kernel
theorem dX11_tune_19 : decode cX11_tune 19 = .ok (.iconst 0, 1) := by decide +kernel
theorem dX11_tune_20 : decode cX11_tune 20 = .ok (.istore 4, 2) := by decide +kernel
theorem dX11_tune_22 : decode cX11_tune 22 = .ok (.iload 4, 2) := by decide +kernel
theorem dX11_tune_24 : decode cX11_tune 24 = .ok (.aload_n 0, 1) := by decide +kernel
theorem dX11_tune_25 : decode cX11_tune 25 = .ok (.getfield 121, 3) := by decide +kernel
theorem dX11_tune_28 : decode cX11_tune 28 = .ok (.if_icmp .ge 30, 3) := by decide +kernel
theorem dX11_tune_31 : decode cX11_tune 31 = .ok (.iload_n 3, 1) := by decide +kernel
theorem dX11_tune_32 : decode cX11_tune 32 = .ok (.aload_n 0, 1) := by decide +kernel
theorem dX11_tune_33 : decode cX11_tune 33 = .ok (.iload 4, 2) := by decide +kernel
theorem dX11_tune_35 : decode cX11_tune 35 = .ok (.iload_n 1, 1) := by decide +kernel
theorem dX11_tune_36 : decode cX11_tune 36 = .ok (.invokevirtual 313, 3) := by decide +kernel
theorem dX11_tune_39 : decode cX11_tune 39 = .ok (.ifCond .eq 10, 3) := by decide +kernel
theorem dX11_tune_42 : decode cX11_tune 42 = .ok (.iconst 1, 1) := by decide +kernel
theorem dX11_tune_43 : decode cX11_tune 43 = .ok (.iload 4, 2) := by decide +kernel
theorem dX11_tune_45 : decode cX11_tune 45 = .ok (.ishl, 1) := by decide +kernel
theorem dX11_tune_46 : decode cX11_tune 46 = .ok (.goto 4, 3) := by decide +kernel
theorem dX11_tune_49 : decode cX11_tune 49 = .ok (.iconst 0, 1) := by decide +kernel
theorem dX11_tune_50 : decode cX11_tune 50 = .ok (.ior, 1) := by decide +kernel
theorem dX11_tune_51 : decode cX11_tune 51 = .ok (.istore_n 3, 1) := by decide +kernel
theorem dX11_tune_52 : decode cX11_tune 52 = .ok (.iinc 4 1, 3) := by decide +kernel
theorem dX11_tune_55 : decode cX11_tune 55 = .ok (.goto (-33), 3) := by decide +kernel
theorem dX11_tune_58 : decode cX11_tune 58 = .ok (.iload_n 3, 1) := by decide +kernel
theorem dX11_tune_59 : decode cX11_tune 59 = .ok (.ireturn, 1) := by decide +kernel
theorem dX11_tune_60 : decode cX11_tune 60 = .ok (.iload_n 2, 1) := by decide +kernel
theorem dX11_tune_61 : decode cX11_tune 61 = .ok (.ifCond .ne 12, 3) := by decide +kernel
theorem dX11_tune_64 : decode cX11_tune 64 = .ok (.aload_n 0, 1) := by decide +kernel
theorem dX11_tune_65 : decode cX11_tune 65 = .ok (.getfield 25, 3) := by decide +kernel
theorem dX11_tune_68 : decode cX11_tune 68 = .ok (.iload_n 1, 1) := by decide +kernel
theorem dX11_tune_69 : decode cX11_tune 69 = .ok (.iaload, 1) := by decide +kernel
theorem dX11_tune_70 : decode cX11_tune 70 = .ok (.goto 19, 3) := by decide +kernel
theorem dX11_tune_73 : decode cX11_tune 73 = .ok (.iload_n 2, 1) := by decide +kernel
theorem dX11_tune_74 : decode cX11_tune 74 = .ok (.iconst 1, 1) := by decide +kernel
theorem dX11_tune_75 : decode cX11_tune 75 = .ok (.if_icmp .ne 12, 3) := by decide +kernel
theorem dX11_tune_78 : decode cX11_tune 78 = .ok (.aload_n 0, 1) := by decide +kernel
theorem dX11_tune_79 : decode cX11_tune 79 = .ok (.getfield 28, 3) := by decide +kernel
theorem dX11_tune_82 : decode cX11_tune 82 = .ok (.iload_n 1, 1) := by decide +kernel
theorem dX11_tune_83 : decode cX11_tune 83 = .ok (.iaload, 1) := by decide +kernel
theorem dX11_tune_84 : decode cX11_tune 84 = .ok (.goto 5, 3) := by decide +kernel
theorem dX11_tune_87 : decode cX11_tune 87 = .ok (.ldc 129, 2) := by decide +kernel
theorem dX11_tune_89 : decode cX11_tune 89 = .ok (.ireturn, 1) := by decide +kernel
theorem dX11_walks_0 : decode cX11_walks 0 = .ok (.aload_n 0, 1) := by decide +kernel
theorem dX11_walks_1 : decode cX11_walks 1 = .ok (.iload_n 2, 1) := by decide +kernel
theorem dX11_walks_2 : decode cX11_walks 2 = .ok (.invokevirtual 310, 3) := by decide +kernel
theorem dX11_walks_5 : decode cX11_walks 5 = .ok (.ifCond .ne 7, 3) := by decide +kernel
theorem dX11_walks_8 : decode cX11_walks 8 = .ok (.ldc_w 285, 3) := by decide +kernel
theorem dX11_walks_11 : decode cX11_walks 11 = .ok (.ireturn, 1) := by decide +kernel
theorem dX11_walks_12 : decode cX11_walks 12 = .ok (.iload_n 1, 1) := by decide +kernel
theorem dX11_walks_13 : decode cX11_walks 13 = .ok (.i2l, 1) := by decide +kernel
theorem dX11_walks_14 : decode cX11_walks 14 = .ok (.lconst 1, 1) := by decide +kernel
theorem dX11_walks_15 : decode cX11_walks 15 = .ok (.ldc2_w 384, 3) := by decide +kernel
theorem dX11_walks_18 : decode cX11_walks 18 = .ok (.invokestatic 114, 3) := by decide +kernel
theorem dX11_walks_21 : decode cX11_walks 21 = .ok (.ifCond .ne 6, 3) := by decide +kernel
theorem dX11_walks_24 : decode cX11_walks 24 = .ok (.ldc 129, 2) := by decide +kernel
theorem dX11_walks_26 : decode cX11_walks 26 = .ok (.ireturn, 1) := by decide +kernel
theorem dX11_walks_27 : decode cX11_walks 27 = .ok (.aload_n 0, 1) := by decide +kernel
theorem dX11_walks_28 : decode cX11_walks 28 = .ok (.invokevirtual 355, 3) := by decide +kernel
theorem dX11_walks_31 : decode cX11_walks 31 = .ok (.iconst 0, 1) := by decide +kernel
theorem dX11_walks_32 : decode cX11_walks 32 = .ok (.istore 4, 2) := by decide +kernel
theorem dX11_walks_34 : decode cX11_walks 34 = .ok (.iconst (-1), 1) := by decide +kernel
theorem dX11_walks_35 : decode cX11_walks 35 = .ok (.istore 5, 2) := by decide +kernel
theorem dX11_walks_37 : decode cX11_walks 37 = .ok (.iconst 0, 1) := by decide +kernel
theorem dX11_walks_38 : decode cX11_walks 38 = .ok (.istore 6, 2) := by decide +kernel
theorem dX11_walks_40 : decode cX11_walks 40 = .ok (.iload 6, 2) := by decide +kernel
theorem dX11_walks_42 : decode cX11_walks 42 = .ok (.iload_n 1, 1) := by decide +kernel
theorem dX11_walks_43 : decode cX11_walks 43 = .ok (.invokestatic 370, 3) := by decide +kernel
theorem dX11_walks_46 : decode cX11_walks 46 = .ok (.if_icmp .ge 57, 3) := by decide +kernel
theorem dX11_walks_49 : decode cX11_walks 49 = .ok (.aload_n 0, 1) := by decide +kernel
theorem dX11_walks_50 : decode cX11_walks 50 = .ok (.iload_n 1, 1) := by decide +kernel
theorem dX11_walks_51 : decode cX11_walks 51 = .ok (.iload_n 2, 1) := by decide +kernel
theorem dX11_walks_52 : decode cX11_walks 52 = .ok (.iload 6, 2) := by decide +kernel
theorem dX11_walks_54 : decode cX11_walks 54 = .ok (.invokevirtual 389, 3) := by decide +kernel
theorem dX11_walks_57 : decode cX11_walks 57 = .ok (.istore 7, 2) := by decide +kernel
theorem dX11_walks_59 : decode cX11_walks 59 = .ok (.aload_n 0, 1) := by decide +kernel
theorem dX11_walks_60 : decode cX11_walks 60 = .ok (.invokevirtual 361, 3) := by decide +kernel
theorem dX11_walks_63 : decode cX11_walks 63 = .ok (.iload 7, 2) := by decide +kernel
theorem dX11_walks_65 : decode cX11_walks 65 = .ok (.ifCond .eq 13, 3) := by decide +kernel
theorem dX11_walks_68 : decode cX11_walks 68 = .ok (.iload 4, 2) := by decide +kernel
theorem dX11_walks_70 : decode cX11_walks 70 = .ok (.ifCond .ne 8, 3) := by decide +kernel
theorem dX11_walks_73 : decode cX11_walks 73 = .ok (.iload 6, 2) := by decide +kernel
theorem dX11_walks_75 : decode cX11_walks 75 = .ok (.goto 5, 3) := by decide +kernel
theorem dX11_walks_78 : decode cX11_walks 78 = .ok (.iload 5, 2) := by decide +kernel
theorem dX11_walks_80 : decode cX11_walks 80 = .ok (.istore 5, 2) := by decide +kernel
theorem dX11_walks_82 : decode cX11_walks 82 = .ok (.iload 4, 2) := by decide +kernel
theorem dX11_walks_84 : decode cX11_walks 84 = .ok (.iload 7, 2) := by decide +kernel
theorem dX11_walks_86 : decode cX11_walks 86 = .ok (.ifCond .eq 7, 3) := by decide +kernel
theorem dX11_walks_89 : decode cX11_walks 89 = .ok (.iconst 1, 1) := by decide +kernel
theorem dX11_walks_90 : decode cX11_walks 90 = .ok (.goto 4, 3) := by decide +kernel
theorem dX11_walks_93 : decode cX11_walks 93 = .ok (.iconst 0, 1) := by decide +kernel
theorem dX11_walks_94 : decode cX11_walks 94 = .ok (.iadd, 1) := by decide +kernel
theorem dX11_walks_95 : decode cX11_walks 95 = .ok (.istore 4, 2) := by decide +kernel
theorem dX11_walks_97 : decode cX11_walks 97 = .ok (.iinc 6 1, 3) := by decide +kernel
theorem dX11_walks_100 : decode cX11_walks 100 = .ok (.goto (-60), 3) := by decide +kernel
theorem dX11_walks_103 : decode cX11_walks 103 = .ok (.iload_n 3, 1) := by decide +kernel
theorem dX11_walks_104 : decode cX11_walks 104 = .ok (.iconst (-1), 1) := by decide +kernel
theorem dX11_walks_105 : decode cX11_walks 105 = .ok (.if_icmp .ne 8, 3) := by decide +kernel
theorem dX11_walks_108 : decode cX11_walks 108 = .ok (.iload 4, 2) := by decide +kernel
theorem dX11_walks_110 : decode cX11_walks 110 = .ok (.goto 32, 3) := by decide +kernel
theorem dX11_walks_113 : decode cX11_walks 113 = .ok (.iload 4, 2) := by decide +kernel
theorem dX11_walks_115 : decode cX11_walks 115 = .ok (.ifCond .eq 16, 3) := by decide +kernel
theorem dX11_walks_118 : decode cX11_walks 118 = .ok (.iload_n 3, 1) := by decide +kernel
theorem dX11_walks_119 : decode cX11_walks 119 = .ok (.i2l, 1) := by decide +kernel
theorem dX11_walks_120 : decode cX11_walks 120 = .ok (.lconst 0, 1) := by decide +kernel
theorem dX11_walks_121 : decode cX11_walks 121 = .ok (.iload_n 1, 1) := by decide +kernel
theorem dX11_walks_122 : decode cX11_walks 122 = .ok (.iconst 1, 1) := by decide +kernel
theorem dX11_walks_123 : decode cX11_walks 123 = .ok (.isub, 1) := by decide +kernel
theorem dX11_walks_124 : decode cX11_walks 124 = .ok (.i2l, 1) := by decide +kernel
theorem dX11_walks_125 : decode cX11_walks 125 = .ok (.invokestatic 114, 3) := by decide +kernel
theorem dX11_walks_128 : decode cX11_walks 128 = .ok (.ifCond .ne 7, 3) := by decide +kernel
theorem dX11_walks_131 : decode cX11_walks 131 = .ok (.iconst (-1), 1) := by decide +kernel
theorem dX11_walks_132 : decode cX11_walks 132 = .ok (.goto 10, 3) := by decide +kernel
theorem dX11_walks_135 : decode cX11_walks 135 = .ok (.iload 5, 2) := by decide +kernel
theorem dX11_walks_137 : decode cX11_walks 137 = .ok (.iload_n 1, 1) := by decide +kernel
theorem dX11_walks_138 : decode cX11_walks 138 = .ok (.iload_n 3, 1) := by decide +kernel
theorem dX11_walks_139 : decode cX11_walks 139 = .ok (.invokestatic 373, 3) := by decide +kernel
theorem dX11_walks_142 : decode cX11_walks 142 = .ok (.ireturn, 1) := by decide +kernel
theorem dX11_wall_0 : decode cX11_wall 0 = .ok (.aload_n 0, 1) := by decide +kernel
theorem dX11_wall_1 : decode cX11_wall 1 = .ok (.iload_n 1, 1) := by decide +kernel
theorem dX11_wall_2 : decode cX11_wall 2 = .ok (.iload_n 2, 1) := by decide +kernel
theorem dX11_wall_3 : decode cX11_wall 3 = .ok (.invokevirtual 274, 3) := by decide +kernel
theorem dX11_wall_6 : decode cX11_wall 6 = .ok (.ifCond .ne 7, 3) := by decide +kernel
theorem dX11_wall_9 : decode cX11_wall 9 = .ok (.ldc_w 285, 3) := by decide +kernel
theorem dX11_wall_12 : decode cX11_wall 12 = .ok (.ireturn, 1) := by decide +kernel
theorem dX11_wall_13 : decode cX11_wall 13 = .ok (.aload_n 0, 1) := by decide +kernel
theorem dX11_wall_14 : decode cX11_wall 14 = .ok (.getfield 111, 3) := by decide +kernel
theorem dX11_wall_17 : decode cX11_wall 17 = .ok (.iload_n 2, 1) := by decide +kernel
theorem dX11_wall_18 : decode cX11_wall 18 = .ok (.imul, 1) := by decide +kernel
theorem dX11_wall_19 : decode cX11_wall 19 = .ok (.iload_n 1, 1) := by decide +kernel
theorem dX11_wall_20 : decode cX11_wall 20 = .ok (.iadd, 1) := by decide +kernel
theorem dX11_wall_21 : decode cX11_wall 21 = .ok (.istore 4, 2) := by decide +kernel
theorem dX11_wall_23 : decode cX11_wall 23 = .ok (.aload_n 0, 1) := by decide +kernel
theorem dX11_wall_24 : decode cX11_wall 24 = .ok (.getfield 7, 3) := by decide +kernel
theorem dX11_wall_27 : decode cX11_wall 27 = .ok (.iload 4, 2) := by decide +kernel
theorem dX11_wall_29 : decode cX11_wall 29 = .ok (.iaload, 1) := by decide +kernel
theorem dX11_wall_30 : decode cX11_wall 30 = .ok (.iconst 1, 1) := by decide +kernel
theorem dX11_wall_31 : decode cX11_wall 31 = .ok (.if_icmp .gt 12, 3) := by decide +kernel
theorem dX11_wall_34 : decode cX11_wall 34 = .ok (.aload_n 0, 1) := by decide +kernel
theorem dX11_wall_35 : decode cX11_wall 35 = .ok (.iload 4, 2) := by decide +kernel
theorem dX11_wall_37 : decode cX11_wall 37 = .ok (.invokevirtual 331, 3) := by decide +kernel
theorem dX11_wall_40 : decode cX11_wall 40 = .ok (.ifCond .eq 7, 3) := by decide +kernel
theorem dX11_wall_43 : decode cX11_wall 43 = .ok (.ldc_w 330, 3) := by decide +kernel
theorem dX11_wall_46 : decode cX11_wall 46 = .ok (.ireturn, 1) := by decide +kernel
theorem dX11_wall_47 : decode cX11_wall 47 = .ok (.aload_n 0, 1) := by decide +kernel
theorem dX11_wall_48 : decode cX11_wall 48 = .ok (.getfield 7, 3) := by decide +kernel
theorem dX11_wall_51 : decode cX11_wall 51 = .ok (.iload 4, 2) := by decide +kernel
theorem dX11_wall_53 : decode cX11_wall 53 = .ok (.iaload, 1) := by decide +kernel
theorem dX11_wall_54 : decode cX11_wall 54 = .ok (.istore 5, 2) := by decide +kernel
theorem dX11_wall_56 : decode cX11_wall 56 = .ok (.aload_n 0, 1) := by decide +kernel
theorem dX11_wall_57 : decode cX11_wall 57 = .ok (.getfield 7, 3) := by decide +kernel
theorem dX11_wall_60 : decode cX11_wall 60 = .ok (.iload 4, 2) := by decide +kernel
theorem dX11_wall_62 : decode cX11_wall 62 = .ok (.iload_n 3, 1) := by decide +kernel
theorem dX11_wall_63 : decode cX11_wall 63 = .ok (.ifCond .eq 7, 3) := by decide +kernel
theorem dX11_wall_66 : decode cX11_wall 66 = .ok (.iconst 1, 1) := by decide +kernel
theorem dX11_wall_67 : decode cX11_wall 67 = .ok (.goto 4, 3) := by decide +kernel
theorem dX11_wall_70 : decode cX11_wall 70 = .ok (.iconst 0, 1) := by decide +kernel
theorem dX11_wall_71 : decode cX11_wall 71 = .ok (.iastore, 1) := by decide +kernel
theorem dX11_wall_72 : decode cX11_wall 72 = .ok (.aload_n 0, 1) := by decide +kernel
theorem dX11_wall_73 : decode cX11_wall 73 = .ok (.invokevirtual 271, 3) := by decide +kernel
theorem dX11_wall_76 : decode cX11_wall 76 = .ok (.iload 5, 2) := by decide +kernel
theorem dX11_wall_78 : decode cX11_wall 78 = .ok (.ireturn, 1) := by decide +kernel
theorem dX11_wax_0 : decode cX11_wax 0 = .ok (.iload_n 1, 1) := by decide +kernel
theorem dX11_wax_1 : decode cX11_wax 1 = .ok (.i2l, 1) := by decide +kernel
theorem dX11_wax_2 : decode cX11_wax 2 = .ok (.lconst 0, 1) := by decide +kernel
theorem dX11_wax_3 : decode cX11_wax 3 = .ok (.ldc2_w 366, 3) := by decide +kernel
theorem dX11_wax_6 : decode cX11_wax 6 = .ok (.invokestatic 114, 3) := by decide +kernel
theorem dX11_wax_9 : decode cX11_wax 9 = .ok (.ifCond .ne 7, 3) := by decide +kernel
theorem dX11_wax_12 : decode cX11_wax 12 = .ok (.ldc_w 285, 3) := by decide +kernel
theorem dX11_wax_15 : decode cX11_wax 15 = .ok (.ireturn, 1) := by decide +kernel
theorem dX11_wax_16 : decode cX11_wax 16 = .ok (.aload_n 0, 1) := by decide +kernel
theorem dX11_wax_17 : decode cX11_wax 17 = .ok (.invokevirtual 355, 3) := by decide +kernel
theorem dX11_wax_20 : decode cX11_wax 20 = .ok (.aload_n 0, 1) := by decide +kernel
theorem dX11_wax_21 : decode cX11_wax 21 = .ok (.bipush 30, 2) := by decide +kernel
theorem dX11_wax_23 : decode cX11_wax 23 = .ok (.invokevirtual 358, 3) := by decide +kernel
theorem dX11_wax_26 : decode cX11_wax 26 = .ok (.istore_n 2, 1) := by decide +kernel
theorem dX11_wax_27 : decode cX11_wax 27 = .ok (.iconst 0, 1) := by decide +kernel
theorem dX11_wax_28 : decode cX11_wax 28 = .ok (.istore_n 3, 1) := by decide +kernel
theorem dX11_wax_29 : decode cX11_wax 29 = .ok (.iconst 0, 1) := by decide +kernel
theorem dX11_wax_30 : decode cX11_wax 30 = .ok (.istore 4, 2) := by decide +kernel
theorem dX11_wax_32 : decode cX11_wax 32 = .ok (.iload 4, 2) := by decide +kernel
theorem dX11_wax_34 : decode cX11_wax 34 = .ok (.aload_n 0, 1) := by decide +kernel
theorem dX11_wax_35 : decode cX11_wax 35 = .ok (.getfield 121, 3) := by decide +kernel
theorem dX11_wax_38 : decode cX11_wax 38 = .ok (.if_icmp .ge 60, 3) := by decide +kernel
theorem dX11_wax_41 : decode cX11_wax 41 = .ok (.iload_n 3, 1) := by decide +kernel
theorem dX11_wax_42 : decode cX11_wax 42 = .ok (.aload_n 0, 1) := by decide +kernel
theorem dX11_wax_43 : decode cX11_wax 43 = .ok (.getfield 13, 3) := by decide +kernel
theorem dX11_wax_46 : decode cX11_wax 46 = .ok (.iload 4, 2) := by decide +kernel
theorem dX11_wax_48 : decode cX11_wax 48 = .ok (.iaload, 1) := by decide +kernel
theorem dX11_wax_49 : decode cX11_wax 49 = .ok (.iload_n 1, 1) := by decide +kernel
theorem dX11_wax_50 : decode cX11_wax 50 = .ok (.if_icmp .ne 39, 3) := by decide +kernel
theorem dX11_wax_53 : decode cX11_wax 53 = .ok (.aload_n 0, 1) := by decide +kernel
theorem dX11_wax_54 : decode cX11_wax 54 = .ok (.iload 4, 2) := by decide +kernel
theorem dX11_wax_56 : decode cX11_wax 56 = .ok (.invokevirtual 286, 3) := by decide +kernel
theorem dX11_wax_59 : decode cX11_wax 59 = .ok (.ifCond .le 30, 3) := by decide +kernel
theorem dX11_wax_62 : decode cX11_wax 62 = .ok (.aload_n 0, 1) := by decide +kernel
theorem dX11_wax_63 : decode cX11_wax 63 = .ok (.getfield 44, 3) := by decide +kernel
theorem dX11_wax_66 : decode cX11_wax 66 = .ok (.iload 4, 2) := by decide +kernel
theorem dX11_wax_68 : decode cX11_wax 68 = .ok (.iaload, 1) := by decide +kernel
theorem dX11_wax_69 : decode cX11_wax 69 = .ok (.ifCond .le 20, 3) := by decide +kernel
theorem dX11_wax_72 : decode cX11_wax 72 = .ok (.aload_n 0, 1) := by decide +kernel
theorem dX11_wax_73 : decode cX11_wax 73 = .ok (.getfield 86, 3) := by decide +kernel
theorem dX11_wax_76 : decode cX11_wax 76 = .ok (.iload 4, 2) := by decide +kernel
theorem dX11_wax_78 : decode cX11_wax 78 = .ok (.iaload, 1) := by decide +kernel
theorem dX11_wax_79 : decode cX11_wax 79 = .ok (.ifCond .ne 10, 3) := by decide +kernel
theorem dX11_wax_82 : decode cX11_wax 82 = .ok (.iconst 1, 1) := by decide +kernel
theorem dX11_wax_83 : decode cX11_wax 83 = .ok (.iload 4, 2) := by decide +kernel
theorem dX11_wax_85 : decode cX11_wax 85 = .ok (.ishl, 1) := by decide +kernel
theorem dX11_wax_86 : decode cX11_wax 86 = .ok (.goto 4, 3) := by decide +kernel
theorem dX11_wax_89 : decode cX11_wax 89 = .ok (.iconst 0, 1) := by decide +kernel
theorem dX11_wax_90 : decode cX11_wax 90 = .ok (.ior, 1) := by decide +kernel
theorem dX11_wax_91 : decode cX11_wax 91 = .ok (.istore_n 3, 1) := by decide +kernel
theorem dX11_wax_92 : decode cX11_wax 92 = .ok (.iinc 4 1, 3) := by decide +kernel
theorem dX11_wax_95 : decode cX11_wax 95 = .ok (.goto (-63), 3) := by decide +kernel
theorem dX11_wax_98 : decode cX11_wax 98 = .ok (.aload_n 0, 1) := by decide +kernel
theorem dX11_wax_99 : decode cX11_wax 99 = .ok (.invokevirtual 361, 3) := by decide +kernel
theorem dX11_wax_102 : decode cX11_wax 102 = .ok (.iload_n 3, 1) := by decide +kernel
theorem dX11_wax_103 : decode cX11_wax 103 = .ok (.ireturn, 1) := by decide +kernel
theorem dX11_where_0 : decode cX11_where 0 = .ok (.aload_n 0, 1) := by decide +kernel
theorem dX11_where_1 : decode cX11_where 1 = .ok (.iload_n 1, 1) := by decide +kernel
theorem dX11_where_2 : decode cX11_where 2 = .ok (.invokevirtual 301, 3) := by decide +kernel
theorem dX11_where_5 : decode cX11_where 5 = .ok (.ifCond .ne 7, 3) := by decide +kernel
theorem dX11_where_8 : decode cX11_where 8 = .ok (.ldc_w 285, 3) := by decide +kernel
theorem dX11_where_11 : decode cX11_where 11 = .ok (.ireturn, 1) := by decide +kernel
theorem dX11_where_12 : decode cX11_where 12 = .ok (.iload_n 2, 1) := by decide +kernel
theorem dX11_where_13 : decode cX11_where 13 = .ok (.i2l, 1) := by decide +kernel
theorem dX11_where_14 : decode cX11_where 14 = .ok (.lconst 0, 1) := by decide +kernel
theorem dX11_where_15 : decode cX11_where 15 = .ok (.ldc2_w 368, 3) := by decide +kernel
theorem dX11_where_18 : decode cX11_where 18 = .ok (.invokestatic 114, 3) := by decide +kernel
theorem dX11_where_21 : decode cX11_where 21 = .ok (.ifCond .ne 6, 3) := by decide +kernel
theorem dX11_where_24 : decode cX11_where 24 = .ok (.ldc 129, 2) := by decide +kernel
theorem dX11_where_26 : decode cX11_where 26 = .ok (.ireturn, 1) := by decide +kernel
theorem dX11_where_27 : decode cX11_where 27 = .ok (.aload_n 0, 1) := by decide +kernel
theorem dX11_where_28 : decode cX11_where 28 = .ok (.invokevirtual 355, 3) := by decide +kernel
theorem dX11_where_31 : decode cX11_where 31 = .ok (.aload_n 0, 1) := by decide +kernel
theorem dX11_where_32 : decode cX11_where 32 = .ok (.iload_n 2, 1) := by decide +kernel
theorem dX11_where_33 : decode cX11_where 33 = .ok (.invokevirtual 358, 3) := by decide +kernel
theorem dX11_where_36 : decode cX11_where 36 = .ok (.istore_n 3, 1) := by decide +kernel
theorem dX11_where_37 : decode cX11_where 37 = .ok (.aload_n 0, 1) := by decide +kernel
theorem dX11_where_38 : decode cX11_where 38 = .ok (.aload_n 0, 1) := by decide +kernel
theorem dX11_where_39 : decode cX11_where 39 = .ok (.getfield 38, 3) := by decide +kernel
theorem dX11_where_42 : decode cX11_where 42 = .ok (.iload_n 1, 1) := by decide +kernel
theorem dX11_where_43 : decode cX11_where 43 = .ok (.iaload, 1) := by decide +kernel
theorem dX11_where_44 : decode cX11_where 44 = .ok (.invokevirtual 292, 3) := by decide +kernel
theorem dX11_where_47 : decode cX11_where 47 = .ok (.istore 4, 2) := by decide +kernel
theorem dX11_where_49 : decode cX11_where 49 = .ok (.aload_n 0, 1) := by decide +kernel
theorem dX11_where_50 : decode cX11_where 50 = .ok (.invokevirtual 361, 3) := by decide +kernel
theorem dX11_where_53 : decode cX11_where 53 = .ok (.iload 4, 2) := by decide +kernel
theorem dX11_where_55 : decode cX11_where 55 = .ok (.ireturn, 1) := by decide +kernel
theorem dX11_worth_0 : decode cX11_worth 0 = .ok (.aload_n 0, 1) := by decide +kernel
theorem dX11_worth_1 : decode cX11_worth 1 = .ok (.getfield 31, 3) := by decide +kernel
theorem dX11_worth_4 : decode cX11_worth 4 = .ok (.aload_n 0, 1) := by decide +kernel
theorem dX11_worth_5 : decode cX11_worth 5 = .ok (.iconst (-1), 1) := by decide +kernel
theorem dX11_worth_6 : decode cX11_worth 6 = .ok (.iconst 1, 1) := by decide +kernel
theorem dX11_worth_7 : decode cX11_worth 7 = .ok (.invokevirtual 289, 3) := by decide +kernel
theorem dX11_worth_10 : decode cX11_worth 10 = .ok (.imul, 1) := by decide +kernel
theorem dX11_worth_11 : decode cX11_worth 11 = .ok (.aload_n 0, 1) := by decide +kernel
theorem dX11_worth_12 : decode cX11_worth 12 = .ok (.getfield 35, 3) := by decide +kernel
theorem dX11_worth_15 : decode cX11_worth 15 = .ok (.aload_n 0, 1) := by decide +kernel
theorem dX11_worth_16 : decode cX11_worth 16 = .ok (.iconst (-1), 1) := by decide +kernel
theorem dX11_worth_17 : decode cX11_worth 17 = .ok (.iconst 2, 1) := by decide +kernel
theorem dX11_worth_18 : decode cX11_worth 18 = .ok (.invokevirtual 289, 3) := by decide +kernel
theorem dX11_worth_21 : decode cX11_worth 21 = .ok (.imul, 1) := by decide +kernel
theorem dX11_worth_22 : decode cX11_worth 22 = .ok (.isub, 1) := by decide +kernel
theorem dX11_worth_23 : decode cX11_worth 23 = .ok (.ireturn, 1) := by decide +kernel
theorem dX1_cellAt_0 : decode cX1_cellAt 0 = .ok (.iload_n 1, 1) := by decide +kernel
theorem dX1_cellAt_1 : decode cX1_cellAt 1 = .ok (.ifCond .lt 34, 3) := by decide +kernel
theorem dX1_cellAt_4 : decode cX1_cellAt 4 = .ok (.iload_n 1, 1) := by decide +kernel
theorem dX1_cellAt_5 : decode cX1_cellAt 5 = .ok (.aload_n 0, 1) := by decide +kernel
theorem dX1_cellAt_6 : decode cX1_cellAt 6 = .ok (.getfield 37, 3) := by decide +kernel
theorem dX1_cellAt_9 : decode cX1_cellAt 9 = .ok (.if_icmp .ge 26, 3) := by decide +kernel
theorem dX1_cellAt_12 : decode cX1_cellAt 12 = .ok (.iload_n 2, 1) := by decide +kernel
theorem dX1_cellAt_13 : decode cX1_cellAt 13 = .ok (.ifCond .lt 22, 3) := by decide +kernel
theorem dX1_cellAt_16 : decode cX1_cellAt 16 = .ok (.iload_n 2, 1) := by decide +kernel
theorem dX1_cellAt_17 : decode cX1_cellAt 17 = .ok (.aload_n 0, 1) := by decide +kernel
theorem dX1_cellAt_18 : decode cX1_cellAt 18 = .ok (.getfield 41, 3) := by decide +kernel
theorem dX1_cellAt_21 : decode cX1_cellAt 21 = .ok (.if_icmp .ge 14, 3) := by decide +kernel
theorem dX1_cellAt_24 : decode cX1_cellAt 24 = .ok (.iload_n 2, 1) := by decide +kernel
theorem dX1_cellAt_25 : decode cX1_cellAt 25 = .ok (.aload_n 0, 1) := by decide +kernel
theorem dX1_cellAt_26 : decode cX1_cellAt 26 = .ok (.getfield 37, 3) := by decide +kernel
theorem dX1_cellAt_29 : decode cX1_cellAt 29 = .ok (.imul, 1) := by decide +kernel
theorem dX1_cellAt_30 : decode cX1_cellAt 30 = .ok (.iload_n 1, 1) := by decide +kernel
theorem dX1_cellAt_31 : decode cX1_cellAt 31 = .ok (.iadd, 1) := by decide +kernel
theorem dX1_cellAt_32 : decode cX1_cellAt 32 = .ok (.goto 4, 3) := by decide +kernel
theorem dX1_cellAt_35 : decode cX1_cellAt 35 = .ok (.iconst (-1), 1) := by decide +kernel
theorem dX1_cellAt_36 : decode cX1_cellAt 36 = .ok (.ireturn, 1) := by decide +kernel
theorem dX1_code_0 : decode cX1_code 0 = .ok (.iload_n 1, 1) := by decide +kernel
theorem dX1_code_1 : decode cX1_code 1 = .ok (.invokestatic 65, 3) := by decide +kernel
theorem dX1_code_4 : decode cX1_code 4 = .ok (.ifCond .eq 12, 3) := by decide +kernel
theorem dX1_code_7 : decode cX1_code 7 = .ok (.aload_n 0, 1) := by decide +kernel
theorem dX1_code_8 : decode cX1_code 8 = .ok (.getfield 15, 3) := by decide +kernel
theorem dX1_code_11 : decode cX1_code 11 = .ok (.iload_n 1, 1) := by decide +kernel
theorem dX1_code_12 : decode cX1_code 12 = .ok (.iaload, 1) := by decide +kernel
theorem dX1_code_13 : decode cX1_code 13 = .ok (.goto 4, 3) := by decide +kernel
theorem dX1_code_16 : decode cX1_code 16 = .ok (.iconst (-1), 1) := by decide +kernel
theorem dX1_code_17 : decode cX1_code 17 = .ok (.ireturn, 1) := by decide +kernel
theorem dX1_copy_0 : decode cX1_copy 0 = .ok (.aload_n 0, 1) := by decide +kernel
theorem dX1_copy_1 : decode cX1_copy 1 = .ok (.aload_n 1, 1) := by decide +kernel
theorem dX1_copy_2 : decode cX1_copy 2 = .ok (.getfield 9, 3) := by decide +kernel
theorem dX1_copy_5 : decode cX1_copy 5 = .ok (.invokevirtual 58, 3) := by decide +kernel
theorem dX1_copy_8 : decode cX1_copy 8 = .ok (.return_, 1) := by decide +kernel
theorem dX1_forgetWays_0 : decode cX1_forgetWays 0 = .ok (.iconst 0, 1) := by decide +kernel
theorem dX1_forgetWays_1 : decode cX1_forgetWays 1 = .ok (.istore_n 1, 1) := by decide +kernel
theorem dX1_forgetWays_2 : decode cX1_forgetWays 2 = .ok (.iload_n 1, 1) := by decide +kernel
theorem dX1_forgetWays_3 : decode cX1_forgetWays 3 = .ok (.bipush 42, 2) := by decide +kernel
theorem dX1_forgetWays_5 : decode cX1_forgetWays 5 = .ok (.if_icmp .ge 16, 3) := by decide +kernel
theorem dX1_forgetWays_8 : decode cX1_forgetWays 8 = .ok (.aload_n 0, 1) := by decide +kernel
theorem dX1_forgetWays_9 : decode cX1_forgetWays 9 = .ok (.getfield 24, 3) := by decide +kernel
theorem dX1_forgetWays_12 : decode cX1_forgetWays 12 = .ok (.iload_n 1, 1) := by decide +kernel
theorem dX1_forgetWays_13 : decode cX1_forgetWays 13 = .ok (.iconst 0, 1) := by decide +kernel
theorem dX1_forgetWays_14 : decode cX1_forgetWays 14 = .ok (.bastore, 1) := by decide +kernel
theorem dX1_forgetWays_15 : decode cX1_forgetWays 15 = .ok (.iinc 1 1, 3) := by decide +kernel
theorem dX1_forgetWays_18 : decode cX1_forgetWays 18 = .ok (.goto (-16), 3) := by decide +kernel
theorem dX1_forgetWays_21 : decode cX1_forgetWays 21 = .ok (.return_, 1) := by decide +kernel
theorem dX1_giveWhats_0 : decode cX1_giveWhats 0 = .ok (.iconst 0, 1) := by decide +kernel
theorem dX1_giveWhats_1 : decode cX1_giveWhats 1 = .ok (.istore_n 2, 1) := by decide +kernel
theorem dX1_giveWhats_2 : decode cX1_giveWhats 2 = .ok (.iload_n 2, 1) := by decide +kernel
theorem dX1_giveWhats_3 : decode cX1_giveWhats 3 = .ok (.bipush 42, 2) := by decide +kernel
theorem dX1_giveWhats_5 : decode cX1_giveWhats 5 = .ok (.if_icmp .ge 24, 3) := by decide +kernel
theorem dX1_giveWhats_8 : decode cX1_giveWhats 8 = .ok (.iload_n 2, 1) := by decide +kernel
theorem dX1_giveWhats_9 : decode cX1_giveWhats 9 = .ok (.aload_n 1, 1) := by decide +kernel
theorem dX1_giveWhats_10 : decode cX1_giveWhats 10 = .ok (.arraylength, 1) := by decide +kernel
theorem dX1_giveWhats_11 : decode cX1_giveWhats 11 = .ok (.if_icmp .ge 18, 3) := by decide +kernel
theorem dX1_giveWhats_14 : decode cX1_giveWhats 14 = .ok (.aload_n 1, 1) := by decide +kernel
theorem dX1_giveWhats_15 : decode cX1_giveWhats 15 = .ok (.iload_n 2, 1) := by decide +kernel
theorem dX1_giveWhats_16 : decode cX1_giveWhats 16 = .ok (.aload_n 0, 1) := by decide +kernel
theorem dX1_giveWhats_17 : decode cX1_giveWhats 17 = .ok (.getfield 9, 3) := by decide +kernel
theorem dX1_giveWhats_20 : decode cX1_giveWhats 20 = .ok (.iload_n 2, 1) := by decide +kernel
theorem dX1_giveWhats_21 : decode cX1_giveWhats 21 = .ok (.iaload, 1) := by decide +kernel
theorem dX1_giveWhats_22 : decode cX1_giveWhats 22 = .ok (.iastore, 1) := by decide +kernel
theorem dX1_giveWhats_23 : decode cX1_giveWhats 23 = .ok (.iinc 2 1, 3) := by decide +kernel
theorem dX1_giveWhats_26 : decode cX1_giveWhats 26 = .ok (.goto (-24), 3) := by decide +kernel
theorem dX1_giveWhats_29 : decode cX1_giveWhats 29 = .ok (.return_, 1) := by decide +kernel
theorem dX1_init_0 : decode cX1_init 0 = .ok (.aload_n 0, 1) := by decide +kernel
theorem dX1_init_1 : decode cX1_init 1 = .ok (.invokespecial 3, 3) := by decide +kernel
theorem dX1_init_4 : decode cX1_init 4 = .ok (.aload_n 0, 1) := by decide +kernel
theorem dX1_init_5 : decode cX1_init 5 = .ok (.bipush 42, 2) := by decide +kernel
theorem dX1_init_7 : decode cX1_init 7 = .ok (.newarray .int, 2) := by decide +kernel
theorem dX1_init_9 : decode cX1_init 9 = .ok (.putfield 9, 3) := by decide +kernel
theorem dX1_init_12 : decode cX1_init 12 = .ok (.aload_n 0, 1) := by decide +kernel
theorem dX1_init_13 : decode cX1_init 13 = .ok (.bipush 42, 2) := by decide +kernel
theorem dX1_init_15 : decode cX1_init 15 = .ok (.newarray .int, 2) := by decide +kernel
theorem dX1_init_17 : decode cX1_init 17 = .ok (.putfield 15, 3) := by decide +kernel
theorem dX1_init_20 : decode cX1_init 20 = .ok (.aload_n 0, 1) := by decide +kernel
theorem dX1_init_21 : decode cX1_init 21 = .ok (.sipush 168, 3) := by decide +kernel
theorem dX1_init_24 : decode cX1_init 24 = .ok (.newarray .int, 2) := by decide +kernel
theorem dX1_init_26 : decode cX1_init 26 = .ok (.putfield 18, 3) := by decide +kernel
theorem dX1_init_29 : decode cX1_init 29 = .ok (.aload_n 0, 1) := by decide +kernel
theorem dX1_init_30 : decode cX1_init 30 = .ok (.sipush 1764, 3) := by decide +kernel
theorem dX1_init_33 : decode cX1_init 33 = .ok (.newarray .int, 2) := by decide +kernel
theorem dX1_init_35 : decode cX1_init 35 = .ok (.putfield 21, 3) := by decide +kernel
theorem dX1_init_38 : decode cX1_init 38 = .ok (.aload_n 0, 1) := by decide +kernel
theorem dX1_init_39 : decode cX1_init 39 = .ok (.bipush 42, 2) := by decide +kernel
theorem dX1_init_41 : decode cX1_init 41 = .ok (.newarray .boolean, 2) := by decide +kernel
theorem dX1_init_43 : decode cX1_init 43 = .ok (.putfield 24, 3) := by decide +kernel
theorem dX1_init_46 : decode cX1_init 46 = .ok (.aload_n 0, 1) := by decide +kernel
theorem dX1_init_47 : decode cX1_init 47 = .ok (.bipush 42, 2) := by decide +kernel
theorem dX1_init_49 : decode cX1_init 49 = .ok (.newarray .int, 2) := by decide +kernel
theorem dX1_init_51 : decode cX1_init 51 = .ok (.putfield 28, 3) := by decide +kernel
theorem dX1_init_54 : decode cX1_init 54 = .ok (.return_, 1) := by decide +kernel
theorem dX1_isCell_0 : decode cX1_isCell 0 = .ok (.iload_n 0, 1) := by decide +kernel
theorem dX1_isCell_1 : decode cX1_isCell 1 = .ok (.ifCond .lt 13, 3) := by decide +kernel
theorem dX1_isCell_4 : decode cX1_isCell 4 = .ok (.iload_n 0, 1) := by decide +kernel
theorem dX1_isCell_5 : decode cX1_isCell 5 = .ok (.bipush 42, 2) := by decide +kernel
theorem dX1_isCell_7 : decode cX1_isCell 7 = .ok (.if_icmp .ge 7, 3) := by decide +kernel
theorem dX1_isCell_10 : decode cX1_isCell 10 = .ok (.iconst 1, 1) := by decide +kernel
theorem dX1_isCell_11 : decode cX1_isCell 11 = .ok (.goto 4, 3) := by decide +kernel
theorem dX1_isCell_14 : decode cX1_isCell 14 = .ok (.iconst 0, 1) := by decide +kernel
theorem dX1_isCell_15 : decode cX1_isCell 15 = .ok (.ireturn, 1) := by decide +kernel
theorem dX1_lay_0 : decode cX1_lay 0 = .ok (.aload_n 0, 1) := by decide +kernel
theorem dX1_lay_1 : decode cX1_lay 1 = .ok (.aload_n 1, 1) := by decide +kernel
theorem dX1_lay_2 : decode cX1_lay 2 = .ok (.getfield 31, 3) := by decide +kernel
theorem dX1_lay_5 : decode cX1_lay 5 = .ok (.putfield 37, 3) := by decide +kernel
theorem dX1_lay_8 : decode cX1_lay 8 = .ok (.aload_n 0, 1) := by decide +kernel
theorem dX1_lay_9 : decode cX1_lay 9 = .ok (.aload_n 1, 1) := by decide +kernel
theorem dX1_lay_10 : decode cX1_lay 10 = .ok (.getfield 38, 3) := by decide +kernel
theorem dX1_lay_13 : decode cX1_lay 13 = .ok (.putfield 41, 3) := by decide +kernel
theorem dX1_lay_16 : decode cX1_lay 16 = .ok (.aload_n 0, 1) := by decide +kernel
theorem dX1_lay_17 : decode cX1_lay 17 = .ok (.aload_n 0, 1) := by decide +kernel
theorem dX1_lay_18 : decode cX1_lay 18 = .ok (.getfield 37, 3) := by decide +kernel
theorem dX1_lay_21 : decode cX1_lay 21 = .ok (.aload_n 0, 1) := by decide +kernel
theorem dX1_lay_22 : decode cX1_lay 22 = .ok (.getfield 41, 3) := by decide +kernel
theorem dX1_lay_25 : decode cX1_lay 25 = .ok (.imul, 1) := by decide +kernel
theorem dX1_lay_26 : decode cX1_lay 26 = .ok (.bipush 42, 2) := by decide +kernel
theorem dX1_lay_28 : decode cX1_lay 28 = .ok (.invokestatic 42, 3) := by decide +kernel
theorem dX1_lay_31 : decode cX1_lay 31 = .ok (.putfield 48, 3) := by decide +kernel
theorem dX1_lay_34 : decode cX1_lay 34 = .ok (.iconst 0, 1) := by decide +kernel
theorem dX1_lay_35 : decode cX1_lay 35 = .ok (.istore_n 2, 1) := by decide +kernel
theorem dX1_lay_36 : decode cX1_lay 36 = .ok (.iload_n 2, 1) := by decide +kernel
theorem dX1_lay_37 : decode cX1_lay 37 = .ok (.aload_n 0, 1) := by decide +kernel
theorem dX1_lay_38 : decode cX1_lay 38 = .ok (.getfield 41, 3) := by decide +kernel
theorem dX1_lay_41 : decode cX1_lay 41 = .ok (.if_icmp .ge 31, 3) := by decide +kernel
theorem dX1_lay_44 : decode cX1_lay 44 = .ok (.iconst 0, 1) := by decide +kernel
theorem dX1_lay_45 : decode cX1_lay 45 = .ok (.istore_n 3, 1) := by decide +kernel
theorem dX1_lay_46 : decode cX1_lay 46 = .ok (.iload_n 3, 1) := by decide +kernel
theorem dX1_lay_47 : decode cX1_lay 47 = .ok (.aload_n 0, 1) := by decide +kernel
theorem dX1_lay_48 : decode cX1_lay 48 = .ok (.getfield 37, 3) := by decide +kernel
theorem dX1_lay_51 : decode cX1_lay 51 = .ok (.if_icmp .ge 15, 3) := by decide +kernel
theorem dX1_lay_54 : decode cX1_lay 54 = .ok (.aload_n 0, 1) := by decide +kernel
theorem dX1_lay_55 : decode cX1_lay 55 = .ok (.iload_n 3, 1) := by decide +kernel
theorem dX1_lay_56 : decode cX1_lay 56 = .ok (.iload_n 2, 1) := by decide +kernel
theorem dX1_lay_57 : decode cX1_lay 57 = .ok (.invokevirtual 51, 3) := by decide +kernel
theorem dX1_lay_60 : decode cX1_lay 60 = .ok (.iinc 3 1, 3) := by decide +kernel
theorem dX1_lay_63 : decode cX1_lay 63 = .ok (.goto (-17), 3) := by decide +kernel
theorem dX1_lay_66 : decode cX1_lay 66 = .ok (.iinc 2 1, 3) := by decide +kernel
theorem dX1_lay_69 : decode cX1_lay 69 = .ok (.goto (-33), 3) := by decide +kernel
theorem dX1_lay_72 : decode cX1_lay 72 = .ok (.aload_n 0, 1) := by decide +kernel
theorem dX1_lay_73 : decode cX1_lay 73 = .ok (.aload_n 1, 1) := by decide +kernel
theorem dX1_lay_74 : decode cX1_lay 74 = .ok (.getfield 55, 3) := by decide +kernel
theorem dX1_lay_77 : decode cX1_lay 77 = .ok (.invokevirtual 58, 3) := by decide +kernel
theorem dX1_lay_80 : decode cX1_lay 80 = .ok (.return_, 1) := by decide +kernel
theorem dX1_takeWhats_0 : decode cX1_takeWhats 0 = .ok (.iconst 0, 1) := by decide +kernel
theorem dX1_takeWhats_1 : decode cX1_takeWhats 1 = .ok (.istore_n 2, 1) := by decide +kernel
theorem dX1_takeWhats_2 : decode cX1_takeWhats 2 = .ok (.iload_n 2, 1) := by decide +kernel
theorem dX1_takeWhats_3 : decode cX1_takeWhats 3 = .ok (.bipush 42, 2) := by decide +kernel
theorem dX1_takeWhats_5 : decode cX1_takeWhats 5 = .ok (.if_icmp .ge 24, 3) := by decide +kernel
theorem dX1_takeWhats_8 : decode cX1_takeWhats 8 = .ok (.iload_n 2, 1) := by decide +kernel
theorem dX1_takeWhats_9 : decode cX1_takeWhats 9 = .ok (.aload_n 1, 1) := by decide +kernel
theorem dX1_takeWhats_10 : decode cX1_takeWhats 10 = .ok (.arraylength, 1) := by decide +kernel
theorem dX1_takeWhats_11 : decode cX1_takeWhats 11 = .ok (.if_icmp .ge 18, 3) := by decide +kernel
theorem dX1_takeWhats_14 : decode cX1_takeWhats 14 = .ok (.aload_n 0, 1) := by decide +kernel
theorem dX1_takeWhats_15 : decode cX1_takeWhats 15 = .ok (.getfield 9, 3) := by decide +kernel
theorem dX1_takeWhats_18 : decode cX1_takeWhats 18 = .ok (.iload_n 2, 1) := by decide +kernel
theorem dX1_takeWhats_19 : decode cX1_takeWhats 19 = .ok (.aload_n 1, 1) := by decide +kernel
theorem dX1_takeWhats_20 : decode cX1_takeWhats 20 = .ok (.iload_n 2, 1) := by decide +kernel
theorem dX1_takeWhats_21 : decode cX1_takeWhats 21 = .ok (.iaload, 1) := by decide +kernel
theorem dX1_takeWhats_22 : decode cX1_takeWhats 22 = .ok (.iastore, 1) := by decide +kernel
theorem dX1_takeWhats_23 : decode cX1_takeWhats 23 = .ok (.iinc 2 1, 3) := by decide +kernel
theorem dX1_takeWhats_26 : decode cX1_takeWhats 26 = .ok (.goto (-24), 3) := by decide +kernel
theorem dX1_takeWhats_29 : decode cX1_takeWhats 29 = .ok (.aload_n 0, 1) := by decide +kernel
theorem dX1_takeWhats_30 : decode cX1_takeWhats 30 = .ok (.invokevirtual 62, 3) := by decide +kernel
theorem dX1_takeWhats_33 : decode cX1_takeWhats 33 = .ok (.return_, 1) := by decide +kernel
theorem dX2_init_0 : decode cX2_init 0 = .ok (.aload_n 0, 1) := by decide +kernel
theorem dX2_init_1 : decode cX2_init 1 = .ok (.invokespecial 3, 3) := by decide +kernel
theorem dX2_init_4 : decode cX2_init 4 = .ok (.aload_n 0, 1) := by decide +kernel
theorem dX2_init_5 : decode cX2_init 5 = .ok (.bipush 42, 2) := by decide +kernel
theorem dX2_init_7 : decode cX2_init 7 = .ok (.newarray .int, 2) := by decide +kernel
theorem dX2_init_9 : decode cX2_init 9 = .ok (.putfield 9, 3) := by decide +kernel
theorem dX2_init_12 : decode cX2_init 12 = .ok (.aload_n 0, 1) := by decide +kernel
theorem dX2_init_13 : decode cX2_init 13 = .ok (.new 15, 3) := by decide +kernel
theorem dX2_init_16 : decode cX2_init 16 = .ok (.dup, 1) := by decide +kernel
theorem dX2_init_17 : decode cX2_init 17 = .ok (.aload_n 1, 1) := by decide +kernel
theorem dX2_init_18 : decode cX2_init 18 = .ok (.aload_n 2, 1) := by decide +kernel
theorem dX2_init_19 : decode cX2_init 19 = .ok (.invokespecial 17, 3) := by decide +kernel
theorem dX2_init_22 : decode cX2_init 22 = .ok (.putfield 20, 3) := by decide +kernel
theorem dX2_init_25 : decode cX2_init 25 = .ok (.return_, 1) := by decide +kernel
theorem dX2_take_0 : decode cX2_take 0 = .ok (.aload_n 0, 1) := by decide +kernel
theorem dX2_take_1 : decode cX2_take 1 = .ok (.iconst 1, 1) := by decide +kernel
theorem dX2_take_2 : decode cX2_take 2 = .ok (.putfield 24, 3) := by decide +kernel
theorem dX2_take_5 : decode cX2_take 5 = .ok (.aload_n 0, 1) := by decide +kernel
theorem dX2_take_6 : decode cX2_take 6 = .ok (.iload_n 3, 1) := by decide +kernel
theorem dX2_take_7 : decode cX2_take 7 = .ok (.putfield 28, 3) := by decide +kernel
theorem dX2_take_10 : decode cX2_take 10 = .ok (.aload_n 0, 1) := by decide +kernel
theorem dX2_take_11 : decode cX2_take 11 = .ok (.getfield 20, 3) := by decide +kernel
theorem dX2_take_14 : decode cX2_take 14 = .ok (.aload_n 1, 1) := by decide +kernel
theorem dX2_take_15 : decode cX2_take 15 = .ok (.invokevirtual 32, 3) := by decide +kernel
theorem dX2_take_18 : decode cX2_take 18 = .ok (.aload_n 2, 1) := by decide +kernel
theorem dX2_take_19 : decode cX2_take 19 = .ok (.aload_n 0, 1) := by decide +kernel
theorem dX2_take_20 : decode cX2_take 20 = .ok (.getfield 9, 3) := by decide +kernel
theorem dX2_take_23 : decode cX2_take 23 = .ok (.invokevirtual 36, 3) := by decide +kernel
theorem dX2_take_26 : decode cX2_take 26 = .ok (.return_, 1) := by decide +kernel
theorem dX3_init_0 : decode cX3_init 0 = .ok (.aload_n 0, 1) := by decide +kernel
theorem dX3_init_1 : decode cX3_init 1 = .ok (.invokespecial 3, 3) := by decide +kernel
theorem dX3_init_4 : decode cX3_init 4 = .ok (.aload_n 0, 1) := by decide +kernel
theorem dX3_init_5 : decode cX3_init 5 = .ok (.sipush 1024, 3) := by decide +kernel
theorem dX3_init_8 : decode cX3_init 8 = .ok (.newarray .long, 2) := by decide +kernel
theorem dX3_init_10 : decode cX3_init 10 = .ok (.putfield 11, 3) := by decide +kernel
theorem dX3_init_13 : decode cX3_init 13 = .ok (.aload_n 0, 1) := by decide +kernel
theorem dX3_init_14 : decode cX3_init 14 = .ok (.sipush 1024, 3) := by decide +kernel
theorem dX3_init_17 : decode cX3_init 17 = .ok (.newarray .long, 2) := by decide +kernel
theorem dX3_init_19 : decode cX3_init 19 = .ok (.putfield 15, 3) := by decide +kernel
theorem dX3_init_22 : decode cX3_init 22 = .ok (.aload_n 0, 1) := by decide +kernel
theorem dX3_init_23 : decode cX3_init 23 = .ok (.sipush 1024, 3) := by decide +kernel
theorem dX3_init_26 : decode cX3_init 26 = .ok (.newarray .int, 2) := by decide +kernel
theorem dX3_init_28 : decode cX3_init 28 = .ok (.putfield 18, 3) := by decide +kernel
theorem dX3_init_31 : decode cX3_init 31 = .ok (.return_, 1) := by decide +kernel
theorem dX4_add_0 : decode cX4_add 0 = .ok (.aload_n 0, 1) := by decide +kernel
theorem dX4_add_1 : decode cX4_add 1 = .ok (.getfield 18, 3) := by decide +kernel
theorem dX4_add_4 : decode cX4_add 4 = .ok (.bipush 30, 2) := by decide +kernel
theorem dX4_add_6 : decode cX4_add 6 = .ok (.if_icmp .ge 33, 3) := by decide +kernel
theorem dX4_add_9 : decode cX4_add 9 = .ok (.aload_n 0, 1) := by decide +kernel
theorem dX4_add_10 : decode cX4_add 10 = .ok (.getfield 9, 3) := by decide +kernel
theorem dX4_add_13 : decode cX4_add 13 = .ok (.aload_n 0, 1) := by decide +kernel
theorem dX4_add_14 : decode cX4_add 14 = .ok (.getfield 18, 3) := by decide +kernel
theorem dX4_add_17 : decode cX4_add 17 = .ok (.iload_n 1, 1) := by decide +kernel
theorem dX4_add_18 : decode cX4_add 18 = .ok (.iastore, 1) := by decide +kernel
theorem dX4_add_19 : decode cX4_add 19 = .ok (.aload_n 0, 1) := by decide +kernel
theorem dX4_add_20 : decode cX4_add 20 = .ok (.getfield 15, 3) := by decide +kernel
theorem dX4_add_23 : decode cX4_add 23 = .ok (.aload_n 0, 1) := by decide +kernel
theorem dX4_add_24 : decode cX4_add 24 = .ok (.getfield 18, 3) := by decide +kernel
theorem dX4_add_27 : decode cX4_add 27 = .ok (.iload_n 2, 1) := by decide +kernel
theorem dX4_add_28 : decode cX4_add 28 = .ok (.iastore, 1) := by decide +kernel
theorem dX4_add_29 : decode cX4_add 29 = .ok (.aload_n 0, 1) := by decide +kernel
theorem dX4_add_30 : decode cX4_add 30 = .ok (.dup, 1) := by decide +kernel
theorem dX4_add_31 : decode cX4_add 31 = .ok (.getfield 18, 3) := by decide +kernel
theorem dX4_add_34 : decode cX4_add 34 = .ok (.iconst 1, 1) := by decide +kernel
theorem dX4_add_35 : decode cX4_add 35 = .ok (.iadd, 1) := by decide +kernel
theorem dX4_add_36 : decode cX4_add 36 = .ok (.putfield 18, 3) := by decide +kernel
theorem dX4_add_39 : decode cX4_add 39 = .ok (.return_, 1) := by decide +kernel
theorem dX4_init_0 : decode cX4_init 0 = .ok (.aload_n 0, 1) := by decide +kernel
theorem dX4_init_1 : decode cX4_init 1 = .ok (.invokespecial 3, 3) := by decide +kernel
theorem dX4_init_4 : decode cX4_init 4 = .ok (.aload_n 0, 1) := by decide +kernel
theorem dX4_init_5 : decode cX4_init 5 = .ok (.bipush 30, 2) := by decide +kernel
theorem dX4_init_7 : decode cX4_init 7 = .ok (.newarray .int, 2) := by decide +kernel
theorem dX4_init_9 : decode cX4_init 9 = .ok (.putfield 9, 3) := by decide +kernel
theorem dX4_init_12 : decode cX4_init 12 = .ok (.aload_n 0, 1) := by decide +kernel
theorem dX4_init_13 : decode cX4_init 13 = .ok (.bipush 30, 2) := by decide +kernel
theorem dX4_init_15 : decode cX4_init 15 = .ok (.newarray .int, 2) := by decide +kernel
theorem dX4_init_17 : decode cX4_init 17 = .ok (.putfield 15, 3) := by decide +kernel
theorem dX4_init_20 : decode cX4_init 20 = .ok (.return_, 1) := by decide +kernel
theorem dX4_run_0 : decode cX4_run 0 = .ok (.iconst 0, 1) := by decide +kernel
theorem dX4_run_1 : decode cX4_run 1 = .ok (.istore_n 3, 1) := by decide +kernel
theorem dX4_run_2 : decode cX4_run 2 = .ok (.iload_n 3, 1) := by decide +kernel
theorem dX4_run_3 : decode cX4_run 3 = .ok (.aload_n 0, 1) := by decide +kernel
theorem dX4_run_4 : decode cX4_run 4 = .ok (.getfield 18, 3) := by decide +kernel
theorem dX4_run_7 : decode cX4_run 7 = .ok (.if_icmp .ge 43, 3) := by decide +kernel
theorem dX4_run_10 : decode cX4_run 10 = .ok (.iload_n 3, 1) := by decide +kernel
theorem dX4_run_11 : decode cX4_run 11 = .ok (.iload_n 2, 1) := by decide +kernel
theorem dX4_run_12 : decode cX4_run 12 = .ok (.if_icmp .ge 38, 3) := by decide +kernel
theorem dX4_run_15 : decode cX4_run 15 = .ok (.aload_n 1, 1) := by decide +kernel
theorem dX4_run_16 : decode cX4_run 16 = .ok (.aload_n 0, 1) := by decide +kernel
theorem dX4_run_17 : decode cX4_run 17 = .ok (.getfield 9, 3) := by decide +kernel
theorem dX4_run_20 : decode cX4_run 20 = .ok (.iload_n 3, 1) := by decide +kernel
theorem dX4_run_21 : decode cX4_run 21 = .ok (.iaload, 1) := by decide +kernel
theorem dX4_run_22 : decode cX4_run 22 = .ok (.invokevirtual 22, 3) := by decide +kernel
theorem dX4_run_25 : decode cX4_run 25 = .ok (.ifCond .eq 25, 3) := by decide +kernel
theorem dX4_run_28 : decode cX4_run 28 = .ok (.aload_n 1, 1) := by decide +kernel
theorem dX4_run_29 : decode cX4_run 29 = .ok (.aload_n 0, 1) := by decide +kernel
theorem dX4_run_30 : decode cX4_run 30 = .ok (.getfield 9, 3) := by decide +kernel
theorem dX4_run_33 : decode cX4_run 33 = .ok (.iload_n 3, 1) := by decide +kernel
theorem dX4_run_34 : decode cX4_run 34 = .ok (.iaload, 1) := by decide +kernel
theorem dX4_run_35 : decode cX4_run 35 = .ok (.aload_n 0, 1) := by decide +kernel
theorem dX4_run_36 : decode cX4_run 36 = .ok (.getfield 15, 3) := by decide +kernel
theorem dX4_run_39 : decode cX4_run 39 = .ok (.iload_n 3, 1) := by decide +kernel
theorem dX4_run_40 : decode cX4_run 40 = .ok (.iaload, 1) := by decide +kernel
theorem dX4_run_41 : decode cX4_run 41 = .ok (.invokevirtual 28, 3) := by decide +kernel
theorem dX4_run_44 : decode cX4_run 44 = .ok (.iinc 3 1, 3) := by decide +kernel
theorem dX4_run_47 : decode cX4_run 47 = .ok (.goto (-45), 3) := by decide +kernel
theorem dX4_run_50 : decode cX4_run 50 = .ok (.iload_n 3, 1) := by decide +kernel
theorem dX4_run_51 : decode cX4_run 51 = .ok (.ireturn, 1) := by decide +kernel
theorem dX5_add_0 : decode cX5_add 0 = .ok (.aload_n 0, 1) := by decide +kernel
theorem dX5_add_1 : decode cX5_add 1 = .ok (.getfield 19, 3) := by decide +kernel
theorem dX5_add_4 : decode cX5_add 4 = .ok (.sipush 500, 3) := by decide +kernel
theorem dX5_add_7 : decode cX5_add 7 = .ok (.if_icmp .ge 23, 3) := by decide +kernel
theorem dX5_add_10 : decode cX5_add 10 = .ok (.aload_n 0, 1) := by decide +kernel
theorem dX5_add_11 : decode cX5_add 11 = .ok (.getfield 15, 3) := by decide +kernel
theorem dX5_add_14 : decode cX5_add 14 = .ok (.aload_n 0, 1) := by decide +kernel
theorem dX5_add_15 : decode cX5_add 15 = .ok (.getfield 19, 3) := by decide +kernel
theorem dX5_add_18 : decode cX5_add 18 = .ok (.iload_n 1, 1) := by decide +kernel
theorem dX5_add_19 : decode cX5_add 19 = .ok (.iastore, 1) := by decide +kernel
theorem dX5_add_20 : decode cX5_add 20 = .ok (.aload_n 0, 1) := by decide +kernel
theorem dX5_add_21 : decode cX5_add 21 = .ok (.dup, 1) := by decide +kernel
theorem dX5_add_22 : decode cX5_add 22 = .ok (.getfield 19, 3) := by decide +kernel
theorem dX5_add_25 : decode cX5_add 25 = .ok (.iconst 1, 1) := by decide +kernel
theorem dX5_add_26 : decode cX5_add 26 = .ok (.iadd, 1) := by decide +kernel
theorem dX5_add_27 : decode cX5_add 27 = .ok (.putfield 19, 3) := by decide +kernel
theorem dX5_add_30 : decode cX5_add 30 = .ok (.return_, 1) := by decide +kernel
theorem dX5_init_0 : decode cX5_init 0 = .ok (.aload_n 0, 1) := by decide +kernel
theorem dX5_init_1 : decode cX5_init 1 = .ok (.invokespecial 3, 3) := by decide +kernel
theorem dX5_init_4 : decode cX5_init 4 = .ok (.aload_n 0, 1) := by decide +kernel
theorem dX5_init_5 : decode cX5_init 5 = .ok (.iconst (-1), 1) := by decide +kernel
theorem dX5_init_6 : decode cX5_init 6 = .ok (.putfield 9, 3) := by decide +kernel
theorem dX5_init_9 : decode cX5_init 9 = .ok (.aload_n 0, 1) := by decide +kernel
theorem dX5_init_10 : decode cX5_init 10 = .ok (.sipush 500, 3) := by decide +kernel
theorem dX5_init_13 : decode cX5_init 13 = .ok (.newarray .int, 2) := by decide +kernel
theorem dX5_init_15 : decode cX5_init 15 = .ok (.putfield 15, 3) := by decide +kernel
theorem dX5_init_18 : decode cX5_init 18 = .ok (.return_, 1) := by decide +kernel
theorem dX5_read_0 : decode cX5_read 0 = .ok (.aload_n 1, 1) := by decide +kernel
theorem dX5_read_1 : decode cX5_read 1 = .ok (.invokevirtual 22, 3) := by decide +kernel
theorem dX5_read_4 : decode cX5_read 4 = .ok (.aload_n 0, 1) := by decide +kernel
theorem dX5_read_5 : decode cX5_read 5 = .ok (.iconst 0, 1) := by decide +kernel
theorem dX5_read_6 : decode cX5_read 6 = .ok (.putfield 27, 3) := by decide +kernel
theorem dX5_read_9 : decode cX5_read 9 = .ok (.aload_n 0, 1) := by decide +kernel
theorem dX5_read_10 : decode cX5_read 10 = .ok (.iconst 0, 1) := by decide +kernel
theorem dX5_read_11 : decode cX5_read 11 = .ok (.putfield 30, 3) := by decide +kernel
theorem dX5_read_14 : decode cX5_read 14 = .ok (.aload_n 0, 1) := by decide +kernel
theorem dX5_read_15 : decode cX5_read 15 = .ok (.iconst (-1), 1) := by decide +kernel
theorem dX5_read_16 : decode cX5_read 16 = .ok (.putfield 9, 3) := by decide +kernel
theorem dX5_read_19 : decode cX5_read 19 = .ok (.aload_n 0, 1) := by decide +kernel
theorem dX5_read_20 : decode cX5_read 20 = .ok (.invokevirtual 33, 3) := by decide +kernel
theorem dX5_read_23 : decode cX5_read 23 = .ok (.iconst 0, 1) := by decide +kernel
theorem dX5_read_24 : decode cX5_read 24 = .ok (.istore_n 2, 1) := by decide +kernel
theorem dX5_read_25 : decode cX5_read 25 = .ok (.iload_n 2, 1) := by decide +kernel
theorem dX5_read_26 : decode cX5_read 26 = .ok (.sipush 500, 3) := by decide +kernel
theorem dX5_read_29 : decode cX5_read 29 = .ok (.if_icmp .ge 36, 3) := by decide +kernel
theorem dX5_read_32 : decode cX5_read 32 = .ok (.aload_n 0, 1) := by decide +kernel
theorem dX5_read_33 : decode cX5_read 33 = .ok (.getfield 27, 3) := by decide +kernel
theorem dX5_read_36 : decode cX5_read 36 = .ok (.aload_n 0, 1) := by decide +kernel
theorem dX5_read_37 : decode cX5_read 37 = .ok (.getfield 19, 3) := by decide +kernel
theorem dX5_read_40 : decode cX5_read 40 = .ok (.if_icmp .ge 25, 3) := by decide +kernel
theorem dX5_read_43 : decode cX5_read 43 = .ok (.aload_n 0, 1) := by decide +kernel
theorem dX5_read_44 : decode cX5_read 44 = .ok (.getfield 30, 3) := by decide +kernel
theorem dX5_read_47 : decode cX5_read 47 = .ok (.ifCond .ne 18, 3) := by decide +kernel
theorem dX5_read_50 : decode cX5_read 50 = .ok (.aload_n 0, 1) := by decide +kernel
theorem dX5_read_51 : decode cX5_read 51 = .ok (.aload_n 1, 1) := by decide +kernel
theorem dX5_read_52 : decode cX5_read 52 = .ok (.invokevirtual 36, 3) := by decide +kernel
theorem dX5_read_55 : decode cX5_read 55 = .ok (.aload_n 0, 1) := by decide +kernel
theorem dX5_read_56 : decode cX5_read 56 = .ok (.invokevirtual 33, 3) := by decide +kernel
theorem dX5_read_59 : decode cX5_read 59 = .ok (.iinc 2 1, 3) := by decide +kernel
theorem dX5_read_62 : decode cX5_read 62 = .ok (.goto (-37), 3) := by decide +kernel
theorem dX5_read_65 : decode cX5_read 65 = .ok (.aload_n 1, 1) := by decide +kernel
theorem dX5_read_66 : decode cX5_read 66 = .ok (.getfield 40, 3) := by decide +kernel
theorem dX5_read_69 : decode cX5_read 69 = .ok (.ifCond .ne 19, 3) := by decide +kernel
theorem dX5_read_72 : decode cX5_read 72 = .ok (.aload_n 0, 1) := by decide +kernel
theorem dX5_read_73 : decode cX5_read 73 = .ok (.getfield 19, 3) := by decide +kernel
theorem dX5_read_76 : decode cX5_read 76 = .ok (.ifCond .le 12, 3) := by decide +kernel
theorem dX5_read_79 : decode cX5_read 79 = .ok (.aload_n 0, 1) := by decide +kernel
theorem dX5_read_80 : decode cX5_read 80 = .ok (.iconst 1, 1) := by decide +kernel
theorem dX5_read_81 : decode cX5_read 81 = .ok (.aload_n 0, 1) := by decide +kernel
theorem dX5_read_82 : decode cX5_read 82 = .ok (.getfield 19, 3) := by decide +kernel
theorem dX5_read_85 : decode cX5_read 85 = .ok (.invokevirtual 43, 3) := by decide +kernel
theorem dX5_read_88 : decode cX5_read 88 = .ok (.aload_n 1, 1) := by decide +kernel
theorem dX5_read_89 : decode cX5_read 89 = .ok (.invokevirtual 47, 3) := by decide +kernel
theorem dX5_read_92 : decode cX5_read 92 = .ok (.aload_n 0, 1) := by decide +kernel
theorem dX5_read_93 : decode cX5_read 93 = .ok (.getfield 30, 3) := by decide +kernel
theorem dX5_read_96 : decode cX5_read 96 = .ok (.ifCond .ne 7, 3) := by decide +kernel
theorem dX5_read_99 : decode cX5_read 99 = .ok (.iconst 1, 1) := by decide +kernel
theorem dX5_read_100 : decode cX5_read 100 = .ok (.goto 4, 3) := by decide +kernel
theorem dX5_read_103 : decode cX5_read 103 = .ok (.iconst 0, 1) := by decide +kernel
theorem dX5_read_104 : decode cX5_read 104 = .ok (.ireturn, 1) := by decide +kernel
theorem dX5_skipBlanks_0 : decode cX5_skipBlanks 0 = .ok (.aload_n 0, 1) := by decide +kernel
theorem dX5_skipBlanks_1 : decode cX5_skipBlanks 1 = .ok (.getfield 27, 3) := by decide +kernel
theorem dX5_skipBlanks_4 : decode cX5_skipBlanks 4 = .ok (.aload_n 0, 1) := by decide +kernel
theorem dX5_skipBlanks_5 : decode cX5_skipBlanks 5 = .ok (.getfield 19, 3) := by decide +kernel
theorem dX5_skipBlanks_8 : decode cX5_skipBlanks 8 = .ok (.if_icmp .ge 30, 3) := by decide +kernel
theorem dX5_skipBlanks_11 : decode cX5_skipBlanks 11 = .ok (.aload_n 0, 1) := by decide +kernel
theorem dX5_skipBlanks_12 : decode cX5_skipBlanks 12 = .ok (.getfield 15, 3) := by decide +kernel
theorem dX5_skipBlanks_15 : decode cX5_skipBlanks 15 = .ok (.aload_n 0, 1) := by decide +kernel
theorem dX5_skipBlanks_16 : decode cX5_skipBlanks 16 = .ok (.getfield 27, 3) := by decide +kernel
theorem dX5_skipBlanks_19 : decode cX5_skipBlanks 19 = .ok (.iaload, 1) := by decide +kernel
theorem dX5_skipBlanks_20 : decode cX5_skipBlanks 20 = .ok (.bipush 32, 2) := by decide +kernel
theorem dX5_skipBlanks_22 : decode cX5_skipBlanks 22 = .ok (.if_icmp .ne 16, 3) := by decide +kernel
theorem dX5_skipBlanks_25 : decode cX5_skipBlanks 25 = .ok (.aload_n 0, 1) := by decide +kernel
theorem dX5_skipBlanks_26 : decode cX5_skipBlanks 26 = .ok (.dup, 1) := by decide +kernel
theorem dX5_skipBlanks_27 : decode cX5_skipBlanks 27 = .ok (.getfield 27, 3) := by decide +kernel
theorem dX5_skipBlanks_30 : decode cX5_skipBlanks 30 = .ok (.iconst 1, 1) := by decide +kernel
theorem dX5_skipBlanks_31 : decode cX5_skipBlanks 31 = .ok (.iadd, 1) := by decide +kernel
theorem dX5_skipBlanks_32 : decode cX5_skipBlanks 32 = .ok (.putfield 27, 3) := by decide +kernel
theorem dX5_skipBlanks_35 : decode cX5_skipBlanks 35 = .ok (.goto (-35), 3) := by decide +kernel
theorem dX5_skipBlanks_38 : decode cX5_skipBlanks 38 = .ok (.return_, 1) := by decide +kernel
theorem dX6_begin_0 : decode cX6_begin 0 = .ok (.aload_n 0, 1) := by decide +kernel
theorem dX6_begin_1 : decode cX6_begin 1 = .ok (.aload_n 0, 1) := by decide +kernel
theorem dX6_begin_2 : decode cX6_begin 2 = .ok (.getfield 18, 3) := by decide +kernel
theorem dX6_begin_5 : decode cX6_begin 5 = .ok (.getfield 26, 3) := by decide +kernel
theorem dX6_begin_8 : decode cX6_begin 8 = .ok (.putfield 32, 3) := by decide +kernel
theorem dX6_begin_11 : decode cX6_begin 11 = .ok (.aload_n 0, 1) := by decide +kernel
theorem dX6_begin_12 : decode cX6_begin 12 = .ok (.iconst 0, 1) := by decide +kernel
theorem dX6_begin_13 : decode cX6_begin 13 = .ok (.putfield 33, 3) := by decide +kernel
theorem dX6_begin_16 : decode cX6_begin 16 = .ok (.iconst 0, 1) := by decide +kernel
theorem dX6_begin_17 : decode cX6_begin 17 = .ok (.istore_n 1, 1) := by decide +kernel
theorem dX6_begin_18 : decode cX6_begin 18 = .ok (.iload_n 1, 1) := by decide +kernel
theorem dX6_begin_19 : decode cX6_begin 19 = .ok (.bipush 6, 2) := by decide +kernel
theorem dX6_begin_21 : decode cX6_begin 21 = .ok (.if_icmp .ge 31, 3) := by decide +kernel
theorem dX6_begin_24 : decode cX6_begin 24 = .ok (.aload_n 0, 1) := by decide +kernel
theorem dX6_begin_25 : decode cX6_begin 25 = .ok (.getfield 9, 3) := by decide +kernel
theorem dX6_begin_28 : decode cX6_begin 28 = .ok (.iload_n 1, 1) := by decide +kernel
theorem dX6_begin_29 : decode cX6_begin 29 = .ok (.aload_n 0, 1) := by decide +kernel
theorem dX6_begin_30 : decode cX6_begin 30 = .ok (.getfield 18, 3) := by decide +kernel
theorem dX6_begin_33 : decode cX6_begin 33 = .ok (.getfield 36, 3) := by decide +kernel
theorem dX6_begin_36 : decode cX6_begin 36 = .ok (.iload_n 1, 1) := by decide +kernel
theorem dX6_begin_37 : decode cX6_begin 37 = .ok (.iaload, 1) := by decide +kernel
theorem dX6_begin_38 : decode cX6_begin 38 = .ok (.iastore, 1) := by decide +kernel
theorem dX6_begin_39 : decode cX6_begin 39 = .ok (.aload_n 0, 1) := by decide +kernel
theorem dX6_begin_40 : decode cX6_begin 40 = .ok (.getfield 15, 3) := by decide +kernel
theorem dX6_begin_43 : decode cX6_begin 43 = .ok (.iload_n 1, 1) := by decide +kernel
theorem dX6_begin_44 : decode cX6_begin 44 = .ok (.iconst (-1), 1) := by decide +kernel
theorem dX6_begin_45 : decode cX6_begin 45 = .ok (.iastore, 1) := by decide +kernel
theorem dX6_begin_46 : decode cX6_begin 46 = .ok (.iinc 1 1, 3) := by decide +kernel
theorem dX6_begin_49 : decode cX6_begin 49 = .ok (.goto (-31), 3) := by decide +kernel
theorem dX6_begin_52 : decode cX6_begin 52 = .ok (.return_, 1) := by decide +kernel
theorem dX6_copy_0 : decode cX6_copy 0 = .ok (.aload_n 0, 1) := by decide +kernel
theorem dX6_copy_1 : decode cX6_copy 1 = .ok (.aload_n 1, 1) := by decide +kernel
theorem dX6_copy_2 : decode cX6_copy 2 = .ok (.getfield 32, 3) := by decide +kernel
theorem dX6_copy_5 : decode cX6_copy 5 = .ok (.putfield 32, 3) := by decide +kernel
theorem dX6_copy_8 : decode cX6_copy 8 = .ok (.aload_n 0, 1) := by decide +kernel
theorem dX6_copy_9 : decode cX6_copy 9 = .ok (.aload_n 1, 1) := by decide +kernel
theorem dX6_copy_10 : decode cX6_copy 10 = .ok (.getfield 33, 3) := by decide +kernel
theorem dX6_copy_13 : decode cX6_copy 13 = .ok (.putfield 33, 3) := by decide +kernel
theorem dX6_copy_16 : decode cX6_copy 16 = .ok (.iconst 0, 1) := by decide +kernel
theorem dX6_copy_17 : decode cX6_copy 17 = .ok (.istore_n 2, 1) := by decide +kernel
theorem dX6_copy_18 : decode cX6_copy 18 = .ok (.iload_n 2, 1) := by decide +kernel
theorem dX6_copy_19 : decode cX6_copy 19 = .ok (.aload_n 0, 1) := by decide +kernel
theorem dX6_copy_20 : decode cX6_copy 20 = .ok (.getfield 18, 3) := by decide +kernel
theorem dX6_copy_23 : decode cX6_copy 23 = .ok (.getfield 39, 3) := by decide +kernel
theorem dX6_copy_26 : decode cX6_copy 26 = .ok (.if_icmp .ge 33, 3) := by decide +kernel
theorem dX6_copy_29 : decode cX6_copy 29 = .ok (.aload_n 0, 1) := by decide +kernel
theorem dX6_copy_30 : decode cX6_copy 30 = .ok (.getfield 9, 3) := by decide +kernel
theorem dX6_copy_33 : decode cX6_copy 33 = .ok (.iload_n 2, 1) := by decide +kernel
theorem dX6_copy_34 : decode cX6_copy 34 = .ok (.aload_n 1, 1) := by decide +kernel
theorem dX6_copy_35 : decode cX6_copy 35 = .ok (.getfield 9, 3) := by decide +kernel
theorem dX6_copy_38 : decode cX6_copy 38 = .ok (.iload_n 2, 1) := by decide +kernel
theorem dX6_copy_39 : decode cX6_copy 39 = .ok (.iaload, 1) := by decide +kernel
theorem dX6_copy_40 : decode cX6_copy 40 = .ok (.iastore, 1) := by decide +kernel
theorem dX6_copy_41 : decode cX6_copy 41 = .ok (.aload_n 0, 1) := by decide +kernel
theorem dX6_copy_42 : decode cX6_copy 42 = .ok (.getfield 15, 3) := by decide +kernel
theorem dX6_copy_45 : decode cX6_copy 45 = .ok (.iload_n 2, 1) := by decide +kernel
theorem dX6_copy_46 : decode cX6_copy 46 = .ok (.aload_n 1, 1) := by decide +kernel
theorem dX6_copy_47 : decode cX6_copy 47 = .ok (.getfield 15, 3) := by decide +kernel
theorem dX6_copy_50 : decode cX6_copy 50 = .ok (.iload_n 2, 1) := by decide +kernel
theorem dX6_copy_51 : decode cX6_copy 51 = .ok (.iaload, 1) := by decide +kernel
theorem dX6_copy_52 : decode cX6_copy 52 = .ok (.iastore, 1) := by decide +kernel
theorem dX6_copy_53 : decode cX6_copy 53 = .ok (.iinc 2 1, 3) := by decide +kernel
theorem dX6_copy_56 : decode cX6_copy 56 = .ok (.goto (-38), 3) := by decide +kernel
theorem dX6_copy_59 : decode cX6_copy 59 = .ok (.return_, 1) := by decide +kernel
theorem dX6_heads_0 : decode cX6_heads 0 = .ok (.iconst 0, 1) := by decide +kernel
theorem dX6_heads_1 : decode cX6_heads 1 = .ok (.istore_n 3, 1) := by decide +kernel
theorem dX6_heads_2 : decode cX6_heads 2 = .ok (.iconst 0, 1) := by decide +kernel
theorem dX6_heads_3 : decode cX6_heads 3 = .ok (.istore 4, 2) := by decide +kernel
theorem dX6_heads_5 : decode cX6_heads 5 = .ok (.iload 4, 2) := by decide +kernel
theorem dX6_heads_7 : decode cX6_heads 7 = .ok (.aload_n 0, 1) := by decide +kernel
theorem dX6_heads_8 : decode cX6_heads 8 = .ok (.getfield 18, 3) := by decide +kernel
theorem dX6_heads_11 : decode cX6_heads 11 = .ok (.getfield 39, 3) := by decide +kernel
theorem dX6_heads_14 : decode cX6_heads 14 = .ok (.if_icmp .ge 50, 3) := by decide +kernel
theorem dX6_heads_17 : decode cX6_heads 17 = .ok (.iload_n 1, 1) := by decide +kernel
theorem dX6_heads_18 : decode cX6_heads 18 = .ok (.iconst (-1), 1) := by decide +kernel
theorem dX6_heads_19 : decode cX6_heads 19 = .ok (.if_icmp .eq 17, 3) := by decide +kernel
theorem dX6_heads_22 : decode cX6_heads 22 = .ok (.aload_n 0, 1) := by decide +kernel
theorem dX6_heads_23 : decode cX6_heads 23 = .ok (.getfield 18, 3) := by decide +kernel
theorem dX6_heads_26 : decode cX6_heads 26 = .ok (.getfield 94, 3) := by decide +kernel
theorem dX6_heads_29 : decode cX6_heads 29 = .ok (.iload 4, 2) := by decide +kernel
theorem dX6_heads_31 : decode cX6_heads 31 = .ok (.iaload, 1) := by decide +kernel
theorem dX6_heads_32 : decode cX6_heads 32 = .ok (.iload_n 1, 1) := by decide +kernel
theorem dX6_heads_33 : decode cX6_heads 33 = .ok (.if_icmp .ne 25, 3) := by decide +kernel
theorem dX6_heads_36 : decode cX6_heads 36 = .ok (.aload_n 0, 1) := by decide +kernel
theorem dX6_heads_37 : decode cX6_heads 37 = .ok (.iload 4, 2) := by decide +kernel
theorem dX6_heads_39 : decode cX6_heads 39 = .ok (.invokevirtual 82, 3) := by decide +kernel
theorem dX6_heads_42 : decode cX6_heads 42 = .ok (.iload_n 2, 1) := by decide +kernel
theorem dX6_heads_43 : decode cX6_heads 43 = .ok (.if_icmp .ne 15, 3) := by decide +kernel
theorem dX6_heads_46 : decode cX6_heads 46 = .ok (.iload_n 3, 1) := by decide +kernel
theorem dX6_heads_47 : decode cX6_heads 47 = .ok (.aload_n 0, 1) := by decide +kernel
theorem dX6_heads_48 : decode cX6_heads 48 = .ok (.getfield 18, 3) := by decide +kernel
theorem dX6_heads_51 : decode cX6_heads 51 = .ok (.iload 4, 2) := by decide +kernel
theorem dX6_heads_53 : decode cX6_heads 53 = .ok (.invokevirtual 88, 3) := by decide +kernel
theorem dX6_heads_56 : decode cX6_heads 56 = .ok (.iadd, 1) := by decide +kernel
theorem dX6_heads_57 : decode cX6_heads 57 = .ok (.istore_n 3, 1) := by decide +kernel
theorem dX6_heads_58 : decode cX6_heads 58 = .ok (.iinc 4 1, 3) := by decide +kernel
theorem dX6_heads_61 : decode cX6_heads 61 = .ok (.goto (-56), 3) := by decide +kernel
theorem dX6_heads_64 : decode cX6_heads 64 = .ok (.iload_n 3, 1) := by decide +kernel
theorem dX6_heads_65 : decode cX6_heads 65 = .ok (.ireturn, 1) := by decide +kernel
theorem dX6_init_0 : decode cX6_init 0 = .ok (.aload_n 0, 1) := by decide +kernel
theorem dX6_init_1 : decode cX6_init 1 = .ok (.invokespecial 3, 3) := by decide +kernel
theorem dX6_init_4 : decode cX6_init 4 = .ok (.aload_n 0, 1) := by decide +kernel
theorem dX6_init_5 : decode cX6_init 5 = .ok (.bipush 6, 2) := by decide +kernel
theorem dX6_init_7 : decode cX6_init 7 = .ok (.newarray .int, 2) := by decide +kernel
theorem dX6_init_9 : decode cX6_init 9 = .ok (.putfield 9, 3) := by decide +kernel
theorem dX6_init_12 : decode cX6_init 12 = .ok (.aload_n 0, 1) := by decide +kernel
theorem dX6_init_13 : decode cX6_init 13 = .ok (.bipush 6, 2) := by decide +kernel
theorem dX6_init_15 : decode cX6_init 15 = .ok (.newarray .int, 2) := by decide +kernel
theorem dX6_init_17 : decode cX6_init 17 = .ok (.putfield 15, 3) := by decide +kernel
theorem dX6_init_20 : decode cX6_init 20 = .ok (.aload_n 0, 1) := by decide +kernel
theorem dX6_init_21 : decode cX6_init 21 = .ok (.aload_n 1, 1) := by decide +kernel
theorem dX6_init_22 : decode cX6_init 22 = .ok (.putfield 18, 3) := by decide +kernel
theorem dX6_init_25 : decode cX6_init 25 = .ok (.aload_n 0, 1) := by decide +kernel
theorem dX6_init_26 : decode cX6_init 26 = .ok (.aload_n 2, 1) := by decide +kernel
theorem dX6_init_27 : decode cX6_init 27 = .ok (.putfield 22, 3) := by decide +kernel
theorem dX6_init_30 : decode cX6_init 30 = .ok (.return_, 1) := by decide +kernel
theorem dX6_left_0 : decode cX6_left 0 = .ok (.iconst 0, 1) := by decide +kernel
theorem dX6_left_1 : decode cX6_left 1 = .ok (.istore_n 1, 1) := by decide +kernel
theorem dX6_left_2 : decode cX6_left 2 = .ok (.iconst 0, 1) := by decide +kernel
theorem dX6_left_3 : decode cX6_left 3 = .ok (.istore_n 2, 1) := by decide +kernel
theorem dX6_left_4 : decode cX6_left 4 = .ok (.iload_n 2, 1) := by decide +kernel
theorem dX6_left_5 : decode cX6_left 5 = .ok (.aload_n 0, 1) := by decide +kernel
theorem dX6_left_6 : decode cX6_left 6 = .ok (.getfield 18, 3) := by decide +kernel
theorem dX6_left_9 : decode cX6_left 9 = .ok (.getfield 39, 3) := by decide +kernel
theorem dX6_left_12 : decode cX6_left 12 = .ok (.if_icmp .ge 41, 3) := by decide +kernel
theorem dX6_left_15 : decode cX6_left 15 = .ok (.iload_n 1, 1) := by decide +kernel
theorem dX6_left_16 : decode cX6_left 16 = .ok (.aload_n 0, 1) := by decide +kernel
theorem dX6_left_17 : decode cX6_left 17 = .ok (.iload_n 2, 1) := by decide +kernel
theorem dX6_left_18 : decode cX6_left 18 = .ok (.invokevirtual 82, 3) := by decide +kernel
theorem dX6_left_21 : decode cX6_left 21 = .ok (.ifCond .ne 15, 3) := by decide +kernel
theorem dX6_left_24 : decode cX6_left 24 = .ok (.aload_n 0, 1) := by decide +kernel
theorem dX6_left_25 : decode cX6_left 25 = .ok (.getfield 18, 3) := by decide +kernel
theorem dX6_left_28 : decode cX6_left 28 = .ok (.getfield 97, 3) := by decide +kernel
theorem dX6_left_31 : decode cX6_left 31 = .ok (.iload_n 2, 1) := by decide +kernel
theorem dX6_left_32 : decode cX6_left 32 = .ok (.iaload, 1) := by decide +kernel
theorem dX6_left_33 : decode cX6_left 33 = .ok (.goto 12, 3) := by decide +kernel
theorem dX6_left_36 : decode cX6_left 36 = .ok (.aload_n 0, 1) := by decide +kernel
theorem dX6_left_37 : decode cX6_left 37 = .ok (.getfield 18, 3) := by decide +kernel
theorem dX6_left_40 : decode cX6_left 40 = .ok (.getfield 100, 3) := by decide +kernel
theorem dX6_left_43 : decode cX6_left 43 = .ok (.iload_n 2, 1) := by decide +kernel
theorem dX6_left_44 : decode cX6_left 44 = .ok (.iaload, 1) := by decide +kernel
theorem dX6_left_45 : decode cX6_left 45 = .ok (.iadd, 1) := by decide +kernel
theorem dX6_left_46 : decode cX6_left 46 = .ok (.istore_n 1, 1) := by decide +kernel
theorem dX6_left_47 : decode cX6_left 47 = .ok (.iinc 2 1, 3) := by decide +kernel
theorem dX6_left_50 : decode cX6_left 50 = .ok (.goto (-46), 3) := by decide +kernel
theorem dX6_left_53 : decode cX6_left 53 = .ok (.iload_n 1, 1) := by decide +kernel
theorem dX6_left_54 : decode cX6_left 54 = .ok (.ireturn, 1) := by decide +kernel
theorem dX6_may_0 : decode cX6_may 0 = .ok (.aload_n 0, 1) := by decide +kernel
theorem dX6_may_1 : decode cX6_may 1 = .ok (.getfield 22, 3) := by decide +kernel
theorem dX6_may_4 : decode cX6_may 4 = .ok (.getfield 42, 3) := by decide +kernel
theorem dX6_may_7 : decode cX6_may 7 = .ok (.ifCond .eq 7, 3) := by decide +kernel
theorem dX6_may_10 : decode cX6_may 10 = .ok (.iload_n 1, 1) := by decide +kernel
theorem dX6_may_11 : decode cX6_may 11 = .ok (.ifCond .ne 19, 3) := by decide +kernel
theorem dX6_may_14 : decode cX6_may 14 = .ok (.aload_n 0, 1) := by decide +kernel
theorem dX6_may_15 : decode cX6_may 15 = .ok (.getfield 22, 3) := by decide +kernel
theorem dX6_may_18 : decode cX6_may 18 = .ok (.getfield 42, 3) := by decide +kernel
theorem dX6_may_21 : decode cX6_may 21 = .ok (.ifCond .le 7, 3) := by decide +kernel
theorem dX6_may_24 : decode cX6_may 24 = .ok (.iconst 1, 1) := by decide +kernel
theorem dX6_may_25 : decode cX6_may 25 = .ok (.goto 4, 3) := by decide +kernel
theorem dX6_may_28 : decode cX6_may 28 = .ok (.iconst 0, 1) := by decide +kernel
theorem dX6_may_29 : decode cX6_may 29 = .ok (.ireturn, 1) := by decide +kernel
theorem dX6_may_30 : decode cX6_may 30 = .ok (.aload_n 0, 1) := by decide +kernel
theorem dX6_may_31 : decode cX6_may 31 = .ok (.getfield 22, 3) := by decide +kernel
theorem dX6_may_34 : decode cX6_may 34 = .ok (.aload_n 0, 1) := by decide +kernel
theorem dX6_may_35 : decode cX6_may 35 = .ok (.getfield 22, 3) := by decide +kernel
theorem dX6_may_38 : decode cX6_may 38 = .ok (.aload_n 0, 1) := by decide +kernel
theorem dX6_may_39 : decode cX6_may 39 = .ok (.getfield 32, 3) := by decide +kernel
theorem dX6_may_42 : decode cX6_may 42 = .ok (.iload_n 1, 1) := by decide +kernel
theorem dX6_may_43 : decode cX6_may 43 = .ok (.invokevirtual 47, 3) := by decide +kernel
theorem dX6_may_46 : decode cX6_may 46 = .ok (.invokevirtual 51, 3) := by decide +kernel
theorem dX6_may_49 : decode cX6_may 49 = .ok (.istore_n 2, 1) := by decide +kernel
theorem dX6_may_50 : decode cX6_may 50 = .ok (.iload_n 2, 1) := by decide +kernel
theorem dX6_may_51 : decode cX6_may 51 = .ok (.iconst 1, 1) := by decide +kernel
theorem dX6_may_52 : decode cX6_may 52 = .ok (.if_icmp .eq 12, 3) := by decide +kernel
theorem dX6_may_55 : decode cX6_may 55 = .ok (.iload_n 2, 1) := by decide +kernel
theorem dX6_may_56 : decode cX6_may 56 = .ok (.iconst 2, 1) := by decide +kernel
theorem dX6_may_57 : decode cX6_may 57 = .ok (.if_icmp .eq 7, 3) := by decide +kernel
theorem dX6_may_60 : decode cX6_may 60 = .ok (.iconst 1, 1) := by decide +kernel
theorem dX6_may_61 : decode cX6_may 61 = .ok (.goto 4, 3) := by decide +kernel
theorem dX6_may_64 : decode cX6_may 64 = .ok (.iconst 0, 1) := by decide +kernel
theorem dX6_may_65 : decode cX6_may 65 = .ok (.ireturn, 1) := by decide +kernel
theorem dX6_worth_0 : decode cX6_worth 0 = .ok (.aload_n 0, 1) := by decide +kernel
theorem dX6_worth_1 : decode cX6_worth 1 = .ok (.getfield 18, 3) := by decide +kernel
theorem dX6_worth_4 : decode cX6_worth 4 = .ok (.getfield 103, 3) := by decide +kernel
theorem dX6_worth_7 : decode cX6_worth 7 = .ok (.aload_n 0, 1) := by decide +kernel
theorem dX6_worth_8 : decode cX6_worth 8 = .ok (.iconst (-1), 1) := by decide +kernel
theorem dX6_worth_9 : decode cX6_worth 9 = .ok (.iconst 1, 1) := by decide +kernel
theorem dX6_worth_10 : decode cX6_worth 10 = .ok (.invokevirtual 106, 3) := by decide +kernel
theorem dX6_worth_13 : decode cX6_worth 13 = .ok (.imul, 1) := by decide +kernel
theorem dX6_worth_14 : decode cX6_worth 14 = .ok (.aload_n 0, 1) := by decide +kernel
theorem dX6_worth_15 : decode cX6_worth 15 = .ok (.getfield 18, 3) := by decide +kernel
theorem dX6_worth_18 : decode cX6_worth 18 = .ok (.getfield 108, 3) := by decide +kernel
theorem dX6_worth_21 : decode cX6_worth 21 = .ok (.aload_n 0, 1) := by decide +kernel
theorem dX6_worth_22 : decode cX6_worth 22 = .ok (.iconst (-1), 1) := by decide +kernel
theorem dX6_worth_23 : decode cX6_worth 23 = .ok (.iconst 2, 1) := by decide +kernel
theorem dX6_worth_24 : decode cX6_worth 24 = .ok (.invokevirtual 106, 3) := by decide +kernel
theorem dX6_worth_27 : decode cX6_worth 27 = .ok (.imul, 1) := by decide +kernel
theorem dX6_worth_28 : decode cX6_worth 28 = .ok (.isub, 1) := by decide +kernel
theorem dX6_worth_29 : decode cX6_worth 29 = .ok (.ireturn, 1) := by decide +kernel
theorem dX7_init_0 : decode cX7_init 0 = .ok (.aload_n 0, 1) := by decide +kernel
theorem dX7_init_1 : decode cX7_init 1 = .ok (.invokespecial 3, 3) := by decide +kernel
theorem dX7_init_4 : decode cX7_init 4 = .ok (.aload_n 0, 1) := by decide +kernel
theorem dX7_init_5 : decode cX7_init 5 = .ok (.bipush 10, 2) := by decide +kernel
theorem dX7_init_7 : decode cX7_init 7 = .ok (.newarray .int, 2) := by decide +kernel
theorem dX7_init_9 : decode cX7_init 9 = .ok (.putfield 9, 3) := by decide +kernel
theorem dX7_init_12 : decode cX7_init 12 = .ok (.aload_n 0, 1) := by decide +kernel
theorem dX7_init_13 : decode cX7_init 13 = .ok (.bipush 10, 2) := by decide +kernel
theorem dX7_init_15 : decode cX7_init 15 = .ok (.newarray .int, 2) := by decide +kernel
theorem dX7_init_17 : decode cX7_init 17 = .ok (.putfield 15, 3) := by decide +kernel
theorem dX7_init_20 : decode cX7_init 20 = .ok (.aload_n 0, 1) := by decide +kernel
theorem dX7_init_21 : decode cX7_init 21 = .ok (.bipush 10, 2) := by decide +kernel
theorem dX7_init_23 : decode cX7_init 23 = .ok (.newarray .int, 2) := by decide +kernel
theorem dX7_init_25 : decode cX7_init 25 = .ok (.putfield 18, 3) := by decide +kernel
theorem dX7_init_28 : decode cX7_init 28 = .ok (.return_, 1) := by decide +kernel
theorem dX8_forget_0 : decode cX8_forget 0 = .ok (.aload_n 0, 1) := by decide +kernel
theorem dX8_forget_1 : decode cX8_forget 1 = .ok (.iconst 0, 1) := by decide +kernel
theorem dX8_forget_2 : decode cX8_forget 2 = .ok (.putfield 39, 3) := by decide +kernel
theorem dX8_forget_5 : decode cX8_forget 5 = .ok (.return_, 1) := by decide +kernel
theorem dX8_init_0 : decode cX8_init 0 = .ok (.aload_n 0, 1) := by decide +kernel
theorem dX8_init_1 : decode cX8_init 1 = .ok (.invokespecial 3, 3) := by decide +kernel
theorem dX8_init_4 : decode cX8_init 4 = .ok (.aload_n 0, 1) := by decide +kernel
theorem dX8_init_5 : decode cX8_init 5 = .ok (.bipush 7, 2) := by decide +kernel
theorem dX8_init_7 : decode cX8_init 7 = .ok (.anewarray 9, 3) := by decide +kernel
theorem dX8_init_10 : decode cX8_init 10 = .ok (.putfield 11, 3) := by decide +kernel
theorem dX8_init_13 : decode cX8_init 13 = .ok (.aload_n 0, 1) := by decide +kernel
theorem dX8_init_14 : decode cX8_init 14 = .ok (.bipush 6, 2) := by decide +kernel
theorem dX8_init_16 : decode cX8_init 16 = .ok (.newarray .int, 2) := by decide +kernel
theorem dX8_init_18 : decode cX8_init 18 = .ok (.putfield 17, 3) := by decide +kernel
theorem dX8_init_21 : decode cX8_init 21 = .ok (.aload_n 0, 1) := by decide +kernel
theorem dX8_init_22 : decode cX8_init 22 = .ok (.bipush 42, 2) := by decide +kernel
theorem dX8_init_24 : decode cX8_init 24 = .ok (.newarray .int, 2) := by decide +kernel
theorem dX8_init_26 : decode cX8_init 26 = .ok (.putfield 21, 3) := by decide +kernel
theorem dX8_init_29 : decode cX8_init 29 = .ok (.aload_n 0, 1) := by decide +kernel
theorem dX8_init_30 : decode cX8_init 30 = .ok (.aload_n 1, 1) := by decide +kernel
theorem dX8_init_31 : decode cX8_init 31 = .ok (.putfield 24, 3) := by decide +kernel
theorem dX8_init_34 : decode cX8_init 34 = .ok (.aload_n 0, 1) := by decide +kernel
theorem dX8_init_35 : decode cX8_init 35 = .ok (.aload_n 2, 1) := by decide +kernel
theorem dX8_init_36 : decode cX8_init 36 = .ok (.putfield 28, 3) := by decide +kernel
theorem dX8_init_39 : decode cX8_init 39 = .ok (.aload_n 0, 1) := by decide +kernel
theorem dX8_init_40 : decode cX8_init 40 = .ok (.aload_n 3, 1) := by decide +kernel
theorem dX8_init_41 : decode cX8_init 41 = .ok (.putfield 32, 3) := by decide +kernel
theorem dX8_init_44 : decode cX8_init 44 = .ok (.iconst 0, 1) := by decide +kernel
theorem dX8_init_45 : decode cX8_init 45 = .ok (.istore 4, 2) := by decide +kernel
theorem dX8_init_47 : decode cX8_init 47 = .ok (.iload 4, 2) := by decide +kernel
theorem dX8_init_49 : decode cX8_init 49 = .ok (.bipush 6, 2) := by decide +kernel
theorem dX8_init_51 : decode cX8_init 51 = .ok (.if_icmp .gt 25, 3) := by decide +kernel
theorem dX8_init_54 : decode cX8_init 54 = .ok (.aload_n 0, 1) := by decide +kernel
theorem dX8_init_55 : decode cX8_init 55 = .ok (.getfield 11, 3) := by decide +kernel
theorem dX8_init_58 : decode cX8_init 58 = .ok (.iload 4, 2) := by decide +kernel
theorem dX8_init_60 : decode cX8_init 60 = .ok (.new 9, 3) := by decide +kernel
theorem dX8_init_63 : decode cX8_init 63 = .ok (.dup, 1) := by decide +kernel
theorem dX8_init_64 : decode cX8_init 64 = .ok (.aload_n 1, 1) := by decide +kernel
theorem dX8_init_65 : decode cX8_init 65 = .ok (.aload_n 2, 1) := by decide +kernel
theorem dX8_init_66 : decode cX8_init 66 = .ok (.invokespecial 36, 3) := by decide +kernel
theorem dX8_init_69 : decode cX8_init 69 = .ok (.aastore, 1) := by decide +kernel
theorem dX8_init_70 : decode cX8_init 70 = .ok (.iinc 4 1, 3) := by decide +kernel
theorem dX8_init_73 : decode cX8_init 73 = .ok (.goto (-26), 3) := by decide +kernel
theorem dX8_init_76 : decode cX8_init 76 = .ok (.return_, 1) := by decide +kernel
theorem dX9_clear_0 : decode cX9_clear 0 = .ok (.aload_n 0, 1) := by decide +kernel
theorem dX9_clear_1 : decode cX9_clear 1 = .ok (.iconst 0, 1) := by decide +kernel
theorem dX9_clear_2 : decode cX9_clear 2 = .ok (.putfield 36, 3) := by decide +kernel
theorem dX9_clear_5 : decode cX9_clear 5 = .ok (.aload_n 0, 1) := by decide +kernel
theorem dX9_clear_6 : decode cX9_clear 6 = .ok (.iconst 0, 1) := by decide +kernel
theorem dX9_clear_7 : decode cX9_clear 7 = .ok (.putfield 40, 3) := by decide +kernel
theorem dX9_clear_10 : decode cX9_clear 10 = .ok (.aload_n 0, 1) := by decide +kernel
theorem dX9_clear_11 : decode cX9_clear 11 = .ok (.iconst 0, 1) := by decide +kernel
theorem dX9_clear_12 : decode cX9_clear 12 = .ok (.putfield 43, 3) := by decide +kernel
theorem dX9_clear_15 : decode cX9_clear 15 = .ok (.aload_n 0, 1) := by decide +kernel
theorem dX9_clear_16 : decode cX9_clear 16 = .ok (.iconst 0, 1) := by decide +kernel
theorem dX9_clear_17 : decode cX9_clear 17 = .ok (.putfield 46, 3) := by decide +kernel
theorem dX9_clear_20 : decode cX9_clear 20 = .ok (.aload_n 0, 1) := by decide +kernel
theorem dX9_clear_21 : decode cX9_clear 21 = .ok (.iconst 0, 1) := by decide +kernel
theorem dX9_clear_22 : decode cX9_clear 22 = .ok (.putfield 49, 3) := by decide +kernel
theorem dX9_clear_25 : decode cX9_clear 25 = .ok (.aload_n 0, 1) := by decide +kernel
theorem dX9_clear_26 : decode cX9_clear 26 = .ok (.iconst (-1), 1) := by decide +kernel
theorem dX9_clear_27 : decode cX9_clear 27 = .ok (.putfield 52, 3) := by decide +kernel
theorem dX9_clear_30 : decode cX9_clear 30 = .ok (.aload_n 0, 1) := by decide +kernel
theorem dX9_clear_31 : decode cX9_clear 31 = .ok (.iconst 0, 1) := by decide +kernel
theorem dX9_clear_32 : decode cX9_clear 32 = .ok (.putfield 55, 3) := by decide +kernel
theorem dX9_clear_35 : decode cX9_clear 35 = .ok (.aload_n 0, 1) := by decide +kernel
theorem dX9_clear_36 : decode cX9_clear 36 = .ok (.iconst 1, 1) := by decide +kernel
theorem dX9_clear_37 : decode cX9_clear 37 = .ok (.putfield 59, 3) := by decide +kernel
theorem dX9_clear_40 : decode cX9_clear 40 = .ok (.aload_n 0, 1) := by decide +kernel
theorem dX9_clear_41 : decode cX9_clear 41 = .ok (.iconst 1, 1) := by decide +kernel
theorem dX9_clear_42 : decode cX9_clear 42 = .ok (.putfield 62, 3) := by decide +kernel
theorem dX9_clear_45 : decode cX9_clear 45 = .ok (.iconst 0, 1) := by decide +kernel
theorem dX9_clear_46 : decode cX9_clear 46 = .ok (.istore_n 1, 1) := by decide +kernel
theorem dX9_clear_47 : decode cX9_clear 47 = .ok (.iload_n 1, 1) := by decide +kernel
theorem dX9_clear_48 : decode cX9_clear 48 = .ok (.bipush 42, 2) := by decide +kernel
theorem dX9_clear_50 : decode cX9_clear 50 = .ok (.if_icmp .ge 16, 3) := by decide +kernel
theorem dX9_clear_53 : decode cX9_clear 53 = .ok (.aload_n 0, 1) := by decide +kernel
theorem dX9_clear_54 : decode cX9_clear 54 = .ok (.getfield 9, 3) := by decide +kernel
theorem dX9_clear_57 : decode cX9_clear 57 = .ok (.iload_n 1, 1) := by decide +kernel
theorem dX9_clear_58 : decode cX9_clear 58 = .ok (.iconst 0, 1) := by decide +kernel
theorem dX9_clear_59 : decode cX9_clear 59 = .ok (.iastore, 1) := by decide +kernel
theorem dX9_clear_60 : decode cX9_clear 60 = .ok (.iinc 1 1, 3) := by decide +kernel
theorem dX9_clear_63 : decode cX9_clear 63 = .ok (.goto (-16), 3) := by decide +kernel
theorem dX9_clear_66 : decode cX9_clear 66 = .ok (.return_, 1) := by decide +kernel
theorem dX9_init_0 : decode cX9_init 0 = .ok (.aload_n 0, 1) := by decide +kernel
theorem dX9_init_1 : decode cX9_init 1 = .ok (.invokespecial 3, 3) := by decide +kernel
theorem dX9_init_4 : decode cX9_init 4 = .ok (.aload_n 0, 1) := by decide +kernel
theorem dX9_init_5 : decode cX9_init 5 = .ok (.bipush 42, 2) := by decide +kernel
theorem dX9_init_7 : decode cX9_init 7 = .ok (.newarray .int, 2) := by decide +kernel
theorem dX9_init_9 : decode cX9_init 9 = .ok (.putfield 9, 3) := by decide +kernel
theorem dX9_init_12 : decode cX9_init 12 = .ok (.aload_n 0, 1) := by decide +kernel
theorem dX9_init_13 : decode cX9_init 13 = .ok (.bipush 6, 2) := by decide +kernel
theorem dX9_init_15 : decode cX9_init 15 = .ok (.newarray .int, 2) := by decide +kernel
theorem dX9_init_17 : decode cX9_init 17 = .ok (.putfield 15, 3) := by decide +kernel
theorem dX9_init_20 : decode cX9_init 20 = .ok (.aload_n 0, 1) := by decide +kernel
theorem dX9_init_21 : decode cX9_init 21 = .ok (.bipush 6, 2) := by decide +kernel
theorem dX9_init_23 : decode cX9_init 23 = .ok (.newarray .int, 2) := by decide +kernel
theorem dX9_init_25 : decode cX9_init 25 = .ok (.putfield 18, 3) := by decide +kernel
theorem dX9_init_28 : decode cX9_init 28 = .ok (.aload_n 0, 1) := by decide +kernel
theorem dX9_init_29 : decode cX9_init 29 = .ok (.bipush 6, 2) := by decide +kernel
theorem dX9_init_31 : decode cX9_init 31 = .ok (.newarray .int, 2) := by decide +kernel
theorem dX9_init_33 : decode cX9_init 33 = .ok (.putfield 21, 3) := by decide +kernel
theorem dX9_init_36 : decode cX9_init 36 = .ok (.aload_n 0, 1) := by decide +kernel
theorem dX9_init_37 : decode cX9_init 37 = .ok (.bipush 6, 2) := by decide +kernel
theorem dX9_init_39 : decode cX9_init 39 = .ok (.newarray .int, 2) := by decide +kernel
theorem dX9_init_41 : decode cX9_init 41 = .ok (.putfield 24, 3) := by decide +kernel
theorem dX9_init_44 : decode cX9_init 44 = .ok (.aload_n 0, 1) := by decide +kernel
theorem dX9_init_45 : decode cX9_init 45 = .ok (.bipush 6, 2) := by decide +kernel
theorem dX9_init_47 : decode cX9_init 47 = .ok (.newarray .int, 2) := by decide +kernel
theorem dX9_init_49 : decode cX9_init 49 = .ok (.putfield 27, 3) := by decide +kernel
theorem dX9_init_52 : decode cX9_init 52 = .ok (.aload_n 0, 1) := by decide +kernel
theorem dX9_init_53 : decode cX9_init 53 = .ok (.iconst 3, 1) := by decide +kernel
theorem dX9_init_54 : decode cX9_init 54 = .ok (.newarray .int, 2) := by decide +kernel
theorem dX9_init_56 : decode cX9_init 56 = .ok (.putfield 30, 3) := by decide +kernel
theorem dX9_init_59 : decode cX9_init 59 = .ok (.aload_n 0, 1) := by decide +kernel
theorem dX9_init_60 : decode cX9_init 60 = .ok (.iconst 3, 1) := by decide +kernel
theorem dX9_init_61 : decode cX9_init 61 = .ok (.newarray .int, 2) := by decide +kernel
theorem dX9_init_63 : decode cX9_init 63 = .ok (.putfield 33, 3) := by decide +kernel
theorem dX9_init_66 : decode cX9_init 66 = .ok (.return_, 1) := by decide +kernel
theorem dX9_placePiperIfUntold_0 : decode cX9_placePiperIfUntold 0 = .ok (.iconst 0, 1) := by decide +kernel
theorem dX9_placePiperIfUntold_1 : decode cX9_placePiperIfUntold 1 = .ok (.istore_n 1, 1) := by decide +kernel
theorem dX9_placePiperIfUntold_2 : decode cX9_placePiperIfUntold 2 = .ok (.iload_n 1, 1) := by decide +kernel
theorem dX9_placePiperIfUntold_3 : decode cX9_placePiperIfUntold 3 = .ok (.aload_n 0, 1) := by decide +kernel
theorem dX9_placePiperIfUntold_4 : decode cX9_placePiperIfUntold 4 = .ok (.getfield 36, 3) := by decide +kernel
theorem dX9_placePiperIfUntold_7 : decode cX9_placePiperIfUntold 7 = .ok (.aload_n 0, 1) := by decide +kernel
theorem dX9_placePiperIfUntold_8 : decode cX9_placePiperIfUntold 8 = .ok (.getfield 40, 3) := by decide +kernel
theorem dX9_placePiperIfUntold_11 : decode cX9_placePiperIfUntold 11 = .ok (.imul, 1) := by decide +kernel
theorem dX9_placePiperIfUntold_12 : decode cX9_placePiperIfUntold 12 = .ok (.if_icmp .ge 30, 3) := by decide +kernel
theorem dX9_placePiperIfUntold_15 : decode cX9_placePiperIfUntold 15 = .ok (.aload_n 0, 1) := by decide +kernel
theorem dX9_placePiperIfUntold_16 : decode cX9_placePiperIfUntold 16 = .ok (.getfield 52, 3) := by decide +kernel
theorem dX9_placePiperIfUntold_19 : decode cX9_placePiperIfUntold 19 = .ok (.iconst (-1), 1) := by decide +kernel
theorem dX9_placePiperIfUntold_20 : decode cX9_placePiperIfUntold 20 = .ok (.if_icmp .ne 22, 3) := by decide +kernel
theorem dX9_placePiperIfUntold_23 : decode cX9_placePiperIfUntold 23 = .ok (.aload_n 0, 1) := by decide +kernel
theorem dX9_placePiperIfUntold_24 : decode cX9_placePiperIfUntold 24 = .ok (.iload_n 1, 1) := by decide +kernel
theorem dX9_placePiperIfUntold_25 : decode cX9_placePiperIfUntold 25 = .ok (.invokevirtual 71, 3) := by decide +kernel
theorem dX9_placePiperIfUntold_28 : decode cX9_placePiperIfUntold 28 = .ok (.ifCond .ne 8, 3) := by decide +kernel
theorem dX9_placePiperIfUntold_31 : decode cX9_placePiperIfUntold 31 = .ok (.aload_n 0, 1) := by decide +kernel
theorem dX9_placePiperIfUntold_32 : decode cX9_placePiperIfUntold 32 = .ok (.iload_n 1, 1) := by decide +kernel
theorem dX9_placePiperIfUntold_33 : decode cX9_placePiperIfUntold 33 = .ok (.putfield 52, 3) := by decide +kernel
theorem dX9_placePiperIfUntold_36 : decode cX9_placePiperIfUntold 36 = .ok (.iinc 1 1, 3) := by decide +kernel
theorem dX9_placePiperIfUntold_39 : decode cX9_placePiperIfUntold 39 = .ok (.goto (-37), 3) := by decide +kernel
theorem dX9_placePiperIfUntold_42 : decode cX9_placePiperIfUntold 42 = .ok (.aload_n 0, 1) := by decide +kernel
theorem dX9_placePiperIfUntold_43 : decode cX9_placePiperIfUntold 43 = .ok (.aload_n 0, 1) := by decide +kernel
theorem dX9_placePiperIfUntold_44 : decode cX9_placePiperIfUntold 44 = .ok (.getfield 52, 3) := by decide +kernel
theorem dX9_placePiperIfUntold_47 : decode cX9_placePiperIfUntold 47 = .ok (.iconst 0, 1) := by decide +kernel
theorem dX9_placePiperIfUntold_48 : decode cX9_placePiperIfUntold 48 = .ok (.invokestatic 74, 3) := by decide +kernel
theorem dX9_placePiperIfUntold_51 : decode cX9_placePiperIfUntold 51 = .ok (.putfield 52, 3) := by decide +kernel
theorem dX9_placePiperIfUntold_54 : decode cX9_placePiperIfUntold 54 = .ok (.return_, 1) := by decide +kernel
