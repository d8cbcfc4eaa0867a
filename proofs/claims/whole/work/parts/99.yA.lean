theorem dL_0 : decode YL.2.1 0 = .ok (.new 7, 3) := by decide +kernel
theorem dL_3 : decode YL.2.1 3 = .ok (.dup, 1) := by decide +kernel
theorem dL_4 : decode YL.2.1 4 = .ok (.invokespecial 9, 3) := by decide +kernel
theorem dL_7 : decode YL.2.1 7 = .ok (.astore_n 1, 1) := by decide +kernel
theorem dL_8 : decode YL.2.1 8 = .ok (.new 10, 3) := by decide +kernel
theorem dL_11 : decode YL.2.1 11 = .ok (.dup, 1) := by decide +kernel
theorem dL_12 : decode YL.2.1 12 = .ok (.invokespecial 12, 3) := by decide +kernel
theorem dL_15 : decode YL.2.1 15 = .ok (.astore_n 2, 1) := by decide +kernel
theorem dL_16 : decode YL.2.1 16 = .ok (.iconst 0, 1) := by decide +kernel
theorem dL_17 : decode YL.2.1 17 = .ok (.istore_n 3, 1) := by decide +kernel
theorem dL_18 : decode YL.2.1 18 = .ok (.iload_n 3, 1) := by decide +kernel
theorem dL_19 : decode YL.2.1 19 = .ok (.aload_n 0, 1) := by decide +kernel
theorem dL_20 : decode YL.2.1 20 = .ok (.arraylength, 1) := by decide +kernel
theorem dL_21 : decode YL.2.1 21 = .ok (.bipush 6, 2) := by decide +kernel
theorem dL_23 : decode YL.2.1 23 = .ok (.isub, 1) := by decide +kernel
theorem dL_24 : decode YL.2.1 24 = .ok (.if_icmp .gt 1608, 3) := by decide +kernel
theorem dL_27 : decode YL.2.1 27 = .ok (.aload_n 0, 1) := by decide +kernel
theorem dL_28 : decode YL.2.1 28 = .ok (.iload_n 3, 1) := by decide +kernel
theorem dL_29 : decode YL.2.1 29 = .ok (.iaload, 1) := by decide +kernel
theorem dL_30 : decode YL.2.1 30 = .ok (.bipush 31, 2) := by decide +kernel
theorem dL_32 : decode YL.2.1 32 = .ok (.iand, 1) := by decide +kernel
theorem dL_33 : decode YL.2.1 33 = .ok (.tableswitch 1593 0 31 #[143, 206, 229, 262, 285, 318, 361, 404, 437, 490, 559, 619, 699, 742, 775, 828, 877, 920, 963, 1016, 1049, 1108, 1177, 1237, 1286, 1335, 1395, 1428, 1471, 1524, 1547, 1570], 143) := by decide +kernel
theorem dL_176 : decode YL.2.1 176 = .ok (.aload_n 1, 1) := by decide +kernel
theorem dL_177 : decode YL.2.1 177 = .ok (.aload_n 0, 1) := by decide +kernel
theorem dL_178 : decode YL.2.1 178 = .ok (.iload_n 3, 1) := by decide +kernel
theorem dL_179 : decode YL.2.1 179 = .ok (.iconst 1, 1) := by decide +kernel
theorem dL_180 : decode YL.2.1 180 = .ok (.iadd, 1) := by decide +kernel
theorem dL_181 : decode YL.2.1 181 = .ok (.iaload, 1) := by decide +kernel
theorem dL_182 : decode YL.2.1 182 = .ok (.aload_n 0, 1) := by decide +kernel
theorem dL_183 : decode YL.2.1 183 = .ok (.iload_n 3, 1) := by decide +kernel
theorem dL_184 : decode YL.2.1 184 = .ok (.iconst 2, 1) := by decide +kernel
theorem dL_185 : decode YL.2.1 185 = .ok (.iadd, 1) := by decide +kernel
theorem dL_186 : decode YL.2.1 186 = .ok (.iaload, 1) := by decide +kernel
theorem dL_187 : decode YL.2.1 187 = .ok (.aload_n 0, 1) := by decide +kernel
theorem dL_188 : decode YL.2.1 188 = .ok (.iload_n 3, 1) := by decide +kernel
theorem dL_189 : decode YL.2.1 189 = .ok (.iconst 3, 1) := by decide +kernel
theorem dL_190 : decode YL.2.1 190 = .ok (.iadd, 1) := by decide +kernel
theorem dL_191 : decode YL.2.1 191 = .ok (.iaload, 1) := by decide +kernel
theorem dL_192 : decode YL.2.1 192 = .ok (.aload_n 0, 1) := by decide +kernel
theorem dL_193 : decode YL.2.1 193 = .ok (.iload_n 3, 1) := by decide +kernel
theorem dL_194 : decode YL.2.1 194 = .ok (.iconst 4, 1) := by decide +kernel
theorem dL_195 : decode YL.2.1 195 = .ok (.iadd, 1) := by decide +kernel
theorem dL_196 : decode YL.2.1 196 = .ok (.iaload, 1) := by decide +kernel
theorem dL_197 : decode YL.2.1 197 = .ok (.aload_n 0, 1) := by decide +kernel
theorem dL_198 : decode YL.2.1 198 = .ok (.iload_n 3, 1) := by decide +kernel
theorem dL_199 : decode YL.2.1 199 = .ok (.iconst 5, 1) := by decide +kernel
theorem dL_200 : decode YL.2.1 200 = .ok (.iadd, 1) := by decide +kernel
theorem dL_201 : decode YL.2.1 201 = .ok (.iaload, 1) := by decide +kernel
theorem dL_202 : decode YL.2.1 202 = .ok (.invokevirtual 13, 3) := by decide +kernel
theorem dL_205 : decode YL.2.1 205 = .ok (.aload_n 2, 1) := by decide +kernel
theorem dL_206 : decode YL.2.1 206 = .ok (.aload_n 0, 1) := by decide +kernel
theorem dL_207 : decode YL.2.1 207 = .ok (.iload_n 3, 1) := by decide +kernel
theorem dL_208 : decode YL.2.1 208 = .ok (.iconst 1, 1) := by decide +kernel
theorem dL_209 : decode YL.2.1 209 = .ok (.iadd, 1) := by decide +kernel
theorem dL_210 : decode YL.2.1 210 = .ok (.iaload, 1) := by decide +kernel
theorem dL_211 : decode YL.2.1 211 = .ok (.aload_n 0, 1) := by decide +kernel
theorem dL_212 : decode YL.2.1 212 = .ok (.iload_n 3, 1) := by decide +kernel
theorem dL_213 : decode YL.2.1 213 = .ok (.iconst 2, 1) := by decide +kernel
theorem dL_214 : decode YL.2.1 214 = .ok (.iadd, 1) := by decide +kernel
theorem dL_215 : decode YL.2.1 215 = .ok (.iaload, 1) := by decide +kernel
theorem dL_216 : decode YL.2.1 216 = .ok (.aload_n 0, 1) := by decide +kernel
theorem dL_217 : decode YL.2.1 217 = .ok (.iload_n 3, 1) := by decide +kernel
theorem dL_218 : decode YL.2.1 218 = .ok (.iconst 3, 1) := by decide +kernel
theorem dL_219 : decode YL.2.1 219 = .ok (.iadd, 1) := by decide +kernel
theorem dL_220 : decode YL.2.1 220 = .ok (.iaload, 1) := by decide +kernel
theorem dL_221 : decode YL.2.1 221 = .ok (.aload_n 0, 1) := by decide +kernel
theorem dL_222 : decode YL.2.1 222 = .ok (.iload_n 3, 1) := by decide +kernel
theorem dL_223 : decode YL.2.1 223 = .ok (.iconst 4, 1) := by decide +kernel
theorem dL_224 : decode YL.2.1 224 = .ok (.iadd, 1) := by decide +kernel
theorem dL_225 : decode YL.2.1 225 = .ok (.iaload, 1) := by decide +kernel
theorem dL_226 : decode YL.2.1 226 = .ok (.aload_n 0, 1) := by decide +kernel
theorem dL_227 : decode YL.2.1 227 = .ok (.iload_n 3, 1) := by decide +kernel
theorem dL_228 : decode YL.2.1 228 = .ok (.iconst 5, 1) := by decide +kernel
theorem dL_229 : decode YL.2.1 229 = .ok (.iadd, 1) := by decide +kernel
theorem dL_230 : decode YL.2.1 230 = .ok (.iaload, 1) := by decide +kernel
theorem dL_231 : decode YL.2.1 231 = .ok (.invokevirtual 17, 3) := by decide +kernel
theorem dL_234 : decode YL.2.1 234 = .ok (.if_icmp .eq 1392, 3) := by decide +kernel
theorem dL_237 : decode YL.2.1 237 = .ok (.iconst 0, 1) := by decide +kernel
theorem dL_238 : decode YL.2.1 238 = .ok (.ireturn, 1) := by decide +kernel
theorem dL_239 : decode YL.2.1 239 = .ok (.aload_n 1, 1) := by decide +kernel
theorem dL_240 : decode YL.2.1 240 = .ok (.aload_n 0, 1) := by decide +kernel
theorem dL_241 : decode YL.2.1 241 = .ok (.iload_n 3, 1) := by decide +kernel
theorem dL_242 : decode YL.2.1 242 = .ok (.iconst 1, 1) := by decide +kernel
theorem dL_243 : decode YL.2.1 243 = .ok (.iadd, 1) := by decide +kernel
theorem dL_244 : decode YL.2.1 244 = .ok (.iaload, 1) := by decide +kernel
theorem dL_245 : decode YL.2.1 245 = .ok (.invokevirtual 18, 3) := by decide +kernel
theorem dL_248 : decode YL.2.1 248 = .ok (.aload_n 2, 1) := by decide +kernel
theorem dL_249 : decode YL.2.1 249 = .ok (.aload_n 0, 1) := by decide +kernel
theorem dL_250 : decode YL.2.1 250 = .ok (.iload_n 3, 1) := by decide +kernel
theorem dL_251 : decode YL.2.1 251 = .ok (.iconst 1, 1) := by decide +kernel
theorem dL_252 : decode YL.2.1 252 = .ok (.iadd, 1) := by decide +kernel
theorem dL_253 : decode YL.2.1 253 = .ok (.iaload, 1) := by decide +kernel
theorem dL_254 : decode YL.2.1 254 = .ok (.invokevirtual 22, 3) := by decide +kernel
theorem dL_257 : decode YL.2.1 257 = .ok (.if_icmp .eq 1369, 3) := by decide +kernel
theorem dL_260 : decode YL.2.1 260 = .ok (.iconst 0, 1) := by decide +kernel
theorem dL_261 : decode YL.2.1 261 = .ok (.ireturn, 1) := by decide +kernel
theorem dL_262 : decode YL.2.1 262 = .ok (.aload_n 1, 1) := by decide +kernel
theorem dL_263 : decode YL.2.1 263 = .ok (.aload_n 0, 1) := by decide +kernel
theorem dL_264 : decode YL.2.1 264 = .ok (.iload_n 3, 1) := by decide +kernel
theorem dL_265 : decode YL.2.1 265 = .ok (.iconst 1, 1) := by decide +kernel
theorem dL_266 : decode YL.2.1 266 = .ok (.iadd, 1) := by decide +kernel
theorem dL_267 : decode YL.2.1 267 = .ok (.iaload, 1) := by decide +kernel
theorem dL_268 : decode YL.2.1 268 = .ok (.aload_n 0, 1) := by decide +kernel
theorem dL_269 : decode YL.2.1 269 = .ok (.iload_n 3, 1) := by decide +kernel
theorem dL_270 : decode YL.2.1 270 = .ok (.iconst 2, 1) := by decide +kernel
theorem dL_271 : decode YL.2.1 271 = .ok (.iadd, 1) := by decide +kernel
theorem dL_272 : decode YL.2.1 272 = .ok (.iaload, 1) := by decide +kernel
theorem dL_273 : decode YL.2.1 273 = .ok (.invokevirtual 23, 3) := by decide +kernel
theorem dL_276 : decode YL.2.1 276 = .ok (.aload_n 2, 1) := by decide +kernel
theorem dL_277 : decode YL.2.1 277 = .ok (.aload_n 0, 1) := by decide +kernel
theorem dL_278 : decode YL.2.1 278 = .ok (.iload_n 3, 1) := by decide +kernel
theorem dL_279 : decode YL.2.1 279 = .ok (.iconst 1, 1) := by decide +kernel
theorem dL_280 : decode YL.2.1 280 = .ok (.iadd, 1) := by decide +kernel
theorem dL_281 : decode YL.2.1 281 = .ok (.iaload, 1) := by decide +kernel
theorem dL_282 : decode YL.2.1 282 = .ok (.aload_n 0, 1) := by decide +kernel
theorem dL_283 : decode YL.2.1 283 = .ok (.iload_n 3, 1) := by decide +kernel
theorem dL_284 : decode YL.2.1 284 = .ok (.iconst 2, 1) := by decide +kernel
theorem dL_285 : decode YL.2.1 285 = .ok (.iadd, 1) := by decide +kernel
theorem dL_286 : decode YL.2.1 286 = .ok (.iaload, 1) := by decide +kernel
theorem dL_287 : decode YL.2.1 287 = .ok (.invokevirtual 27, 3) := by decide +kernel
theorem dL_290 : decode YL.2.1 290 = .ok (.if_icmp .eq 1336, 3) := by decide +kernel
theorem dL_293 : decode YL.2.1 293 = .ok (.iconst 0, 1) := by decide +kernel
theorem dL_294 : decode YL.2.1 294 = .ok (.ireturn, 1) := by decide +kernel
theorem dL_295 : decode YL.2.1 295 = .ok (.aload_n 1, 1) := by decide +kernel
theorem dL_296 : decode YL.2.1 296 = .ok (.aload_n 0, 1) := by decide +kernel
theorem dL_297 : decode YL.2.1 297 = .ok (.iload_n 3, 1) := by decide +kernel
theorem dL_298 : decode YL.2.1 298 = .ok (.iconst 1, 1) := by decide +kernel
theorem dL_299 : decode YL.2.1 299 = .ok (.iadd, 1) := by decide +kernel
theorem dL_300 : decode YL.2.1 300 = .ok (.iaload, 1) := by decide +kernel
theorem dL_301 : decode YL.2.1 301 = .ok (.invokevirtual 28, 3) := by decide +kernel
theorem dL_304 : decode YL.2.1 304 = .ok (.aload_n 2, 1) := by decide +kernel
theorem dL_305 : decode YL.2.1 305 = .ok (.aload_n 0, 1) := by decide +kernel
theorem dL_306 : decode YL.2.1 306 = .ok (.iload_n 3, 1) := by decide +kernel
theorem dL_307 : decode YL.2.1 307 = .ok (.iconst 1, 1) := by decide +kernel
theorem dL_308 : decode YL.2.1 308 = .ok (.iadd, 1) := by decide +kernel
theorem dL_309 : decode YL.2.1 309 = .ok (.iaload, 1) := by decide +kernel
theorem dL_310 : decode YL.2.1 310 = .ok (.invokevirtual 31, 3) := by decide +kernel
theorem dL_313 : decode YL.2.1 313 = .ok (.if_icmp .eq 1313, 3) := by decide +kernel
theorem dL_316 : decode YL.2.1 316 = .ok (.iconst 0, 1) := by decide +kernel
theorem dL_317 : decode YL.2.1 317 = .ok (.ireturn, 1) := by decide +kernel
theorem dL_318 : decode YL.2.1 318 = .ok (.aload_n 1, 1) := by decide +kernel
theorem dL_319 : decode YL.2.1 319 = .ok (.aload_n 0, 1) := by decide +kernel
theorem dL_320 : decode YL.2.1 320 = .ok (.iload_n 3, 1) := by decide +kernel
theorem dL_321 : decode YL.2.1 321 = .ok (.iconst 1, 1) := by decide +kernel
theorem dL_322 : decode YL.2.1 322 = .ok (.iadd, 1) := by decide +kernel
theorem dL_323 : decode YL.2.1 323 = .ok (.iaload, 1) := by decide +kernel
theorem dL_324 : decode YL.2.1 324 = .ok (.aload_n 0, 1) := by decide +kernel
theorem dL_325 : decode YL.2.1 325 = .ok (.iload_n 3, 1) := by decide +kernel
theorem dL_326 : decode YL.2.1 326 = .ok (.iconst 2, 1) := by decide +kernel
theorem dL_327 : decode YL.2.1 327 = .ok (.iadd, 1) := by decide +kernel
theorem dL_328 : decode YL.2.1 328 = .ok (.iaload, 1) := by decide +kernel
theorem dL_329 : decode YL.2.1 329 = .ok (.invokevirtual 32, 3) := by decide +kernel
theorem dL_332 : decode YL.2.1 332 = .ok (.aload_n 2, 1) := by decide +kernel
theorem dL_333 : decode YL.2.1 333 = .ok (.aload_n 0, 1) := by decide +kernel
theorem dL_334 : decode YL.2.1 334 = .ok (.iload_n 3, 1) := by decide +kernel
theorem dL_335 : decode YL.2.1 335 = .ok (.iconst 1, 1) := by decide +kernel
theorem dL_336 : decode YL.2.1 336 = .ok (.iadd, 1) := by decide +kernel
theorem dL_337 : decode YL.2.1 337 = .ok (.iaload, 1) := by decide +kernel
theorem dL_338 : decode YL.2.1 338 = .ok (.aload_n 0, 1) := by decide +kernel
theorem dL_339 : decode YL.2.1 339 = .ok (.iload_n 3, 1) := by decide +kernel
theorem dL_340 : decode YL.2.1 340 = .ok (.iconst 2, 1) := by decide +kernel
theorem dL_341 : decode YL.2.1 341 = .ok (.iadd, 1) := by decide +kernel
theorem dL_342 : decode YL.2.1 342 = .ok (.iaload, 1) := by decide +kernel
theorem dL_343 : decode YL.2.1 343 = .ok (.invokevirtual 35, 3) := by decide +kernel
theorem dL_346 : decode YL.2.1 346 = .ok (.if_icmp .eq 1280, 3) := by decide +kernel
theorem dL_349 : decode YL.2.1 349 = .ok (.iconst 0, 1) := by decide +kernel
theorem dL_350 : decode YL.2.1 350 = .ok (.ireturn, 1) := by decide +kernel
theorem dL_351 : decode YL.2.1 351 = .ok (.aload_n 1, 1) := by decide +kernel
theorem dL_352 : decode YL.2.1 352 = .ok (.aload_n 0, 1) := by decide +kernel
theorem dL_353 : decode YL.2.1 353 = .ok (.iload_n 3, 1) := by decide +kernel
theorem dL_354 : decode YL.2.1 354 = .ok (.iconst 1, 1) := by decide +kernel
theorem dL_355 : decode YL.2.1 355 = .ok (.iadd, 1) := by decide +kernel
theorem dL_356 : decode YL.2.1 356 = .ok (.iaload, 1) := by decide +kernel
theorem dL_357 : decode YL.2.1 357 = .ok (.aload_n 0, 1) := by decide +kernel
theorem dL_358 : decode YL.2.1 358 = .ok (.iload_n 3, 1) := by decide +kernel
theorem dL_359 : decode YL.2.1 359 = .ok (.iconst 2, 1) := by decide +kernel
theorem dL_360 : decode YL.2.1 360 = .ok (.iadd, 1) := by decide +kernel
theorem dL_361 : decode YL.2.1 361 = .ok (.iaload, 1) := by decide +kernel
theorem dL_362 : decode YL.2.1 362 = .ok (.aload_n 0, 1) := by decide +kernel
theorem dL_363 : decode YL.2.1 363 = .ok (.iload_n 3, 1) := by decide +kernel
theorem dL_364 : decode YL.2.1 364 = .ok (.iconst 3, 1) := by decide +kernel
theorem dL_365 : decode YL.2.1 365 = .ok (.iadd, 1) := by decide +kernel
theorem dL_366 : decode YL.2.1 366 = .ok (.iaload, 1) := by decide +kernel
theorem dL_367 : decode YL.2.1 367 = .ok (.invokevirtual 36, 3) := by decide +kernel
theorem dL_370 : decode YL.2.1 370 = .ok (.aload_n 2, 1) := by decide +kernel
theorem dL_371 : decode YL.2.1 371 = .ok (.aload_n 0, 1) := by decide +kernel
theorem dL_372 : decode YL.2.1 372 = .ok (.iload_n 3, 1) := by decide +kernel
theorem dL_373 : decode YL.2.1 373 = .ok (.iconst 1, 1) := by decide +kernel
theorem dL_374 : decode YL.2.1 374 = .ok (.iadd, 1) := by decide +kernel
theorem dL_375 : decode YL.2.1 375 = .ok (.iaload, 1) := by decide +kernel
theorem dL_376 : decode YL.2.1 376 = .ok (.aload_n 0, 1) := by decide +kernel
theorem dL_377 : decode YL.2.1 377 = .ok (.iload_n 3, 1) := by decide +kernel
theorem dL_378 : decode YL.2.1 378 = .ok (.iconst 2, 1) := by decide +kernel
theorem dL_379 : decode YL.2.1 379 = .ok (.iadd, 1) := by decide +kernel
theorem dL_380 : decode YL.2.1 380 = .ok (.iaload, 1) := by decide +kernel
theorem dL_381 : decode YL.2.1 381 = .ok (.aload_n 0, 1) := by decide +kernel
theorem dL_382 : decode YL.2.1 382 = .ok (.iload_n 3, 1) := by decide +kernel
theorem dL_383 : decode YL.2.1 383 = .ok (.iconst 3, 1) := by decide +kernel
theorem dL_384 : decode YL.2.1 384 = .ok (.iadd, 1) := by decide +kernel
theorem dL_385 : decode YL.2.1 385 = .ok (.iaload, 1) := by decide +kernel
theorem dL_386 : decode YL.2.1 386 = .ok (.invokevirtual 40, 3) := by decide +kernel
theorem dL_389 : decode YL.2.1 389 = .ok (.if_icmp .eq 1237, 3) := by decide +kernel
theorem dL_392 : decode YL.2.1 392 = .ok (.iconst 0, 1) := by decide +kernel
theorem dL_393 : decode YL.2.1 393 = .ok (.ireturn, 1) := by decide +kernel
theorem dL_394 : decode YL.2.1 394 = .ok (.aload_n 1, 1) := by decide +kernel
theorem dL_395 : decode YL.2.1 395 = .ok (.aload_n 0, 1) := by decide +kernel
theorem dL_396 : decode YL.2.1 396 = .ok (.iload_n 3, 1) := by decide +kernel
theorem dL_397 : decode YL.2.1 397 = .ok (.iconst 1, 1) := by decide +kernel
theorem dL_398 : decode YL.2.1 398 = .ok (.iadd, 1) := by decide +kernel
theorem dL_399 : decode YL.2.1 399 = .ok (.iaload, 1) := by decide +kernel
theorem dL_400 : decode YL.2.1 400 = .ok (.aload_n 0, 1) := by decide +kernel
theorem dL_401 : decode YL.2.1 401 = .ok (.iload_n 3, 1) := by decide +kernel
theorem dL_402 : decode YL.2.1 402 = .ok (.iconst 2, 1) := by decide +kernel
theorem dL_403 : decode YL.2.1 403 = .ok (.iadd, 1) := by decide +kernel
theorem dL_404 : decode YL.2.1 404 = .ok (.iaload, 1) := by decide +kernel
theorem dL_405 : decode YL.2.1 405 = .ok (.aload_n 0, 1) := by decide +kernel
theorem dL_406 : decode YL.2.1 406 = .ok (.iload_n 3, 1) := by decide +kernel
theorem dL_407 : decode YL.2.1 407 = .ok (.iconst 3, 1) := by decide +kernel
theorem dL_408 : decode YL.2.1 408 = .ok (.iadd, 1) := by decide +kernel
theorem dL_409 : decode YL.2.1 409 = .ok (.iaload, 1) := by decide +kernel
theorem dL_410 : decode YL.2.1 410 = .ok (.invokevirtual 41, 3) := by decide +kernel
theorem dL_413 : decode YL.2.1 413 = .ok (.aload_n 2, 1) := by decide +kernel
theorem dL_414 : decode YL.2.1 414 = .ok (.aload_n 0, 1) := by decide +kernel
theorem dL_415 : decode YL.2.1 415 = .ok (.iload_n 3, 1) := by decide +kernel
theorem dL_416 : decode YL.2.1 416 = .ok (.iconst 1, 1) := by decide +kernel
theorem dL_417 : decode YL.2.1 417 = .ok (.iadd, 1) := by decide +kernel
theorem dL_418 : decode YL.2.1 418 = .ok (.iaload, 1) := by decide +kernel
theorem dL_419 : decode YL.2.1 419 = .ok (.aload_n 0, 1) := by decide +kernel
theorem dL_420 : decode YL.2.1 420 = .ok (.iload_n 3, 1) := by decide +kernel
theorem dL_421 : decode YL.2.1 421 = .ok (.iconst 2, 1) := by decide +kernel
theorem dL_422 : decode YL.2.1 422 = .ok (.iadd, 1) := by decide +kernel
theorem dL_423 : decode YL.2.1 423 = .ok (.iaload, 1) := by decide +kernel
theorem dL_424 : decode YL.2.1 424 = .ok (.aload_n 0, 1) := by decide +kernel
theorem dL_425 : decode YL.2.1 425 = .ok (.iload_n 3, 1) := by decide +kernel
theorem dL_426 : decode YL.2.1 426 = .ok (.iconst 3, 1) := by decide +kernel
theorem dL_427 : decode YL.2.1 427 = .ok (.iadd, 1) := by decide +kernel
theorem dL_428 : decode YL.2.1 428 = .ok (.iaload, 1) := by decide +kernel
theorem dL_429 : decode YL.2.1 429 = .ok (.invokevirtual 44, 3) := by decide +kernel
theorem dL_432 : decode YL.2.1 432 = .ok (.if_icmp .eq 1194, 3) := by decide +kernel
theorem dL_435 : decode YL.2.1 435 = .ok (.iconst 0, 1) := by decide +kernel
theorem dL_436 : decode YL.2.1 436 = .ok (.ireturn, 1) := by decide +kernel
theorem dL_437 : decode YL.2.1 437 = .ok (.aload_n 1, 1) := by decide +kernel
theorem dL_438 : decode YL.2.1 438 = .ok (.aload_n 0, 1) := by decide +kernel
theorem dL_439 : decode YL.2.1 439 = .ok (.iload_n 3, 1) := by decide +kernel
theorem dL_440 : decode YL.2.1 440 = .ok (.iconst 1, 1) := by decide +kernel
theorem dL_441 : decode YL.2.1 441 = .ok (.iadd, 1) := by decide +kernel
theorem dL_442 : decode YL.2.1 442 = .ok (.iaload, 1) := by decide +kernel
theorem dL_443 : decode YL.2.1 443 = .ok (.aload_n 0, 1) := by decide +kernel
theorem dL_444 : decode YL.2.1 444 = .ok (.iload_n 3, 1) := by decide +kernel
theorem dL_445 : decode YL.2.1 445 = .ok (.iconst 2, 1) := by decide +kernel
