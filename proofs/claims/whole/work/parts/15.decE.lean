theorem d_Law_law_0 : decode code 0 = .ok (.new 7, 3) := by decide +kernel
theorem d_Law_law_3 : decode code 3 = .ok (.dup, 1) := by decide +kernel
theorem d_Law_law_4 : decode code 4 = .ok (.invokespecial 9, 3) := by decide +kernel
theorem d_Law_law_7 : decode code 7 = .ok (.astore_n 1, 1) := by decide +kernel
theorem d_Law_law_8 : decode code 8 = .ok (.new 10, 3) := by decide +kernel
theorem d_Law_law_11 : decode code 11 = .ok (.dup, 1) := by decide +kernel
theorem d_Law_law_12 : decode code 12 = .ok (.invokespecial 12, 3) := by decide +kernel
theorem d_Law_law_15 : decode code 15 = .ok (.astore_n 2, 1) := by decide +kernel
theorem d_Law_law_16 : decode code 16 = .ok (.iconst 0, 1) := by decide +kernel
theorem d_Law_law_17 : decode code 17 = .ok (.istore_n 3, 1) := by decide +kernel
theorem d_Law_law_18 : decode code 18 = .ok (.iload_n 3, 1) := by decide +kernel
theorem d_Law_law_19 : decode code 19 = .ok (.aload_n 0, 1) := by decide +kernel
theorem d_Law_law_20 : decode code 20 = .ok (.arraylength, 1) := by decide +kernel
theorem d_Law_law_21 : decode code 21 = .ok (.bipush 6, 2) := by decide +kernel
theorem d_Law_law_23 : decode code 23 = .ok (.isub, 1) := by decide +kernel
theorem d_Law_law_24 : decode code 24 = .ok (.if_icmp .gt 1121, 3) := by decide +kernel
theorem d_Law_law_27 : decode code 27 = .ok (.aload_n 0, 1) := by decide +kernel
theorem d_Law_law_28 : decode code 28 = .ok (.iload_n 3, 1) := by decide +kernel
theorem d_Law_law_29 : decode code 29 = .ok (.iaload, 1) := by decide +kernel
theorem d_Law_law_30 : decode code 30 = .ok (.bipush 31, 2) := by decide +kernel
theorem d_Law_law_32 : decode code 32 = .ok (.iand, 1) := by decide +kernel
theorem d_Law_law_33 : decode code 33 = .ok (.tableswitch 1106 0 28 #[131, 154, 207, 260, 273, 306, 349, 382, 416, 440, 484, 517, 540, 574, 608, 652, 685, 728, 751, 804, 827, 840, 853, 877, 910, 934, 977, 1020, 1083], 131) := by decide +kernel
theorem d_Law_law_164 : decode code 164 = .ok (.aload_n 1, 1) := by decide +kernel
theorem d_Law_law_165 : decode code 165 = .ok (.aload_n 0, 1) := by decide +kernel
theorem d_Law_law_166 : decode code 166 = .ok (.iload_n 3, 1) := by decide +kernel
theorem d_Law_law_167 : decode code 167 = .ok (.iconst 1, 1) := by decide +kernel
theorem d_Law_law_168 : decode code 168 = .ok (.iadd, 1) := by decide +kernel
theorem d_Law_law_169 : decode code 169 = .ok (.iaload, 1) := by decide +kernel
theorem d_Law_law_170 : decode code 170 = .ok (.invokevirtual 13, 3) := by decide +kernel
theorem d_Law_law_173 : decode code 173 = .ok (.aload_n 2, 1) := by decide +kernel
theorem d_Law_law_174 : decode code 174 = .ok (.aload_n 0, 1) := by decide +kernel
theorem d_Law_law_175 : decode code 175 = .ok (.iload_n 3, 1) := by decide +kernel
theorem d_Law_law_176 : decode code 176 = .ok (.iconst 1, 1) := by decide +kernel
theorem d_Law_law_177 : decode code 177 = .ok (.iadd, 1) := by decide +kernel
theorem d_Law_law_178 : decode code 178 = .ok (.iaload, 1) := by decide +kernel
theorem d_Law_law_179 : decode code 179 = .ok (.invokevirtual 17, 3) := by decide +kernel
theorem d_Law_law_182 : decode code 182 = .ok (.if_icmp .eq 957, 3) := by decide +kernel
theorem d_Law_law_185 : decode code 185 = .ok (.iconst 0, 1) := by decide +kernel
theorem d_Law_law_186 : decode code 186 = .ok (.ireturn, 1) := by decide +kernel
theorem d_Law_law_187 : decode code 187 = .ok (.aload_n 1, 1) := by decide +kernel
theorem d_Law_law_188 : decode code 188 = .ok (.aload_n 0, 1) := by decide +kernel
theorem d_Law_law_189 : decode code 189 = .ok (.iload_n 3, 1) := by decide +kernel
theorem d_Law_law_190 : decode code 190 = .ok (.iconst 1, 1) := by decide +kernel
theorem d_Law_law_191 : decode code 191 = .ok (.iadd, 1) := by decide +kernel
theorem d_Law_law_192 : decode code 192 = .ok (.iaload, 1) := by decide +kernel
theorem d_Law_law_193 : decode code 193 = .ok (.aload_n 0, 1) := by decide +kernel
theorem d_Law_law_194 : decode code 194 = .ok (.iload_n 3, 1) := by decide +kernel
theorem d_Law_law_195 : decode code 195 = .ok (.iconst 2, 1) := by decide +kernel
theorem d_Law_law_196 : decode code 196 = .ok (.iadd, 1) := by decide +kernel
theorem d_Law_law_197 : decode code 197 = .ok (.iaload, 1) := by decide +kernel
theorem d_Law_law_198 : decode code 198 = .ok (.aload_n 0, 1) := by decide +kernel
theorem d_Law_law_199 : decode code 199 = .ok (.iload_n 3, 1) := by decide +kernel
theorem d_Law_law_200 : decode code 200 = .ok (.iconst 3, 1) := by decide +kernel
theorem d_Law_law_201 : decode code 201 = .ok (.iadd, 1) := by decide +kernel
theorem d_Law_law_202 : decode code 202 = .ok (.iaload, 1) := by decide +kernel
theorem d_Law_law_203 : decode code 203 = .ok (.aload_n 0, 1) := by decide +kernel
theorem d_Law_law_204 : decode code 204 = .ok (.iload_n 3, 1) := by decide +kernel
theorem d_Law_law_205 : decode code 205 = .ok (.iconst 4, 1) := by decide +kernel
theorem d_Law_law_206 : decode code 206 = .ok (.iadd, 1) := by decide +kernel
theorem d_Law_law_207 : decode code 207 = .ok (.iaload, 1) := by decide +kernel
theorem d_Law_law_208 : decode code 208 = .ok (.invokevirtual 18, 3) := by decide +kernel
theorem d_Law_law_211 : decode code 211 = .ok (.aload_n 2, 1) := by decide +kernel
theorem d_Law_law_212 : decode code 212 = .ok (.aload_n 0, 1) := by decide +kernel
theorem d_Law_law_213 : decode code 213 = .ok (.iload_n 3, 1) := by decide +kernel
theorem d_Law_law_214 : decode code 214 = .ok (.iconst 1, 1) := by decide +kernel
theorem d_Law_law_215 : decode code 215 = .ok (.iadd, 1) := by decide +kernel
theorem d_Law_law_216 : decode code 216 = .ok (.iaload, 1) := by decide +kernel
theorem d_Law_law_217 : decode code 217 = .ok (.aload_n 0, 1) := by decide +kernel
theorem d_Law_law_218 : decode code 218 = .ok (.iload_n 3, 1) := by decide +kernel
theorem d_Law_law_219 : decode code 219 = .ok (.iconst 2, 1) := by decide +kernel
theorem d_Law_law_220 : decode code 220 = .ok (.iadd, 1) := by decide +kernel
theorem d_Law_law_221 : decode code 221 = .ok (.iaload, 1) := by decide +kernel
theorem d_Law_law_222 : decode code 222 = .ok (.aload_n 0, 1) := by decide +kernel
theorem d_Law_law_223 : decode code 223 = .ok (.iload_n 3, 1) := by decide +kernel
theorem d_Law_law_224 : decode code 224 = .ok (.iconst 3, 1) := by decide +kernel
theorem d_Law_law_225 : decode code 225 = .ok (.iadd, 1) := by decide +kernel
theorem d_Law_law_226 : decode code 226 = .ok (.iaload, 1) := by decide +kernel
theorem d_Law_law_227 : decode code 227 = .ok (.aload_n 0, 1) := by decide +kernel
theorem d_Law_law_228 : decode code 228 = .ok (.iload_n 3, 1) := by decide +kernel
theorem d_Law_law_229 : decode code 229 = .ok (.iconst 4, 1) := by decide +kernel
theorem d_Law_law_230 : decode code 230 = .ok (.iadd, 1) := by decide +kernel
theorem d_Law_law_231 : decode code 231 = .ok (.iaload, 1) := by decide +kernel
theorem d_Law_law_232 : decode code 232 = .ok (.invokevirtual 22, 3) := by decide +kernel
theorem d_Law_law_235 : decode code 235 = .ok (.if_icmp .eq 904, 3) := by decide +kernel
theorem d_Law_law_238 : decode code 238 = .ok (.iconst 0, 1) := by decide +kernel
theorem d_Law_law_239 : decode code 239 = .ok (.ireturn, 1) := by decide +kernel
theorem d_Law_law_240 : decode code 240 = .ok (.aload_n 1, 1) := by decide +kernel
theorem d_Law_law_241 : decode code 241 = .ok (.aload_n 0, 1) := by decide +kernel
theorem d_Law_law_242 : decode code 242 = .ok (.iload_n 3, 1) := by decide +kernel
theorem d_Law_law_243 : decode code 243 = .ok (.iconst 1, 1) := by decide +kernel
theorem d_Law_law_244 : decode code 244 = .ok (.iadd, 1) := by decide +kernel
theorem d_Law_law_245 : decode code 245 = .ok (.iaload, 1) := by decide +kernel
theorem d_Law_law_246 : decode code 246 = .ok (.aload_n 0, 1) := by decide +kernel
theorem d_Law_law_247 : decode code 247 = .ok (.iload_n 3, 1) := by decide +kernel
theorem d_Law_law_248 : decode code 248 = .ok (.iconst 2, 1) := by decide +kernel
theorem d_Law_law_249 : decode code 249 = .ok (.iadd, 1) := by decide +kernel
theorem d_Law_law_250 : decode code 250 = .ok (.iaload, 1) := by decide +kernel
theorem d_Law_law_251 : decode code 251 = .ok (.aload_n 0, 1) := by decide +kernel
theorem d_Law_law_252 : decode code 252 = .ok (.iload_n 3, 1) := by decide +kernel
theorem d_Law_law_253 : decode code 253 = .ok (.iconst 3, 1) := by decide +kernel
theorem d_Law_law_254 : decode code 254 = .ok (.iadd, 1) := by decide +kernel
theorem d_Law_law_255 : decode code 255 = .ok (.iaload, 1) := by decide +kernel
theorem d_Law_law_256 : decode code 256 = .ok (.aload_n 0, 1) := by decide +kernel
theorem d_Law_law_257 : decode code 257 = .ok (.iload_n 3, 1) := by decide +kernel
theorem d_Law_law_258 : decode code 258 = .ok (.iconst 4, 1) := by decide +kernel
theorem d_Law_law_259 : decode code 259 = .ok (.iadd, 1) := by decide +kernel
theorem d_Law_law_260 : decode code 260 = .ok (.iaload, 1) := by decide +kernel
theorem d_Law_law_261 : decode code 261 = .ok (.invokevirtual 23, 3) := by decide +kernel
theorem d_Law_law_264 : decode code 264 = .ok (.aload_n 2, 1) := by decide +kernel
theorem d_Law_law_265 : decode code 265 = .ok (.aload_n 0, 1) := by decide +kernel
theorem d_Law_law_266 : decode code 266 = .ok (.iload_n 3, 1) := by decide +kernel
theorem d_Law_law_267 : decode code 267 = .ok (.iconst 1, 1) := by decide +kernel
theorem d_Law_law_268 : decode code 268 = .ok (.iadd, 1) := by decide +kernel
theorem d_Law_law_269 : decode code 269 = .ok (.iaload, 1) := by decide +kernel
theorem d_Law_law_270 : decode code 270 = .ok (.aload_n 0, 1) := by decide +kernel
theorem d_Law_law_271 : decode code 271 = .ok (.iload_n 3, 1) := by decide +kernel
theorem d_Law_law_272 : decode code 272 = .ok (.iconst 2, 1) := by decide +kernel
theorem d_Law_law_273 : decode code 273 = .ok (.iadd, 1) := by decide +kernel
theorem d_Law_law_274 : decode code 274 = .ok (.iaload, 1) := by decide +kernel
theorem d_Law_law_275 : decode code 275 = .ok (.aload_n 0, 1) := by decide +kernel
theorem d_Law_law_276 : decode code 276 = .ok (.iload_n 3, 1) := by decide +kernel
theorem d_Law_law_277 : decode code 277 = .ok (.iconst 3, 1) := by decide +kernel
theorem d_Law_law_278 : decode code 278 = .ok (.iadd, 1) := by decide +kernel
theorem d_Law_law_279 : decode code 279 = .ok (.iaload, 1) := by decide +kernel
theorem d_Law_law_280 : decode code 280 = .ok (.aload_n 0, 1) := by decide +kernel
theorem d_Law_law_281 : decode code 281 = .ok (.iload_n 3, 1) := by decide +kernel
theorem d_Law_law_282 : decode code 282 = .ok (.iconst 4, 1) := by decide +kernel
theorem d_Law_law_283 : decode code 283 = .ok (.iadd, 1) := by decide +kernel
theorem d_Law_law_284 : decode code 284 = .ok (.iaload, 1) := by decide +kernel
theorem d_Law_law_285 : decode code 285 = .ok (.invokevirtual 26, 3) := by decide +kernel
theorem d_Law_law_288 : decode code 288 = .ok (.if_icmp .eq 851, 3) := by decide +kernel
theorem d_Law_law_291 : decode code 291 = .ok (.iconst 0, 1) := by decide +kernel
theorem d_Law_law_292 : decode code 292 = .ok (.ireturn, 1) := by decide +kernel
theorem d_Law_law_293 : decode code 293 = .ok (.aload_n 1, 1) := by decide +kernel
theorem d_Law_law_294 : decode code 294 = .ok (.invokevirtual 27, 3) := by decide +kernel
theorem d_Law_law_297 : decode code 297 = .ok (.aload_n 2, 1) := by decide +kernel
theorem d_Law_law_298 : decode code 298 = .ok (.invokevirtual 31, 3) := by decide +kernel
theorem d_Law_law_301 : decode code 301 = .ok (.if_icmp .eq 838, 3) := by decide +kernel
theorem d_Law_law_304 : decode code 304 = .ok (.iconst 0, 1) := by decide +kernel
theorem d_Law_law_305 : decode code 305 = .ok (.ireturn, 1) := by decide +kernel
theorem d_Law_law_306 : decode code 306 = .ok (.aload_n 1, 1) := by decide +kernel
theorem d_Law_law_307 : decode code 307 = .ok (.aload_n 0, 1) := by decide +kernel
theorem d_Law_law_308 : decode code 308 = .ok (.iload_n 3, 1) := by decide +kernel
theorem d_Law_law_309 : decode code 309 = .ok (.iconst 1, 1) := by decide +kernel
theorem d_Law_law_310 : decode code 310 = .ok (.iadd, 1) := by decide +kernel
theorem d_Law_law_311 : decode code 311 = .ok (.iaload, 1) := by decide +kernel
theorem d_Law_law_312 : decode code 312 = .ok (.aload_n 0, 1) := by decide +kernel
theorem d_Law_law_313 : decode code 313 = .ok (.iload_n 3, 1) := by decide +kernel
theorem d_Law_law_314 : decode code 314 = .ok (.iconst 2, 1) := by decide +kernel
theorem d_Law_law_315 : decode code 315 = .ok (.iadd, 1) := by decide +kernel
theorem d_Law_law_316 : decode code 316 = .ok (.iaload, 1) := by decide +kernel
theorem d_Law_law_317 : decode code 317 = .ok (.invokevirtual 32, 3) := by decide +kernel
theorem d_Law_law_320 : decode code 320 = .ok (.aload_n 2, 1) := by decide +kernel
theorem d_Law_law_321 : decode code 321 = .ok (.aload_n 0, 1) := by decide +kernel
theorem d_Law_law_322 : decode code 322 = .ok (.iload_n 3, 1) := by decide +kernel
theorem d_Law_law_323 : decode code 323 = .ok (.iconst 1, 1) := by decide +kernel
theorem d_Law_law_324 : decode code 324 = .ok (.iadd, 1) := by decide +kernel
theorem d_Law_law_325 : decode code 325 = .ok (.iaload, 1) := by decide +kernel
theorem d_Law_law_326 : decode code 326 = .ok (.aload_n 0, 1) := by decide +kernel
theorem d_Law_law_327 : decode code 327 = .ok (.iload_n 3, 1) := by decide +kernel
theorem d_Law_law_328 : decode code 328 = .ok (.iconst 2, 1) := by decide +kernel
theorem d_Law_law_329 : decode code 329 = .ok (.iadd, 1) := by decide +kernel
theorem d_Law_law_330 : decode code 330 = .ok (.iaload, 1) := by decide +kernel
theorem d_Law_law_331 : decode code 331 = .ok (.invokevirtual 36, 3) := by decide +kernel
theorem d_Law_law_334 : decode code 334 = .ok (.if_icmp .eq 805, 3) := by decide +kernel
theorem d_Law_law_337 : decode code 337 = .ok (.iconst 0, 1) := by decide +kernel
theorem d_Law_law_338 : decode code 338 = .ok (.ireturn, 1) := by decide +kernel
theorem d_Law_law_339 : decode code 339 = .ok (.aload_n 1, 1) := by decide +kernel
theorem d_Law_law_340 : decode code 340 = .ok (.aload_n 0, 1) := by decide +kernel
theorem d_Law_law_341 : decode code 341 = .ok (.iload_n 3, 1) := by decide +kernel
theorem d_Law_law_342 : decode code 342 = .ok (.iconst 1, 1) := by decide +kernel
theorem d_Law_law_343 : decode code 343 = .ok (.iadd, 1) := by decide +kernel
theorem d_Law_law_344 : decode code 344 = .ok (.iaload, 1) := by decide +kernel
theorem d_Law_law_345 : decode code 345 = .ok (.aload_n 0, 1) := by decide +kernel
theorem d_Law_law_346 : decode code 346 = .ok (.iload_n 3, 1) := by decide +kernel
theorem d_Law_law_347 : decode code 347 = .ok (.iconst 2, 1) := by decide +kernel
theorem d_Law_law_348 : decode code 348 = .ok (.iadd, 1) := by decide +kernel
theorem d_Law_law_349 : decode code 349 = .ok (.iaload, 1) := by decide +kernel
theorem d_Law_law_350 : decode code 350 = .ok (.aload_n 0, 1) := by decide +kernel
theorem d_Law_law_351 : decode code 351 = .ok (.iload_n 3, 1) := by decide +kernel
theorem d_Law_law_352 : decode code 352 = .ok (.iconst 3, 1) := by decide +kernel
theorem d_Law_law_353 : decode code 353 = .ok (.iadd, 1) := by decide +kernel
theorem d_Law_law_354 : decode code 354 = .ok (.iaload, 1) := by decide +kernel
theorem d_Law_law_355 : decode code 355 = .ok (.invokevirtual 37, 3) := by decide +kernel
theorem d_Law_law_358 : decode code 358 = .ok (.aload_n 2, 1) := by decide +kernel
theorem d_Law_law_359 : decode code 359 = .ok (.aload_n 0, 1) := by decide +kernel
theorem d_Law_law_360 : decode code 360 = .ok (.iload_n 3, 1) := by decide +kernel
theorem d_Law_law_361 : decode code 361 = .ok (.iconst 1, 1) := by decide +kernel
theorem d_Law_law_362 : decode code 362 = .ok (.iadd, 1) := by decide +kernel
theorem d_Law_law_363 : decode code 363 = .ok (.iaload, 1) := by decide +kernel
theorem d_Law_law_364 : decode code 364 = .ok (.aload_n 0, 1) := by decide +kernel
theorem d_Law_law_365 : decode code 365 = .ok (.iload_n 3, 1) := by decide +kernel
theorem d_Law_law_366 : decode code 366 = .ok (.iconst 2, 1) := by decide +kernel
theorem d_Law_law_367 : decode code 367 = .ok (.iadd, 1) := by decide +kernel
theorem d_Law_law_368 : decode code 368 = .ok (.iaload, 1) := by decide +kernel
theorem d_Law_law_369 : decode code 369 = .ok (.aload_n 0, 1) := by decide +kernel
theorem d_Law_law_370 : decode code 370 = .ok (.iload_n 3, 1) := by decide +kernel
theorem d_Law_law_371 : decode code 371 = .ok (.iconst 3, 1) := by decide +kernel
theorem d_Law_law_372 : decode code 372 = .ok (.iadd, 1) := by decide +kernel
theorem d_Law_law_373 : decode code 373 = .ok (.iaload, 1) := by decide +kernel
theorem d_Law_law_374 : decode code 374 = .ok (.invokevirtual 41, 3) := by decide +kernel
theorem d_Law_law_377 : decode code 377 = .ok (.if_icmp .eq 762, 3) := by decide +kernel
theorem d_Law_law_380 : decode code 380 = .ok (.iconst 0, 1) := by decide +kernel
theorem d_Law_law_381 : decode code 381 = .ok (.ireturn, 1) := by decide +kernel
theorem d_Law_law_382 : decode code 382 = .ok (.aload_n 1, 1) := by decide +kernel
theorem d_Law_law_383 : decode code 383 = .ok (.aload_n 0, 1) := by decide +kernel
theorem d_Law_law_384 : decode code 384 = .ok (.iload_n 3, 1) := by decide +kernel
theorem d_Law_law_385 : decode code 385 = .ok (.iconst 1, 1) := by decide +kernel
theorem d_Law_law_386 : decode code 386 = .ok (.iadd, 1) := by decide +kernel
theorem d_Law_law_387 : decode code 387 = .ok (.iaload, 1) := by decide +kernel
theorem d_Law_law_388 : decode code 388 = .ok (.aload_n 0, 1) := by decide +kernel
theorem d_Law_law_389 : decode code 389 = .ok (.iload_n 3, 1) := by decide +kernel
theorem d_Law_law_390 : decode code 390 = .ok (.iconst 2, 1) := by decide +kernel
theorem d_Law_law_391 : decode code 391 = .ok (.iadd, 1) := by decide +kernel
theorem d_Law_law_392 : decode code 392 = .ok (.iaload, 1) := by decide +kernel
theorem d_Law_law_393 : decode code 393 = .ok (.invokevirtual 42, 3) := by decide +kernel
theorem d_Law_law_396 : decode code 396 = .ok (.aload_n 2, 1) := by decide +kernel
theorem d_Law_law_397 : decode code 397 = .ok (.aload_n 0, 1) := by decide +kernel
theorem d_Law_law_398 : decode code 398 = .ok (.iload_n 3, 1) := by decide +kernel
theorem d_Law_law_399 : decode code 399 = .ok (.iconst 1, 1) := by decide +kernel
theorem d_Law_law_400 : decode code 400 = .ok (.iadd, 1) := by decide +kernel
theorem d_Law_law_401 : decode code 401 = .ok (.iaload, 1) := by decide +kernel
theorem d_Law_law_402 : decode code 402 = .ok (.aload_n 0, 1) := by decide +kernel
theorem d_Law_law_403 : decode code 403 = .ok (.iload_n 3, 1) := by decide +kernel
theorem d_Law_law_404 : decode code 404 = .ok (.iconst 2, 1) := by decide +kernel
theorem d_Law_law_405 : decode code 405 = .ok (.iadd, 1) := by decide +kernel
theorem d_Law_law_406 : decode code 406 = .ok (.iaload, 1) := by decide +kernel
theorem d_Law_law_407 : decode code 407 = .ok (.invokevirtual 45, 3) := by decide +kernel
theorem d_Law_law_410 : decode code 410 = .ok (.if_icmp .eq 729, 3) := by decide +kernel
theorem d_Law_law_413 : decode code 413 = .ok (.iconst 0, 1) := by decide +kernel
theorem d_Law_law_414 : decode code 414 = .ok (.ireturn, 1) := by decide +kernel
theorem d_Law_law_415 : decode code 415 = .ok (.aload_n 1, 1) := by decide +kernel
theorem d_Law_law_416 : decode code 416 = .ok (.aload_n 0, 1) := by decide +kernel
theorem d_Law_law_417 : decode code 417 = .ok (.iload_n 3, 1) := by decide +kernel
theorem d_Law_law_418 : decode code 418 = .ok (.iconst 1, 1) := by decide +kernel
theorem d_Law_law_419 : decode code 419 = .ok (.iadd, 1) := by decide +kernel
theorem d_Law_law_420 : decode code 420 = .ok (.iaload, 1) := by decide +kernel
theorem d_Law_law_421 : decode code 421 = .ok (.aload_n 0, 1) := by decide +kernel
theorem d_Law_law_422 : decode code 422 = .ok (.iload_n 3, 1) := by decide +kernel
theorem d_Law_law_423 : decode code 423 = .ok (.iconst 2, 1) := by decide +kernel
theorem d_Law_law_424 : decode code 424 = .ok (.iadd, 1) := by decide +kernel
theorem d_Law_law_425 : decode code 425 = .ok (.iaload, 1) := by decide +kernel
theorem d_Law_law_426 : decode code 426 = .ok (.invokevirtual 46, 3) := by decide +kernel
theorem d_Law_law_429 : decode code 429 = .ok (.aload_n 2, 1) := by decide +kernel
theorem d_Law_law_430 : decode code 430 = .ok (.aload_n 0, 1) := by decide +kernel
theorem d_Law_law_431 : decode code 431 = .ok (.iload_n 3, 1) := by decide +kernel
theorem d_Law_law_432 : decode code 432 = .ok (.iconst 1, 1) := by decide +kernel
theorem d_Law_law_433 : decode code 433 = .ok (.iadd, 1) := by decide +kernel
theorem d_Law_law_434 : decode code 434 = .ok (.iaload, 1) := by decide +kernel
theorem d_Law_law_435 : decode code 435 = .ok (.aload_n 0, 1) := by decide +kernel
theorem d_Law_law_436 : decode code 436 = .ok (.iload_n 3, 1) := by decide +kernel
theorem d_Law_law_437 : decode code 437 = .ok (.iconst 2, 1) := by decide +kernel
theorem d_Law_law_438 : decode code 438 = .ok (.iadd, 1) := by decide +kernel
theorem d_Law_law_439 : decode code 439 = .ok (.iaload, 1) := by decide +kernel
theorem d_Law_law_440 : decode code 440 = .ok (.invokevirtual 50, 3) := by decide +kernel
theorem d_Law_law_443 : decode code 443 = .ok (.lcmp, 1) := by decide +kernel
theorem d_Law_law_444 : decode code 444 = .ok (.ifCond .eq 695, 3) := by decide +kernel
theorem d_Law_law_447 : decode code 447 = .ok (.iconst 0, 1) := by decide +kernel
theorem d_Law_law_448 : decode code 448 = .ok (.ireturn, 1) := by decide +kernel
theorem d_Law_law_449 : decode code 449 = .ok (.aload_n 1, 1) := by decide +kernel
theorem d_Law_law_450 : decode code 450 = .ok (.aload_n 0, 1) := by decide +kernel
theorem d_Law_law_451 : decode code 451 = .ok (.iload_n 3, 1) := by decide +kernel
theorem d_Law_law_452 : decode code 452 = .ok (.iconst 1, 1) := by decide +kernel
theorem d_Law_law_453 : decode code 453 = .ok (.iadd, 1) := by decide +kernel
theorem d_Law_law_454 : decode code 454 = .ok (.iaload, 1) := by decide +kernel
theorem d_Law_law_455 : decode code 455 = .ok (.invokevirtual 51, 3) := by decide +kernel
theorem d_Law_law_458 : decode code 458 = .ok (.aload_n 2, 1) := by decide +kernel
theorem d_Law_law_459 : decode code 459 = .ok (.aload_n 0, 1) := by decide +kernel
theorem d_Law_law_460 : decode code 460 = .ok (.iload_n 3, 1) := by decide +kernel
theorem d_Law_law_461 : decode code 461 = .ok (.iconst 1, 1) := by decide +kernel
theorem d_Law_law_462 : decode code 462 = .ok (.iadd, 1) := by decide +kernel
theorem d_Law_law_463 : decode code 463 = .ok (.iaload, 1) := by decide +kernel
theorem d_Law_law_464 : decode code 464 = .ok (.invokevirtual 55, 3) := by decide +kernel
theorem d_Law_law_467 : decode code 467 = .ok (.lcmp, 1) := by decide +kernel
theorem d_Law_law_468 : decode code 468 = .ok (.ifCond .eq 671, 3) := by decide +kernel
theorem d_Law_law_471 : decode code 471 = .ok (.iconst 0, 1) := by decide +kernel
theorem d_Law_law_472 : decode code 472 = .ok (.ireturn, 1) := by decide +kernel
theorem d_Law_law_473 : decode code 473 = .ok (.aload_n 1, 1) := by decide +kernel
theorem d_Law_law_474 : decode code 474 = .ok (.aload_n 0, 1) := by decide +kernel
theorem d_Law_law_475 : decode code 475 = .ok (.iload_n 3, 1) := by decide +kernel
theorem d_Law_law_476 : decode code 476 = .ok (.iconst 1, 1) := by decide +kernel
theorem d_Law_law_477 : decode code 477 = .ok (.iadd, 1) := by decide +kernel
theorem d_Law_law_478 : decode code 478 = .ok (.iaload, 1) := by decide +kernel
theorem d_Law_law_479 : decode code 479 = .ok (.aload_n 0, 1) := by decide +kernel
theorem d_Law_law_480 : decode code 480 = .ok (.iload_n 3, 1) := by decide +kernel
theorem d_Law_law_481 : decode code 481 = .ok (.iconst 2, 1) := by decide +kernel
theorem d_Law_law_482 : decode code 482 = .ok (.iadd, 1) := by decide +kernel
theorem d_Law_law_483 : decode code 483 = .ok (.iaload, 1) := by decide +kernel
theorem d_Law_law_484 : decode code 484 = .ok (.aload_n 0, 1) := by decide +kernel
theorem d_Law_law_485 : decode code 485 = .ok (.iload_n 3, 1) := by decide +kernel
theorem d_Law_law_486 : decode code 486 = .ok (.iconst 3, 1) := by decide +kernel
theorem d_Law_law_487 : decode code 487 = .ok (.iadd, 1) := by decide +kernel
theorem d_Law_law_488 : decode code 488 = .ok (.iaload, 1) := by decide +kernel
theorem d_Law_law_489 : decode code 489 = .ok (.invokevirtual 56, 3) := by decide +kernel
theorem d_Law_law_492 : decode code 492 = .ok (.aload_n 2, 1) := by decide +kernel
theorem d_Law_law_493 : decode code 493 = .ok (.aload_n 0, 1) := by decide +kernel
theorem d_Law_law_494 : decode code 494 = .ok (.iload_n 3, 1) := by decide +kernel
theorem d_Law_law_495 : decode code 495 = .ok (.iconst 1, 1) := by decide +kernel
theorem d_Law_law_496 : decode code 496 = .ok (.iadd, 1) := by decide +kernel
theorem d_Law_law_497 : decode code 497 = .ok (.iaload, 1) := by decide +kernel
theorem d_Law_law_498 : decode code 498 = .ok (.aload_n 0, 1) := by decide +kernel
theorem d_Law_law_499 : decode code 499 = .ok (.iload_n 3, 1) := by decide +kernel
theorem d_Law_law_500 : decode code 500 = .ok (.iconst 2, 1) := by decide +kernel
theorem d_Law_law_501 : decode code 501 = .ok (.iadd, 1) := by decide +kernel
theorem d_Law_law_502 : decode code 502 = .ok (.iaload, 1) := by decide +kernel
theorem d_Law_law_503 : decode code 503 = .ok (.aload_n 0, 1) := by decide +kernel
theorem d_Law_law_504 : decode code 504 = .ok (.iload_n 3, 1) := by decide +kernel
theorem d_Law_law_505 : decode code 505 = .ok (.iconst 3, 1) := by decide +kernel
theorem d_Law_law_506 : decode code 506 = .ok (.iadd, 1) := by decide +kernel
theorem d_Law_law_507 : decode code 507 = .ok (.iaload, 1) := by decide +kernel
theorem d_Law_law_508 : decode code 508 = .ok (.invokevirtual 60, 3) := by decide +kernel
theorem d_Law_law_511 : decode code 511 = .ok (.lcmp, 1) := by decide +kernel
theorem d_Law_law_512 : decode code 512 = .ok (.ifCond .eq 627, 3) := by decide +kernel
theorem d_Law_law_515 : decode code 515 = .ok (.iconst 0, 1) := by decide +kernel
theorem d_Law_law_516 : decode code 516 = .ok (.ireturn, 1) := by decide +kernel
theorem d_Law_law_517 : decode code 517 = .ok (.aload_n 1, 1) := by decide +kernel
theorem d_Law_law_518 : decode code 518 = .ok (.aload_n 0, 1) := by decide +kernel
theorem d_Law_law_519 : decode code 519 = .ok (.iload_n 3, 1) := by decide +kernel
theorem d_Law_law_520 : decode code 520 = .ok (.iconst 1, 1) := by decide +kernel
theorem d_Law_law_521 : decode code 521 = .ok (.iadd, 1) := by decide +kernel
theorem d_Law_law_522 : decode code 522 = .ok (.iaload, 1) := by decide +kernel
theorem d_Law_law_523 : decode code 523 = .ok (.aload_n 0, 1) := by decide +kernel
theorem d_Law_law_524 : decode code 524 = .ok (.iload_n 3, 1) := by decide +kernel
theorem d_Law_law_525 : decode code 525 = .ok (.iconst 2, 1) := by decide +kernel
theorem d_Law_law_526 : decode code 526 = .ok (.iadd, 1) := by decide +kernel
theorem d_Law_law_527 : decode code 527 = .ok (.iaload, 1) := by decide +kernel
theorem d_Law_law_528 : decode code 528 = .ok (.invokevirtual 61, 3) := by decide +kernel
theorem d_Law_law_531 : decode code 531 = .ok (.aload_n 2, 1) := by decide +kernel
theorem d_Law_law_532 : decode code 532 = .ok (.aload_n 0, 1) := by decide +kernel
theorem d_Law_law_533 : decode code 533 = .ok (.iload_n 3, 1) := by decide +kernel
theorem d_Law_law_534 : decode code 534 = .ok (.iconst 1, 1) := by decide +kernel
theorem d_Law_law_535 : decode code 535 = .ok (.iadd, 1) := by decide +kernel
theorem d_Law_law_536 : decode code 536 = .ok (.iaload, 1) := by decide +kernel
theorem d_Law_law_537 : decode code 537 = .ok (.aload_n 0, 1) := by decide +kernel
theorem d_Law_law_538 : decode code 538 = .ok (.iload_n 3, 1) := by decide +kernel
theorem d_Law_law_539 : decode code 539 = .ok (.iconst 2, 1) := by decide +kernel
theorem d_Law_law_540 : decode code 540 = .ok (.iadd, 1) := by decide +kernel
theorem d_Law_law_541 : decode code 541 = .ok (.iaload, 1) := by decide +kernel
theorem d_Law_law_542 : decode code 542 = .ok (.invokevirtual 64, 3) := by decide +kernel
theorem d_Law_law_545 : decode code 545 = .ok (.if_icmp .eq 594, 3) := by decide +kernel
theorem d_Law_law_548 : decode code 548 = .ok (.iconst 0, 1) := by decide +kernel
theorem d_Law_law_549 : decode code 549 = .ok (.ireturn, 1) := by decide +kernel
theorem d_Law_law_550 : decode code 550 = .ok (.aload_n 1, 1) := by decide +kernel
theorem d_Law_law_551 : decode code 551 = .ok (.aload_n 0, 1) := by decide +kernel
theorem d_Law_law_552 : decode code 552 = .ok (.iload_n 3, 1) := by decide +kernel
theorem d_Law_law_553 : decode code 553 = .ok (.iconst 1, 1) := by decide +kernel
theorem d_Law_law_554 : decode code 554 = .ok (.iadd, 1) := by decide +kernel
theorem d_Law_law_555 : decode code 555 = .ok (.iaload, 1) := by decide +kernel
theorem d_Law_law_556 : decode code 556 = .ok (.invokevirtual 65, 3) := by decide +kernel
theorem d_Law_law_559 : decode code 559 = .ok (.aload_n 2, 1) := by decide +kernel
theorem d_Law_law_560 : decode code 560 = .ok (.aload_n 0, 1) := by decide +kernel
theorem d_Law_law_561 : decode code 561 = .ok (.iload_n 3, 1) := by decide +kernel
theorem d_Law_law_562 : decode code 562 = .ok (.iconst 1, 1) := by decide +kernel
theorem d_Law_law_563 : decode code 563 = .ok (.iadd, 1) := by decide +kernel
theorem d_Law_law_564 : decode code 564 = .ok (.iaload, 1) := by decide +kernel
theorem d_Law_law_565 : decode code 565 = .ok (.invokevirtual 68, 3) := by decide +kernel
theorem d_Law_law_568 : decode code 568 = .ok (.if_icmp .eq 571, 3) := by decide +kernel
theorem d_Law_law_571 : decode code 571 = .ok (.iconst 0, 1) := by decide +kernel
theorem d_Law_law_572 : decode code 572 = .ok (.ireturn, 1) := by decide +kernel
theorem d_Law_law_573 : decode code 573 = .ok (.aload_n 1, 1) := by decide +kernel
theorem d_Law_law_574 : decode code 574 = .ok (.aload_n 0, 1) := by decide +kernel
theorem d_Law_law_575 : decode code 575 = .ok (.iload_n 3, 1) := by decide +kernel
theorem d_Law_law_576 : decode code 576 = .ok (.iconst 1, 1) := by decide +kernel
theorem d_Law_law_577 : decode code 577 = .ok (.iadd, 1) := by decide +kernel
theorem d_Law_law_578 : decode code 578 = .ok (.iaload, 1) := by decide +kernel
theorem d_Law_law_579 : decode code 579 = .ok (.aload_n 0, 1) := by decide +kernel
theorem d_Law_law_580 : decode code 580 = .ok (.iload_n 3, 1) := by decide +kernel
theorem d_Law_law_581 : decode code 581 = .ok (.iconst 2, 1) := by decide +kernel
theorem d_Law_law_582 : decode code 582 = .ok (.iadd, 1) := by decide +kernel
theorem d_Law_law_583 : decode code 583 = .ok (.iaload, 1) := by decide +kernel
theorem d_Law_law_584 : decode code 584 = .ok (.invokevirtual 69, 3) := by decide +kernel
theorem d_Law_law_587 : decode code 587 = .ok (.aload_n 2, 1) := by decide +kernel
theorem d_Law_law_588 : decode code 588 = .ok (.aload_n 0, 1) := by decide +kernel
theorem d_Law_law_589 : decode code 589 = .ok (.iload_n 3, 1) := by decide +kernel
theorem d_Law_law_590 : decode code 590 = .ok (.iconst 1, 1) := by decide +kernel
theorem d_Law_law_591 : decode code 591 = .ok (.iadd, 1) := by decide +kernel
theorem d_Law_law_592 : decode code 592 = .ok (.iaload, 1) := by decide +kernel
theorem d_Law_law_593 : decode code 593 = .ok (.aload_n 0, 1) := by decide +kernel
theorem d_Law_law_594 : decode code 594 = .ok (.iload_n 3, 1) := by decide +kernel
theorem d_Law_law_595 : decode code 595 = .ok (.iconst 2, 1) := by decide +kernel
theorem d_Law_law_596 : decode code 596 = .ok (.iadd, 1) := by decide +kernel
theorem d_Law_law_597 : decode code 597 = .ok (.iaload, 1) := by decide +kernel
theorem d_Law_law_598 : decode code 598 = .ok (.invokevirtual 72, 3) := by decide +kernel
theorem d_Law_law_601 : decode code 601 = .ok (.lcmp, 1) := by decide +kernel
theorem d_Law_law_602 : decode code 602 = .ok (.ifCond .eq 537, 3) := by decide +kernel
theorem d_Law_law_605 : decode code 605 = .ok (.iconst 0, 1) := by decide +kernel
theorem d_Law_law_606 : decode code 606 = .ok (.ireturn, 1) := by decide +kernel
theorem d_Law_law_607 : decode code 607 = .ok (.aload_n 1, 1) := by decide +kernel
theorem d_Law_law_608 : decode code 608 = .ok (.aload_n 0, 1) := by decide +kernel
theorem d_Law_law_609 : decode code 609 = .ok (.iload_n 3, 1) := by decide +kernel
theorem d_Law_law_610 : decode code 610 = .ok (.iconst 1, 1) := by decide +kernel
theorem d_Law_law_611 : decode code 611 = .ok (.iadd, 1) := by decide +kernel
theorem d_Law_law_612 : decode code 612 = .ok (.iaload, 1) := by decide +kernel
theorem d_Law_law_613 : decode code 613 = .ok (.aload_n 0, 1) := by decide +kernel
theorem d_Law_law_614 : decode code 614 = .ok (.iload_n 3, 1) := by decide +kernel
theorem d_Law_law_615 : decode code 615 = .ok (.iconst 2, 1) := by decide +kernel
theorem d_Law_law_616 : decode code 616 = .ok (.iadd, 1) := by decide +kernel
theorem d_Law_law_617 : decode code 617 = .ok (.iaload, 1) := by decide +kernel
theorem d_Law_law_618 : decode code 618 = .ok (.invokevirtual 73, 3) := by decide +kernel
theorem d_Law_law_621 : decode code 621 = .ok (.aload_n 2, 1) := by decide +kernel
theorem d_Law_law_622 : decode code 622 = .ok (.aload_n 0, 1) := by decide +kernel
theorem d_Law_law_623 : decode code 623 = .ok (.iload_n 3, 1) := by decide +kernel
theorem d_Law_law_624 : decode code 624 = .ok (.iconst 1, 1) := by decide +kernel
theorem d_Law_law_625 : decode code 625 = .ok (.iadd, 1) := by decide +kernel
theorem d_Law_law_626 : decode code 626 = .ok (.iaload, 1) := by decide +kernel
theorem d_Law_law_627 : decode code 627 = .ok (.aload_n 0, 1) := by decide +kernel
theorem d_Law_law_628 : decode code 628 = .ok (.iload_n 3, 1) := by decide +kernel
theorem d_Law_law_629 : decode code 629 = .ok (.iconst 2, 1) := by decide +kernel
theorem d_Law_law_630 : decode code 630 = .ok (.iadd, 1) := by decide +kernel
theorem d_Law_law_631 : decode code 631 = .ok (.iaload, 1) := by decide +kernel
theorem d_Law_law_632 : decode code 632 = .ok (.invokevirtual 76, 3) := by decide +kernel
theorem d_Law_law_635 : decode code 635 = .ok (.lcmp, 1) := by decide +kernel
theorem d_Law_law_636 : decode code 636 = .ok (.ifCond .eq 503, 3) := by decide +kernel
theorem d_Law_law_639 : decode code 639 = .ok (.iconst 0, 1) := by decide +kernel
theorem d_Law_law_640 : decode code 640 = .ok (.ireturn, 1) := by decide +kernel
theorem d_Law_law_641 : decode code 641 = .ok (.aload_n 1, 1) := by decide +kernel
theorem d_Law_law_642 : decode code 642 = .ok (.aload_n 0, 1) := by decide +kernel
theorem d_Law_law_643 : decode code 643 = .ok (.iload_n 3, 1) := by decide +kernel
theorem d_Law_law_644 : decode code 644 = .ok (.iconst 1, 1) := by decide +kernel
theorem d_Law_law_645 : decode code 645 = .ok (.iadd, 1) := by decide +kernel
theorem d_Law_law_646 : decode code 646 = .ok (.iaload, 1) := by decide +kernel
theorem d_Law_law_647 : decode code 647 = .ok (.aload_n 0, 1) := by decide +kernel
theorem d_Law_law_648 : decode code 648 = .ok (.iload_n 3, 1) := by decide +kernel
theorem d_Law_law_649 : decode code 649 = .ok (.iconst 2, 1) := by decide +kernel
theorem d_Law_law_650 : decode code 650 = .ok (.iadd, 1) := by decide +kernel
theorem d_Law_law_651 : decode code 651 = .ok (.iaload, 1) := by decide +kernel
theorem d_Law_law_652 : decode code 652 = .ok (.aload_n 0, 1) := by decide +kernel
theorem d_Law_law_653 : decode code 653 = .ok (.iload_n 3, 1) := by decide +kernel
theorem d_Law_law_654 : decode code 654 = .ok (.iconst 3, 1) := by decide +kernel
theorem d_Law_law_655 : decode code 655 = .ok (.iadd, 1) := by decide +kernel
theorem d_Law_law_656 : decode code 656 = .ok (.iaload, 1) := by decide +kernel
theorem d_Law_law_657 : decode code 657 = .ok (.invokevirtual 77, 3) := by decide +kernel
theorem d_Law_law_660 : decode code 660 = .ok (.aload_n 2, 1) := by decide +kernel
theorem d_Law_law_661 : decode code 661 = .ok (.aload_n 0, 1) := by decide +kernel
theorem d_Law_law_662 : decode code 662 = .ok (.iload_n 3, 1) := by decide +kernel
theorem d_Law_law_663 : decode code 663 = .ok (.iconst 1, 1) := by decide +kernel
theorem d_Law_law_664 : decode code 664 = .ok (.iadd, 1) := by decide +kernel
theorem d_Law_law_665 : decode code 665 = .ok (.iaload, 1) := by decide +kernel
theorem d_Law_law_666 : decode code 666 = .ok (.aload_n 0, 1) := by decide +kernel
theorem d_Law_law_667 : decode code 667 = .ok (.iload_n 3, 1) := by decide +kernel
theorem d_Law_law_668 : decode code 668 = .ok (.iconst 2, 1) := by decide +kernel
theorem d_Law_law_669 : decode code 669 = .ok (.iadd, 1) := by decide +kernel
theorem d_Law_law_670 : decode code 670 = .ok (.iaload, 1) := by decide +kernel
theorem d_Law_law_671 : decode code 671 = .ok (.aload_n 0, 1) := by decide +kernel
theorem d_Law_law_672 : decode code 672 = .ok (.iload_n 3, 1) := by decide +kernel
theorem d_Law_law_673 : decode code 673 = .ok (.iconst 3, 1) := by decide +kernel
theorem d_Law_law_674 : decode code 674 = .ok (.iadd, 1) := by decide +kernel
theorem d_Law_law_675 : decode code 675 = .ok (.iaload, 1) := by decide +kernel
theorem d_Law_law_676 : decode code 676 = .ok (.invokevirtual 80, 3) := by decide +kernel
theorem d_Law_law_679 : decode code 679 = .ok (.lcmp, 1) := by decide +kernel
theorem d_Law_law_680 : decode code 680 = .ok (.ifCond .eq 459, 3) := by decide +kernel
theorem d_Law_law_683 : decode code 683 = .ok (.iconst 0, 1) := by decide +kernel
theorem d_Law_law_684 : decode code 684 = .ok (.ireturn, 1) := by decide +kernel
theorem d_Law_law_685 : decode code 685 = .ok (.aload_n 1, 1) := by decide +kernel
theorem d_Law_law_686 : decode code 686 = .ok (.aload_n 0, 1) := by decide +kernel
theorem d_Law_law_687 : decode code 687 = .ok (.iload_n 3, 1) := by decide +kernel
theorem d_Law_law_688 : decode code 688 = .ok (.iconst 1, 1) := by decide +kernel
theorem d_Law_law_689 : decode code 689 = .ok (.iadd, 1) := by decide +kernel
theorem d_Law_law_690 : decode code 690 = .ok (.iaload, 1) := by decide +kernel
theorem d_Law_law_691 : decode code 691 = .ok (.aload_n 0, 1) := by decide +kernel
theorem d_Law_law_692 : decode code 692 = .ok (.iload_n 3, 1) := by decide +kernel
theorem d_Law_law_693 : decode code 693 = .ok (.iconst 2, 1) := by decide +kernel
theorem d_Law_law_694 : decode code 694 = .ok (.iadd, 1) := by decide +kernel
theorem d_Law_law_695 : decode code 695 = .ok (.iaload, 1) := by decide +kernel
theorem d_Law_law_696 : decode code 696 = .ok (.invokevirtual 81, 3) := by decide +kernel
theorem d_Law_law_699 : decode code 699 = .ok (.aload_n 2, 1) := by decide +kernel
theorem d_Law_law_700 : decode code 700 = .ok (.aload_n 0, 1) := by decide +kernel
theorem d_Law_law_701 : decode code 701 = .ok (.iload_n 3, 1) := by decide +kernel
theorem d_Law_law_702 : decode code 702 = .ok (.iconst 1, 1) := by decide +kernel
theorem d_Law_law_703 : decode code 703 = .ok (.iadd, 1) := by decide +kernel
theorem d_Law_law_704 : decode code 704 = .ok (.iaload, 1) := by decide +kernel
theorem d_Law_law_705 : decode code 705 = .ok (.aload_n 0, 1) := by decide +kernel
theorem d_Law_law_706 : decode code 706 = .ok (.iload_n 3, 1) := by decide +kernel
theorem d_Law_law_707 : decode code 707 = .ok (.iconst 2, 1) := by decide +kernel
theorem d_Law_law_708 : decode code 708 = .ok (.iadd, 1) := by decide +kernel
theorem d_Law_law_709 : decode code 709 = .ok (.iaload, 1) := by decide +kernel
theorem d_Law_law_710 : decode code 710 = .ok (.invokevirtual 84, 3) := by decide +kernel
theorem d_Law_law_713 : decode code 713 = .ok (.if_icmp .eq 426, 3) := by decide +kernel
theorem d_Law_law_716 : decode code 716 = .ok (.iconst 0, 1) := by decide +kernel
theorem d_Law_law_717 : decode code 717 = .ok (.ireturn, 1) := by decide +kernel
theorem d_Law_law_718 : decode code 718 = .ok (.aload_n 1, 1) := by decide +kernel
theorem d_Law_law_719 : decode code 719 = .ok (.aload_n 0, 1) := by decide +kernel
theorem d_Law_law_720 : decode code 720 = .ok (.iload_n 3, 1) := by decide +kernel
theorem d_Law_law_721 : decode code 721 = .ok (.iconst 1, 1) := by decide +kernel
theorem d_Law_law_722 : decode code 722 = .ok (.iadd, 1) := by decide +kernel
theorem d_Law_law_723 : decode code 723 = .ok (.iaload, 1) := by decide +kernel
theorem d_Law_law_724 : decode code 724 = .ok (.aload_n 0, 1) := by decide +kernel
theorem d_Law_law_725 : decode code 725 = .ok (.iload_n 3, 1) := by decide +kernel
theorem d_Law_law_726 : decode code 726 = .ok (.iconst 2, 1) := by decide +kernel
theorem d_Law_law_727 : decode code 727 = .ok (.iadd, 1) := by decide +kernel
theorem d_Law_law_728 : decode code 728 = .ok (.iaload, 1) := by decide +kernel
theorem d_Law_law_729 : decode code 729 = .ok (.aload_n 0, 1) := by decide +kernel
theorem d_Law_law_730 : decode code 730 = .ok (.iload_n 3, 1) := by decide +kernel
theorem d_Law_law_731 : decode code 731 = .ok (.iconst 3, 1) := by decide +kernel
theorem d_Law_law_732 : decode code 732 = .ok (.iadd, 1) := by decide +kernel
theorem d_Law_law_733 : decode code 733 = .ok (.iaload, 1) := by decide +kernel
theorem d_Law_law_734 : decode code 734 = .ok (.invokevirtual 85, 3) := by decide +kernel
theorem d_Law_law_737 : decode code 737 = .ok (.aload_n 2, 1) := by decide +kernel
theorem d_Law_law_738 : decode code 738 = .ok (.aload_n 0, 1) := by decide +kernel
theorem d_Law_law_739 : decode code 739 = .ok (.iload_n 3, 1) := by decide +kernel
theorem d_Law_law_740 : decode code 740 = .ok (.iconst 1, 1) := by decide +kernel
theorem d_Law_law_741 : decode code 741 = .ok (.iadd, 1) := by decide +kernel
theorem d_Law_law_742 : decode code 742 = .ok (.iaload, 1) := by decide +kernel
theorem d_Law_law_743 : decode code 743 = .ok (.aload_n 0, 1) := by decide +kernel
theorem d_Law_law_744 : decode code 744 = .ok (.iload_n 3, 1) := by decide +kernel
theorem d_Law_law_745 : decode code 745 = .ok (.iconst 2, 1) := by decide +kernel
theorem d_Law_law_746 : decode code 746 = .ok (.iadd, 1) := by decide +kernel
theorem d_Law_law_747 : decode code 747 = .ok (.iaload, 1) := by decide +kernel
theorem d_Law_law_748 : decode code 748 = .ok (.aload_n 0, 1) := by decide +kernel
theorem d_Law_law_749 : decode code 749 = .ok (.iload_n 3, 1) := by decide +kernel
theorem d_Law_law_750 : decode code 750 = .ok (.iconst 3, 1) := by decide +kernel
theorem d_Law_law_751 : decode code 751 = .ok (.iadd, 1) := by decide +kernel
theorem d_Law_law_752 : decode code 752 = .ok (.iaload, 1) := by decide +kernel
theorem d_Law_law_753 : decode code 753 = .ok (.invokevirtual 88, 3) := by decide +kernel
theorem d_Law_law_756 : decode code 756 = .ok (.if_icmp .eq 383, 3) := by decide +kernel
theorem d_Law_law_759 : decode code 759 = .ok (.iconst 0, 1) := by decide +kernel
theorem d_Law_law_760 : decode code 760 = .ok (.ireturn, 1) := by decide +kernel
theorem d_Law_law_761 : decode code 761 = .ok (.aload_n 1, 1) := by decide +kernel
theorem d_Law_law_762 : decode code 762 = .ok (.aload_n 0, 1) := by decide +kernel
theorem d_Law_law_763 : decode code 763 = .ok (.iload_n 3, 1) := by decide +kernel
theorem d_Law_law_764 : decode code 764 = .ok (.iconst 1, 1) := by decide +kernel
theorem d_Law_law_765 : decode code 765 = .ok (.iadd, 1) := by decide +kernel
theorem d_Law_law_766 : decode code 766 = .ok (.iaload, 1) := by decide +kernel
theorem d_Law_law_767 : decode code 767 = .ok (.invokevirtual 89, 3) := by decide +kernel
theorem d_Law_law_770 : decode code 770 = .ok (.aload_n 2, 1) := by decide +kernel
theorem d_Law_law_771 : decode code 771 = .ok (.aload_n 0, 1) := by decide +kernel
theorem d_Law_law_772 : decode code 772 = .ok (.iload_n 3, 1) := by decide +kernel
theorem d_Law_law_773 : decode code 773 = .ok (.iconst 1, 1) := by decide +kernel
theorem d_Law_law_774 : decode code 774 = .ok (.iadd, 1) := by decide +kernel
theorem d_Law_law_775 : decode code 775 = .ok (.iaload, 1) := by decide +kernel
theorem d_Law_law_776 : decode code 776 = .ok (.invokevirtual 92, 3) := by decide +kernel
theorem d_Law_law_779 : decode code 779 = .ok (.if_icmp .eq 360, 3) := by decide +kernel
theorem d_Law_law_782 : decode code 782 = .ok (.iconst 0, 1) := by decide +kernel
theorem d_Law_law_783 : decode code 783 = .ok (.ireturn, 1) := by decide +kernel
theorem d_Law_law_784 : decode code 784 = .ok (.aload_n 1, 1) := by decide +kernel
theorem d_Law_law_785 : decode code 785 = .ok (.aload_n 0, 1) := by decide +kernel
theorem d_Law_law_786 : decode code 786 = .ok (.iload_n 3, 1) := by decide +kernel
theorem d_Law_law_787 : decode code 787 = .ok (.iconst 1, 1) := by decide +kernel
theorem d_Law_law_788 : decode code 788 = .ok (.iadd, 1) := by decide +kernel
theorem d_Law_law_789 : decode code 789 = .ok (.iaload, 1) := by decide +kernel
theorem d_Law_law_790 : decode code 790 = .ok (.i2l, 1) := by decide +kernel
theorem d_Law_law_791 : decode code 791 = .ok (.bipush 32, 2) := by decide +kernel
theorem d_Law_law_793 : decode code 793 = .ok (.lshl, 1) := by decide +kernel
theorem d_Law_law_794 : decode code 794 = .ok (.aload_n 0, 1) := by decide +kernel
theorem d_Law_law_795 : decode code 795 = .ok (.iload_n 3, 1) := by decide +kernel
theorem d_Law_law_796 : decode code 796 = .ok (.iconst 2, 1) := by decide +kernel
theorem d_Law_law_797 : decode code 797 = .ok (.iadd, 1) := by decide +kernel
theorem d_Law_law_798 : decode code 798 = .ok (.iaload, 1) := by decide +kernel
theorem d_Law_law_799 : decode code 799 = .ok (.i2l, 1) := by decide +kernel
theorem d_Law_law_800 : decode code 800 = .ok (.ldc2_w 93, 3) := by decide +kernel
theorem d_Law_law_803 : decode code 803 = .ok (.land, 1) := by decide +kernel
theorem d_Law_law_804 : decode code 804 = .ok (.lor, 1) := by decide +kernel
theorem d_Law_law_805 : decode code 805 = .ok (.invokevirtual 95, 3) := by decide +kernel
theorem d_Law_law_808 : decode code 808 = .ok (.aload_n 2, 1) := by decide +kernel
theorem d_Law_law_809 : decode code 809 = .ok (.aload_n 0, 1) := by decide +kernel
theorem d_Law_law_810 : decode code 810 = .ok (.iload_n 3, 1) := by decide +kernel
theorem d_Law_law_811 : decode code 811 = .ok (.iconst 1, 1) := by decide +kernel
theorem d_Law_law_812 : decode code 812 = .ok (.iadd, 1) := by decide +kernel
theorem d_Law_law_813 : decode code 813 = .ok (.iaload, 1) := by decide +kernel
theorem d_Law_law_814 : decode code 814 = .ok (.i2l, 1) := by decide +kernel
theorem d_Law_law_815 : decode code 815 = .ok (.bipush 32, 2) := by decide +kernel
theorem d_Law_law_817 : decode code 817 = .ok (.lshl, 1) := by decide +kernel
theorem d_Law_law_818 : decode code 818 = .ok (.aload_n 0, 1) := by decide +kernel
theorem d_Law_law_819 : decode code 819 = .ok (.iload_n 3, 1) := by decide +kernel
theorem d_Law_law_820 : decode code 820 = .ok (.iconst 2, 1) := by decide +kernel
theorem d_Law_law_821 : decode code 821 = .ok (.iadd, 1) := by decide +kernel
theorem d_Law_law_822 : decode code 822 = .ok (.iaload, 1) := by decide +kernel
theorem d_Law_law_823 : decode code 823 = .ok (.i2l, 1) := by decide +kernel
theorem d_Law_law_824 : decode code 824 = .ok (.ldc2_w 93, 3) := by decide +kernel
theorem d_Law_law_827 : decode code 827 = .ok (.land, 1) := by decide +kernel
theorem d_Law_law_828 : decode code 828 = .ok (.lor, 1) := by decide +kernel
theorem d_Law_law_829 : decode code 829 = .ok (.invokevirtual 99, 3) := by decide +kernel
theorem d_Law_law_832 : decode code 832 = .ok (.if_icmp .eq 307, 3) := by decide +kernel
theorem d_Law_law_835 : decode code 835 = .ok (.iconst 0, 1) := by decide +kernel
theorem d_Law_law_836 : decode code 836 = .ok (.ireturn, 1) := by decide +kernel
theorem d_Law_law_837 : decode code 837 = .ok (.aload_n 1, 1) := by decide +kernel
theorem d_Law_law_838 : decode code 838 = .ok (.aload_n 0, 1) := by decide +kernel
theorem d_Law_law_839 : decode code 839 = .ok (.iload_n 3, 1) := by decide +kernel
theorem d_Law_law_840 : decode code 840 = .ok (.iconst 1, 1) := by decide +kernel
theorem d_Law_law_841 : decode code 841 = .ok (.iadd, 1) := by decide +kernel
theorem d_Law_law_842 : decode code 842 = .ok (.iaload, 1) := by decide +kernel
theorem d_Law_law_843 : decode code 843 = .ok (.invokevirtual 100, 3) := by decide +kernel
theorem d_Law_law_846 : decode code 846 = .ok (.aload_n 2, 1) := by decide +kernel
theorem d_Law_law_847 : decode code 847 = .ok (.aload_n 0, 1) := by decide +kernel
theorem d_Law_law_848 : decode code 848 = .ok (.iload_n 3, 1) := by decide +kernel
theorem d_Law_law_849 : decode code 849 = .ok (.iconst 1, 1) := by decide +kernel
theorem d_Law_law_850 : decode code 850 = .ok (.iadd, 1) := by decide +kernel
theorem d_Law_law_851 : decode code 851 = .ok (.iaload, 1) := by decide +kernel
theorem d_Law_law_852 : decode code 852 = .ok (.invokevirtual 103, 3) := by decide +kernel
theorem d_Law_law_855 : decode code 855 = .ok (.if_icmp .eq 284, 3) := by decide +kernel
theorem d_Law_law_858 : decode code 858 = .ok (.iconst 0, 1) := by decide +kernel
theorem d_Law_law_859 : decode code 859 = .ok (.ireturn, 1) := by decide +kernel
theorem d_Law_law_860 : decode code 860 = .ok (.aload_n 1, 1) := by decide +kernel
theorem d_Law_law_861 : decode code 861 = .ok (.invokevirtual 104, 3) := by decide +kernel
theorem d_Law_law_864 : decode code 864 = .ok (.aload_n 2, 1) := by decide +kernel
theorem d_Law_law_865 : decode code 865 = .ok (.invokevirtual 107, 3) := by decide +kernel
theorem d_Law_law_868 : decode code 868 = .ok (.if_icmp .eq 271, 3) := by decide +kernel
theorem d_Law_law_871 : decode code 871 = .ok (.iconst 0, 1) := by decide +kernel
theorem d_Law_law_872 : decode code 872 = .ok (.ireturn, 1) := by decide +kernel
theorem d_Law_law_873 : decode code 873 = .ok (.aload_n 1, 1) := by decide +kernel
theorem d_Law_law_874 : decode code 874 = .ok (.invokevirtual 108, 3) := by decide +kernel
theorem d_Law_law_877 : decode code 877 = .ok (.aload_n 2, 1) := by decide +kernel
theorem d_Law_law_878 : decode code 878 = .ok (.invokevirtual 111, 3) := by decide +kernel
theorem d_Law_law_881 : decode code 881 = .ok (.if_icmp .eq 258, 3) := by decide +kernel
theorem d_Law_law_884 : decode code 884 = .ok (.iconst 0, 1) := by decide +kernel
theorem d_Law_law_885 : decode code 885 = .ok (.ireturn, 1) := by decide +kernel
theorem d_Law_law_886 : decode code 886 = .ok (.aload_n 1, 1) := by decide +kernel
theorem d_Law_law_887 : decode code 887 = .ok (.aload_n 0, 1) := by decide +kernel
theorem d_Law_law_888 : decode code 888 = .ok (.iload_n 3, 1) := by decide +kernel
theorem d_Law_law_889 : decode code 889 = .ok (.iconst 1, 1) := by decide +kernel
theorem d_Law_law_890 : decode code 890 = .ok (.iadd, 1) := by decide +kernel
theorem d_Law_law_891 : decode code 891 = .ok (.iaload, 1) := by decide +kernel
theorem d_Law_law_892 : decode code 892 = .ok (.invokevirtual 112, 3) := by decide +kernel
theorem d_Law_law_895 : decode code 895 = .ok (.aload_n 2, 1) := by decide +kernel
theorem d_Law_law_896 : decode code 896 = .ok (.aload_n 0, 1) := by decide +kernel
theorem d_Law_law_897 : decode code 897 = .ok (.iload_n 3, 1) := by decide +kernel
theorem d_Law_law_898 : decode code 898 = .ok (.iconst 1, 1) := by decide +kernel
theorem d_Law_law_899 : decode code 899 = .ok (.iadd, 1) := by decide +kernel
theorem d_Law_law_900 : decode code 900 = .ok (.iaload, 1) := by decide +kernel
theorem d_Law_law_901 : decode code 901 = .ok (.invokevirtual 115, 3) := by decide +kernel
theorem d_Law_law_904 : decode code 904 = .ok (.lcmp, 1) := by decide +kernel
theorem d_Law_law_905 : decode code 905 = .ok (.ifCond .eq 234, 3) := by decide +kernel
theorem d_Law_law_908 : decode code 908 = .ok (.iconst 0, 1) := by decide +kernel
theorem d_Law_law_909 : decode code 909 = .ok (.ireturn, 1) := by decide +kernel
theorem d_Law_law_910 : decode code 910 = .ok (.aload_n 1, 1) := by decide +kernel
theorem d_Law_law_911 : decode code 911 = .ok (.aload_n 0, 1) := by decide +kernel
theorem d_Law_law_912 : decode code 912 = .ok (.iload_n 3, 1) := by decide +kernel
theorem d_Law_law_913 : decode code 913 = .ok (.iconst 1, 1) := by decide +kernel
theorem d_Law_law_914 : decode code 914 = .ok (.iadd, 1) := by decide +kernel
theorem d_Law_law_915 : decode code 915 = .ok (.iaload, 1) := by decide +kernel
theorem d_Law_law_916 : decode code 916 = .ok (.aload_n 0, 1) := by decide +kernel
theorem d_Law_law_917 : decode code 917 = .ok (.iload_n 3, 1) := by decide +kernel
theorem d_Law_law_918 : decode code 918 = .ok (.iconst 2, 1) := by decide +kernel
theorem d_Law_law_919 : decode code 919 = .ok (.iadd, 1) := by decide +kernel
theorem d_Law_law_920 : decode code 920 = .ok (.iaload, 1) := by decide +kernel
theorem d_Law_law_921 : decode code 921 = .ok (.invokevirtual 116, 3) := by decide +kernel
theorem d_Law_law_924 : decode code 924 = .ok (.aload_n 2, 1) := by decide +kernel
theorem d_Law_law_925 : decode code 925 = .ok (.aload_n 0, 1) := by decide +kernel
theorem d_Law_law_926 : decode code 926 = .ok (.iload_n 3, 1) := by decide +kernel
theorem d_Law_law_927 : decode code 927 = .ok (.iconst 1, 1) := by decide +kernel
theorem d_Law_law_928 : decode code 928 = .ok (.iadd, 1) := by decide +kernel
theorem d_Law_law_929 : decode code 929 = .ok (.iaload, 1) := by decide +kernel
theorem d_Law_law_930 : decode code 930 = .ok (.aload_n 0, 1) := by decide +kernel
theorem d_Law_law_931 : decode code 931 = .ok (.iload_n 3, 1) := by decide +kernel
theorem d_Law_law_932 : decode code 932 = .ok (.iconst 2, 1) := by decide +kernel
theorem d_Law_law_933 : decode code 933 = .ok (.iadd, 1) := by decide +kernel
theorem d_Law_law_934 : decode code 934 = .ok (.iaload, 1) := by decide +kernel
theorem d_Law_law_935 : decode code 935 = .ok (.invokevirtual 119, 3) := by decide +kernel
theorem d_Law_law_938 : decode code 938 = .ok (.if_icmp .eq 201, 3) := by decide +kernel
theorem d_Law_law_941 : decode code 941 = .ok (.iconst 0, 1) := by decide +kernel
theorem d_Law_law_942 : decode code 942 = .ok (.ireturn, 1) := by decide +kernel
theorem d_Law_law_943 : decode code 943 = .ok (.aload_n 1, 1) := by decide +kernel
theorem d_Law_law_944 : decode code 944 = .ok (.aload_n 0, 1) := by decide +kernel
theorem d_Law_law_945 : decode code 945 = .ok (.iload_n 3, 1) := by decide +kernel
theorem d_Law_law_946 : decode code 946 = .ok (.iconst 1, 1) := by decide +kernel
theorem d_Law_law_947 : decode code 947 = .ok (.iadd, 1) := by decide +kernel
theorem d_Law_law_948 : decode code 948 = .ok (.iaload, 1) := by decide +kernel
theorem d_Law_law_949 : decode code 949 = .ok (.invokevirtual 120, 3) := by decide +kernel
theorem d_Law_law_952 : decode code 952 = .ok (.aload_n 2, 1) := by decide +kernel
theorem d_Law_law_953 : decode code 953 = .ok (.aload_n 0, 1) := by decide +kernel
theorem d_Law_law_954 : decode code 954 = .ok (.iload_n 3, 1) := by decide +kernel
theorem d_Law_law_955 : decode code 955 = .ok (.iconst 1, 1) := by decide +kernel
theorem d_Law_law_956 : decode code 956 = .ok (.iadd, 1) := by decide +kernel
theorem d_Law_law_957 : decode code 957 = .ok (.iaload, 1) := by decide +kernel
theorem d_Law_law_958 : decode code 958 = .ok (.invokevirtual 123, 3) := by decide +kernel
theorem d_Law_law_961 : decode code 961 = .ok (.lcmp, 1) := by decide +kernel
theorem d_Law_law_962 : decode code 962 = .ok (.ifCond .eq 177, 3) := by decide +kernel
theorem d_Law_law_965 : decode code 965 = .ok (.iconst 0, 1) := by decide +kernel
theorem d_Law_law_966 : decode code 966 = .ok (.ireturn, 1) := by decide +kernel
theorem d_Law_law_967 : decode code 967 = .ok (.aload_n 1, 1) := by decide +kernel
theorem d_Law_law_968 : decode code 968 = .ok (.aload_n 0, 1) := by decide +kernel
theorem d_Law_law_969 : decode code 969 = .ok (.iload_n 3, 1) := by decide +kernel
theorem d_Law_law_970 : decode code 970 = .ok (.iconst 1, 1) := by decide +kernel
theorem d_Law_law_971 : decode code 971 = .ok (.iadd, 1) := by decide +kernel
theorem d_Law_law_972 : decode code 972 = .ok (.iaload, 1) := by decide +kernel
theorem d_Law_law_973 : decode code 973 = .ok (.aload_n 0, 1) := by decide +kernel
theorem d_Law_law_974 : decode code 974 = .ok (.iload_n 3, 1) := by decide +kernel
theorem d_Law_law_975 : decode code 975 = .ok (.iconst 2, 1) := by decide +kernel
theorem d_Law_law_976 : decode code 976 = .ok (.iadd, 1) := by decide +kernel
theorem d_Law_law_977 : decode code 977 = .ok (.iaload, 1) := by decide +kernel
theorem d_Law_law_978 : decode code 978 = .ok (.aload_n 0, 1) := by decide +kernel
theorem d_Law_law_979 : decode code 979 = .ok (.iload_n 3, 1) := by decide +kernel
theorem d_Law_law_980 : decode code 980 = .ok (.iconst 3, 1) := by decide +kernel
theorem d_Law_law_981 : decode code 981 = .ok (.iadd, 1) := by decide +kernel
theorem d_Law_law_982 : decode code 982 = .ok (.iaload, 1) := by decide +kernel
theorem d_Law_law_983 : decode code 983 = .ok (.invokevirtual 124, 3) := by decide +kernel
theorem d_Law_law_986 : decode code 986 = .ok (.aload_n 2, 1) := by decide +kernel
theorem d_Law_law_987 : decode code 987 = .ok (.aload_n 0, 1) := by decide +kernel
theorem d_Law_law_988 : decode code 988 = .ok (.iload_n 3, 1) := by decide +kernel
theorem d_Law_law_989 : decode code 989 = .ok (.iconst 1, 1) := by decide +kernel
theorem d_Law_law_990 : decode code 990 = .ok (.iadd, 1) := by decide +kernel
theorem d_Law_law_991 : decode code 991 = .ok (.iaload, 1) := by decide +kernel
theorem d_Law_law_992 : decode code 992 = .ok (.aload_n 0, 1) := by decide +kernel
theorem d_Law_law_993 : decode code 993 = .ok (.iload_n 3, 1) := by decide +kernel
theorem d_Law_law_994 : decode code 994 = .ok (.iconst 2, 1) := by decide +kernel
theorem d_Law_law_995 : decode code 995 = .ok (.iadd, 1) := by decide +kernel
theorem d_Law_law_996 : decode code 996 = .ok (.iaload, 1) := by decide +kernel
theorem d_Law_law_997 : decode code 997 = .ok (.aload_n 0, 1) := by decide +kernel
theorem d_Law_law_998 : decode code 998 = .ok (.iload_n 3, 1) := by decide +kernel
theorem d_Law_law_999 : decode code 999 = .ok (.iconst 3, 1) := by decide +kernel
theorem d_Law_law_1000 : decode code 1000 = .ok (.iadd, 1) := by decide +kernel
theorem d_Law_law_1001 : decode code 1001 = .ok (.iaload, 1) := by decide +kernel
theorem d_Law_law_1002 : decode code 1002 = .ok (.invokevirtual 127, 3) := by decide +kernel
theorem d_Law_law_1005 : decode code 1005 = .ok (.if_icmp .eq 134, 3) := by decide +kernel
theorem d_Law_law_1008 : decode code 1008 = .ok (.iconst 0, 1) := by decide +kernel
theorem d_Law_law_1009 : decode code 1009 = .ok (.ireturn, 1) := by decide +kernel
theorem d_Law_law_1010 : decode code 1010 = .ok (.aload_n 1, 1) := by decide +kernel
theorem d_Law_law_1011 : decode code 1011 = .ok (.aload_n 0, 1) := by decide +kernel
theorem d_Law_law_1012 : decode code 1012 = .ok (.iload_n 3, 1) := by decide +kernel
theorem d_Law_law_1013 : decode code 1013 = .ok (.iconst 1, 1) := by decide +kernel
theorem d_Law_law_1014 : decode code 1014 = .ok (.iadd, 1) := by decide +kernel
theorem d_Law_law_1015 : decode code 1015 = .ok (.iaload, 1) := by decide +kernel
theorem d_Law_law_1016 : decode code 1016 = .ok (.aload_n 0, 1) := by decide +kernel
theorem d_Law_law_1017 : decode code 1017 = .ok (.iload_n 3, 1) := by decide +kernel
theorem d_Law_law_1018 : decode code 1018 = .ok (.iconst 2, 1) := by decide +kernel
theorem d_Law_law_1019 : decode code 1019 = .ok (.iadd, 1) := by decide +kernel
theorem d_Law_law_1020 : decode code 1020 = .ok (.iaload, 1) := by decide +kernel
theorem d_Law_law_1021 : decode code 1021 = .ok (.aload_n 0, 1) := by decide +kernel
theorem d_Law_law_1022 : decode code 1022 = .ok (.iload_n 3, 1) := by decide +kernel
theorem d_Law_law_1023 : decode code 1023 = .ok (.iconst 3, 1) := by decide +kernel
theorem d_Law_law_1024 : decode code 1024 = .ok (.iadd, 1) := by decide +kernel
theorem d_Law_law_1025 : decode code 1025 = .ok (.iaload, 1) := by decide +kernel
theorem d_Law_law_1026 : decode code 1026 = .ok (.invokevirtual 128, 3) := by decide +kernel
theorem d_Law_law_1029 : decode code 1029 = .ok (.aload_n 2, 1) := by decide +kernel
theorem d_Law_law_1030 : decode code 1030 = .ok (.aload_n 0, 1) := by decide +kernel
theorem d_Law_law_1031 : decode code 1031 = .ok (.iload_n 3, 1) := by decide +kernel
theorem d_Law_law_1032 : decode code 1032 = .ok (.iconst 1, 1) := by decide +kernel
theorem d_Law_law_1033 : decode code 1033 = .ok (.iadd, 1) := by decide +kernel
theorem d_Law_law_1034 : decode code 1034 = .ok (.iaload, 1) := by decide +kernel
theorem d_Law_law_1035 : decode code 1035 = .ok (.aload_n 0, 1) := by decide +kernel
theorem d_Law_law_1036 : decode code 1036 = .ok (.iload_n 3, 1) := by decide +kernel
theorem d_Law_law_1037 : decode code 1037 = .ok (.iconst 2, 1) := by decide +kernel
theorem d_Law_law_1038 : decode code 1038 = .ok (.iadd, 1) := by decide +kernel
theorem d_Law_law_1039 : decode code 1039 = .ok (.iaload, 1) := by decide +kernel
theorem d_Law_law_1040 : decode code 1040 = .ok (.aload_n 0, 1) := by decide +kernel
theorem d_Law_law_1041 : decode code 1041 = .ok (.iload_n 3, 1) := by decide +kernel
theorem d_Law_law_1042 : decode code 1042 = .ok (.iconst 3, 1) := by decide +kernel
theorem d_Law_law_1043 : decode code 1043 = .ok (.iadd, 1) := by decide +kernel
theorem d_Law_law_1044 : decode code 1044 = .ok (.iaload, 1) := by decide +kernel
theorem d_Law_law_1045 : decode code 1045 = .ok (.invokevirtual 131, 3) := by decide +kernel
theorem d_Law_law_1048 : decode code 1048 = .ok (.if_icmp .eq 91, 3) := by decide +kernel
theorem d_Law_law_1051 : decode code 1051 = .ok (.iconst 0, 1) := by decide +kernel
theorem d_Law_law_1052 : decode code 1052 = .ok (.ireturn, 1) := by decide +kernel
theorem d_Law_law_1053 : decode code 1053 = .ok (.aload_n 1, 1) := by decide +kernel
theorem d_Law_law_1054 : decode code 1054 = .ok (.aload_n 0, 1) := by decide +kernel
theorem d_Law_law_1055 : decode code 1055 = .ok (.iload_n 3, 1) := by decide +kernel
theorem d_Law_law_1056 : decode code 1056 = .ok (.iconst 1, 1) := by decide +kernel
theorem d_Law_law_1057 : decode code 1057 = .ok (.iadd, 1) := by decide +kernel
theorem d_Law_law_1058 : decode code 1058 = .ok (.iaload, 1) := by decide +kernel
theorem d_Law_law_1059 : decode code 1059 = .ok (.aload_n 0, 1) := by decide +kernel
theorem d_Law_law_1060 : decode code 1060 = .ok (.iload_n 3, 1) := by decide +kernel
theorem d_Law_law_1061 : decode code 1061 = .ok (.iconst 2, 1) := by decide +kernel
theorem d_Law_law_1062 : decode code 1062 = .ok (.iadd, 1) := by decide +kernel
theorem d_Law_law_1063 : decode code 1063 = .ok (.iaload, 1) := by decide +kernel
theorem d_Law_law_1064 : decode code 1064 = .ok (.aload_n 0, 1) := by decide +kernel
theorem d_Law_law_1065 : decode code 1065 = .ok (.iload_n 3, 1) := by decide +kernel
theorem d_Law_law_1066 : decode code 1066 = .ok (.iconst 3, 1) := by decide +kernel
theorem d_Law_law_1067 : decode code 1067 = .ok (.iadd, 1) := by decide +kernel
theorem d_Law_law_1068 : decode code 1068 = .ok (.iaload, 1) := by decide +kernel
theorem d_Law_law_1069 : decode code 1069 = .ok (.aload_n 0, 1) := by decide +kernel
theorem d_Law_law_1070 : decode code 1070 = .ok (.iload_n 3, 1) := by decide +kernel
theorem d_Law_law_1071 : decode code 1071 = .ok (.iconst 4, 1) := by decide +kernel
theorem d_Law_law_1072 : decode code 1072 = .ok (.iadd, 1) := by decide +kernel
theorem d_Law_law_1073 : decode code 1073 = .ok (.iaload, 1) := by decide +kernel
theorem d_Law_law_1074 : decode code 1074 = .ok (.aload_n 0, 1) := by decide +kernel
theorem d_Law_law_1075 : decode code 1075 = .ok (.iload_n 3, 1) := by decide +kernel
theorem d_Law_law_1076 : decode code 1076 = .ok (.iconst 5, 1) := by decide +kernel
theorem d_Law_law_1077 : decode code 1077 = .ok (.iadd, 1) := by decide +kernel
theorem d_Law_law_1078 : decode code 1078 = .ok (.iaload, 1) := by decide +kernel
theorem d_Law_law_1079 : decode code 1079 = .ok (.invokevirtual 132, 3) := by decide +kernel
theorem d_Law_law_1082 : decode code 1082 = .ok (.aload_n 2, 1) := by decide +kernel
theorem d_Law_law_1083 : decode code 1083 = .ok (.aload_n 0, 1) := by decide +kernel
theorem d_Law_law_1084 : decode code 1084 = .ok (.iload_n 3, 1) := by decide +kernel
theorem d_Law_law_1085 : decode code 1085 = .ok (.iconst 1, 1) := by decide +kernel
theorem d_Law_law_1086 : decode code 1086 = .ok (.iadd, 1) := by decide +kernel
theorem d_Law_law_1087 : decode code 1087 = .ok (.iaload, 1) := by decide +kernel
theorem d_Law_law_1088 : decode code 1088 = .ok (.aload_n 0, 1) := by decide +kernel
theorem d_Law_law_1089 : decode code 1089 = .ok (.iload_n 3, 1) := by decide +kernel
theorem d_Law_law_1090 : decode code 1090 = .ok (.iconst 2, 1) := by decide +kernel
theorem d_Law_law_1091 : decode code 1091 = .ok (.iadd, 1) := by decide +kernel
theorem d_Law_law_1092 : decode code 1092 = .ok (.iaload, 1) := by decide +kernel
theorem d_Law_law_1093 : decode code 1093 = .ok (.aload_n 0, 1) := by decide +kernel
theorem d_Law_law_1094 : decode code 1094 = .ok (.iload_n 3, 1) := by decide +kernel
theorem d_Law_law_1095 : decode code 1095 = .ok (.iconst 3, 1) := by decide +kernel
theorem d_Law_law_1096 : decode code 1096 = .ok (.iadd, 1) := by decide +kernel
theorem d_Law_law_1097 : decode code 1097 = .ok (.iaload, 1) := by decide +kernel
theorem d_Law_law_1098 : decode code 1098 = .ok (.aload_n 0, 1) := by decide +kernel
theorem d_Law_law_1099 : decode code 1099 = .ok (.iload_n 3, 1) := by decide +kernel
theorem d_Law_law_1100 : decode code 1100 = .ok (.iconst 4, 1) := by decide +kernel
theorem d_Law_law_1101 : decode code 1101 = .ok (.iadd, 1) := by decide +kernel
theorem d_Law_law_1102 : decode code 1102 = .ok (.iaload, 1) := by decide +kernel
theorem d_Law_law_1103 : decode code 1103 = .ok (.aload_n 0, 1) := by decide +kernel
theorem d_Law_law_1104 : decode code 1104 = .ok (.iload_n 3, 1) := by decide +kernel
theorem d_Law_law_1105 : decode code 1105 = .ok (.iconst 5, 1) := by decide +kernel
theorem d_Law_law_1106 : decode code 1106 = .ok (.iadd, 1) := by decide +kernel
theorem d_Law_law_1107 : decode code 1107 = .ok (.iaload, 1) := by decide +kernel
theorem d_Law_law_1108 : decode code 1108 = .ok (.invokevirtual 136, 3) := by decide +kernel
theorem d_Law_law_1111 : decode code 1111 = .ok (.if_icmp .eq 28, 3) := by decide +kernel
theorem d_Law_law_1114 : decode code 1114 = .ok (.iconst 0, 1) := by decide +kernel
theorem d_Law_law_1115 : decode code 1115 = .ok (.ireturn, 1) := by decide +kernel
theorem d_Law_law_1116 : decode code 1116 = .ok (.aload_n 1, 1) := by decide +kernel
theorem d_Law_law_1117 : decode code 1117 = .ok (.aload_n 0, 1) := by decide +kernel
theorem d_Law_law_1118 : decode code 1118 = .ok (.iload_n 3, 1) := by decide +kernel
theorem d_Law_law_1119 : decode code 1119 = .ok (.iconst 1, 1) := by decide +kernel
theorem d_Law_law_1120 : decode code 1120 = .ok (.iadd, 1) := by decide +kernel
theorem d_Law_law_1121 : decode code 1121 = .ok (.iaload, 1) := by decide +kernel
theorem d_Law_law_1122 : decode code 1122 = .ok (.invokevirtual 137, 3) := by decide +kernel
theorem d_Law_law_1125 : decode code 1125 = .ok (.aload_n 2, 1) := by decide +kernel
theorem d_Law_law_1126 : decode code 1126 = .ok (.aload_n 0, 1) := by decide +kernel
theorem d_Law_law_1127 : decode code 1127 = .ok (.iload_n 3, 1) := by decide +kernel
theorem d_Law_law_1128 : decode code 1128 = .ok (.iconst 1, 1) := by decide +kernel
theorem d_Law_law_1129 : decode code 1129 = .ok (.iadd, 1) := by decide +kernel
theorem d_Law_law_1130 : decode code 1130 = .ok (.iaload, 1) := by decide +kernel
theorem d_Law_law_1131 : decode code 1131 = .ok (.invokevirtual 140, 3) := by decide +kernel
theorem d_Law_law_1134 : decode code 1134 = .ok (.if_icmp .eq 5, 3) := by decide +kernel
theorem d_Law_law_1137 : decode code 1137 = .ok (.iconst 0, 1) := by decide +kernel
theorem d_Law_law_1138 : decode code 1138 = .ok (.ireturn, 1) := by decide +kernel
theorem d_Law_law_1139 : decode code 1139 = .ok (.iinc 3 6, 3) := by decide +kernel
theorem d_Law_law_1142 : decode code 1142 = .ok (.goto (-1124), 3) := by decide +kernel
theorem d_Law_law_1145 : decode code 1145 = .ok (.iconst 1, 1) := by decide +kernel
theorem d_Law_law_1146 : decode code 1146 = .ok (.ireturn, 1) := by decide +kernel
