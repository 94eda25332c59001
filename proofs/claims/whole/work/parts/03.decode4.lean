theorem dL_law_0 : decode code 0 = .ok (.new 7, 3) := by decide +kernel
theorem dL_law_3 : decode code 3 = .ok (.dup, 1) := by decide +kernel
theorem dL_law_4 : decode code 4 = .ok (.invokespecial 9, 3) := by decide +kernel
theorem dL_law_7 : decode code 7 = .ok (.astore_n 1, 1) := by decide +kernel
theorem dL_law_8 : decode code 8 = .ok (.new 10, 3) := by decide +kernel
theorem dL_law_11 : decode code 11 = .ok (.dup, 1) := by decide +kernel
theorem dL_law_12 : decode code 12 = .ok (.invokespecial 12, 3) := by decide +kernel
theorem dL_law_15 : decode code 15 = .ok (.astore_n 2, 1) := by decide +kernel
theorem dL_law_16 : decode code 16 = .ok (.iconst 0, 1) := by decide +kernel
theorem dL_law_17 : decode code 17 = .ok (.istore_n 3, 1) := by decide +kernel
theorem dL_law_18 : decode code 18 = .ok (.iload_n 3, 1) := by decide +kernel
theorem dL_law_19 : decode code 19 = .ok (.aload_n 0, 1) := by decide +kernel
theorem dL_law_20 : decode code 20 = .ok (.arraylength, 1) := by decide +kernel
theorem dL_law_21 : decode code 21 = .ok (.iconst 5, 1) := by decide +kernel
theorem dL_law_22 : decode code 22 = .ok (.isub, 1) := by decide +kernel
theorem dL_law_23 : decode code 23 = .ok (.if_icmp .gt 895, 3) := by decide +kernel
theorem dL_law_26 : decode code 26 = .ok (.aload_n 0, 1) := by decide +kernel
theorem dL_law_27 : decode code 27 = .ok (.iload_n 3, 1) := by decide +kernel
theorem dL_law_28 : decode code 28 = .ok (.iaload, 1) := by decide +kernel
theorem dL_law_29 : decode code 29 = .ok (.bipush 31, 2) := by decide +kernel
theorem dL_law_31 : decode code 31 = .ok (.iand, 1) := by decide +kernel
theorem dL_law_32 : decode code 32 = .ok (.tableswitch 880 0 25 #[120, 163, 222, 255, 268, 301, 324, 377, 400, 433, 456, 499, 512, 545, 558, 581, 614, 673, 706, 729, 762, 775, 798, 831, 854, 867], 120) := by decide +kernel
theorem dL_law_152 : decode code 152 = .ok (.aload_n 1, 1) := by decide +kernel
theorem dL_law_153 : decode code 153 = .ok (.aload_n 0, 1) := by decide +kernel
theorem dL_law_154 : decode code 154 = .ok (.iload_n 3, 1) := by decide +kernel
theorem dL_law_155 : decode code 155 = .ok (.iconst 1, 1) := by decide +kernel
theorem dL_law_156 : decode code 156 = .ok (.iadd, 1) := by decide +kernel
theorem dL_law_157 : decode code 157 = .ok (.iaload, 1) := by decide +kernel
theorem dL_law_158 : decode code 158 = .ok (.aload_n 0, 1) := by decide +kernel
theorem dL_law_159 : decode code 159 = .ok (.iload_n 3, 1) := by decide +kernel
theorem dL_law_160 : decode code 160 = .ok (.iconst 2, 1) := by decide +kernel
theorem dL_law_161 : decode code 161 = .ok (.iadd, 1) := by decide +kernel
theorem dL_law_162 : decode code 162 = .ok (.iaload, 1) := by decide +kernel
theorem dL_law_163 : decode code 163 = .ok (.aload_n 0, 1) := by decide +kernel
theorem dL_law_164 : decode code 164 = .ok (.iload_n 3, 1) := by decide +kernel
theorem dL_law_165 : decode code 165 = .ok (.iconst 3, 1) := by decide +kernel
theorem dL_law_166 : decode code 166 = .ok (.iadd, 1) := by decide +kernel
theorem dL_law_167 : decode code 167 = .ok (.iaload, 1) := by decide +kernel
theorem dL_law_168 : decode code 168 = .ok (.invokevirtual 13, 3) := by decide +kernel
theorem dL_law_171 : decode code 171 = .ok (.aload_n 2, 1) := by decide +kernel
theorem dL_law_172 : decode code 172 = .ok (.aload_n 0, 1) := by decide +kernel
theorem dL_law_173 : decode code 173 = .ok (.iload_n 3, 1) := by decide +kernel
theorem dL_law_174 : decode code 174 = .ok (.iconst 1, 1) := by decide +kernel
theorem dL_law_175 : decode code 175 = .ok (.iadd, 1) := by decide +kernel
theorem dL_law_176 : decode code 176 = .ok (.iaload, 1) := by decide +kernel
theorem dL_law_177 : decode code 177 = .ok (.aload_n 0, 1) := by decide +kernel
theorem dL_law_178 : decode code 178 = .ok (.iload_n 3, 1) := by decide +kernel
theorem dL_law_179 : decode code 179 = .ok (.iconst 2, 1) := by decide +kernel
theorem dL_law_180 : decode code 180 = .ok (.iadd, 1) := by decide +kernel
theorem dL_law_181 : decode code 181 = .ok (.iaload, 1) := by decide +kernel
theorem dL_law_182 : decode code 182 = .ok (.aload_n 0, 1) := by decide +kernel
theorem dL_law_183 : decode code 183 = .ok (.iload_n 3, 1) := by decide +kernel
theorem dL_law_184 : decode code 184 = .ok (.iconst 3, 1) := by decide +kernel
theorem dL_law_185 : decode code 185 = .ok (.iadd, 1) := by decide +kernel
theorem dL_law_186 : decode code 186 = .ok (.iaload, 1) := by decide +kernel
theorem dL_law_187 : decode code 187 = .ok (.invokevirtual 17, 3) := by decide +kernel
theorem dL_law_190 : decode code 190 = .ok (.if_icmp .eq 722, 3) := by decide +kernel
theorem dL_law_193 : decode code 193 = .ok (.iconst 0, 1) := by decide +kernel
theorem dL_law_194 : decode code 194 = .ok (.ireturn, 1) := by decide +kernel
theorem dL_law_195 : decode code 195 = .ok (.aload_n 1, 1) := by decide +kernel
theorem dL_law_196 : decode code 196 = .ok (.aload_n 0, 1) := by decide +kernel
theorem dL_law_197 : decode code 197 = .ok (.iload_n 3, 1) := by decide +kernel
theorem dL_law_198 : decode code 198 = .ok (.iconst 1, 1) := by decide +kernel
theorem dL_law_199 : decode code 199 = .ok (.iadd, 1) := by decide +kernel
theorem dL_law_200 : decode code 200 = .ok (.iaload, 1) := by decide +kernel
theorem dL_law_201 : decode code 201 = .ok (.aload_n 0, 1) := by decide +kernel
theorem dL_law_202 : decode code 202 = .ok (.iload_n 3, 1) := by decide +kernel
theorem dL_law_203 : decode code 203 = .ok (.iconst 2, 1) := by decide +kernel
theorem dL_law_204 : decode code 204 = .ok (.iadd, 1) := by decide +kernel
theorem dL_law_205 : decode code 205 = .ok (.iaload, 1) := by decide +kernel
theorem dL_law_206 : decode code 206 = .ok (.ifCond .eq 7, 3) := by decide +kernel
theorem dL_law_209 : decode code 209 = .ok (.iconst 1, 1) := by decide +kernel
theorem dL_law_210 : decode code 210 = .ok (.goto 4, 3) := by decide +kernel
theorem dL_law_213 : decode code 213 = .ok (.iconst 0, 1) := by decide +kernel
theorem dL_law_214 : decode code 214 = .ok (.aload_n 0, 1) := by decide +kernel
theorem dL_law_215 : decode code 215 = .ok (.iload_n 3, 1) := by decide +kernel
theorem dL_law_216 : decode code 216 = .ok (.iconst 3, 1) := by decide +kernel
theorem dL_law_217 : decode code 217 = .ok (.iadd, 1) := by decide +kernel
theorem dL_law_218 : decode code 218 = .ok (.iaload, 1) := by decide +kernel
theorem dL_law_219 : decode code 219 = .ok (.invokevirtual 18, 3) := by decide +kernel
theorem dL_law_222 : decode code 222 = .ok (.aload_n 2, 1) := by decide +kernel
theorem dL_law_223 : decode code 223 = .ok (.aload_n 0, 1) := by decide +kernel
theorem dL_law_224 : decode code 224 = .ok (.iload_n 3, 1) := by decide +kernel
theorem dL_law_225 : decode code 225 = .ok (.iconst 1, 1) := by decide +kernel
theorem dL_law_226 : decode code 226 = .ok (.iadd, 1) := by decide +kernel
theorem dL_law_227 : decode code 227 = .ok (.iaload, 1) := by decide +kernel
theorem dL_law_228 : decode code 228 = .ok (.aload_n 0, 1) := by decide +kernel
theorem dL_law_229 : decode code 229 = .ok (.iload_n 3, 1) := by decide +kernel
theorem dL_law_230 : decode code 230 = .ok (.iconst 2, 1) := by decide +kernel
theorem dL_law_231 : decode code 231 = .ok (.iadd, 1) := by decide +kernel
theorem dL_law_232 : decode code 232 = .ok (.iaload, 1) := by decide +kernel
theorem dL_law_233 : decode code 233 = .ok (.ifCond .eq 7, 3) := by decide +kernel
theorem dL_law_236 : decode code 236 = .ok (.iconst 1, 1) := by decide +kernel
theorem dL_law_237 : decode code 237 = .ok (.goto 4, 3) := by decide +kernel
theorem dL_law_240 : decode code 240 = .ok (.iconst 0, 1) := by decide +kernel
theorem dL_law_241 : decode code 241 = .ok (.aload_n 0, 1) := by decide +kernel
theorem dL_law_242 : decode code 242 = .ok (.iload_n 3, 1) := by decide +kernel
theorem dL_law_243 : decode code 243 = .ok (.iconst 3, 1) := by decide +kernel
theorem dL_law_244 : decode code 244 = .ok (.iadd, 1) := by decide +kernel
theorem dL_law_245 : decode code 245 = .ok (.iaload, 1) := by decide +kernel
theorem dL_law_246 : decode code 246 = .ok (.invokevirtual 22, 3) := by decide +kernel
theorem dL_law_249 : decode code 249 = .ok (.if_icmp .eq 663, 3) := by decide +kernel
theorem dL_law_252 : decode code 252 = .ok (.iconst 0, 1) := by decide +kernel
theorem dL_law_253 : decode code 253 = .ok (.ireturn, 1) := by decide +kernel
theorem dL_law_254 : decode code 254 = .ok (.aload_n 1, 1) := by decide +kernel
theorem dL_law_255 : decode code 255 = .ok (.aload_n 0, 1) := by decide +kernel
theorem dL_law_256 : decode code 256 = .ok (.iload_n 3, 1) := by decide +kernel
theorem dL_law_257 : decode code 257 = .ok (.iconst 1, 1) := by decide +kernel
theorem dL_law_258 : decode code 258 = .ok (.iadd, 1) := by decide +kernel
theorem dL_law_259 : decode code 259 = .ok (.iaload, 1) := by decide +kernel
theorem dL_law_260 : decode code 260 = .ok (.aload_n 0, 1) := by decide +kernel
theorem dL_law_261 : decode code 261 = .ok (.iload_n 3, 1) := by decide +kernel
theorem dL_law_262 : decode code 262 = .ok (.iconst 2, 1) := by decide +kernel
theorem dL_law_263 : decode code 263 = .ok (.iadd, 1) := by decide +kernel
theorem dL_law_264 : decode code 264 = .ok (.iaload, 1) := by decide +kernel
theorem dL_law_265 : decode code 265 = .ok (.invokevirtual 23, 3) := by decide +kernel
theorem dL_law_268 : decode code 268 = .ok (.aload_n 2, 1) := by decide +kernel
theorem dL_law_269 : decode code 269 = .ok (.aload_n 0, 1) := by decide +kernel
theorem dL_law_270 : decode code 270 = .ok (.iload_n 3, 1) := by decide +kernel
theorem dL_law_271 : decode code 271 = .ok (.iconst 1, 1) := by decide +kernel
theorem dL_law_272 : decode code 272 = .ok (.iadd, 1) := by decide +kernel
theorem dL_law_273 : decode code 273 = .ok (.iaload, 1) := by decide +kernel
theorem dL_law_274 : decode code 274 = .ok (.aload_n 0, 1) := by decide +kernel
theorem dL_law_275 : decode code 275 = .ok (.iload_n 3, 1) := by decide +kernel
theorem dL_law_276 : decode code 276 = .ok (.iconst 2, 1) := by decide +kernel
theorem dL_law_277 : decode code 277 = .ok (.iadd, 1) := by decide +kernel
theorem dL_law_278 : decode code 278 = .ok (.iaload, 1) := by decide +kernel
theorem dL_law_279 : decode code 279 = .ok (.invokevirtual 27, 3) := by decide +kernel
theorem dL_law_282 : decode code 282 = .ok (.if_icmp .eq 630, 3) := by decide +kernel
theorem dL_law_285 : decode code 285 = .ok (.iconst 0, 1) := by decide +kernel
theorem dL_law_286 : decode code 286 = .ok (.ireturn, 1) := by decide +kernel
theorem dL_law_287 : decode code 287 = .ok (.aload_n 1, 1) := by decide +kernel
theorem dL_law_288 : decode code 288 = .ok (.invokevirtual 28, 3) := by decide +kernel
theorem dL_law_291 : decode code 291 = .ok (.aload_n 2, 1) := by decide +kernel
theorem dL_law_292 : decode code 292 = .ok (.invokevirtual 32, 3) := by decide +kernel
theorem dL_law_295 : decode code 295 = .ok (.if_icmp .eq 617, 3) := by decide +kernel
theorem dL_law_298 : decode code 298 = .ok (.iconst 0, 1) := by decide +kernel
theorem dL_law_299 : decode code 299 = .ok (.ireturn, 1) := by decide +kernel
theorem dL_law_300 : decode code 300 = .ok (.aload_n 1, 1) := by decide +kernel
theorem dL_law_301 : decode code 301 = .ok (.aload_n 0, 1) := by decide +kernel
theorem dL_law_302 : decode code 302 = .ok (.iload_n 3, 1) := by decide +kernel
theorem dL_law_303 : decode code 303 = .ok (.iconst 1, 1) := by decide +kernel
theorem dL_law_304 : decode code 304 = .ok (.iadd, 1) := by decide +kernel
theorem dL_law_305 : decode code 305 = .ok (.iaload, 1) := by decide +kernel
theorem dL_law_306 : decode code 306 = .ok (.aload_n 0, 1) := by decide +kernel
theorem dL_law_307 : decode code 307 = .ok (.iload_n 3, 1) := by decide +kernel
theorem dL_law_308 : decode code 308 = .ok (.iconst 2, 1) := by decide +kernel
theorem dL_law_309 : decode code 309 = .ok (.iadd, 1) := by decide +kernel
theorem dL_law_310 : decode code 310 = .ok (.iaload, 1) := by decide +kernel
theorem dL_law_311 : decode code 311 = .ok (.invokevirtual 33, 3) := by decide +kernel
theorem dL_law_314 : decode code 314 = .ok (.aload_n 2, 1) := by decide +kernel
theorem dL_law_315 : decode code 315 = .ok (.aload_n 0, 1) := by decide +kernel
theorem dL_law_316 : decode code 316 = .ok (.iload_n 3, 1) := by decide +kernel
theorem dL_law_317 : decode code 317 = .ok (.iconst 1, 1) := by decide +kernel
theorem dL_law_318 : decode code 318 = .ok (.iadd, 1) := by decide +kernel
theorem dL_law_319 : decode code 319 = .ok (.iaload, 1) := by decide +kernel
theorem dL_law_320 : decode code 320 = .ok (.aload_n 0, 1) := by decide +kernel
theorem dL_law_321 : decode code 321 = .ok (.iload_n 3, 1) := by decide +kernel
theorem dL_law_322 : decode code 322 = .ok (.iconst 2, 1) := by decide +kernel
theorem dL_law_323 : decode code 323 = .ok (.iadd, 1) := by decide +kernel
theorem dL_law_324 : decode code 324 = .ok (.iaload, 1) := by decide +kernel
theorem dL_law_325 : decode code 325 = .ok (.invokevirtual 36, 3) := by decide +kernel
theorem dL_law_328 : decode code 328 = .ok (.if_icmp .eq 584, 3) := by decide +kernel
theorem dL_law_331 : decode code 331 = .ok (.iconst 0, 1) := by decide +kernel
theorem dL_law_332 : decode code 332 = .ok (.ireturn, 1) := by decide +kernel
theorem dL_law_333 : decode code 333 = .ok (.aload_n 1, 1) := by decide +kernel
theorem dL_law_334 : decode code 334 = .ok (.aload_n 0, 1) := by decide +kernel
theorem dL_law_335 : decode code 335 = .ok (.iload_n 3, 1) := by decide +kernel
theorem dL_law_336 : decode code 336 = .ok (.iconst 1, 1) := by decide +kernel
theorem dL_law_337 : decode code 337 = .ok (.iadd, 1) := by decide +kernel
theorem dL_law_338 : decode code 338 = .ok (.iaload, 1) := by decide +kernel
theorem dL_law_339 : decode code 339 = .ok (.invokevirtual 37, 3) := by decide +kernel
theorem dL_law_342 : decode code 342 = .ok (.aload_n 2, 1) := by decide +kernel
theorem dL_law_343 : decode code 343 = .ok (.aload_n 0, 1) := by decide +kernel
theorem dL_law_344 : decode code 344 = .ok (.iload_n 3, 1) := by decide +kernel
theorem dL_law_345 : decode code 345 = .ok (.iconst 1, 1) := by decide +kernel
theorem dL_law_346 : decode code 346 = .ok (.iadd, 1) := by decide +kernel
theorem dL_law_347 : decode code 347 = .ok (.iaload, 1) := by decide +kernel
theorem dL_law_348 : decode code 348 = .ok (.invokevirtual 41, 3) := by decide +kernel
theorem dL_law_351 : decode code 351 = .ok (.if_icmp .eq 561, 3) := by decide +kernel
theorem dL_law_354 : decode code 354 = .ok (.iconst 0, 1) := by decide +kernel
theorem dL_law_355 : decode code 355 = .ok (.ireturn, 1) := by decide +kernel
theorem dL_law_356 : decode code 356 = .ok (.aload_n 1, 1) := by decide +kernel
theorem dL_law_357 : decode code 357 = .ok (.aload_n 0, 1) := by decide +kernel
theorem dL_law_358 : decode code 358 = .ok (.iload_n 3, 1) := by decide +kernel
theorem dL_law_359 : decode code 359 = .ok (.iconst 1, 1) := by decide +kernel
theorem dL_law_360 : decode code 360 = .ok (.iadd, 1) := by decide +kernel
theorem dL_law_361 : decode code 361 = .ok (.iaload, 1) := by decide +kernel
theorem dL_law_362 : decode code 362 = .ok (.aload_n 0, 1) := by decide +kernel
theorem dL_law_363 : decode code 363 = .ok (.iload_n 3, 1) := by decide +kernel
theorem dL_law_364 : decode code 364 = .ok (.iconst 2, 1) := by decide +kernel
theorem dL_law_365 : decode code 365 = .ok (.iadd, 1) := by decide +kernel
theorem dL_law_366 : decode code 366 = .ok (.iaload, 1) := by decide +kernel
theorem dL_law_367 : decode code 367 = .ok (.aload_n 0, 1) := by decide +kernel
theorem dL_law_368 : decode code 368 = .ok (.iload_n 3, 1) := by decide +kernel
theorem dL_law_369 : decode code 369 = .ok (.iconst 3, 1) := by decide +kernel
theorem dL_law_370 : decode code 370 = .ok (.iadd, 1) := by decide +kernel
theorem dL_law_371 : decode code 371 = .ok (.iaload, 1) := by decide +kernel
theorem dL_law_372 : decode code 372 = .ok (.aload_n 0, 1) := by decide +kernel
theorem dL_law_373 : decode code 373 = .ok (.iload_n 3, 1) := by decide +kernel
theorem dL_law_374 : decode code 374 = .ok (.iconst 4, 1) := by decide +kernel
theorem dL_law_375 : decode code 375 = .ok (.iadd, 1) := by decide +kernel
theorem dL_law_376 : decode code 376 = .ok (.iaload, 1) := by decide +kernel
theorem dL_law_377 : decode code 377 = .ok (.invokevirtual 42, 3) := by decide +kernel
theorem dL_law_380 : decode code 380 = .ok (.aload_n 2, 1) := by decide +kernel
theorem dL_law_381 : decode code 381 = .ok (.aload_n 0, 1) := by decide +kernel
theorem dL_law_382 : decode code 382 = .ok (.iload_n 3, 1) := by decide +kernel
theorem dL_law_383 : decode code 383 = .ok (.iconst 1, 1) := by decide +kernel
theorem dL_law_384 : decode code 384 = .ok (.iadd, 1) := by decide +kernel
theorem dL_law_385 : decode code 385 = .ok (.iaload, 1) := by decide +kernel
theorem dL_law_386 : decode code 386 = .ok (.aload_n 0, 1) := by decide +kernel
theorem dL_law_387 : decode code 387 = .ok (.iload_n 3, 1) := by decide +kernel
theorem dL_law_388 : decode code 388 = .ok (.iconst 2, 1) := by decide +kernel
theorem dL_law_389 : decode code 389 = .ok (.iadd, 1) := by decide +kernel
theorem dL_law_390 : decode code 390 = .ok (.iaload, 1) := by decide +kernel
theorem dL_law_391 : decode code 391 = .ok (.aload_n 0, 1) := by decide +kernel
theorem dL_law_392 : decode code 392 = .ok (.iload_n 3, 1) := by decide +kernel
theorem dL_law_393 : decode code 393 = .ok (.iconst 3, 1) := by decide +kernel
theorem dL_law_394 : decode code 394 = .ok (.iadd, 1) := by decide +kernel
theorem dL_law_395 : decode code 395 = .ok (.iaload, 1) := by decide +kernel
theorem dL_law_396 : decode code 396 = .ok (.aload_n 0, 1) := by decide +kernel
theorem dL_law_397 : decode code 397 = .ok (.iload_n 3, 1) := by decide +kernel
theorem dL_law_398 : decode code 398 = .ok (.iconst 4, 1) := by decide +kernel
theorem dL_law_399 : decode code 399 = .ok (.iadd, 1) := by decide +kernel
theorem dL_law_400 : decode code 400 = .ok (.iaload, 1) := by decide +kernel
theorem dL_law_401 : decode code 401 = .ok (.invokevirtual 46, 3) := by decide +kernel
theorem dL_law_404 : decode code 404 = .ok (.if_icmp .eq 508, 3) := by decide +kernel
theorem dL_law_407 : decode code 407 = .ok (.iconst 0, 1) := by decide +kernel
theorem dL_law_408 : decode code 408 = .ok (.ireturn, 1) := by decide +kernel
theorem dL_law_409 : decode code 409 = .ok (.aload_n 1, 1) := by decide +kernel
theorem dL_law_410 : decode code 410 = .ok (.aload_n 0, 1) := by decide +kernel
theorem dL_law_411 : decode code 411 = .ok (.iload_n 3, 1) := by decide +kernel
theorem dL_law_412 : decode code 412 = .ok (.iconst 1, 1) := by decide +kernel
theorem dL_law_413 : decode code 413 = .ok (.iadd, 1) := by decide +kernel
theorem dL_law_414 : decode code 414 = .ok (.iaload, 1) := by decide +kernel
theorem dL_law_415 : decode code 415 = .ok (.invokevirtual 47, 3) := by decide +kernel
theorem dL_law_418 : decode code 418 = .ok (.aload_n 2, 1) := by decide +kernel
theorem dL_law_419 : decode code 419 = .ok (.aload_n 0, 1) := by decide +kernel
theorem dL_law_420 : decode code 420 = .ok (.iload_n 3, 1) := by decide +kernel
theorem dL_law_421 : decode code 421 = .ok (.iconst 1, 1) := by decide +kernel
theorem dL_law_422 : decode code 422 = .ok (.iadd, 1) := by decide +kernel
theorem dL_law_423 : decode code 423 = .ok (.iaload, 1) := by decide +kernel
theorem dL_law_424 : decode code 424 = .ok (.invokevirtual 50, 3) := by decide +kernel
theorem dL_law_427 : decode code 427 = .ok (.if_icmp .eq 485, 3) := by decide +kernel
theorem dL_law_430 : decode code 430 = .ok (.iconst 0, 1) := by decide +kernel
theorem dL_law_431 : decode code 431 = .ok (.ireturn, 1) := by decide +kernel
theorem dL_law_432 : decode code 432 = .ok (.aload_n 1, 1) := by decide +kernel
theorem dL_law_433 : decode code 433 = .ok (.aload_n 0, 1) := by decide +kernel
theorem dL_law_434 : decode code 434 = .ok (.iload_n 3, 1) := by decide +kernel
theorem dL_law_435 : decode code 435 = .ok (.iconst 1, 1) := by decide +kernel
theorem dL_law_436 : decode code 436 = .ok (.iadd, 1) := by decide +kernel
theorem dL_law_437 : decode code 437 = .ok (.iaload, 1) := by decide +kernel
theorem dL_law_438 : decode code 438 = .ok (.aload_n 0, 1) := by decide +kernel
theorem dL_law_439 : decode code 439 = .ok (.iload_n 3, 1) := by decide +kernel
theorem dL_law_440 : decode code 440 = .ok (.iconst 2, 1) := by decide +kernel
theorem dL_law_441 : decode code 441 = .ok (.iadd, 1) := by decide +kernel
theorem dL_law_442 : decode code 442 = .ok (.iaload, 1) := by decide +kernel
theorem dL_law_443 : decode code 443 = .ok (.invokevirtual 51, 3) := by decide +kernel
theorem dL_law_446 : decode code 446 = .ok (.aload_n 2, 1) := by decide +kernel
theorem dL_law_447 : decode code 447 = .ok (.aload_n 0, 1) := by decide +kernel
theorem dL_law_448 : decode code 448 = .ok (.iload_n 3, 1) := by decide +kernel
theorem dL_law_449 : decode code 449 = .ok (.iconst 1, 1) := by decide +kernel
theorem dL_law_450 : decode code 450 = .ok (.iadd, 1) := by decide +kernel
theorem dL_law_451 : decode code 451 = .ok (.iaload, 1) := by decide +kernel
theorem dL_law_452 : decode code 452 = .ok (.aload_n 0, 1) := by decide +kernel
theorem dL_law_453 : decode code 453 = .ok (.iload_n 3, 1) := by decide +kernel
theorem dL_law_454 : decode code 454 = .ok (.iconst 2, 1) := by decide +kernel
theorem dL_law_455 : decode code 455 = .ok (.iadd, 1) := by decide +kernel
theorem dL_law_456 : decode code 456 = .ok (.iaload, 1) := by decide +kernel
theorem dL_law_457 : decode code 457 = .ok (.invokevirtual 54, 3) := by decide +kernel
theorem dL_law_460 : decode code 460 = .ok (.if_icmp .eq 452, 3) := by decide +kernel
theorem dL_law_463 : decode code 463 = .ok (.iconst 0, 1) := by decide +kernel
theorem dL_law_464 : decode code 464 = .ok (.ireturn, 1) := by decide +kernel
theorem dL_law_465 : decode code 465 = .ok (.aload_n 1, 1) := by decide +kernel
theorem dL_law_466 : decode code 466 = .ok (.aload_n 0, 1) := by decide +kernel
theorem dL_law_467 : decode code 467 = .ok (.iload_n 3, 1) := by decide +kernel
theorem dL_law_468 : decode code 468 = .ok (.iconst 1, 1) := by decide +kernel
theorem dL_law_469 : decode code 469 = .ok (.iadd, 1) := by decide +kernel
theorem dL_law_470 : decode code 470 = .ok (.iaload, 1) := by decide +kernel
theorem dL_law_471 : decode code 471 = .ok (.invokevirtual 55, 3) := by decide +kernel
theorem dL_law_474 : decode code 474 = .ok (.aload_n 2, 1) := by decide +kernel
theorem dL_law_475 : decode code 475 = .ok (.aload_n 0, 1) := by decide +kernel
theorem dL_law_476 : decode code 476 = .ok (.iload_n 3, 1) := by decide +kernel
theorem dL_law_477 : decode code 477 = .ok (.iconst 1, 1) := by decide +kernel
theorem dL_law_478 : decode code 478 = .ok (.iadd, 1) := by decide +kernel
theorem dL_law_479 : decode code 479 = .ok (.iaload, 1) := by decide +kernel
theorem dL_law_480 : decode code 480 = .ok (.invokevirtual 58, 3) := by decide +kernel
theorem dL_law_483 : decode code 483 = .ok (.if_icmp .eq 429, 3) := by decide +kernel
theorem dL_law_486 : decode code 486 = .ok (.iconst 0, 1) := by decide +kernel
theorem dL_law_487 : decode code 487 = .ok (.ireturn, 1) := by decide +kernel
theorem dL_law_488 : decode code 488 = .ok (.aload_n 1, 1) := by decide +kernel
theorem dL_law_489 : decode code 489 = .ok (.aload_n 0, 1) := by decide +kernel
theorem dL_law_490 : decode code 490 = .ok (.iload_n 3, 1) := by decide +kernel
theorem dL_law_491 : decode code 491 = .ok (.iconst 1, 1) := by decide +kernel
theorem dL_law_492 : decode code 492 = .ok (.iadd, 1) := by decide +kernel
theorem dL_law_493 : decode code 493 = .ok (.iaload, 1) := by decide +kernel
theorem dL_law_494 : decode code 494 = .ok (.aload_n 0, 1) := by decide +kernel
theorem dL_law_495 : decode code 495 = .ok (.iload_n 3, 1) := by decide +kernel
theorem dL_law_496 : decode code 496 = .ok (.iconst 2, 1) := by decide +kernel
theorem dL_law_497 : decode code 497 = .ok (.iadd, 1) := by decide +kernel
theorem dL_law_498 : decode code 498 = .ok (.iaload, 1) := by decide +kernel
theorem dL_law_499 : decode code 499 = .ok (.aload_n 0, 1) := by decide +kernel
theorem dL_law_500 : decode code 500 = .ok (.iload_n 3, 1) := by decide +kernel
theorem dL_law_501 : decode code 501 = .ok (.iconst 3, 1) := by decide +kernel
theorem dL_law_502 : decode code 502 = .ok (.iadd, 1) := by decide +kernel
theorem dL_law_503 : decode code 503 = .ok (.iaload, 1) := by decide +kernel
theorem dL_law_504 : decode code 504 = .ok (.invokevirtual 59, 3) := by decide +kernel
theorem dL_law_507 : decode code 507 = .ok (.aload_n 2, 1) := by decide +kernel
theorem dL_law_508 : decode code 508 = .ok (.aload_n 0, 1) := by decide +kernel
theorem dL_law_509 : decode code 509 = .ok (.iload_n 3, 1) := by decide +kernel
theorem dL_law_510 : decode code 510 = .ok (.iconst 1, 1) := by decide +kernel
theorem dL_law_511 : decode code 511 = .ok (.iadd, 1) := by decide +kernel
theorem dL_law_512 : decode code 512 = .ok (.iaload, 1) := by decide +kernel
theorem dL_law_513 : decode code 513 = .ok (.aload_n 0, 1) := by decide +kernel
theorem dL_law_514 : decode code 514 = .ok (.iload_n 3, 1) := by decide +kernel
theorem dL_law_515 : decode code 515 = .ok (.iconst 2, 1) := by decide +kernel
theorem dL_law_516 : decode code 516 = .ok (.iadd, 1) := by decide +kernel
theorem dL_law_517 : decode code 517 = .ok (.iaload, 1) := by decide +kernel
theorem dL_law_518 : decode code 518 = .ok (.aload_n 0, 1) := by decide +kernel
theorem dL_law_519 : decode code 519 = .ok (.iload_n 3, 1) := by decide +kernel
theorem dL_law_520 : decode code 520 = .ok (.iconst 3, 1) := by decide +kernel
theorem dL_law_521 : decode code 521 = .ok (.iadd, 1) := by decide +kernel
theorem dL_law_522 : decode code 522 = .ok (.iaload, 1) := by decide +kernel
theorem dL_law_523 : decode code 523 = .ok (.invokevirtual 62, 3) := by decide +kernel
theorem dL_law_526 : decode code 526 = .ok (.if_icmp .eq 386, 3) := by decide +kernel
theorem dL_law_529 : decode code 529 = .ok (.iconst 0, 1) := by decide +kernel
theorem dL_law_530 : decode code 530 = .ok (.ireturn, 1) := by decide +kernel
theorem dL_law_531 : decode code 531 = .ok (.aload_n 1, 1) := by decide +kernel
theorem dL_law_532 : decode code 532 = .ok (.invokevirtual 63, 3) := by decide +kernel
theorem dL_law_535 : decode code 535 = .ok (.aload_n 2, 1) := by decide +kernel
theorem dL_law_536 : decode code 536 = .ok (.invokevirtual 66, 3) := by decide +kernel
theorem dL_law_539 : decode code 539 = .ok (.if_icmp .eq 373, 3) := by decide +kernel
theorem dL_law_542 : decode code 542 = .ok (.iconst 0, 1) := by decide +kernel
theorem dL_law_543 : decode code 543 = .ok (.ireturn, 1) := by decide +kernel
theorem dL_law_544 : decode code 544 = .ok (.aload_n 1, 1) := by decide +kernel
theorem dL_law_545 : decode code 545 = .ok (.aload_n 0, 1) := by decide +kernel
theorem dL_law_546 : decode code 546 = .ok (.iload_n 3, 1) := by decide +kernel
theorem dL_law_547 : decode code 547 = .ok (.iconst 1, 1) := by decide +kernel
theorem dL_law_548 : decode code 548 = .ok (.iadd, 1) := by decide +kernel
theorem dL_law_549 : decode code 549 = .ok (.iaload, 1) := by decide +kernel
theorem dL_law_550 : decode code 550 = .ok (.aload_n 0, 1) := by decide +kernel
theorem dL_law_551 : decode code 551 = .ok (.iload_n 3, 1) := by decide +kernel
theorem dL_law_552 : decode code 552 = .ok (.iconst 2, 1) := by decide +kernel
theorem dL_law_553 : decode code 553 = .ok (.iadd, 1) := by decide +kernel
theorem dL_law_554 : decode code 554 = .ok (.iaload, 1) := by decide +kernel
theorem dL_law_555 : decode code 555 = .ok (.invokevirtual 67, 3) := by decide +kernel
theorem dL_law_558 : decode code 558 = .ok (.aload_n 2, 1) := by decide +kernel
theorem dL_law_559 : decode code 559 = .ok (.aload_n 0, 1) := by decide +kernel
theorem dL_law_560 : decode code 560 = .ok (.iload_n 3, 1) := by decide +kernel
theorem dL_law_561 : decode code 561 = .ok (.iconst 1, 1) := by decide +kernel
theorem dL_law_562 : decode code 562 = .ok (.iadd, 1) := by decide +kernel
theorem dL_law_563 : decode code 563 = .ok (.iaload, 1) := by decide +kernel
theorem dL_law_564 : decode code 564 = .ok (.aload_n 0, 1) := by decide +kernel
theorem dL_law_565 : decode code 565 = .ok (.iload_n 3, 1) := by decide +kernel
theorem dL_law_566 : decode code 566 = .ok (.iconst 2, 1) := by decide +kernel
theorem dL_law_567 : decode code 567 = .ok (.iadd, 1) := by decide +kernel
theorem dL_law_568 : decode code 568 = .ok (.iaload, 1) := by decide +kernel
theorem dL_law_569 : decode code 569 = .ok (.invokevirtual 70, 3) := by decide +kernel
theorem dL_law_572 : decode code 572 = .ok (.if_icmp .eq 340, 3) := by decide +kernel
theorem dL_law_575 : decode code 575 = .ok (.iconst 0, 1) := by decide +kernel
theorem dL_law_576 : decode code 576 = .ok (.ireturn, 1) := by decide +kernel
theorem dL_law_577 : decode code 577 = .ok (.aload_n 1, 1) := by decide +kernel
theorem dL_law_578 : decode code 578 = .ok (.invokevirtual 71, 3) := by decide +kernel
theorem dL_law_581 : decode code 581 = .ok (.aload_n 2, 1) := by decide +kernel
theorem dL_law_582 : decode code 582 = .ok (.invokevirtual 74, 3) := by decide +kernel
theorem dL_law_585 : decode code 585 = .ok (.if_icmp .eq 327, 3) := by decide +kernel
theorem dL_law_588 : decode code 588 = .ok (.iconst 0, 1) := by decide +kernel
theorem dL_law_589 : decode code 589 = .ok (.ireturn, 1) := by decide +kernel
theorem dL_law_590 : decode code 590 = .ok (.aload_n 1, 1) := by decide +kernel
theorem dL_law_591 : decode code 591 = .ok (.aload_n 0, 1) := by decide +kernel
theorem dL_law_592 : decode code 592 = .ok (.iload_n 3, 1) := by decide +kernel
theorem dL_law_593 : decode code 593 = .ok (.iconst 1, 1) := by decide +kernel
theorem dL_law_594 : decode code 594 = .ok (.iadd, 1) := by decide +kernel
theorem dL_law_595 : decode code 595 = .ok (.iaload, 1) := by decide +kernel
theorem dL_law_596 : decode code 596 = .ok (.invokevirtual 75, 3) := by decide +kernel
theorem dL_law_599 : decode code 599 = .ok (.aload_n 2, 1) := by decide +kernel
theorem dL_law_600 : decode code 600 = .ok (.aload_n 0, 1) := by decide +kernel
theorem dL_law_601 : decode code 601 = .ok (.iload_n 3, 1) := by decide +kernel
theorem dL_law_602 : decode code 602 = .ok (.iconst 1, 1) := by decide +kernel
theorem dL_law_603 : decode code 603 = .ok (.iadd, 1) := by decide +kernel
theorem dL_law_604 : decode code 604 = .ok (.iaload, 1) := by decide +kernel
theorem dL_law_605 : decode code 605 = .ok (.invokevirtual 78, 3) := by decide +kernel
theorem dL_law_608 : decode code 608 = .ok (.if_icmp .eq 304, 3) := by decide +kernel
theorem dL_law_611 : decode code 611 = .ok (.iconst 0, 1) := by decide +kernel
theorem dL_law_612 : decode code 612 = .ok (.ireturn, 1) := by decide +kernel
theorem dL_law_613 : decode code 613 = .ok (.aload_n 1, 1) := by decide +kernel
theorem dL_law_614 : decode code 614 = .ok (.aload_n 0, 1) := by decide +kernel
theorem dL_law_615 : decode code 615 = .ok (.iload_n 3, 1) := by decide +kernel
theorem dL_law_616 : decode code 616 = .ok (.iconst 1, 1) := by decide +kernel
theorem dL_law_617 : decode code 617 = .ok (.iadd, 1) := by decide +kernel
theorem dL_law_618 : decode code 618 = .ok (.iaload, 1) := by decide +kernel
theorem dL_law_619 : decode code 619 = .ok (.aload_n 0, 1) := by decide +kernel
theorem dL_law_620 : decode code 620 = .ok (.iload_n 3, 1) := by decide +kernel
theorem dL_law_621 : decode code 621 = .ok (.iconst 2, 1) := by decide +kernel
theorem dL_law_622 : decode code 622 = .ok (.iadd, 1) := by decide +kernel
theorem dL_law_623 : decode code 623 = .ok (.iaload, 1) := by decide +kernel
theorem dL_law_624 : decode code 624 = .ok (.invokevirtual 79, 3) := by decide +kernel
theorem dL_law_627 : decode code 627 = .ok (.aload_n 2, 1) := by decide +kernel
theorem dL_law_628 : decode code 628 = .ok (.aload_n 0, 1) := by decide +kernel
theorem dL_law_629 : decode code 629 = .ok (.iload_n 3, 1) := by decide +kernel
theorem dL_law_630 : decode code 630 = .ok (.iconst 1, 1) := by decide +kernel
theorem dL_law_631 : decode code 631 = .ok (.iadd, 1) := by decide +kernel
theorem dL_law_632 : decode code 632 = .ok (.iaload, 1) := by decide +kernel
theorem dL_law_633 : decode code 633 = .ok (.aload_n 0, 1) := by decide +kernel
theorem dL_law_634 : decode code 634 = .ok (.iload_n 3, 1) := by decide +kernel
theorem dL_law_635 : decode code 635 = .ok (.iconst 2, 1) := by decide +kernel
theorem dL_law_636 : decode code 636 = .ok (.iadd, 1) := by decide +kernel
theorem dL_law_637 : decode code 637 = .ok (.iaload, 1) := by decide +kernel
theorem dL_law_638 : decode code 638 = .ok (.invokevirtual 82, 3) := by decide +kernel
theorem dL_law_641 : decode code 641 = .ok (.if_icmp .eq 271, 3) := by decide +kernel
theorem dL_law_644 : decode code 644 = .ok (.iconst 0, 1) := by decide +kernel
theorem dL_law_645 : decode code 645 = .ok (.ireturn, 1) := by decide +kernel
theorem dL_law_646 : decode code 646 = .ok (.aload_n 1, 1) := by decide +kernel
theorem dL_law_647 : decode code 647 = .ok (.aload_n 0, 1) := by decide +kernel
theorem dL_law_648 : decode code 648 = .ok (.iload_n 3, 1) := by decide +kernel
theorem dL_law_649 : decode code 649 = .ok (.iconst 1, 1) := by decide +kernel
theorem dL_law_650 : decode code 650 = .ok (.iadd, 1) := by decide +kernel
theorem dL_law_651 : decode code 651 = .ok (.iaload, 1) := by decide +kernel
theorem dL_law_652 : decode code 652 = .ok (.aload_n 0, 1) := by decide +kernel
theorem dL_law_653 : decode code 653 = .ok (.iload_n 3, 1) := by decide +kernel
theorem dL_law_654 : decode code 654 = .ok (.iconst 2, 1) := by decide +kernel
theorem dL_law_655 : decode code 655 = .ok (.iadd, 1) := by decide +kernel
theorem dL_law_656 : decode code 656 = .ok (.iaload, 1) := by decide +kernel
theorem dL_law_657 : decode code 657 = .ok (.aload_n 0, 1) := by decide +kernel
theorem dL_law_658 : decode code 658 = .ok (.iload_n 3, 1) := by decide +kernel
theorem dL_law_659 : decode code 659 = .ok (.iconst 3, 1) := by decide +kernel
theorem dL_law_660 : decode code 660 = .ok (.iadd, 1) := by decide +kernel
theorem dL_law_661 : decode code 661 = .ok (.iaload, 1) := by decide +kernel
theorem dL_law_662 : decode code 662 = .ok (.ifCond .eq 7, 3) := by decide +kernel
theorem dL_law_665 : decode code 665 = .ok (.iconst 1, 1) := by decide +kernel
theorem dL_law_666 : decode code 666 = .ok (.goto 4, 3) := by decide +kernel
theorem dL_law_669 : decode code 669 = .ok (.iconst 0, 1) := by decide +kernel
theorem dL_law_670 : decode code 670 = .ok (.invokevirtual 83, 3) := by decide +kernel
theorem dL_law_673 : decode code 673 = .ok (.aload_n 2, 1) := by decide +kernel
theorem dL_law_674 : decode code 674 = .ok (.aload_n 0, 1) := by decide +kernel
theorem dL_law_675 : decode code 675 = .ok (.iload_n 3, 1) := by decide +kernel
theorem dL_law_676 : decode code 676 = .ok (.iconst 1, 1) := by decide +kernel
theorem dL_law_677 : decode code 677 = .ok (.iadd, 1) := by decide +kernel
theorem dL_law_678 : decode code 678 = .ok (.iaload, 1) := by decide +kernel
theorem dL_law_679 : decode code 679 = .ok (.aload_n 0, 1) := by decide +kernel
theorem dL_law_680 : decode code 680 = .ok (.iload_n 3, 1) := by decide +kernel
theorem dL_law_681 : decode code 681 = .ok (.iconst 2, 1) := by decide +kernel
theorem dL_law_682 : decode code 682 = .ok (.iadd, 1) := by decide +kernel
theorem dL_law_683 : decode code 683 = .ok (.iaload, 1) := by decide +kernel
theorem dL_law_684 : decode code 684 = .ok (.aload_n 0, 1) := by decide +kernel
theorem dL_law_685 : decode code 685 = .ok (.iload_n 3, 1) := by decide +kernel
theorem dL_law_686 : decode code 686 = .ok (.iconst 3, 1) := by decide +kernel
theorem dL_law_687 : decode code 687 = .ok (.iadd, 1) := by decide +kernel
theorem dL_law_688 : decode code 688 = .ok (.iaload, 1) := by decide +kernel
theorem dL_law_689 : decode code 689 = .ok (.ifCond .eq 7, 3) := by decide +kernel
theorem dL_law_692 : decode code 692 = .ok (.iconst 1, 1) := by decide +kernel
theorem dL_law_693 : decode code 693 = .ok (.goto 4, 3) := by decide +kernel
theorem dL_law_696 : decode code 696 = .ok (.iconst 0, 1) := by decide +kernel
theorem dL_law_697 : decode code 697 = .ok (.invokevirtual 87, 3) := by decide +kernel
theorem dL_law_700 : decode code 700 = .ok (.if_icmp .eq 212, 3) := by decide +kernel
theorem dL_law_703 : decode code 703 = .ok (.iconst 0, 1) := by decide +kernel
theorem dL_law_704 : decode code 704 = .ok (.ireturn, 1) := by decide +kernel
theorem dL_law_705 : decode code 705 = .ok (.aload_n 1, 1) := by decide +kernel
theorem dL_law_706 : decode code 706 = .ok (.aload_n 0, 1) := by decide +kernel
theorem dL_law_707 : decode code 707 = .ok (.iload_n 3, 1) := by decide +kernel
theorem dL_law_708 : decode code 708 = .ok (.iconst 1, 1) := by decide +kernel
theorem dL_law_709 : decode code 709 = .ok (.iadd, 1) := by decide +kernel
theorem dL_law_710 : decode code 710 = .ok (.iaload, 1) := by decide +kernel
theorem dL_law_711 : decode code 711 = .ok (.aload_n 0, 1) := by decide +kernel
theorem dL_law_712 : decode code 712 = .ok (.iload_n 3, 1) := by decide +kernel
theorem dL_law_713 : decode code 713 = .ok (.iconst 2, 1) := by decide +kernel
theorem dL_law_714 : decode code 714 = .ok (.iadd, 1) := by decide +kernel
theorem dL_law_715 : decode code 715 = .ok (.iaload, 1) := by decide +kernel
theorem dL_law_716 : decode code 716 = .ok (.invokevirtual 88, 3) := by decide +kernel
theorem dL_law_719 : decode code 719 = .ok (.aload_n 2, 1) := by decide +kernel
theorem dL_law_720 : decode code 720 = .ok (.aload_n 0, 1) := by decide +kernel
theorem dL_law_721 : decode code 721 = .ok (.iload_n 3, 1) := by decide +kernel
theorem dL_law_722 : decode code 722 = .ok (.iconst 1, 1) := by decide +kernel
theorem dL_law_723 : decode code 723 = .ok (.iadd, 1) := by decide +kernel
theorem dL_law_724 : decode code 724 = .ok (.iaload, 1) := by decide +kernel
theorem dL_law_725 : decode code 725 = .ok (.aload_n 0, 1) := by decide +kernel
theorem dL_law_726 : decode code 726 = .ok (.iload_n 3, 1) := by decide +kernel
theorem dL_law_727 : decode code 727 = .ok (.iconst 2, 1) := by decide +kernel
theorem dL_law_728 : decode code 728 = .ok (.iadd, 1) := by decide +kernel
theorem dL_law_729 : decode code 729 = .ok (.iaload, 1) := by decide +kernel
theorem dL_law_730 : decode code 730 = .ok (.invokevirtual 91, 3) := by decide +kernel
theorem dL_law_733 : decode code 733 = .ok (.if_icmp .eq 179, 3) := by decide +kernel
theorem dL_law_736 : decode code 736 = .ok (.iconst 0, 1) := by decide +kernel
theorem dL_law_737 : decode code 737 = .ok (.ireturn, 1) := by decide +kernel
theorem dL_law_738 : decode code 738 = .ok (.aload_n 1, 1) := by decide +kernel
theorem dL_law_739 : decode code 739 = .ok (.aload_n 0, 1) := by decide +kernel
theorem dL_law_740 : decode code 740 = .ok (.iload_n 3, 1) := by decide +kernel
theorem dL_law_741 : decode code 741 = .ok (.iconst 1, 1) := by decide +kernel
theorem dL_law_742 : decode code 742 = .ok (.iadd, 1) := by decide +kernel
theorem dL_law_743 : decode code 743 = .ok (.iaload, 1) := by decide +kernel
theorem dL_law_744 : decode code 744 = .ok (.invokevirtual 92, 3) := by decide +kernel
theorem dL_law_747 : decode code 747 = .ok (.aload_n 2, 1) := by decide +kernel
theorem dL_law_748 : decode code 748 = .ok (.aload_n 0, 1) := by decide +kernel
theorem dL_law_749 : decode code 749 = .ok (.iload_n 3, 1) := by decide +kernel
theorem dL_law_750 : decode code 750 = .ok (.iconst 1, 1) := by decide +kernel
theorem dL_law_751 : decode code 751 = .ok (.iadd, 1) := by decide +kernel
theorem dL_law_752 : decode code 752 = .ok (.iaload, 1) := by decide +kernel
theorem dL_law_753 : decode code 753 = .ok (.invokevirtual 95, 3) := by decide +kernel
theorem dL_law_756 : decode code 756 = .ok (.if_icmp .eq 156, 3) := by decide +kernel
theorem dL_law_759 : decode code 759 = .ok (.iconst 0, 1) := by decide +kernel
theorem dL_law_760 : decode code 760 = .ok (.ireturn, 1) := by decide +kernel
theorem dL_law_761 : decode code 761 = .ok (.aload_n 1, 1) := by decide +kernel
theorem dL_law_762 : decode code 762 = .ok (.aload_n 0, 1) := by decide +kernel
theorem dL_law_763 : decode code 763 = .ok (.iload_n 3, 1) := by decide +kernel
theorem dL_law_764 : decode code 764 = .ok (.iconst 1, 1) := by decide +kernel
theorem dL_law_765 : decode code 765 = .ok (.iadd, 1) := by decide +kernel
theorem dL_law_766 : decode code 766 = .ok (.iaload, 1) := by decide +kernel
theorem dL_law_767 : decode code 767 = .ok (.aload_n 0, 1) := by decide +kernel
theorem dL_law_768 : decode code 768 = .ok (.iload_n 3, 1) := by decide +kernel
theorem dL_law_769 : decode code 769 = .ok (.iconst 2, 1) := by decide +kernel
theorem dL_law_770 : decode code 770 = .ok (.iadd, 1) := by decide +kernel
theorem dL_law_771 : decode code 771 = .ok (.iaload, 1) := by decide +kernel
theorem dL_law_772 : decode code 772 = .ok (.invokevirtual 96, 3) := by decide +kernel
theorem dL_law_775 : decode code 775 = .ok (.aload_n 2, 1) := by decide +kernel
theorem dL_law_776 : decode code 776 = .ok (.aload_n 0, 1) := by decide +kernel
theorem dL_law_777 : decode code 777 = .ok (.iload_n 3, 1) := by decide +kernel
theorem dL_law_778 : decode code 778 = .ok (.iconst 1, 1) := by decide +kernel
theorem dL_law_779 : decode code 779 = .ok (.iadd, 1) := by decide +kernel
theorem dL_law_780 : decode code 780 = .ok (.iaload, 1) := by decide +kernel
theorem dL_law_781 : decode code 781 = .ok (.aload_n 0, 1) := by decide +kernel
theorem dL_law_782 : decode code 782 = .ok (.iload_n 3, 1) := by decide +kernel
theorem dL_law_783 : decode code 783 = .ok (.iconst 2, 1) := by decide +kernel
theorem dL_law_784 : decode code 784 = .ok (.iadd, 1) := by decide +kernel
theorem dL_law_785 : decode code 785 = .ok (.iaload, 1) := by decide +kernel
theorem dL_law_786 : decode code 786 = .ok (.invokevirtual 99, 3) := by decide +kernel
theorem dL_law_789 : decode code 789 = .ok (.if_icmp .eq 123, 3) := by decide +kernel
theorem dL_law_792 : decode code 792 = .ok (.iconst 0, 1) := by decide +kernel
theorem dL_law_793 : decode code 793 = .ok (.ireturn, 1) := by decide +kernel
theorem dL_law_794 : decode code 794 = .ok (.aload_n 1, 1) := by decide +kernel
theorem dL_law_795 : decode code 795 = .ok (.invokevirtual 100, 3) := by decide +kernel
theorem dL_law_798 : decode code 798 = .ok (.aload_n 2, 1) := by decide +kernel
theorem dL_law_799 : decode code 799 = .ok (.invokevirtual 103, 3) := by decide +kernel
theorem dL_law_802 : decode code 802 = .ok (.if_icmp .eq 110, 3) := by decide +kernel
theorem dL_law_805 : decode code 805 = .ok (.iconst 0, 1) := by decide +kernel
theorem dL_law_806 : decode code 806 = .ok (.ireturn, 1) := by decide +kernel
theorem dL_law_807 : decode code 807 = .ok (.aload_n 1, 1) := by decide +kernel
theorem dL_law_808 : decode code 808 = .ok (.aload_n 0, 1) := by decide +kernel
theorem dL_law_809 : decode code 809 = .ok (.iload_n 3, 1) := by decide +kernel
theorem dL_law_810 : decode code 810 = .ok (.iconst 1, 1) := by decide +kernel
theorem dL_law_811 : decode code 811 = .ok (.iadd, 1) := by decide +kernel
theorem dL_law_812 : decode code 812 = .ok (.iaload, 1) := by decide +kernel
theorem dL_law_813 : decode code 813 = .ok (.invokevirtual 104, 3) := by decide +kernel
theorem dL_law_816 : decode code 816 = .ok (.aload_n 2, 1) := by decide +kernel
theorem dL_law_817 : decode code 817 = .ok (.aload_n 0, 1) := by decide +kernel
theorem dL_law_818 : decode code 818 = .ok (.iload_n 3, 1) := by decide +kernel
theorem dL_law_819 : decode code 819 = .ok (.iconst 1, 1) := by decide +kernel
theorem dL_law_820 : decode code 820 = .ok (.iadd, 1) := by decide +kernel
theorem dL_law_821 : decode code 821 = .ok (.iaload, 1) := by decide +kernel
theorem dL_law_822 : decode code 822 = .ok (.invokevirtual 107, 3) := by decide +kernel
theorem dL_law_825 : decode code 825 = .ok (.if_icmp .eq 87, 3) := by decide +kernel
theorem dL_law_828 : decode code 828 = .ok (.iconst 0, 1) := by decide +kernel
theorem dL_law_829 : decode code 829 = .ok (.ireturn, 1) := by decide +kernel
theorem dL_law_830 : decode code 830 = .ok (.aload_n 1, 1) := by decide +kernel
theorem dL_law_831 : decode code 831 = .ok (.aload_n 0, 1) := by decide +kernel
theorem dL_law_832 : decode code 832 = .ok (.iload_n 3, 1) := by decide +kernel
theorem dL_law_833 : decode code 833 = .ok (.iconst 1, 1) := by decide +kernel
theorem dL_law_834 : decode code 834 = .ok (.iadd, 1) := by decide +kernel
theorem dL_law_835 : decode code 835 = .ok (.iaload, 1) := by decide +kernel
theorem dL_law_836 : decode code 836 = .ok (.aload_n 0, 1) := by decide +kernel
theorem dL_law_837 : decode code 837 = .ok (.iload_n 3, 1) := by decide +kernel
theorem dL_law_838 : decode code 838 = .ok (.iconst 2, 1) := by decide +kernel
theorem dL_law_839 : decode code 839 = .ok (.iadd, 1) := by decide +kernel
theorem dL_law_840 : decode code 840 = .ok (.iaload, 1) := by decide +kernel
theorem dL_law_841 : decode code 841 = .ok (.invokevirtual 108, 3) := by decide +kernel
theorem dL_law_844 : decode code 844 = .ok (.aload_n 2, 1) := by decide +kernel
theorem dL_law_845 : decode code 845 = .ok (.aload_n 0, 1) := by decide +kernel
theorem dL_law_846 : decode code 846 = .ok (.iload_n 3, 1) := by decide +kernel
theorem dL_law_847 : decode code 847 = .ok (.iconst 1, 1) := by decide +kernel
theorem dL_law_848 : decode code 848 = .ok (.iadd, 1) := by decide +kernel
theorem dL_law_849 : decode code 849 = .ok (.iaload, 1) := by decide +kernel
theorem dL_law_850 : decode code 850 = .ok (.aload_n 0, 1) := by decide +kernel
theorem dL_law_851 : decode code 851 = .ok (.iload_n 3, 1) := by decide +kernel
theorem dL_law_852 : decode code 852 = .ok (.iconst 2, 1) := by decide +kernel
theorem dL_law_853 : decode code 853 = .ok (.iadd, 1) := by decide +kernel
theorem dL_law_854 : decode code 854 = .ok (.iaload, 1) := by decide +kernel
theorem dL_law_855 : decode code 855 = .ok (.invokevirtual 111, 3) := by decide +kernel
theorem dL_law_858 : decode code 858 = .ok (.if_icmp .eq 54, 3) := by decide +kernel
theorem dL_law_861 : decode code 861 = .ok (.iconst 0, 1) := by decide +kernel
theorem dL_law_862 : decode code 862 = .ok (.ireturn, 1) := by decide +kernel
theorem dL_law_863 : decode code 863 = .ok (.aload_n 1, 1) := by decide +kernel
theorem dL_law_864 : decode code 864 = .ok (.aload_n 0, 1) := by decide +kernel
theorem dL_law_865 : decode code 865 = .ok (.iload_n 3, 1) := by decide +kernel
theorem dL_law_866 : decode code 866 = .ok (.iconst 1, 1) := by decide +kernel
theorem dL_law_867 : decode code 867 = .ok (.iadd, 1) := by decide +kernel
theorem dL_law_868 : decode code 868 = .ok (.iaload, 1) := by decide +kernel
theorem dL_law_869 : decode code 869 = .ok (.invokevirtual 112, 3) := by decide +kernel
theorem dL_law_872 : decode code 872 = .ok (.aload_n 2, 1) := by decide +kernel
theorem dL_law_873 : decode code 873 = .ok (.aload_n 0, 1) := by decide +kernel
theorem dL_law_874 : decode code 874 = .ok (.iload_n 3, 1) := by decide +kernel
theorem dL_law_875 : decode code 875 = .ok (.iconst 1, 1) := by decide +kernel
theorem dL_law_876 : decode code 876 = .ok (.iadd, 1) := by decide +kernel
theorem dL_law_877 : decode code 877 = .ok (.iaload, 1) := by decide +kernel
theorem dL_law_878 : decode code 878 = .ok (.invokevirtual 115, 3) := by decide +kernel
theorem dL_law_881 : decode code 881 = .ok (.if_icmp .eq 31, 3) := by decide +kernel
theorem dL_law_884 : decode code 884 = .ok (.iconst 0, 1) := by decide +kernel
theorem dL_law_885 : decode code 885 = .ok (.ireturn, 1) := by decide +kernel
theorem dL_law_886 : decode code 886 = .ok (.aload_n 1, 1) := by decide +kernel
theorem dL_law_887 : decode code 887 = .ok (.invokevirtual 116, 3) := by decide +kernel
theorem dL_law_890 : decode code 890 = .ok (.aload_n 2, 1) := by decide +kernel
theorem dL_law_891 : decode code 891 = .ok (.invokevirtual 119, 3) := by decide +kernel
theorem dL_law_894 : decode code 894 = .ok (.if_icmp .eq 18, 3) := by decide +kernel
theorem dL_law_897 : decode code 897 = .ok (.iconst 0, 1) := by decide +kernel
theorem dL_law_898 : decode code 898 = .ok (.ireturn, 1) := by decide +kernel
theorem dL_law_899 : decode code 899 = .ok (.aload_n 1, 1) := by decide +kernel
theorem dL_law_900 : decode code 900 = .ok (.invokevirtual 120, 3) := by decide +kernel
theorem dL_law_903 : decode code 903 = .ok (.aload_n 2, 1) := by decide +kernel
theorem dL_law_904 : decode code 904 = .ok (.invokevirtual 123, 3) := by decide +kernel
theorem dL_law_907 : decode code 907 = .ok (.if_icmp .eq 5, 3) := by decide +kernel
theorem dL_law_910 : decode code 910 = .ok (.iconst 0, 1) := by decide +kernel
theorem dL_law_911 : decode code 911 = .ok (.ireturn, 1) := by decide +kernel
theorem dL_law_912 : decode code 912 = .ok (.iinc 3 5, 3) := by decide +kernel
theorem dL_law_915 : decode code 915 = .ok (.goto (-897), 3) := by decide +kernel
theorem dL_law_918 : decode code 918 = .ok (.iconst 1, 1) := by decide +kernel
theorem dL_law_919 : decode code 919 = .ok (.ireturn, 1) := by decide +kernel
