theorem dL_tells_99 : decode cL_tells 99 = .ok (.iconst 4, 1) := by decide +kernel
theorem dL_tells_100 : decode cL_tells 100 = .ok (.invokestatic 15, 3) := by decide +kernel
theorem dL_tells_103 : decode cL_tells 103 = .ok (.iastore, 1) := by decide +kernel
theorem dL_tells_104 : decode cL_tells 104 = .ok (.aload_n 0, 1) := by decide +kernel
theorem dL_tells_105 : decode cL_tells 105 = .ok (.iload 4, 2) := by decide +kernel
theorem dL_tells_107 : decode cL_tells 107 = .ok (.iconst 0, 1) := by decide +kernel
theorem dL_tells_108 : decode cL_tells 108 = .ok (.aload_n 3, 1) := by decide +kernel
theorem dL_tells_109 : decode cL_tells 109 = .ok (.iload 4, 2) := by decide +kernel
theorem dL_tells_111 : decode cL_tells 111 = .ok (.iaload, 1) := by decide +kernel
theorem dL_tells_112 : decode cL_tells 112 = .ok (.invokevirtual 19, 3) := by decide +kernel
theorem dL_tells_115 : decode cL_tells 115 = .ok (.bipush 20, 2) := by decide +kernel
theorem dL_tells_117 : decode cL_tells 117 = .ok (.if_icmp .ne 59, 3) := by decide +kernel
theorem dL_tells_120 : decode cL_tells 120 = .ok (.aload_n 0, 1) := by decide +kernel
theorem dL_tells_121 : decode cL_tells 121 = .ok (.iload 4, 2) := by decide +kernel
theorem dL_tells_123 : decode cL_tells 123 = .ok (.iconst 1, 1) := by decide +kernel
theorem dL_tells_124 : decode cL_tells 124 = .ok (.aload_n 3, 1) := by decide +kernel
theorem dL_tells_125 : decode cL_tells 125 = .ok (.iconst 3, 1) := by decide +kernel
theorem dL_tells_126 : decode cL_tells 126 = .ok (.iload 4, 2) := by decide +kernel
theorem dL_tells_128 : decode cL_tells 128 = .ok (.iadd, 1) := by decide +kernel
theorem dL_tells_129 : decode cL_tells 129 = .ok (.iaload, 1) := by decide +kernel
theorem dL_tells_130 : decode cL_tells 130 = .ok (.invokevirtual 19, 3) := by decide +kernel
theorem dL_tells_133 : decode cL_tells 133 = .ok (.ifCond .ne 43, 3) := by decide +kernel
theorem dL_tells_136 : decode cL_tells 136 = .ok (.aload_n 0, 1) := by decide +kernel
theorem dL_tells_137 : decode cL_tells 137 = .ok (.iload 4, 2) := by decide +kernel
theorem dL_tells_139 : decode cL_tells 139 = .ok (.iconst 3, 1) := by decide +kernel
theorem dL_tells_140 : decode cL_tells 140 = .ok (.iload 5, 2) := by decide +kernel
theorem dL_tells_142 : decode cL_tells 142 = .ok (.bipush 18, 2) := by decide +kernel
theorem dL_tells_144 : decode cL_tells 144 = .ok (.ishr, 1) := by decide +kernel
theorem dL_tells_145 : decode cL_tells 145 = .ok (.bipush 40, 2) := by decide +kernel
theorem dL_tells_147 : decode cL_tells 147 = .ok (.invokestatic 15, 3) := by decide +kernel
theorem dL_tells_150 : decode cL_tells 150 = .ok (.invokevirtual 19, 3) := by decide +kernel
theorem dL_tells_153 : decode cL_tells 153 = .ok (.ifCond .ne 23, 3) := by decide +kernel
theorem dL_tells_156 : decode cL_tells 156 = .ok (.aload_n 0, 1) := by decide +kernel
theorem dL_tells_157 : decode cL_tells 157 = .ok (.iload 4, 2) := by decide +kernel
theorem dL_tells_159 : decode cL_tells 159 = .ok (.iconst 4, 1) := by decide +kernel
theorem dL_tells_160 : decode cL_tells 160 = .ok (.iload 5, 2) := by decide +kernel
theorem dL_tells_162 : decode cL_tells 162 = .ok (.bipush 24, 2) := by decide +kernel
theorem dL_tells_164 : decode cL_tells 164 = .ok (.ishr, 1) := by decide +kernel
theorem dL_tells_165 : decode cL_tells 165 = .ok (.bipush 10, 2) := by decide +kernel
theorem dL_tells_167 : decode cL_tells 167 = .ok (.invokestatic 15, 3) := by decide +kernel
theorem dL_tells_170 : decode cL_tells 170 = .ok (.invokevirtual 19, 3) := by decide +kernel
theorem dL_tells_173 : decode cL_tells 173 = .ok (.ifCond .eq 5, 3) := by decide +kernel
theorem dL_tells_176 : decode cL_tells 176 = .ok (.iconst 0, 1) := by decide +kernel
theorem dL_tells_177 : decode cL_tells 177 = .ok (.ireturn, 1) := by decide +kernel
theorem dL_tells_178 : decode cL_tells 178 = .ok (.iconst 0, 1) := by decide +kernel
theorem dL_tells_179 : decode cL_tells 179 = .ok (.istore 6, 2) := by decide +kernel
theorem dL_tells_181 : decode cL_tells 181 = .ok (.iconst 0, 1) := by decide +kernel
theorem dL_tells_182 : decode cL_tells 182 = .ok (.istore 7, 2) := by decide +kernel
theorem dL_tells_184 : decode cL_tells 184 = .ok (.iload 7, 2) := by decide +kernel
theorem dL_tells_186 : decode cL_tells 186 = .ok (.iconst 3, 1) := by decide +kernel
theorem dL_tells_187 : decode cL_tells 187 = .ok (.if_icmp .ge 242, 3) := by decide +kernel
theorem dL_tells_190 : decode cL_tells 190 = .ok (.iconst 3, 1) := by decide +kernel
theorem dL_tells_191 : decode cL_tells 191 = .ok (.iload 4, 2) := by decide +kernel
theorem dL_tells_193 : decode cL_tells 193 = .ok (.imul, 1) := by decide +kernel
theorem dL_tells_194 : decode cL_tells 194 = .ok (.iload 7, 2) := by decide +kernel
theorem dL_tells_196 : decode cL_tells 196 = .ok (.iadd, 1) := by decide +kernel
theorem dL_tells_197 : decode cL_tells 197 = .ok (.istore 8, 2) := by decide +kernel
theorem dL_tells_199 : decode cL_tells 199 = .ok (.aload_n 1, 1) := by decide +kernel
theorem dL_tells_200 : decode cL_tells 200 = .ok (.iload_n 2, 1) := by decide +kernel
theorem dL_tells_201 : decode cL_tells 201 = .ok (.iconst 4, 1) := by decide +kernel
theorem dL_tells_202 : decode cL_tells 202 = .ok (.iload 4, 2) := by decide +kernel
theorem dL_tells_204 : decode cL_tells 204 = .ok (.imul, 1) := by decide +kernel
theorem dL_tells_205 : decode cL_tells 205 = .ok (.iadd, 1) := by decide +kernel
theorem dL_tells_206 : decode cL_tells 206 = .ok (.iconst 1, 1) := by decide +kernel
theorem dL_tells_207 : decode cL_tells 207 = .ok (.iadd, 1) := by decide +kernel
theorem dL_tells_208 : decode cL_tells 208 = .ok (.iload 7, 2) := by decide +kernel
theorem dL_tells_210 : decode cL_tells 210 = .ok (.iadd, 1) := by decide +kernel
theorem dL_tells_211 : decode cL_tells 211 = .ok (.invokestatic 9, 3) := by decide +kernel
theorem dL_tells_214 : decode cL_tells 214 = .ok (.istore 9, 2) := by decide +kernel
theorem dL_tells_216 : decode cL_tells 216 = .ok (.aload_n 3, 1) := by decide +kernel
theorem dL_tells_217 : decode cL_tells 217 = .ok (.bipush 9, 2) := by decide +kernel
theorem dL_tells_219 : decode cL_tells 219 = .ok (.iload 8, 2) := by decide +kernel
theorem dL_tells_221 : decode cL_tells 221 = .ok (.iadd, 1) := by decide +kernel
theorem dL_tells_222 : decode cL_tells 222 = .ok (.iload 7, 2) := by decide +kernel
theorem dL_tells_224 : decode cL_tells 224 = .ok (.aload_n 3, 1) := by decide +kernel
theorem dL_tells_225 : decode cL_tells 225 = .ok (.bipush 6, 2) := by decide +kernel
theorem dL_tells_227 : decode cL_tells 227 = .ok (.iload 4, 2) := by decide +kernel
theorem dL_tells_229 : decode cL_tells 229 = .ok (.iadd, 1) := by decide +kernel
theorem dL_tells_230 : decode cL_tells 230 = .ok (.iaload, 1) := by decide +kernel
theorem dL_tells_231 : decode cL_tells 231 = .ok (.if_icmp .ge 10, 3) := by decide +kernel
theorem dL_tells_234 : decode cL_tells 234 = .ok (.iload 9, 2) := by decide +kernel
theorem dL_tells_236 : decode cL_tells 236 = .ok (.iconst 1, 1) := by decide +kernel
theorem dL_tells_237 : decode cL_tells 237 = .ok (.iand, 1) := by decide +kernel
theorem dL_tells_238 : decode cL_tells 238 = .ok (.goto 4, 3) := by decide +kernel
theorem dL_tells_241 : decode cL_tells 241 = .ok (.iconst (-1), 1) := by decide +kernel
theorem dL_tells_242 : decode cL_tells 242 = .ok (.iastore, 1) := by decide +kernel
theorem dL_tells_243 : decode cL_tells 243 = .ok (.aload_n 3, 1) := by decide +kernel
theorem dL_tells_244 : decode cL_tells 244 = .ok (.bipush 18, 2) := by decide +kernel
theorem dL_tells_246 : decode cL_tells 246 = .ok (.iload 8, 2) := by decide +kernel
theorem dL_tells_248 : decode cL_tells 248 = .ok (.iadd, 1) := by decide +kernel
theorem dL_tells_249 : decode cL_tells 249 = .ok (.iconst 1, 1) := by decide +kernel
theorem dL_tells_250 : decode cL_tells 250 = .ok (.iload 9, 2) := by decide +kernel
theorem dL_tells_252 : decode cL_tells 252 = .ok (.iconst 1, 1) := by decide +kernel
theorem dL_tells_253 : decode cL_tells 253 = .ok (.ishr, 1) := by decide +kernel
theorem dL_tells_254 : decode cL_tells 254 = .ok (.iload 9, 2) := by decide +kernel
theorem dL_tells_256 : decode cL_tells 256 = .ok (.iconst 4, 1) := by decide +kernel
theorem dL_tells_257 : decode cL_tells 257 = .ok (.ishr, 1) := by decide +kernel
theorem dL_tells_258 : decode cL_tells 258 = .ok (.iconst 3, 1) := by decide +kernel
theorem dL_tells_259 : decode cL_tells 259 = .ok (.iand, 1) := by decide +kernel
theorem dL_tells_260 : decode cL_tells 260 = .ok (.ifCond .ne 8, 3) := by decide +kernel
theorem dL_tells_263 : decode cL_tells 263 = .ok (.bipush 12, 2) := by decide +kernel
theorem dL_tells_265 : decode cL_tells 265 = .ok (.goto 4, 3) := by decide +kernel
theorem dL_tells_268 : decode cL_tells 268 = .ok (.iconst 5, 1) := by decide +kernel
theorem dL_tells_269 : decode cL_tells 269 = .ok (.invokestatic 15, 3) := by decide +kernel
theorem dL_tells_272 : decode cL_tells 272 = .ok (.iadd, 1) := by decide +kernel
theorem dL_tells_273 : decode cL_tells 273 = .ok (.iastore, 1) := by decide +kernel
theorem dL_tells_274 : decode cL_tells 274 = .ok (.aload_n 3, 1) := by decide +kernel
theorem dL_tells_275 : decode cL_tells 275 = .ok (.bipush 27, 2) := by decide +kernel
theorem dL_tells_277 : decode cL_tells 277 = .ok (.iload 8, 2) := by decide +kernel
theorem dL_tells_279 : decode cL_tells 279 = .ok (.iadd, 1) := by decide +kernel
theorem dL_tells_280 : decode cL_tells 280 = .ok (.iload 9, 2) := by decide +kernel
theorem dL_tells_282 : decode cL_tells 282 = .ok (.bipush 7, 2) := by decide +kernel
theorem dL_tells_284 : decode cL_tells 284 = .ok (.ishr, 1) := by decide +kernel
theorem dL_tells_285 : decode cL_tells 285 = .ok (.iload 9, 2) := by decide +kernel
theorem dL_tells_287 : decode cL_tells 287 = .ok (.bipush 6, 2) := by decide +kernel
theorem dL_tells_289 : decode cL_tells 289 = .ok (.ishr, 1) := by decide +kernel
theorem dL_tells_290 : decode cL_tells 290 = .ok (.iconst 1, 1) := by decide +kernel
theorem dL_tells_291 : decode cL_tells 291 = .ok (.iand, 1) := by decide +kernel
theorem dL_tells_292 : decode cL_tells 292 = .ok (.ifCond .ne 8, 3) := by decide +kernel
theorem dL_tells_295 : decode cL_tells 295 = .ok (.bipush 10, 2) := by decide +kernel
theorem dL_tells_297 : decode cL_tells 297 = .ok (.goto 4, 3) := by decide +kernel
theorem dL_tells_300 : decode cL_tells 300 = .ok (.iconst 3, 1) := by decide +kernel
theorem dL_tells_301 : decode cL_tells 301 = .ok (.invokestatic 15, 3) := by decide +kernel
theorem dL_tells_304 : decode cL_tells 304 = .ok (.iastore, 1) := by decide +kernel
theorem dL_tells_305 : decode cL_tells 305 = .ok (.aload_n 3, 1) := by decide +kernel
theorem dL_tells_306 : decode cL_tells 306 = .ok (.bipush 36, 2) := by decide +kernel
theorem dL_tells_308 : decode cL_tells 308 = .ok (.iload 8, 2) := by decide +kernel
theorem dL_tells_310 : decode cL_tells 310 = .ok (.iadd, 1) := by decide +kernel
theorem dL_tells_311 : decode cL_tells 311 = .ok (.iload 9, 2) := by decide +kernel
theorem dL_tells_313 : decode cL_tells 313 = .ok (.bipush 12, 2) := by decide +kernel
theorem dL_tells_315 : decode cL_tells 315 = .ok (.ishr, 1) := by decide +kernel
theorem dL_tells_316 : decode cL_tells 316 = .ok (.iconst 1, 1) := by decide +kernel
theorem dL_tells_317 : decode cL_tells 317 = .ok (.iand, 1) := by decide +kernel
theorem dL_tells_318 : decode cL_tells 318 = .ok (.ifCond .ne 7, 3) := by decide +kernel
theorem dL_tells_321 : decode cL_tells 321 = .ok (.iconst 0, 1) := by decide +kernel
theorem dL_tells_322 : decode cL_tells 322 = .ok (.goto 13, 3) := by decide +kernel
theorem dL_tells_325 : decode cL_tells 325 = .ok (.iload 9, 2) := by decide +kernel
theorem dL_tells_327 : decode cL_tells 327 = .ok (.bipush 13, 2) := by decide +kernel
theorem dL_tells_329 : decode cL_tells 329 = .ok (.ishr, 1) := by decide +kernel
theorem dL_tells_330 : decode cL_tells 330 = .ok (.bipush 9, 2) := by decide +kernel
theorem dL_tells_332 : decode cL_tells 332 = .ok (.invokestatic 15, 3) := by decide +kernel
theorem dL_tells_335 : decode cL_tells 335 = .ok (.iastore, 1) := by decide +kernel
theorem dL_tells_336 : decode cL_tells 336 = .ok (.aload_n 3, 1) := by decide +kernel
theorem dL_tells_337 : decode cL_tells 337 = .ok (.bipush 45, 2) := by decide +kernel
theorem dL_tells_339 : decode cL_tells 339 = .ok (.iload 8, 2) := by decide +kernel
theorem dL_tells_341 : decode cL_tells 341 = .ok (.iadd, 1) := by decide +kernel
theorem dL_tells_342 : decode cL_tells 342 = .ok (.iload 6, 2) := by decide +kernel
theorem dL_tells_344 : decode cL_tells 344 = .ok (.aload_n 3, 1) := by decide +kernel
theorem dL_tells_345 : decode cL_tells 345 = .ok (.bipush 36, 2) := by decide +kernel
theorem dL_tells_347 : decode cL_tells 347 = .ok (.iload 8, 2) := by decide +kernel
theorem dL_tells_349 : decode cL_tells 349 = .ok (.iadd, 1) := by decide +kernel
theorem dL_tells_350 : decode cL_tells 350 = .ok (.iaload, 1) := by decide +kernel
theorem dL_tells_351 : decode cL_tells 351 = .ok (.iadd, 1) := by decide +kernel
theorem dL_tells_352 : decode cL_tells 352 = .ok (.iastore, 1) := by decide +kernel
theorem dL_tells_353 : decode cL_tells 353 = .ok (.aload_n 3, 1) := by decide +kernel
theorem dL_tells_354 : decode cL_tells 354 = .ok (.bipush 45, 2) := by decide +kernel
theorem dL_tells_356 : decode cL_tells 356 = .ok (.iload 8, 2) := by decide +kernel
theorem dL_tells_358 : decode cL_tells 358 = .ok (.iadd, 1) := by decide +kernel
theorem dL_tells_359 : decode cL_tells 359 = .ok (.iaload, 1) := by decide +kernel
theorem dL_tells_360 : decode cL_tells 360 = .ok (.aload_n 3, 1) := by decide +kernel
theorem dL_tells_361 : decode cL_tells 361 = .ok (.bipush 18, 2) := by decide +kernel
theorem dL_tells_363 : decode cL_tells 363 = .ok (.iload 8, 2) := by decide +kernel
theorem dL_tells_365 : decode cL_tells 365 = .ok (.iadd, 1) := by decide +kernel
theorem dL_tells_366 : decode cL_tells 366 = .ok (.iaload, 1) := by decide +kernel
theorem dL_tells_367 : decode cL_tells 367 = .ok (.iadd, 1) := by decide +kernel
theorem dL_tells_368 : decode cL_tells 368 = .ok (.istore 6, 2) := by decide +kernel
theorem dL_tells_370 : decode cL_tells 370 = .ok (.iload 7, 2) := by decide +kernel
theorem dL_tells_372 : decode cL_tells 372 = .ok (.aload_n 3, 1) := by decide +kernel
theorem dL_tells_373 : decode cL_tells 373 = .ok (.bipush 6, 2) := by decide +kernel
theorem dL_tells_375 : decode cL_tells 375 = .ok (.iload 4, 2) := by decide +kernel
theorem dL_tells_377 : decode cL_tells 377 = .ok (.iadd, 1) := by decide +kernel
theorem dL_tells_378 : decode cL_tells 378 = .ok (.iaload, 1) := by decide +kernel
theorem dL_tells_379 : decode cL_tells 379 = .ok (.if_icmp .ge 44, 3) := by decide +kernel
theorem dL_tells_382 : decode cL_tells 382 = .ok (.aload_n 0, 1) := by decide +kernel
theorem dL_tells_383 : decode cL_tells 383 = .ok (.iload 4, 2) := by decide +kernel
theorem dL_tells_385 : decode cL_tells 385 = .ok (.aload_n 3, 1) := by decide +kernel
theorem dL_tells_386 : decode cL_tells 386 = .ok (.bipush 9, 2) := by decide +kernel
theorem dL_tells_388 : decode cL_tells 388 = .ok (.iload 8, 2) := by decide +kernel
theorem dL_tells_390 : decode cL_tells 390 = .ok (.iadd, 1) := by decide +kernel
theorem dL_tells_391 : decode cL_tells 391 = .ok (.iaload, 1) := by decide +kernel
theorem dL_tells_392 : decode cL_tells 392 = .ok (.aload_n 3, 1) := by decide +kernel
theorem dL_tells_393 : decode cL_tells 393 = .ok (.bipush 18, 2) := by decide +kernel
theorem dL_tells_395 : decode cL_tells 395 = .ok (.iload 8, 2) := by decide +kernel
theorem dL_tells_397 : decode cL_tells 397 = .ok (.iadd, 1) := by decide +kernel
theorem dL_tells_398 : decode cL_tells 398 = .ok (.iaload, 1) := by decide +kernel
theorem dL_tells_399 : decode cL_tells 399 = .ok (.aload_n 3, 1) := by decide +kernel
theorem dL_tells_400 : decode cL_tells 400 = .ok (.bipush 27, 2) := by decide +kernel
theorem dL_tells_402 : decode cL_tells 402 = .ok (.iload 8, 2) := by decide +kernel
theorem dL_tells_404 : decode cL_tells 404 = .ok (.iadd, 1) := by decide +kernel
theorem dL_tells_405 : decode cL_tells 405 = .ok (.iaload, 1) := by decide +kernel
theorem dL_tells_406 : decode cL_tells 406 = .ok (.aload_n 3, 1) := by decide +kernel
theorem dL_tells_407 : decode cL_tells 407 = .ok (.bipush 36, 2) := by decide +kernel
theorem dL_tells_409 : decode cL_tells 409 = .ok (.iload 8, 2) := by decide +kernel
theorem dL_tells_411 : decode cL_tells 411 = .ok (.iadd, 1) := by decide +kernel
theorem dL_tells_412 : decode cL_tells 412 = .ok (.iaload, 1) := by decide +kernel
theorem dL_tells_413 : decode cL_tells 413 = .ok (.invokevirtual 25, 3) := by decide +kernel
theorem dL_tells_416 : decode cL_tells 416 = .ok (.iload 7, 2) := by decide +kernel
theorem dL_tells_418 : decode cL_tells 418 = .ok (.if_icmp .eq 5, 3) := by decide +kernel
theorem dL_tells_421 : decode cL_tells 421 = .ok (.iconst 0, 1) := by decide +kernel
theorem dL_tells_422 : decode cL_tells 422 = .ok (.ireturn, 1) := by decide +kernel
theorem dL_tells_423 : decode cL_tells 423 = .ok (.iinc 7 1, 3) := by decide +kernel
theorem dL_tells_426 : decode cL_tells 426 = .ok (.goto (-242), 3) := by decide +kernel
theorem dL_tells_429 : decode cL_tells 429 = .ok (.iinc 4 1, 3) := by decide +kernel
theorem dL_tells_432 : decode cL_tells 432 = .ok (.goto (-429), 3) := by decide +kernel
theorem dL_tells_435 : decode cL_tells 435 = .ok (.iconst 1, 1) := by decide +kernel
theorem dL_tells_436 : decode cL_tells 436 = .ok (.ireturn, 1) := by decide +kernel
theorem dL_holds_0 : decode cL_holds 0 = .ok (.iconst 0, 1) := by decide +kernel
theorem dL_holds_1 : decode cL_holds 1 = .ok (.istore_n 3, 1) := by decide +kernel
theorem dL_holds_2 : decode cL_holds 2 = .ok (.iload_n 3, 1) := by decide +kernel
theorem dL_holds_3 : decode cL_holds 3 = .ok (.bipush 9, 2) := by decide +kernel
theorem dL_holds_5 : decode cL_holds 5 = .ok (.if_icmp .ge 383, 3) := by decide +kernel
theorem dL_holds_8 : decode cL_holds 8 = .ok (.aload_n 1, 1) := by decide +kernel
theorem dL_holds_9 : decode cL_holds 9 = .ok (.bipush 9, 2) := by decide +kernel
theorem dL_holds_11 : decode cL_holds 11 = .ok (.iload_n 3, 1) := by decide +kernel
theorem dL_holds_12 : decode cL_holds 12 = .ok (.iadd, 1) := by decide +kernel
theorem dL_holds_13 : decode cL_holds 13 = .ok (.iaload, 1) := by decide +kernel
theorem dL_holds_14 : decode cL_holds 14 = .ok (.ifCond .ge 6, 3) := by decide +kernel
theorem dL_holds_17 : decode cL_holds 17 = .ok (.goto 365, 3) := by decide +kernel
theorem dL_holds_20 : decode cL_holds 20 = .ok (.iload_n 3, 1) := by decide +kernel
theorem dL_holds_21 : decode cL_holds 21 = .ok (.iconst 3, 1) := by decide +kernel
theorem dL_holds_22 : decode cL_holds 22 = .ok (.idiv, 1) := by decide +kernel
theorem dL_holds_23 : decode cL_holds 23 = .ok (.istore 4, 2) := by decide +kernel
theorem dL_holds_25 : decode cL_holds 25 = .ok (.iload_n 3, 1) := by decide +kernel
theorem dL_holds_26 : decode cL_holds 26 = .ok (.iconst 3, 1) := by decide +kernel
theorem dL_holds_27 : decode cL_holds 27 = .ok (.irem, 1) := by decide +kernel
theorem dL_holds_28 : decode cL_holds 28 = .ok (.istore 5, 2) := by decide +kernel
theorem dL_holds_30 : decode cL_holds 30 = .ok (.aload_n 0, 1) := by decide +kernel
theorem dL_holds_31 : decode cL_holds 31 = .ok (.iload 4, 2) := by decide +kernel
theorem dL_holds_33 : decode cL_holds 33 = .ok (.iload 5, 2) := by decide +kernel
theorem dL_holds_35 : decode cL_holds 35 = .ok (.iconst 0, 1) := by decide +kernel
theorem dL_holds_36 : decode cL_holds 36 = .ok (.invokevirtual 29, 3) := by decide +kernel
theorem dL_holds_39 : decode cL_holds 39 = .ok (.istore 6, 2) := by decide +kernel
theorem dL_holds_41 : decode cL_holds 41 = .ok (.aload_n 0, 1) := by decide +kernel
theorem dL_holds_42 : decode cL_holds 42 = .ok (.iload 4, 2) := by decide +kernel
theorem dL_holds_44 : decode cL_holds 44 = .ok (.iload 5, 2) := by decide +kernel
theorem dL_holds_46 : decode cL_holds 46 = .ok (.iconst 1, 1) := by decide +kernel
theorem dL_holds_47 : decode cL_holds 47 = .ok (.invokevirtual 29, 3) := by decide +kernel
theorem dL_holds_50 : decode cL_holds 50 = .ok (.istore 7, 2) := by decide +kernel
theorem dL_holds_52 : decode cL_holds 52 = .ok (.aload_n 0, 1) := by decide +kernel
theorem dL_holds_53 : decode cL_holds 53 = .ok (.iload 4, 2) := by decide +kernel
theorem dL_holds_55 : decode cL_holds 55 = .ok (.iload 5, 2) := by decide +kernel
theorem dL_holds_57 : decode cL_holds 57 = .ok (.iconst 2, 1) := by decide +kernel
theorem dL_holds_58 : decode cL_holds 58 = .ok (.invokevirtual 29, 3) := by decide +kernel
theorem dL_holds_61 : decode cL_holds 61 = .ok (.istore 8, 2) := by decide +kernel
theorem dL_holds_63 : decode cL_holds 63 = .ok (.aload_n 0, 1) := by decide +kernel
theorem dL_holds_64 : decode cL_holds 64 = .ok (.iload 4, 2) := by decide +kernel
theorem dL_holds_66 : decode cL_holds 66 = .ok (.iload 5, 2) := by decide +kernel
theorem dL_holds_68 : decode cL_holds 68 = .ok (.iconst 4, 1) := by decide +kernel
theorem dL_holds_69 : decode cL_holds 69 = .ok (.invokevirtual 32, 3) := by decide +kernel
theorem dL_holds_72 : decode cL_holds 72 = .ok (.istore 9, 2) := by decide +kernel
theorem dL_holds_74 : decode cL_holds 74 = .ok (.aload_n 0, 1) := by decide +kernel
theorem dL_holds_75 : decode cL_holds 75 = .ok (.iload 4, 2) := by decide +kernel
theorem dL_holds_77 : decode cL_holds 77 = .ok (.iload 5, 2) := by decide +kernel
theorem dL_holds_79 : decode cL_holds 79 = .ok (.invokevirtual 35, 3) := by decide +kernel
theorem dL_holds_82 : decode cL_holds 82 = .ok (.istore 10, 2) := by decide +kernel
theorem dL_holds_84 : decode cL_holds 84 = .ok (.aload_n 0, 1) := by decide +kernel
theorem dL_holds_85 : decode cL_holds 85 = .ok (.iload 4, 2) := by decide +kernel
theorem dL_holds_87 : decode cL_holds 87 = .ok (.iload 5, 2) := by decide +kernel
theorem dL_holds_89 : decode cL_holds 89 = .ok (.invokevirtual 38, 3) := by decide +kernel
theorem dL_holds_92 : decode cL_holds 92 = .ok (.istore 11, 2) := by decide +kernel
theorem dL_holds_94 : decode cL_holds 94 = .ok (.aload_n 0, 1) := by decide +kernel
theorem dL_holds_95 : decode cL_holds 95 = .ok (.iload 4, 2) := by decide +kernel
theorem dL_holds_97 : decode cL_holds 97 = .ok (.iload 5, 2) := by decide +kernel
theorem dL_holds_99 : decode cL_holds 99 = .ok (.invokevirtual 41, 3) := by decide +kernel
theorem dL_holds_102 : decode cL_holds 102 = .ok (.istore 12, 2) := by decide +kernel
theorem dL_holds_104 : decode cL_holds 104 = .ok (.aload_n 0, 1) := by decide +kernel
theorem dL_holds_105 : decode cL_holds 105 = .ok (.iload 4, 2) := by decide +kernel
theorem dL_holds_107 : decode cL_holds 107 = .ok (.iload 5, 2) := by decide +kernel
theorem dL_holds_109 : decode cL_holds 109 = .ok (.iconst 5, 1) := by decide +kernel
theorem dL_holds_110 : decode cL_holds 110 = .ok (.invokevirtual 32, 3) := by decide +kernel
theorem dL_holds_113 : decode cL_holds 113 = .ok (.istore 13, 2) := by decide +kernel
theorem dL_holds_115 : decode cL_holds 115 = .ok (.iload 9, 2) := by decide +kernel
theorem dL_holds_117 : decode cL_holds 117 = .ok (.aload_n 1, 1) := by decide +kernel
theorem dL_holds_118 : decode cL_holds 118 = .ok (.bipush 45, 2) := by decide +kernel
theorem dL_holds_120 : decode cL_holds 120 = .ok (.iload_n 3, 1) := by decide +kernel
theorem dL_holds_121 : decode cL_holds 121 = .ok (.iadd, 1) := by decide +kernel
theorem dL_holds_122 : decode cL_holds 122 = .ok (.iaload, 1) := by decide +kernel
theorem dL_holds_123 : decode cL_holds 123 = .ok (.if_icmp .ne 75, 3) := by decide +kernel
theorem dL_holds_126 : decode cL_holds 126 = .ok (.iload 8, 2) := by decide +kernel
theorem dL_holds_128 : decode cL_holds 128 = .ok (.ifCond .ne 7, 3) := by decide +kernel
theorem dL_holds_131 : decode cL_holds 131 = .ok (.iconst 1, 1) := by decide +kernel
theorem dL_holds_132 : decode cL_holds 132 = .ok (.goto 4, 3) := by decide +kernel
theorem dL_holds_135 : decode cL_holds 135 = .ok (.iconst 0, 1) := by decide +kernel
theorem dL_holds_136 : decode cL_holds 136 = .ok (.iload 6, 2) := by decide +kernel
theorem dL_holds_138 : decode cL_holds 138 = .ok (.ifCond .ge 7, 3) := by decide +kernel
theorem dL_holds_141 : decode cL_holds 141 = .ok (.iconst 1, 1) := by decide +kernel
theorem dL_holds_142 : decode cL_holds 142 = .ok (.goto 4, 3) := by decide +kernel
theorem dL_holds_145 : decode cL_holds 145 = .ok (.iconst 0, 1) := by decide +kernel
theorem dL_holds_146 : decode cL_holds 146 = .ok (.if_icmp .ne 52, 3) := by decide +kernel
theorem dL_holds_149 : decode cL_holds 149 = .ok (.iload 6, 2) := by decide +kernel
theorem dL_holds_151 : decode cL_holds 151 = .ok (.ifCond .ge 7, 3) := by decide +kernel
theorem dL_holds_154 : decode cL_holds 154 = .ok (.iconst 1, 1) := by decide +kernel
theorem dL_holds_155 : decode cL_holds 155 = .ok (.goto 4, 3) := by decide +kernel
theorem dL_holds_158 : decode cL_holds 158 = .ok (.iconst 0, 1) := by decide +kernel
theorem dL_holds_159 : decode cL_holds 159 = .ok (.iload 7, 2) := by decide +kernel
theorem dL_holds_161 : decode cL_holds 161 = .ok (.ifCond .ge 7, 3) := by decide +kernel
theorem dL_holds_164 : decode cL_holds 164 = .ok (.iconst 1, 1) := by decide +kernel
theorem dL_holds_165 : decode cL_holds 165 = .ok (.goto 4, 3) := by decide +kernel
theorem dL_holds_168 : decode cL_holds 168 = .ok (.iconst 0, 1) := by decide +kernel
theorem dL_holds_169 : decode cL_holds 169 = .ok (.if_icmp .ne 29, 3) := by decide +kernel
theorem dL_holds_172 : decode cL_holds 172 = .ok (.iload 8, 2) := by decide +kernel
theorem dL_holds_174 : decode cL_holds 174 = .ok (.ifCond .le 26, 3) := by decide +kernel
theorem dL_holds_177 : decode cL_holds 177 = .ok (.iload 7, 2) := by decide +kernel
theorem dL_holds_179 : decode cL_holds 179 = .ok (.iload 6, 2) := by decide +kernel
theorem dL_holds_181 : decode cL_holds 181 = .ok (.if_icmp .gt 17, 3) := by decide +kernel
theorem dL_holds_184 : decode cL_holds 184 = .ok (.iload 7, 2) := by decide +kernel
theorem dL_holds_186 : decode cL_holds 186 = .ok (.iload 9, 2) := by decide +kernel
theorem dL_holds_188 : decode cL_holds 188 = .ok (.aload_n 1, 1) := by decide +kernel
theorem dL_holds_189 : decode cL_holds 189 = .ok (.bipush 18, 2) := by decide +kernel
theorem dL_holds_191 : decode cL_holds 191 = .ok (.iload_n 3, 1) := by decide +kernel
theorem dL_holds_192 : decode cL_holds 192 = .ok (.iadd, 1) := by decide +kernel
theorem dL_holds_193 : decode cL_holds 193 = .ok (.iaload, 1) := by decide +kernel
theorem dL_holds_194 : decode cL_holds 194 = .ok (.iadd, 1) := by decide +kernel
theorem dL_holds_195 : decode cL_holds 195 = .ok (.if_icmp .ge 5, 3) := by decide +kernel
theorem dL_holds_198 : decode cL_holds 198 = .ok (.iconst 0, 1) := by decide +kernel
theorem dL_holds_199 : decode cL_holds 199 = .ok (.ireturn, 1) := by decide +kernel
theorem dL_holds_200 : decode cL_holds 200 = .ok (.iload_n 2, 1) := by decide +kernel
theorem dL_holds_201 : decode cL_holds 201 = .ok (.ifCond .ne 29, 3) := by decide +kernel
theorem dL_holds_204 : decode cL_holds 204 = .ok (.iload 10, 2) := by decide +kernel
theorem dL_holds_206 : decode cL_holds 206 = .ok (.iconst (-1), 1) := by decide +kernel
theorem dL_holds_207 : decode cL_holds 207 = .ok (.if_icmp .ne 21, 3) := by decide +kernel
theorem dL_holds_210 : decode cL_holds 210 = .ok (.iload 11, 2) := by decide +kernel
theorem dL_holds_212 : decode cL_holds 212 = .ok (.iconst (-1), 1) := by decide +kernel
theorem dL_holds_213 : decode cL_holds 213 = .ok (.if_icmp .ne 15, 3) := by decide +kernel
theorem dL_holds_216 : decode cL_holds 216 = .ok (.iload 12, 2) := by decide +kernel
theorem dL_holds_218 : decode cL_holds 218 = .ok (.iconst (-1), 1) := by decide +kernel
theorem dL_holds_219 : decode cL_holds 219 = .ok (.if_icmp .ne 9, 3) := by decide +kernel
theorem dL_holds_222 : decode cL_holds 222 = .ok (.iload 13, 2) := by decide +kernel
theorem dL_holds_224 : decode cL_holds 224 = .ok (.iconst (-1), 1) := by decide +kernel
theorem dL_holds_225 : decode cL_holds 225 = .ok (.if_icmp .eq 5, 3) := by decide +kernel
theorem dL_holds_228 : decode cL_holds 228 = .ok (.iconst 0, 1) := by decide +kernel
theorem dL_holds_229 : decode cL_holds 229 = .ok (.ireturn, 1) := by decide +kernel
theorem dL_holds_230 : decode cL_holds 230 = .ok (.iload_n 2, 1) := by decide +kernel
theorem dL_holds_231 : decode cL_holds 231 = .ok (.ifCond .eq 65, 3) := by decide +kernel
theorem dL_holds_234 : decode cL_holds 234 = .ok (.iload 10, 2) := by decide +kernel
theorem dL_holds_236 : decode cL_holds 236 = .ok (.iload 9, 2) := by decide +kernel
theorem dL_holds_238 : decode cL_holds 238 = .ok (.aload_n 1, 1) := by decide +kernel
theorem dL_holds_239 : decode cL_holds 239 = .ok (.bipush 18, 2) := by decide +kernel
theorem dL_holds_241 : decode cL_holds 241 = .ok (.iload_n 3, 1) := by decide +kernel
theorem dL_holds_242 : decode cL_holds 242 = .ok (.iadd, 1) := by decide +kernel
theorem dL_holds_243 : decode cL_holds 243 = .ok (.iaload, 1) := by decide +kernel
theorem dL_holds_244 : decode cL_holds 244 = .ok (.iadd, 1) := by decide +kernel
theorem dL_holds_245 : decode cL_holds 245 = .ok (.iload 13, 2) := by decide +kernel
theorem dL_holds_247 : decode cL_holds 247 = .ok (.iadd, 1) := by decide +kernel
theorem dL_holds_248 : decode cL_holds 248 = .ok (.if_icmp .lt 46, 3) := by decide +kernel
theorem dL_holds_251 : decode cL_holds 251 = .ok (.iload 11, 2) := by decide +kernel
theorem dL_holds_253 : decode cL_holds 253 = .ok (.iload 10, 2) := by decide +kernel
theorem dL_holds_255 : decode cL_holds 255 = .ok (.if_icmp .gt 39, 3) := by decide +kernel
theorem dL_holds_258 : decode cL_holds 258 = .ok (.iload 6, 2) := by decide +kernel
theorem dL_holds_260 : decode cL_holds 260 = .ok (.iload 11, 2) := by decide +kernel
theorem dL_holds_262 : decode cL_holds 262 = .ok (.if_icmp .gt 32, 3) := by decide +kernel
theorem dL_holds_265 : decode cL_holds 265 = .ok (.iload 12, 2) := by decide +kernel
theorem dL_holds_267 : decode cL_holds 267 = .ok (.ifCond .lt 10, 3) := by decide +kernel
theorem dL_holds_270 : decode cL_holds 270 = .ok (.iload 10, 2) := by decide +kernel
theorem dL_holds_272 : decode cL_holds 272 = .ok (.iload 12, 2) := by decide +kernel
theorem dL_holds_274 : decode cL_holds 274 = .ok (.if_icmp .gt 20, 3) := by decide +kernel
theorem dL_holds_277 : decode cL_holds 277 = .ok (.iload 11, 2) := by decide +kernel
theorem dL_holds_279 : decode cL_holds 279 = .ok (.iload 9, 2) := by decide +kernel
theorem dL_holds_281 : decode cL_holds 281 = .ok (.aload_n 1, 1) := by decide +kernel
theorem dL_holds_282 : decode cL_holds 282 = .ok (.bipush 18, 2) := by decide +kernel
theorem dL_holds_284 : decode cL_holds 284 = .ok (.iload_n 3, 1) := by decide +kernel
theorem dL_holds_285 : decode cL_holds 285 = .ok (.iadd, 1) := by decide +kernel
theorem dL_holds_286 : decode cL_holds 286 = .ok (.iaload, 1) := by decide +kernel
theorem dL_holds_287 : decode cL_holds 287 = .ok (.iadd, 1) := by decide +kernel
theorem dL_holds_288 : decode cL_holds 288 = .ok (.iload 13, 2) := by decide +kernel
theorem dL_holds_290 : decode cL_holds 290 = .ok (.iadd, 1) := by decide +kernel
theorem dL_holds_291 : decode cL_holds 291 = .ok (.if_icmp .ge 5, 3) := by decide +kernel
theorem dL_holds_294 : decode cL_holds 294 = .ok (.iconst 0, 1) := by decide +kernel
theorem dL_holds_295 : decode cL_holds 295 = .ok (.ireturn, 1) := by decide +kernel
theorem dL_holds_296 : decode cL_holds 296 = .ok (.iload_n 2, 1) := by decide +kernel
theorem dL_holds_297 : decode cL_holds 297 = .ok (.ifCond .eq 35, 3) := by decide +kernel
theorem dL_holds_300 : decode cL_holds 300 = .ok (.aload_n 0, 1) := by decide +kernel
theorem dL_holds_301 : decode cL_holds 301 = .ok (.iload 4, 2) := by decide +kernel
theorem dL_holds_303 : decode cL_holds 303 = .ok (.iload 5, 2) := by decide +kernel
theorem dL_holds_305 : decode cL_holds 305 = .ok (.bipush 6, 2) := by decide +kernel
theorem dL_holds_307 : decode cL_holds 307 = .ok (.invokevirtual 32, 3) := by decide +kernel
theorem dL_holds_310 : decode cL_holds 310 = .ok (.ifCond .ne 22, 3) := by decide +kernel
theorem dL_holds_313 : decode cL_holds 313 = .ok (.iload 10, 2) := by decide +kernel
theorem dL_holds_315 : decode cL_holds 315 = .ok (.iload 9, 2) := by decide +kernel
theorem dL_holds_317 : decode cL_holds 317 = .ok (.aload_n 1, 1) := by decide +kernel
theorem dL_holds_318 : decode cL_holds 318 = .ok (.bipush 18, 2) := by decide +kernel
theorem dL_holds_320 : decode cL_holds 320 = .ok (.iload_n 3, 1) := by decide +kernel
theorem dL_holds_321 : decode cL_holds 321 = .ok (.iadd, 1) := by decide +kernel
theorem dL_holds_322 : decode cL_holds 322 = .ok (.iaload, 1) := by decide +kernel
theorem dL_holds_323 : decode cL_holds 323 = .ok (.iadd, 1) := by decide +kernel
theorem dL_holds_324 : decode cL_holds 324 = .ok (.iload 13, 2) := by decide +kernel
theorem dL_holds_326 : decode cL_holds 326 = .ok (.iadd, 1) := by decide +kernel
theorem dL_holds_327 : decode cL_holds 327 = .ok (.if_icmp .eq 5, 3) := by decide +kernel
theorem dL_holds_330 : decode cL_holds 330 = .ok (.iconst 0, 1) := by decide +kernel
theorem dL_holds_331 : decode cL_holds 331 = .ok (.ireturn, 1) := by decide +kernel
theorem dL_holds_332 : decode cL_holds 332 = .ok (.iload_n 2, 1) := by decide +kernel
theorem dL_holds_333 : decode cL_holds 333 = .ok (.ifCond .eq 49, 3) := by decide +kernel
theorem dL_holds_336 : decode cL_holds 336 = .ok (.iload 5, 2) := by decide +kernel
theorem dL_holds_338 : decode cL_holds 338 = .ok (.ifCond .ne 17, 3) := by decide +kernel
theorem dL_holds_341 : decode cL_holds 341 = .ok (.iload 13, 2) := by decide +kernel
theorem dL_holds_343 : decode cL_holds 343 = .ok (.aload_n 1, 1) := by decide +kernel
theorem dL_holds_344 : decode cL_holds 344 = .ok (.iconst 3, 1) := by decide +kernel
theorem dL_holds_345 : decode cL_holds 345 = .ok (.iload 4, 2) := by decide +kernel
theorem dL_holds_347 : decode cL_holds 347 = .ok (.iadd, 1) := by decide +kernel
theorem dL_holds_348 : decode cL_holds 348 = .ok (.iaload, 1) := by decide +kernel
theorem dL_holds_349 : decode cL_holds 349 = .ok (.if_icmp .eq 33, 3) := by decide +kernel
theorem dL_holds_352 : decode cL_holds 352 = .ok (.goto 28, 3) := by decide +kernel
theorem dL_holds_355 : decode cL_holds 355 = .ok (.iload 13, 2) := by decide +kernel
theorem dL_holds_357 : decode cL_holds 357 = .ok (.aload_n 0, 1) := by decide +kernel
theorem dL_holds_358 : decode cL_holds 358 = .ok (.iload 4, 2) := by decide +kernel
theorem dL_holds_360 : decode cL_holds 360 = .ok (.iload 5, 2) := by decide +kernel
theorem dL_holds_362 : decode cL_holds 362 = .ok (.iconst 1, 1) := by decide +kernel
theorem dL_holds_363 : decode cL_holds 363 = .ok (.isub, 1) := by decide +kernel
theorem dL_holds_364 : decode cL_holds 364 = .ok (.invokevirtual 35, 3) := by decide +kernel
theorem dL_holds_367 : decode cL_holds 367 = .ok (.aload_n 1, 1) := by decide +kernel
theorem dL_holds_368 : decode cL_holds 368 = .ok (.bipush 36, 2) := by decide +kernel
theorem dL_holds_370 : decode cL_holds 370 = .ok (.iload_n 3, 1) := by decide +kernel
theorem dL_holds_371 : decode cL_holds 371 = .ok (.iadd, 1) := by decide +kernel
theorem dL_holds_372 : decode cL_holds 372 = .ok (.iaload, 1) := by decide +kernel
theorem dL_holds_373 : decode cL_holds 373 = .ok (.iadd, 1) := by decide +kernel
theorem dL_holds_374 : decode cL_holds 374 = .ok (.iload 9, 2) := by decide +kernel
theorem dL_holds_376 : decode cL_holds 376 = .ok (.isub, 1) := by decide +kernel
theorem dL_holds_377 : decode cL_holds 377 = .ok (.if_icmp .ge 5, 3) := by decide +kernel
theorem dL_holds_380 : decode cL_holds 380 = .ok (.iconst 0, 1) := by decide +kernel
theorem dL_holds_381 : decode cL_holds 381 = .ok (.ireturn, 1) := by decide +kernel
theorem dL_holds_382 : decode cL_holds 382 = .ok (.iinc 3 1, 3) := by decide +kernel
theorem dL_holds_385 : decode cL_holds 385 = .ok (.goto (-383), 3) := by decide +kernel
theorem dL_holds_388 : decode cL_holds 388 = .ok (.iconst 1, 1) := by decide +kernel
theorem dL_holds_389 : decode cL_holds 389 = .ok (.ireturn, 1) := by decide +kernel
theorem dL_law_0 : decode cL_law 0 = .ok (.bipush 63, 2) := by decide +kernel
theorem dL_law_2 : decode cL_law 2 = .ok (.newarray .int, 2) := by decide +kernel
theorem dL_law_4 : decode cL_law 4 = .ok (.astore_n 1, 1) := by decide +kernel
theorem dL_law_5 : decode cL_law 5 = .ok (.iconst 0, 1) := by decide +kernel
theorem dL_law_6 : decode cL_law 6 = .ok (.istore_n 2, 1) := by decide +kernel
theorem dL_law_7 : decode cL_law 7 = .ok (.iload_n 2, 1) := by decide +kernel
theorem dL_law_8 : decode cL_law 8 = .ok (.iconst 2, 1) := by decide +kernel
theorem dL_law_9 : decode cL_law 9 = .ok (.if_icmp .ge 795, 3) := by decide +kernel
theorem dL_law_12 : decode cL_law 12 = .ok (.new 20, 3) := by decide +kernel
theorem dL_law_15 : decode cL_law 15 = .ok (.dup, 1) := by decide +kernel
theorem dL_law_16 : decode cL_law 16 = .ok (.invokespecial 44, 3) := by decide +kernel
theorem dL_law_19 : decode cL_law 19 = .ok (.astore_n 3, 1) := by decide +kernel
theorem dL_law_20 : decode cL_law 20 = .ok (.aload_n 3, 1) := by decide +kernel
theorem dL_law_21 : decode cL_law 21 = .ok (.aload_n 0, 1) := by decide +kernel
theorem dL_law_22 : decode cL_law 22 = .ok (.bipush 12, 2) := by decide +kernel
theorem dL_law_24 : decode cL_law 24 = .ok (.iload_n 2, 1) := by decide +kernel
theorem dL_law_25 : decode cL_law 25 = .ok (.imul, 1) := by decide +kernel
theorem dL_law_26 : decode cL_law 26 = .ok (.aload_n 1, 1) := by decide +kernel
theorem dL_law_27 : decode cL_law 27 = .ok (.invokestatic 45, 3) := by decide +kernel
theorem dL_law_30 : decode cL_law 30 = .ok (.ifCond .ne 5, 3) := by decide +kernel
theorem dL_law_33 : decode cL_law 33 = .ok (.iconst 0, 1) := by decide +kernel
theorem dL_law_34 : decode cL_law 34 = .ok (.ireturn, 1) := by decide +kernel
theorem dL_law_35 : decode cL_law 35 = .ok (.aload_n 3, 1) := by decide +kernel
theorem dL_law_36 : decode cL_law 36 = .ok (.invokevirtual 49, 3) := by decide +kernel
theorem dL_law_39 : decode cL_law 39 = .ok (.ifCond .le 7, 3) := by decide +kernel
theorem dL_law_42 : decode cL_law 42 = .ok (.iconst 1, 1) := by decide +kernel
theorem dL_law_43 : decode cL_law 43 = .ok (.goto 4, 3) := by decide +kernel
theorem dL_law_46 : decode cL_law 46 = .ok (.iconst 0, 1) := by decide +kernel
theorem dL_law_47 : decode cL_law 47 = .ok (.istore 4, 2) := by decide +kernel
theorem dL_law_49 : decode cL_law 49 = .ok (.iload 4, 2) := by decide +kernel
theorem dL_law_51 : decode cL_law 51 = .ok (.aload_n 3, 1) := by decide +kernel
theorem dL_law_52 : decode cL_law 52 = .ok (.iconst 1, 1) := by decide +kernel
theorem dL_law_53 : decode cL_law 53 = .ok (.invokevirtual 53, 3) := by decide +kernel
theorem dL_law_56 : decode cL_law 56 = .ok (.iconst 1, 1) := by decide +kernel
theorem dL_law_57 : decode cL_law 57 = .ok (.if_icmp .ne 7, 3) := by decide +kernel
theorem dL_law_60 : decode cL_law 60 = .ok (.iconst 1, 1) := by decide +kernel
theorem dL_law_61 : decode cL_law 61 = .ok (.goto 4, 3) := by decide +kernel
theorem dL_law_64 : decode cL_law 64 = .ok (.iconst 0, 1) := by decide +kernel
theorem dL_law_65 : decode cL_law 65 = .ok (.if_icmp .ne 33, 3) := by decide +kernel
theorem dL_law_68 : decode cL_law 68 = .ok (.aload_n 3, 1) := by decide +kernel
theorem dL_law_69 : decode cL_law 69 = .ok (.invokevirtual 49, 3) := by decide +kernel
theorem dL_law_72 : decode cL_law 72 = .ok (.ifCond .eq 26, 3) := by decide +kernel
theorem dL_law_75 : decode cL_law 75 = .ok (.aload_n 3, 1) := by decide +kernel
theorem dL_law_76 : decode cL_law 76 = .ok (.invokevirtual 49, 3) := by decide +kernel
theorem dL_law_79 : decode cL_law 79 = .ok (.bipush 20, 2) := by decide +kernel
theorem dL_law_81 : decode cL_law 81 = .ok (.if_icmp .gt 17, 3) := by decide +kernel
theorem dL_law_84 : decode cL_law 84 = .ok (.iload 4, 2) := by decide +kernel
theorem dL_law_86 : decode cL_law 86 = .ok (.ifCond .eq 14, 3) := by decide +kernel
theorem dL_law_89 : decode cL_law 89 = .ok (.aload_n 3, 1) := by decide +kernel
theorem dL_law_90 : decode cL_law 90 = .ok (.bipush 7, 2) := by decide +kernel
theorem dL_law_92 : decode cL_law 92 = .ok (.invokevirtual 53, 3) := by decide +kernel
theorem dL_law_95 : decode cL_law 95 = .ok (.ifCond .le 5, 3) := by decide +kernel
theorem dL_law_98 : decode cL_law 98 = .ok (.iconst 0, 1) := by decide +kernel
theorem dL_law_99 : decode cL_law 99 = .ok (.ireturn, 1) := by decide +kernel
theorem dL_law_100 : decode cL_law 100 = .ok (.iconst 0, 1) := by decide +kernel
theorem dL_law_101 : decode cL_law 101 = .ok (.istore 5, 2) := by decide +kernel
theorem dL_law_103 : decode cL_law 103 = .ok (.iload 5, 2) := by decide +kernel
theorem dL_law_105 : decode cL_law 105 = .ok (.iconst 3, 1) := by decide +kernel
theorem dL_law_106 : decode cL_law 106 = .ok (.if_icmp .ge 43, 3) := by decide +kernel
theorem dL_law_109 : decode cL_law 109 = .ok (.aload_n 3, 1) := by decide +kernel
theorem dL_law_110 : decode cL_law 110 = .ok (.iload 5, 2) := by decide +kernel
theorem dL_law_112 : decode cL_law 112 = .ok (.iconst 2, 1) := by decide +kernel
theorem dL_law_113 : decode cL_law 113 = .ok (.iconst 1, 1) := by decide +kernel
theorem dL_law_114 : decode cL_law 114 = .ok (.aload_n 0, 1) := by decide +kernel
theorem dL_law_115 : decode cL_law 115 = .ok (.bipush 24, 2) := by decide +kernel
theorem dL_law_117 : decode cL_law 117 = .ok (.iload_n 2, 1) := by decide +kernel
theorem dL_law_118 : decode cL_law 118 = .ok (.iadd, 1) := by decide +kernel
theorem dL_law_119 : decode cL_law 119 = .ok (.invokestatic 9, 3) := by decide +kernel
theorem dL_law_122 : decode cL_law 122 = .ok (.bipush 8, 2) := by decide +kernel
theorem dL_law_124 : decode cL_law 124 = .ok (.iload 5, 2) := by decide +kernel
theorem dL_law_126 : decode cL_law 126 = .ok (.imul, 1) := by decide +kernel
theorem dL_law_127 : decode cL_law 127 = .ok (.ishr, 1) := by decide +kernel
theorem dL_law_128 : decode cL_law 128 = .ok (.sipush 200, 3) := by decide +kernel
theorem dL_law_131 : decode cL_law 131 = .ok (.invokestatic 15, 3) := by decide +kernel
theorem dL_law_134 : decode cL_law 134 = .ok (.iadd, 1) := by decide +kernel
theorem dL_law_135 : decode cL_law 135 = .ok (.invokevirtual 19, 3) := by decide +kernel
theorem dL_law_138 : decode cL_law 138 = .ok (.ifCond .eq 5, 3) := by decide +kernel
theorem dL_law_141 : decode cL_law 141 = .ok (.iconst 0, 1) := by decide +kernel
theorem dL_law_142 : decode cL_law 142 = .ok (.ireturn, 1) := by decide +kernel
theorem dL_law_143 : decode cL_law 143 = .ok (.iinc 5 1, 3) := by decide +kernel
theorem dL_law_146 : decode cL_law 146 = .ok (.goto (-43), 3) := by decide +kernel
theorem dL_law_149 : decode cL_law 149 = .ok (.iconst 0, 1) := by decide +kernel
theorem dL_law_150 : decode cL_law 150 = .ok (.istore 5, 2) := by decide +kernel
theorem dL_law_152 : decode cL_law 152 = .ok (.iload 5, 2) := by decide +kernel
theorem dL_law_154 : decode cL_law 154 = .ok (.iconst 5, 1) := by decide +kernel
theorem dL_law_155 : decode cL_law 155 = .ok (.if_icmp .ge 418, 3) := by decide +kernel
theorem dL_law_158 : decode cL_law 158 = .ok (.aload_n 0, 1) := by decide +kernel
theorem dL_law_159 : decode cL_law 159 = .ok (.bipush 26, 2) := by decide +kernel
theorem dL_law_161 : decode cL_law 161 = .ok (.iconst 5, 1) := by decide +kernel
theorem dL_law_162 : decode cL_law 162 = .ok (.iload_n 2, 1) := by decide +kernel
theorem dL_law_163 : decode cL_law 163 = .ok (.imul, 1) := by decide +kernel
theorem dL_law_164 : decode cL_law 164 = .ok (.iadd, 1) := by decide +kernel
theorem dL_law_165 : decode cL_law 165 = .ok (.iload 5, 2) := by decide +kernel
theorem dL_law_167 : decode cL_law 167 = .ok (.iadd, 1) := by decide +kernel
theorem dL_law_168 : decode cL_law 168 = .ok (.invokestatic 9, 3) := by decide +kernel
theorem dL_law_171 : decode cL_law 171 = .ok (.istore 6, 2) := by decide +kernel
theorem dL_law_173 : decode cL_law 173 = .ok (.iconst 0, 1) := by decide +kernel
theorem dL_law_174 : decode cL_law 174 = .ok (.istore 7, 2) := by decide +kernel
theorem dL_law_176 : decode cL_law 176 = .ok (.iload 7, 2) := by decide +kernel
theorem dL_law_178 : decode cL_law 178 = .ok (.iconst 3, 1) := by decide +kernel
theorem dL_law_179 : decode cL_law 179 = .ok (.if_icmp .ge 61, 3) := by decide +kernel
theorem dL_law_182 : decode cL_law 182 = .ok (.iload 5, 2) := by decide +kernel
theorem dL_law_184 : decode cL_law 184 = .ok (.ifCond .le 56, 3) := by decide +kernel
theorem dL_law_187 : decode cL_law 187 = .ok (.aload_n 3, 1) := by decide +kernel
theorem dL_law_188 : decode cL_law 188 = .ok (.iload 7, 2) := by decide +kernel
theorem dL_law_190 : decode cL_law 190 = .ok (.iconst 3, 1) := by decide +kernel
theorem dL_law_191 : decode cL_law 191 = .ok (.iload 6, 2) := by decide +kernel
theorem dL_law_193 : decode cL_law 193 = .ok (.bipush 7, 2) := by decide +kernel
theorem dL_law_195 : decode cL_law 195 = .ok (.iload 7, 2) := by decide +kernel
theorem dL_law_197 : decode cL_law 197 = .ok (.imul, 1) := by decide +kernel
theorem dL_law_198 : decode cL_law 198 = .ok (.ishr, 1) := by decide +kernel
theorem dL_law_199 : decode cL_law 199 = .ok (.bipush 100, 2) := by decide +kernel
theorem dL_law_201 : decode cL_law 201 = .ok (.invokestatic 15, 3) := by decide +kernel
theorem dL_law_204 : decode cL_law 204 = .ok (.invokevirtual 19, 3) := by decide +kernel
theorem dL_law_207 : decode cL_law 207 = .ok (.ifCond .lt 25, 3) := by decide +kernel
theorem dL_law_210 : decode cL_law 210 = .ok (.aload_n 3, 1) := by decide +kernel
theorem dL_law_211 : decode cL_law 211 = .ok (.iload 7, 2) := by decide +kernel
theorem dL_law_213 : decode cL_law 213 = .ok (.iconst 4, 1) := by decide +kernel
theorem dL_law_214 : decode cL_law 214 = .ok (.iload 6, 2) := by decide +kernel
theorem dL_law_216 : decode cL_law 216 = .ok (.iconst 5, 1) := by decide +kernel
theorem dL_law_217 : decode cL_law 217 = .ok (.iload 7, 2) := by decide +kernel
theorem dL_law_219 : decode cL_law 219 = .ok (.imul, 1) := by decide +kernel
theorem dL_law_220 : decode cL_law 220 = .ok (.ishr, 1) := by decide +kernel
theorem dL_law_221 : decode cL_law 221 = .ok (.bipush 10, 2) := by decide +kernel
theorem dL_law_223 : decode cL_law 223 = .ok (.invokestatic 15, 3) := by decide +kernel
theorem dL_law_226 : decode cL_law 226 = .ok (.invokevirtual 19, 3) := by decide +kernel
theorem dL_law_229 : decode cL_law 229 = .ok (.ifCond .ge 5, 3) := by decide +kernel
theorem dL_law_232 : decode cL_law 232 = .ok (.iconst 0, 1) := by decide +kernel
theorem dL_law_233 : decode cL_law 233 = .ok (.ireturn, 1) := by decide +kernel
theorem dL_law_234 : decode cL_law 234 = .ok (.iinc 7 1, 3) := by decide +kernel
theorem dL_law_237 : decode cL_law 237 = .ok (.goto (-61), 3) := by decide +kernel
theorem dL_law_240 : decode cL_law 240 = .ok (.iconst 1, 1) := by decide +kernel
theorem dL_law_241 : decode cL_law 241 = .ok (.iload 6, 2) := by decide +kernel
theorem dL_law_243 : decode cL_law 243 = .ok (.bipush 9, 2) := by decide +kernel
theorem dL_law_245 : decode cL_law 245 = .ok (.ishr, 1) := by decide +kernel
theorem dL_law_246 : decode cL_law 246 = .ok (.sipush 300, 3) := by decide +kernel
theorem dL_law_249 : decode cL_law 249 = .ok (.invokestatic 15, 3) := by decide +kernel
theorem dL_law_252 : decode cL_law 252 = .ok (.iadd, 1) := by decide +kernel
theorem dL_law_253 : decode cL_law 253 = .ok (.istore 7, 2) := by decide +kernel
theorem dL_law_255 : decode cL_law 255 = .ok (.aload_n 3, 1) := by decide +kernel
theorem dL_law_256 : decode cL_law 256 = .ok (.iload 7, 2) := by decide +kernel
theorem dL_law_258 : decode cL_law 258 = .ok (.invokevirtual 57, 3) := by decide +kernel
theorem dL_law_261 : decode cL_law 261 = .ok (.aload_n 3, 1) := by decide +kernel
theorem dL_law_262 : decode cL_law 262 = .ok (.iconst 3, 1) := by decide +kernel
theorem dL_law_263 : decode cL_law 263 = .ok (.invokevirtual 53, 3) := by decide +kernel
theorem dL_law_266 : decode cL_law 266 = .ok (.if_icmp .ne 13, 3) := by decide +kernel
theorem dL_law_269 : decode cL_law 269 = .ok (.aload_n 3, 1) := by decide +kernel
theorem dL_law_270 : decode cL_law 270 = .ok (.aload_n 1, 1) := by decide +kernel
theorem dL_law_271 : decode cL_law 271 = .ok (.iload 4, 2) := by decide +kernel
theorem dL_law_273 : decode cL_law 273 = .ok (.invokestatic 60, 3) := by decide +kernel
theorem dL_law_276 : decode cL_law 276 = .ok (.ifCond .ne 5, 3) := by decide +kernel
theorem dL_law_279 : decode cL_law 279 = .ok (.iconst 0, 1) := by decide +kernel
theorem dL_law_280 : decode cL_law 280 = .ok (.ireturn, 1) := by decide +kernel
theorem dL_law_281 : decode cL_law 281 = .ok (.aload_n 3, 1) := by decide +kernel
theorem dL_law_282 : decode cL_law 282 = .ok (.invokevirtual 64, 3) := by decide +kernel
theorem dL_law_285 : decode cL_law 285 = .ok (.istore 8, 2) := by decide +kernel
theorem dL_law_287 : decode cL_law 287 = .ok (.iconst 0, 1) := by decide +kernel
theorem dL_law_288 : decode cL_law 288 = .ok (.istore 9, 2) := by decide +kernel
theorem dL_law_290 : decode cL_law 290 = .ok (.iload 9, 2) := by decide +kernel
theorem dL_law_292 : decode cL_law 292 = .ok (.iconst 3, 1) := by decide +kernel
theorem dL_law_293 : decode cL_law 293 = .ok (.if_icmp .ge 133, 3) := by decide +kernel
theorem dL_law_296 : decode cL_law 296 = .ok (.iload 8, 2) := by decide +kernel
theorem dL_law_298 : decode cL_law 298 = .ok (.iload 9, 2) := by decide +kernel
theorem dL_law_300 : decode cL_law 300 = .ok (.ishr, 1) := by decide +kernel
theorem dL_law_301 : decode cL_law 301 = .ok (.iconst 1, 1) := by decide +kernel
theorem dL_law_302 : decode cL_law 302 = .ok (.iand, 1) := by decide +kernel
theorem dL_law_303 : decode cL_law 303 = .ok (.iconst 1, 1) := by decide +kernel
theorem dL_law_304 : decode cL_law 304 = .ok (.if_icmp .ne 7, 3) := by decide +kernel
theorem dL_law_307 : decode cL_law 307 = .ok (.iconst 1, 1) := by decide +kernel
theorem dL_law_308 : decode cL_law 308 = .ok (.goto 4, 3) := by decide +kernel
theorem dL_law_311 : decode cL_law 311 = .ok (.iconst 0, 1) := by decide +kernel
theorem dL_law_312 : decode cL_law 312 = .ok (.istore 10, 2) := by decide +kernel
theorem dL_law_314 : decode cL_law 314 = .ok (.iload 10, 2) := by decide +kernel
theorem dL_law_316 : decode cL_law 316 = .ok (.ifCond .eq 44, 3) := by decide +kernel
theorem dL_law_319 : decode cL_law 319 = .ok (.aload_n 1, 1) := by decide +kernel
theorem dL_law_320 : decode cL_law 320 = .ok (.bipush 6, 2) := by decide +kernel
theorem dL_law_322 : decode cL_law 322 = .ok (.iload 9, 2) := by decide +kernel
theorem dL_law_324 : decode cL_law 324 = .ok (.iadd, 1) := by decide +kernel
theorem dL_law_325 : decode cL_law 325 = .ok (.iaload, 1) := by decide +kernel
theorem dL_law_326 : decode cL_law 326 = .ok (.ifCond .eq 92, 3) := by decide +kernel
theorem dL_law_329 : decode cL_law 329 = .ok (.iload 4, 2) := by decide +kernel
theorem dL_law_331 : decode cL_law 331 = .ok (.ifCond .eq 87, 3) := by decide +kernel
theorem dL_law_334 : decode cL_law 334 = .ok (.aload_n 3, 1) := by decide +kernel
theorem dL_law_335 : decode cL_law 335 = .ok (.iload 9, 2) := by decide +kernel
theorem dL_law_337 : decode cL_law 337 = .ok (.aload_n 1, 1) := by decide +kernel
theorem dL_law_338 : decode cL_law 338 = .ok (.bipush 6, 2) := by decide +kernel
theorem dL_law_340 : decode cL_law 340 = .ok (.iload 9, 2) := by decide +kernel
theorem dL_law_342 : decode cL_law 342 = .ok (.iadd, 1) := by decide +kernel
theorem dL_law_343 : decode cL_law 343 = .ok (.iaload, 1) := by decide +kernel
theorem dL_law_344 : decode cL_law 344 = .ok (.iconst 1, 1) := by decide +kernel
theorem dL_law_345 : decode cL_law 345 = .ok (.isub, 1) := by decide +kernel
theorem dL_law_346 : decode cL_law 346 = .ok (.iconst 0, 1) := by decide +kernel
theorem dL_law_347 : decode cL_law 347 = .ok (.invokevirtual 29, 3) := by decide +kernel
theorem dL_law_350 : decode cL_law 350 = .ok (.aload_n 3, 1) := by decide +kernel
theorem dL_law_351 : decode cL_law 351 = .ok (.iload 9, 2) := by decide +kernel
theorem dL_law_353 : decode cL_law 353 = .ok (.iconst 2, 1) := by decide +kernel
theorem dL_law_354 : decode cL_law 354 = .ok (.invokevirtual 67, 3) := by decide +kernel
theorem dL_law_357 : decode cL_law 357 = .ok (.if_icmp .gt 61, 3) := by decide +kernel
theorem dL_law_360 : decode cL_law 360 = .ok (.aload_n 1, 1) := by decide +kernel
theorem dL_law_361 : decode cL_law 361 = .ok (.bipush 6, 2) := by decide +kernel
theorem dL_law_363 : decode cL_law 363 = .ok (.iload 9, 2) := by decide +kernel
theorem dL_law_365 : decode cL_law 365 = .ok (.iadd, 1) := by decide +kernel
theorem dL_law_366 : decode cL_law 366 = .ok (.iaload, 1) := by decide +kernel
theorem dL_law_367 : decode cL_law 367 = .ok (.ifCond .le 53, 3) := by decide +kernel
theorem dL_law_370 : decode cL_law 370 = .ok (.iload 4, 2) := by decide +kernel
theorem dL_law_372 : decode cL_law 372 = .ok (.ifCond .eq 48, 3) := by decide +kernel
theorem dL_law_375 : decode cL_law 375 = .ok (.iload 10, 2) := by decide +kernel
theorem dL_law_377 : decode cL_law 377 = .ok (.ifCond .ne 7, 3) := by decide +kernel
theorem dL_law_380 : decode cL_law 380 = .ok (.iconst 1, 1) := by decide +kernel
theorem dL_law_381 : decode cL_law 381 = .ok (.goto 4, 3) := by decide +kernel
theorem dL_law_384 : decode cL_law 384 = .ok (.iconst 0, 1) := by decide +kernel
theorem dL_law_385 : decode cL_law 385 = .ok (.aload_n 3, 1) := by decide +kernel
theorem dL_law_386 : decode cL_law 386 = .ok (.iload 9, 2) := by decide +kernel
theorem dL_law_388 : decode cL_law 388 = .ok (.aload_n 1, 1) := by decide +kernel
theorem dL_law_389 : decode cL_law 389 = .ok (.bipush 6, 2) := by decide +kernel
theorem dL_law_391 : decode cL_law 391 = .ok (.iload 9, 2) := by decide +kernel
theorem dL_law_393 : decode cL_law 393 = .ok (.iadd, 1) := by decide +kernel
theorem dL_law_394 : decode cL_law 394 = .ok (.iaload, 1) := by decide +kernel
theorem dL_law_395 : decode cL_law 395 = .ok (.iconst 1, 1) := by decide +kernel
theorem dL_law_396 : decode cL_law 396 = .ok (.isub, 1) := by decide +kernel
theorem dL_law_397 : decode cL_law 397 = .ok (.invokevirtual 35, 3) := by decide +kernel
theorem dL_law_400 : decode cL_law 400 = .ok (.aload_n 3, 1) := by decide +kernel
theorem dL_law_401 : decode cL_law 401 = .ok (.iload 9, 2) := by decide +kernel
theorem dL_law_403 : decode cL_law 403 = .ok (.iconst 2, 1) := by decide +kernel
theorem dL_law_404 : decode cL_law 404 = .ok (.invokevirtual 67, 3) := by decide +kernel
theorem dL_law_407 : decode cL_law 407 = .ok (.if_icmp .le 7, 3) := by decide +kernel
theorem dL_law_410 : decode cL_law 410 = .ok (.iconst 1, 1) := by decide +kernel
theorem dL_law_411 : decode cL_law 411 = .ok (.goto 4, 3) := by decide +kernel
theorem dL_law_414 : decode cL_law 414 = .ok (.iconst 0, 1) := by decide +kernel
theorem dL_law_415 : decode cL_law 415 = .ok (.if_icmp .eq 5, 3) := by decide +kernel
theorem dL_law_418 : decode cL_law 418 = .ok (.iconst 0, 1) := by decide +kernel
theorem dL_law_419 : decode cL_law 419 = .ok (.ireturn, 1) := by decide +kernel
theorem dL_law_420 : decode cL_law 420 = .ok (.iinc 9 1, 3) := by decide +kernel
theorem dL_law_423 : decode cL_law 423 = .ok (.goto (-133), 3) := by decide +kernel
theorem dL_law_426 : decode cL_law 426 = .ok (.iconst 0, 1) := by decide +kernel
theorem dL_law_427 : decode cL_law 427 = .ok (.istore 9, 2) := by decide +kernel
theorem dL_law_429 : decode cL_law 429 = .ok (.iconst 0, 1) := by decide +kernel
theorem dL_law_430 : decode cL_law 430 = .ok (.istore 10, 2) := by decide +kernel
theorem dL_law_432 : decode cL_law 432 = .ok (.iconst 0, 1) := by decide +kernel
theorem dL_law_433 : decode cL_law 433 = .ok (.istore 11, 2) := by decide +kernel
theorem dL_law_435 : decode cL_law 435 = .ok (.iconst 0, 1) := by decide +kernel
theorem dL_law_436 : decode cL_law 436 = .ok (.istore 12, 2) := by decide +kernel
theorem dL_law_438 : decode cL_law 438 = .ok (.iload 12, 2) := by decide +kernel
theorem dL_law_440 : decode cL_law 440 = .ok (.bipush 9, 2) := by decide +kernel
theorem dL_law_442 : decode cL_law 442 = .ok (.if_icmp .ge 77, 3) := by decide +kernel
theorem dL_law_445 : decode cL_law 445 = .ok (.iload 10, 2) := by decide +kernel
theorem dL_law_447 : decode cL_law 447 = .ok (.aload_n 1, 1) := by decide +kernel
theorem dL_law_448 : decode cL_law 448 = .ok (.bipush 9, 2) := by decide +kernel
theorem dL_law_450 : decode cL_law 450 = .ok (.iload 12, 2) := by decide +kernel
theorem dL_law_452 : decode cL_law 452 = .ok (.iadd, 1) := by decide +kernel
theorem dL_law_453 : decode cL_law 453 = .ok (.iaload, 1) := by decide +kernel
theorem dL_law_454 : decode cL_law 454 = .ok (.ifCond .ge 7, 3) := by decide +kernel
theorem dL_law_457 : decode cL_law 457 = .ok (.iconst 0, 1) := by decide +kernel
theorem dL_law_458 : decode cL_law 458 = .ok (.goto 24, 3) := by decide +kernel
theorem dL_law_461 : decode cL_law 461 = .ok (.aload_n 3, 1) := by decide +kernel
theorem dL_law_462 : decode cL_law 462 = .ok (.iload 12, 2) := by decide +kernel
theorem dL_law_464 : decode cL_law 464 = .ok (.iconst 3, 1) := by decide +kernel
theorem dL_law_465 : decode cL_law 465 = .ok (.idiv, 1) := by decide +kernel
theorem dL_law_466 : decode cL_law 466 = .ok (.iload 12, 2) := by decide +kernel
theorem dL_law_468 : decode cL_law 468 = .ok (.iconst 3, 1) := by decide +kernel
theorem dL_law_469 : decode cL_law 469 = .ok (.irem, 1) := by decide +kernel
theorem dL_law_470 : decode cL_law 470 = .ok (.iconst 2, 1) := by decide +kernel
theorem dL_law_471 : decode cL_law 471 = .ok (.invokevirtual 29, 3) := by decide +kernel
theorem dL_law_474 : decode cL_law 474 = .ok (.aload_n 1, 1) := by decide +kernel
theorem dL_law_475 : decode cL_law 475 = .ok (.bipush 18, 2) := by decide +kernel
theorem dL_law_477 : decode cL_law 477 = .ok (.iload 12, 2) := by decide +kernel
theorem dL_law_479 : decode cL_law 479 = .ok (.iadd, 1) := by decide +kernel
theorem dL_law_480 : decode cL_law 480 = .ok (.iaload, 1) := by decide +kernel
theorem dL_law_481 : decode cL_law 481 = .ok (.imul, 1) := by decide +kernel
theorem dL_law_482 : decode cL_law 482 = .ok (.iadd, 1) := by decide +kernel
theorem dL_law_483 : decode cL_law 483 = .ok (.istore 10, 2) := by decide +kernel
theorem dL_law_485 : decode cL_law 485 = .ok (.iload 11, 2) := by decide +kernel
theorem dL_law_487 : decode cL_law 487 = .ok (.aload_n 1, 1) := by decide +kernel
theorem dL_law_488 : decode cL_law 488 = .ok (.bipush 9, 2) := by decide +kernel
theorem dL_law_490 : decode cL_law 490 = .ok (.iload 12, 2) := by decide +kernel
theorem dL_law_492 : decode cL_law 492 = .ok (.iadd, 1) := by decide +kernel
theorem dL_law_493 : decode cL_law 493 = .ok (.iaload, 1) := by decide +kernel
theorem dL_law_494 : decode cL_law 494 = .ok (.ifCond .ge 7, 3) := by decide +kernel
theorem dL_law_497 : decode cL_law 497 = .ok (.iconst 0, 1) := by decide +kernel
theorem dL_law_498 : decode cL_law 498 = .ok (.goto 12, 3) := by decide +kernel
theorem dL_law_501 : decode cL_law 501 = .ok (.aload_n 1, 1) := by decide +kernel
theorem dL_law_502 : decode cL_law 502 = .ok (.bipush 18, 2) := by decide +kernel
theorem dL_law_504 : decode cL_law 504 = .ok (.iload 12, 2) := by decide +kernel
theorem dL_law_506 : decode cL_law 506 = .ok (.iadd, 1) := by decide +kernel
theorem dL_law_507 : decode cL_law 507 = .ok (.iaload, 1) := by decide +kernel
theorem dL_law_508 : decode cL_law 508 = .ok (.iconst 1, 1) := by decide +kernel
theorem dL_law_509 : decode cL_law 509 = .ok (.isub, 1) := by decide +kernel
theorem dL_law_510 : decode cL_law 510 = .ok (.iadd, 1) := by decide +kernel
theorem dL_law_511 : decode cL_law 511 = .ok (.istore 11, 2) := by decide +kernel
theorem dL_law_513 : decode cL_law 513 = .ok (.iinc 12 1, 3) := by decide +kernel
theorem dL_law_516 : decode cL_law 516 = .ok (.goto (-78), 3) := by decide +kernel
theorem dL_law_519 : decode cL_law 519 = .ok (.iconst 2, 1) := by decide +kernel
theorem dL_law_520 : decode cL_law 520 = .ok (.iload 7, 2) := by decide +kernel
theorem dL_law_522 : decode cL_law 522 = .ok (.imul, 1) := by decide +kernel
theorem dL_law_523 : decode cL_law 523 = .ok (.aload_n 3, 1) := by decide +kernel
theorem dL_law_524 : decode cL_law 524 = .ok (.iconst 4, 1) := by decide +kernel
theorem dL_law_525 : decode cL_law 525 = .ok (.invokevirtual 53, 3) := by decide +kernel
theorem dL_law_528 : decode cL_law 528 = .ok (.isub, 1) := by decide +kernel
theorem dL_law_529 : decode cL_law 529 = .ok (.aload_n 3, 1) := by decide +kernel
theorem dL_law_530 : decode cL_law 530 = .ok (.iconst 5, 1) := by decide +kernel
theorem dL_law_531 : decode cL_law 531 = .ok (.invokevirtual 53, 3) := by decide +kernel
theorem dL_law_534 : decode cL_law 534 = .ok (.isub, 1) := by decide +kernel
theorem dL_law_535 : decode cL_law 535 = .ok (.istore 9, 2) := by decide +kernel
theorem dL_law_537 : decode cL_law 537 = .ok (.iload 9, 2) := by decide +kernel
theorem dL_law_539 : decode cL_law 539 = .ok (.iload 10, 2) := by decide +kernel
theorem dL_law_541 : decode cL_law 541 = .ok (.if_icmp .lt 24, 3) := by decide +kernel
theorem dL_law_544 : decode cL_law 544 = .ok (.iload 9, 2) := by decide +kernel
theorem dL_law_546 : decode cL_law 546 = .ok (.iload 10, 2) := by decide +kernel
theorem dL_law_548 : decode cL_law 548 = .ok (.iload 11, 2) := by decide +kernel
theorem dL_law_550 : decode cL_law 550 = .ok (.iadd, 1) := by decide +kernel
theorem dL_law_551 : decode cL_law 551 = .ok (.if_icmp .gt 14, 3) := by decide +kernel
theorem dL_law_554 : decode cL_law 554 = .ok (.aload_n 3, 1) := by decide +kernel
theorem dL_law_555 : decode cL_law 555 = .ok (.bipush 6, 2) := by decide +kernel
theorem dL_law_557 : decode cL_law 557 = .ok (.invokevirtual 53, 3) := by decide +kernel
theorem dL_law_560 : decode cL_law 560 = .ok (.iload 7, 2) := by decide +kernel
theorem dL_law_562 : decode cL_law 562 = .ok (.if_icmp .eq 5, 3) := by decide +kernel
theorem dL_law_565 : decode cL_law 565 = .ok (.iconst 0, 1) := by decide +kernel
theorem dL_law_566 : decode cL_law 566 = .ok (.ireturn, 1) := by decide +kernel
theorem dL_law_567 : decode cL_law 567 = .ok (.iinc 5 1, 3) := by decide +kernel
theorem dL_law_570 : decode cL_law 570 = .ok (.goto (-418), 3) := by decide +kernel
theorem dL_law_573 : decode cL_law 573 = .ok (.aload_n 0, 1) := by decide +kernel
theorem dL_law_574 : decode cL_law 574 = .ok (.bipush 36, 2) := by decide +kernel
theorem dL_law_576 : decode cL_law 576 = .ok (.iload_n 2, 1) := by decide +kernel
theorem dL_law_577 : decode cL_law 577 = .ok (.iadd, 1) := by decide +kernel
theorem dL_law_578 : decode cL_law 578 = .ok (.invokestatic 9, 3) := by decide +kernel
theorem dL_law_581 : decode cL_law 581 = .ok (.bipush 9, 2) := by decide +kernel
theorem dL_law_583 : decode cL_law 583 = .ok (.invokestatic 15, 3) := by decide +kernel
theorem dL_law_586 : decode cL_law 586 = .ok (.istore 5, 2) := by decide +kernel
theorem dL_law_588 : decode cL_law 588 = .ok (.aload_n 1, 1) := by decide +kernel
theorem dL_law_589 : decode cL_law 589 = .ok (.bipush 9, 2) := by decide +kernel
theorem dL_law_591 : decode cL_law 591 = .ok (.iload 5, 2) := by decide +kernel
theorem dL_law_593 : decode cL_law 593 = .ok (.iadd, 1) := by decide +kernel
theorem dL_law_594 : decode cL_law 594 = .ok (.iaload, 1) := by decide +kernel
theorem dL_law_595 : decode cL_law 595 = .ok (.ifCond .lt 203, 3) := by decide +kernel
theorem dL_law_598 : decode cL_law 598 = .ok (.aload_n 3, 1) := by decide +kernel
theorem dL_law_599 : decode cL_law 599 = .ok (.iload 5, 2) := by decide +kernel
theorem dL_law_601 : decode cL_law 601 = .ok (.iconst 3, 1) := by decide +kernel
theorem dL_law_602 : decode cL_law 602 = .ok (.idiv, 1) := by decide +kernel
theorem dL_law_603 : decode cL_law 603 = .ok (.iload 5, 2) := by decide +kernel
theorem dL_law_605 : decode cL_law 605 = .ok (.iconst 3, 1) := by decide +kernel
theorem dL_law_606 : decode cL_law 606 = .ok (.irem, 1) := by decide +kernel
theorem dL_law_607 : decode cL_law 607 = .ok (.invokevirtual 35, 3) := by decide +kernel
theorem dL_law_610 : decode cL_law 610 = .ok (.istore 6, 2) := by decide +kernel
theorem dL_law_612 : decode cL_law 612 = .ok (.aload_n 3, 1) := by decide +kernel
theorem dL_law_613 : decode cL_law 613 = .ok (.invokevirtual 49, 3) := by decide +kernel
theorem dL_law_616 : decode cL_law 616 = .ok (.istore 7, 2) := by decide +kernel
theorem dL_law_618 : decode cL_law 618 = .ok (.aload_n 3, 1) := by decide +kernel
theorem dL_law_619 : decode cL_law 619 = .ok (.invokevirtual 64, 3) := by decide +kernel
theorem dL_law_622 : decode cL_law 622 = .ok (.istore 8, 2) := by decide +kernel
theorem dL_law_624 : decode cL_law 624 = .ok (.aload_n 3, 1) := by decide +kernel
theorem dL_law_625 : decode cL_law 625 = .ok (.iload 5, 2) := by decide +kernel
theorem dL_law_627 : decode cL_law 627 = .ok (.iconst 3, 1) := by decide +kernel
theorem dL_law_628 : decode cL_law 628 = .ok (.idiv, 1) := by decide +kernel
theorem dL_law_629 : decode cL_law 629 = .ok (.iload 5, 2) := by decide +kernel
theorem dL_law_631 : decode cL_law 631 = .ok (.iconst 3, 1) := by decide +kernel
theorem dL_law_632 : decode cL_law 632 = .ok (.irem, 1) := by decide +kernel
theorem dL_law_633 : decode cL_law 633 = .ok (.invokevirtual 70, 3) := by decide +kernel
theorem dL_law_636 : decode cL_law 636 = .ok (.istore 9, 2) := by decide +kernel
theorem dL_law_638 : decode cL_law 638 = .ok (.aload_n 3, 1) := by decide +kernel
theorem dL_law_639 : decode cL_law 639 = .ok (.iload 5, 2) := by decide +kernel
theorem dL_law_641 : decode cL_law 641 = .ok (.iconst 3, 1) := by decide +kernel
theorem dL_law_642 : decode cL_law 642 = .ok (.idiv, 1) := by decide +kernel
theorem dL_law_643 : decode cL_law 643 = .ok (.iload 5, 2) := by decide +kernel
theorem dL_law_645 : decode cL_law 645 = .ok (.iconst 3, 1) := by decide +kernel
theorem dL_law_646 : decode cL_law 646 = .ok (.irem, 1) := by decide +kernel
theorem dL_law_647 : decode cL_law 647 = .ok (.iconst 0, 1) := by decide +kernel
theorem dL_law_648 : decode cL_law 648 = .ok (.invokevirtual 73, 3) := by decide +kernel
theorem dL_law_651 : decode cL_law 651 = .ok (.istore 10, 2) := by decide +kernel
theorem dL_law_653 : decode cL_law 653 = .ok (.aload_n 3, 1) := by decide +kernel
theorem dL_law_654 : decode cL_law 654 = .ok (.iload 5, 2) := by decide +kernel
theorem dL_law_656 : decode cL_law 656 = .ok (.iconst 3, 1) := by decide +kernel
theorem dL_law_657 : decode cL_law 657 = .ok (.idiv, 1) := by decide +kernel
theorem dL_law_658 : decode cL_law 658 = .ok (.iload 5, 2) := by decide +kernel
theorem dL_law_660 : decode cL_law 660 = .ok (.iconst 3, 1) := by decide +kernel
theorem dL_law_661 : decode cL_law 661 = .ok (.irem, 1) := by decide +kernel
theorem dL_law_662 : decode cL_law 662 = .ok (.invokevirtual 35, 3) := by decide +kernel
theorem dL_law_665 : decode cL_law 665 = .ok (.iload 6, 2) := by decide +kernel
theorem dL_law_667 : decode cL_law 667 = .ok (.if_icmp .ne 129, 3) := by decide +kernel
theorem dL_law_670 : decode cL_law 670 = .ok (.aload_n 3, 1) := by decide +kernel
theorem dL_law_671 : decode cL_law 671 = .ok (.invokevirtual 49, 3) := by decide +kernel
theorem dL_law_674 : decode cL_law 674 = .ok (.iload 7, 2) := by decide +kernel
theorem dL_law_676 : decode cL_law 676 = .ok (.if_icmp .ne 120, 3) := by decide +kernel
theorem dL_law_679 : decode cL_law 679 = .ok (.aload_n 3, 1) := by decide +kernel
theorem dL_law_680 : decode cL_law 680 = .ok (.invokevirtual 64, 3) := by decide +kernel
theorem dL_law_683 : decode cL_law 683 = .ok (.iload 8, 2) := by decide +kernel
theorem dL_law_685 : decode cL_law 685 = .ok (.if_icmp .ne 111, 3) := by decide +kernel
theorem dL_law_688 : decode cL_law 688 = .ok (.aload_n 3, 1) := by decide +kernel
theorem dL_law_689 : decode cL_law 689 = .ok (.iload 5, 2) := by decide +kernel
theorem dL_law_691 : decode cL_law 691 = .ok (.iconst 3, 1) := by decide +kernel
theorem dL_law_692 : decode cL_law 692 = .ok (.idiv, 1) := by decide +kernel
theorem dL_law_693 : decode cL_law 693 = .ok (.iload 5, 2) := by decide +kernel
theorem dL_law_695 : decode cL_law 695 = .ok (.iconst 3, 1) := by decide +kernel
theorem dL_law_696 : decode cL_law 696 = .ok (.irem, 1) := by decide +kernel
theorem dL_law_697 : decode cL_law 697 = .ok (.invokevirtual 70, 3) := by decide +kernel
theorem dL_law_700 : decode cL_law 700 = .ok (.iload 9, 2) := by decide +kernel
theorem dL_law_702 : decode cL_law 702 = .ok (.if_icmp .ne 94, 3) := by decide +kernel
theorem dL_law_705 : decode cL_law 705 = .ok (.iload 4, 2) := by decide +kernel
theorem dL_law_707 : decode cL_law 707 = .ok (.ifCond .eq 43, 3) := by decide +kernel
theorem dL_law_710 : decode cL_law 710 = .ok (.iload 10, 2) := by decide +kernel
theorem dL_law_712 : decode cL_law 712 = .ok (.ifCond .lt 84, 3) := by decide +kernel
theorem dL_law_715 : decode cL_law 715 = .ok (.aload_n 3, 1) := by decide +kernel
theorem dL_law_716 : decode cL_law 716 = .ok (.iload 5, 2) := by decide +kernel
theorem dL_law_718 : decode cL_law 718 = .ok (.iconst 3, 1) := by decide +kernel
theorem dL_law_719 : decode cL_law 719 = .ok (.idiv, 1) := by decide +kernel
theorem dL_law_720 : decode cL_law 720 = .ok (.iload 5, 2) := by decide +kernel
theorem dL_law_722 : decode cL_law 722 = .ok (.iconst 3, 1) := by decide +kernel
theorem dL_law_723 : decode cL_law 723 = .ok (.irem, 1) := by decide +kernel
theorem dL_law_724 : decode cL_law 724 = .ok (.iconst 1, 1) := by decide +kernel
theorem dL_law_725 : decode cL_law 725 = .ok (.invokevirtual 73, 3) := by decide +kernel
theorem dL_law_728 : decode cL_law 728 = .ok (.aload_n 3, 1) := by decide +kernel
theorem dL_law_729 : decode cL_law 729 = .ok (.iload 5, 2) := by decide +kernel
theorem dL_law_731 : decode cL_law 731 = .ok (.iconst 3, 1) := by decide +kernel
theorem dL_law_732 : decode cL_law 732 = .ok (.idiv, 1) := by decide +kernel
theorem dL_law_733 : decode cL_law 733 = .ok (.aload_n 1, 1) := by decide +kernel
theorem dL_law_734 : decode cL_law 734 = .ok (.bipush 6, 2) := by decide +kernel
theorem dL_law_736 : decode cL_law 736 = .ok (.iload 5, 2) := by decide +kernel
theorem dL_law_738 : decode cL_law 738 = .ok (.iconst 3, 1) := by decide +kernel
theorem dL_law_739 : decode cL_law 739 = .ok (.idiv, 1) := by decide +kernel
theorem dL_law_740 : decode cL_law 740 = .ok (.iadd, 1) := by decide +kernel
theorem dL_law_741 : decode cL_law 741 = .ok (.iaload, 1) := by decide +kernel
theorem dL_law_742 : decode cL_law 742 = .ok (.iconst 1, 1) := by decide +kernel
theorem dL_law_743 : decode cL_law 743 = .ok (.isub, 1) := by decide +kernel
theorem dL_law_744 : decode cL_law 744 = .ok (.invokevirtual 35, 3) := by decide +kernel
theorem dL_law_747 : decode cL_law 747 = .ok (.if_icmp .gt 49, 3) := by decide +kernel
theorem dL_law_750 : decode cL_law 750 = .ok (.aload_n 3, 1) := by decide +kernel
theorem dL_law_751 : decode cL_law 751 = .ok (.iload 5, 2) := by decide +kernel
theorem dL_law_753 : decode cL_law 753 = .ok (.iconst 3, 1) := by decide +kernel
theorem dL_law_754 : decode cL_law 754 = .ok (.idiv, 1) := by decide +kernel
theorem dL_law_755 : decode cL_law 755 = .ok (.iload 5, 2) := by decide +kernel
theorem dL_law_757 : decode cL_law 757 = .ok (.iconst 3, 1) := by decide +kernel
theorem dL_law_758 : decode cL_law 758 = .ok (.irem, 1) := by decide +kernel
theorem dL_law_759 : decode cL_law 759 = .ok (.iconst 2, 1) := by decide +kernel
theorem dL_law_760 : decode cL_law 760 = .ok (.invokevirtual 32, 3) := by decide +kernel
theorem dL_law_763 : decode cL_law 763 = .ok (.aload_n 1, 1) := by decide +kernel
theorem dL_law_764 : decode cL_law 764 = .ok (.bipush 27, 2) := by decide +kernel
theorem dL_law_766 : decode cL_law 766 = .ok (.iload 5, 2) := by decide +kernel
theorem dL_law_768 : decode cL_law 768 = .ok (.iadd, 1) := by decide +kernel
theorem dL_law_769 : decode cL_law 769 = .ok (.iaload, 1) := by decide +kernel
theorem dL_law_770 : decode cL_law 770 = .ok (.if_icmp .ne 26, 3) := by decide +kernel
theorem dL_law_773 : decode cL_law 773 = .ok (.aload_n 3, 1) := by decide +kernel
theorem dL_law_774 : decode cL_law 774 = .ok (.iload 5, 2) := by decide +kernel
theorem dL_law_776 : decode cL_law 776 = .ok (.iconst 3, 1) := by decide +kernel
theorem dL_law_777 : decode cL_law 777 = .ok (.idiv, 1) := by decide +kernel
theorem dL_law_778 : decode cL_law 778 = .ok (.iload 5, 2) := by decide +kernel
theorem dL_law_780 : decode cL_law 780 = .ok (.iconst 3, 1) := by decide +kernel
theorem dL_law_781 : decode cL_law 781 = .ok (.irem, 1) := by decide +kernel
theorem dL_law_782 : decode cL_law 782 = .ok (.iconst 1, 1) := by decide +kernel
theorem dL_law_783 : decode cL_law 783 = .ok (.invokevirtual 32, 3) := by decide +kernel
theorem dL_law_786 : decode cL_law 786 = .ok (.aload_n 1, 1) := by decide +kernel
theorem dL_law_787 : decode cL_law 787 = .ok (.bipush 18, 2) := by decide +kernel
theorem dL_law_789 : decode cL_law 789 = .ok (.iload 5, 2) := by decide +kernel
theorem dL_law_791 : decode cL_law 791 = .ok (.iadd, 1) := by decide +kernel
theorem dL_law_792 : decode cL_law 792 = .ok (.iaload, 1) := by decide +kernel
theorem dL_law_793 : decode cL_law 793 = .ok (.if_icmp .eq 5, 3) := by decide +kernel
theorem dL_law_796 : decode cL_law 796 = .ok (.iconst 0, 1) := by decide +kernel
theorem dL_law_797 : decode cL_law 797 = .ok (.ireturn, 1) := by decide +kernel
theorem dL_law_798 : decode cL_law 798 = .ok (.iinc 2 1, 3) := by decide +kernel
theorem dL_law_801 : decode cL_law 801 = .ok (.goto (-794), 3) := by decide +kernel
theorem dL_law_804 : decode cL_law 804 = .ok (.iconst 1, 1) := by decide +kernel
theorem dL_law_805 : decode cL_law 805 = .ok (.ireturn, 1) := by decide +kernel
