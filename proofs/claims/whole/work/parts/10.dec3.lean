theorem dX7_programme_93 : decode cX7_programme 93 = .ok (.invokevirtual 200, 3) := by decide +kernel
theorem dX7_programme_96 : decode cX7_programme 96 = .ok (.istore 6, 2) := by decide +kernel
theorem dX7_programme_98 : decode cX7_programme 98 = .ok (.aload_n 0, 1) := by decide +kernel
theorem dX7_programme_99 : decode cX7_programme 99 = .ok (.getfield 64, 3) := by decide +kernel
theorem dX7_programme_102 : decode cX7_programme 102 = .ok (.bipush 12, 2) := by decide +kernel
theorem dX7_programme_104 : decode cX7_programme 104 = .ok (.iload 4, 2) := by decide +kernel
theorem dX7_programme_106 : decode cX7_programme 106 = .ok (.imul, 1) := by decide +kernel
theorem dX7_programme_107 : decode cX7_programme 107 = .ok (.iload_n 3, 1) := by decide +kernel
theorem dX7_programme_108 : decode cX7_programme 108 = .ok (.iadd, 1) := by decide +kernel
theorem dX7_programme_109 : decode cX7_programme 109 = .ok (.iload 5, 2) := by decide +kernel
theorem dX7_programme_111 : decode cX7_programme 111 = .ok (.ifCond .eq 13, 3) := by decide +kernel
theorem dX7_programme_114 : decode cX7_programme 114 = .ok (.aload_n 0, 1) := by decide +kernel
theorem dX7_programme_115 : decode cX7_programme 115 = .ok (.iload_n 3, 1) := by decide +kernel
theorem dX7_programme_116 : decode cX7_programme 116 = .ok (.iload 6, 2) := by decide +kernel
theorem dX7_programme_118 : decode cX7_programme 118 = .ok (.invokevirtual 194, 3) := by decide +kernel
theorem dX7_programme_121 : decode cX7_programme 121 = .ok (.goto 5, 3) := by decide +kernel
theorem dX7_programme_124 : decode cX7_programme 124 = .ok (.bipush (-2), 2) := by decide +kernel
theorem dX7_programme_126 : decode cX7_programme 126 = .ok (.iastore, 1) := by decide +kernel
theorem dX7_programme_127 : decode cX7_programme 127 = .ok (.aload_n 0, 1) := by decide +kernel
theorem dX7_programme_128 : decode cX7_programme 128 = .ok (.getfield 67, 3) := by decide +kernel
theorem dX7_programme_131 : decode cX7_programme 131 = .ok (.bipush 12, 2) := by decide +kernel
theorem dX7_programme_133 : decode cX7_programme 133 = .ok (.iload 4, 2) := by decide +kernel
theorem dX7_programme_135 : decode cX7_programme 135 = .ok (.imul, 1) := by decide +kernel
theorem dX7_programme_136 : decode cX7_programme 136 = .ok (.iload_n 3, 1) := by decide +kernel
theorem dX7_programme_137 : decode cX7_programme 137 = .ok (.iadd, 1) := by decide +kernel
theorem dX7_programme_138 : decode cX7_programme 138 = .ok (.aload_n 0, 1) := by decide +kernel
theorem dX7_programme_139 : decode cX7_programme 139 = .ok (.getfield 64, 3) := by decide +kernel
theorem dX7_programme_142 : decode cX7_programme 142 = .ok (.bipush 12, 2) := by decide +kernel
theorem dX7_programme_144 : decode cX7_programme 144 = .ok (.iload 4, 2) := by decide +kernel
theorem dX7_programme_146 : decode cX7_programme 146 = .ok (.imul, 1) := by decide +kernel
theorem dX7_programme_147 : decode cX7_programme 147 = .ok (.iload_n 3, 1) := by decide +kernel
theorem dX7_programme_148 : decode cX7_programme 148 = .ok (.iadd, 1) := by decide +kernel
theorem dX7_programme_149 : decode cX7_programme 149 = .ok (.iaload, 1) := by decide +kernel
theorem dX7_programme_150 : decode cX7_programme 150 = .ok (.ifCond .ge 7, 3) := by decide +kernel
theorem dX7_programme_153 : decode cX7_programme 153 = .ok (.iconst 0, 1) := by decide +kernel
theorem dX7_programme_154 : decode cX7_programme 154 = .ok (.goto 22, 3) := by decide +kernel
theorem dX7_programme_157 : decode cX7_programme 157 = .ok (.aload_n 0, 1) := by decide +kernel
theorem dX7_programme_158 : decode cX7_programme 158 = .ok (.iload_n 3, 1) := by decide +kernel
theorem dX7_programme_159 : decode cX7_programme 159 = .ok (.aload_n 0, 1) := by decide +kernel
theorem dX7_programme_160 : decode cX7_programme 160 = .ok (.getfield 64, 3) := by decide +kernel
theorem dX7_programme_163 : decode cX7_programme 163 = .ok (.bipush 12, 2) := by decide +kernel
theorem dX7_programme_165 : decode cX7_programme 165 = .ok (.iload 4, 2) := by decide +kernel
theorem dX7_programme_167 : decode cX7_programme 167 = .ok (.imul, 1) := by decide +kernel
theorem dX7_programme_168 : decode cX7_programme 168 = .ok (.iload_n 3, 1) := by decide +kernel
theorem dX7_programme_169 : decode cX7_programme 169 = .ok (.iadd, 1) := by decide +kernel
theorem dX7_programme_170 : decode cX7_programme 170 = .ok (.iaload, 1) := by decide +kernel
theorem dX7_programme_171 : decode cX7_programme 171 = .ok (.iload 6, 2) := by decide +kernel
theorem dX7_programme_173 : decode cX7_programme 173 = .ok (.invokevirtual 188, 3) := by decide +kernel
theorem dX7_programme_176 : decode cX7_programme 176 = .ok (.iastore, 1) := by decide +kernel
theorem dX7_programme_177 : decode cX7_programme 177 = .ok (.iinc 4 1, 3) := by decide +kernel
theorem dX7_programme_180 : decode cX7_programme 180 = .ok (.goto (-128), 3) := by decide +kernel
theorem dX7_programme_183 : decode cX7_programme 183 = .ok (.iinc 3 1, 3) := by decide +kernel
theorem dX7_programme_186 : decode cX7_programme 186 = .ok (.goto (-150), 3) := by decide +kernel
theorem dX7_programme_189 : decode cX7_programme 189 = .ok (.aload_n 0, 1) := by decide +kernel
theorem dX7_programme_190 : decode cX7_programme 190 = .ok (.getfield 70, 3) := by decide +kernel
theorem dX7_programme_193 : decode cX7_programme 193 = .ok (.iload_n 2, 1) := by decide +kernel
theorem dX7_programme_194 : decode cX7_programme 194 = .ok (.iconst 0, 1) := by decide +kernel
theorem dX7_programme_195 : decode cX7_programme 195 = .ok (.iastore, 1) := by decide +kernel
theorem dX7_programme_196 : decode cX7_programme 196 = .ok (.iload_n 2, 1) := by decide +kernel
theorem dX7_programme_197 : decode cX7_programme 197 = .ok (.iconst 1, 1) := by decide +kernel
theorem dX7_programme_198 : decode cX7_programme 198 = .ok (.isub, 1) := by decide +kernel
theorem dX7_programme_199 : decode cX7_programme 199 = .ok (.istore_n 3, 1) := by decide +kernel
theorem dX7_programme_200 : decode cX7_programme 200 = .ok (.iload_n 3, 1) := by decide +kernel
theorem dX7_programme_201 : decode cX7_programme 201 = .ok (.ifCond .lt 106, 3) := by decide +kernel
theorem dX7_programme_204 : decode cX7_programme 204 = .ok (.iconst (-1), 1) := by decide +kernel
theorem dX7_programme_205 : decode cX7_programme 205 = .ok (.istore 4, 2) := by decide +kernel
theorem dX7_programme_207 : decode cX7_programme 207 = .ok (.iconst 0, 1) := by decide +kernel
theorem dX7_programme_208 : decode cX7_programme 208 = .ok (.istore 5, 2) := by decide +kernel
theorem dX7_programme_210 : decode cX7_programme 210 = .ok (.iload 5, 2) := by decide +kernel
theorem dX7_programme_212 : decode cX7_programme 212 = .ok (.aload_n 0, 1) := by decide +kernel
theorem dX7_programme_213 : decode cX7_programme 213 = .ok (.getfield 151, 3) := by decide +kernel
theorem dX7_programme_216 : decode cX7_programme 216 = .ok (.if_icmp .ge 60, 3) := by decide +kernel
theorem dX7_programme_219 : decode cX7_programme 219 = .ok (.aload_n 0, 1) := by decide +kernel
theorem dX7_programme_220 : decode cX7_programme 220 = .ok (.getfield 64, 3) := by decide +kernel
theorem dX7_programme_223 : decode cX7_programme 223 = .ok (.bipush 12, 2) := by decide +kernel
theorem dX7_programme_225 : decode cX7_programme 225 = .ok (.iload_n 3, 1) := by decide +kernel
theorem dX7_programme_226 : decode cX7_programme 226 = .ok (.imul, 1) := by decide +kernel
theorem dX7_programme_227 : decode cX7_programme 227 = .ok (.iload 5, 2) := by decide +kernel
theorem dX7_programme_229 : decode cX7_programme 229 = .ok (.iadd, 1) := by decide +kernel
theorem dX7_programme_230 : decode cX7_programme 230 = .ok (.iaload, 1) := by decide +kernel
theorem dX7_programme_231 : decode cX7_programme 231 = .ok (.ifCond .lt 39, 3) := by decide +kernel
theorem dX7_programme_234 : decode cX7_programme 234 = .ok (.iload 4, 2) := by decide +kernel
theorem dX7_programme_236 : decode cX7_programme 236 = .ok (.ifCond .lt 20, 3) := by decide +kernel
theorem dX7_programme_239 : decode cX7_programme 239 = .ok (.aload_n 0, 1) := by decide +kernel
theorem dX7_programme_240 : decode cX7_programme 240 = .ok (.getfield 67, 3) := by decide +kernel
theorem dX7_programme_243 : decode cX7_programme 243 = .ok (.bipush 12, 2) := by decide +kernel
theorem dX7_programme_245 : decode cX7_programme 245 = .ok (.iload_n 3, 1) := by decide +kernel
theorem dX7_programme_246 : decode cX7_programme 246 = .ok (.imul, 1) := by decide +kernel
theorem dX7_programme_247 : decode cX7_programme 247 = .ok (.iload 5, 2) := by decide +kernel
theorem dX7_programme_249 : decode cX7_programme 249 = .ok (.iadd, 1) := by decide +kernel
theorem dX7_programme_250 : decode cX7_programme 250 = .ok (.iaload, 1) := by decide +kernel
theorem dX7_programme_251 : decode cX7_programme 251 = .ok (.iload 4, 2) := by decide +kernel
theorem dX7_programme_253 : decode cX7_programme 253 = .ok (.if_icmp .ge 17, 3) := by decide +kernel
theorem dX7_programme_256 : decode cX7_programme 256 = .ok (.aload_n 0, 1) := by decide +kernel
theorem dX7_programme_257 : decode cX7_programme 257 = .ok (.getfield 67, 3) := by decide +kernel
theorem dX7_programme_260 : decode cX7_programme 260 = .ok (.bipush 12, 2) := by decide +kernel
theorem dX7_programme_262 : decode cX7_programme 262 = .ok (.iload_n 3, 1) := by decide +kernel
theorem dX7_programme_263 : decode cX7_programme 263 = .ok (.imul, 1) := by decide +kernel
theorem dX7_programme_264 : decode cX7_programme 264 = .ok (.iload 5, 2) := by decide +kernel
theorem dX7_programme_266 : decode cX7_programme 266 = .ok (.iadd, 1) := by decide +kernel
theorem dX7_programme_267 : decode cX7_programme 267 = .ok (.iaload, 1) := by decide +kernel
theorem dX7_programme_268 : decode cX7_programme 268 = .ok (.istore 4, 2) := by decide +kernel
theorem dX7_programme_270 : decode cX7_programme 270 = .ok (.iinc 5 1, 3) := by decide +kernel
theorem dX7_programme_273 : decode cX7_programme 273 = .ok (.goto (-63), 3) := by decide +kernel
theorem dX7_programme_276 : decode cX7_programme 276 = .ok (.iload 4, 2) := by decide +kernel
theorem dX7_programme_278 : decode cX7_programme 278 = .ok (.ifCond .ge 6, 3) := by decide +kernel
theorem dX7_programme_281 : decode cX7_programme 281 = .ok (.bipush (-2), 2) := by decide +kernel
theorem dX7_programme_283 : decode cX7_programme 283 = .ok (.ireturn, 1) := by decide +kernel
theorem dX7_programme_284 : decode cX7_programme 284 = .ok (.aload_n 0, 1) := by decide +kernel
theorem dX7_programme_285 : decode cX7_programme 285 = .ok (.getfield 70, 3) := by decide +kernel
theorem dX7_programme_288 : decode cX7_programme 288 = .ok (.iload_n 3, 1) := by decide +kernel
theorem dX7_programme_289 : decode cX7_programme 289 = .ok (.aload_n 0, 1) := by decide +kernel
theorem dX7_programme_290 : decode cX7_programme 290 = .ok (.getfield 70, 3) := by decide +kernel
theorem dX7_programme_293 : decode cX7_programme 293 = .ok (.iload_n 3, 1) := by decide +kernel
theorem dX7_programme_294 : decode cX7_programme 294 = .ok (.iconst 1, 1) := by decide +kernel
theorem dX7_programme_295 : decode cX7_programme 295 = .ok (.iadd, 1) := by decide +kernel
theorem dX7_programme_296 : decode cX7_programme 296 = .ok (.iaload, 1) := by decide +kernel
theorem dX7_programme_297 : decode cX7_programme 297 = .ok (.iload 4, 2) := by decide +kernel
theorem dX7_programme_299 : decode cX7_programme 299 = .ok (.iadd, 1) := by decide +kernel
theorem dX7_programme_300 : decode cX7_programme 300 = .ok (.iastore, 1) := by decide +kernel
theorem dX7_programme_301 : decode cX7_programme 301 = .ok (.iinc 3 (-1), 3) := by decide +kernel
theorem dX7_programme_304 : decode cX7_programme 304 = .ok (.goto (-104), 3) := by decide +kernel
theorem dX7_programme_307 : decode cX7_programme 307 = .ok (.iconst (-1), 1) := by decide +kernel
theorem dX7_programme_308 : decode cX7_programme 308 = .ok (.istore_n 3, 1) := by decide +kernel
theorem dX7_programme_309 : decode cX7_programme 309 = .ok (.iconst 0, 1) := by decide +kernel
theorem dX7_programme_310 : decode cX7_programme 310 = .ok (.istore 4, 2) := by decide +kernel
theorem dX7_programme_312 : decode cX7_programme 312 = .ok (.aload_n 0, 1) := by decide +kernel
theorem dX7_programme_313 : decode cX7_programme 313 = .ok (.getfield 73, 3) := by decide +kernel
theorem dX7_programme_316 : decode cX7_programme 316 = .ok (.iconst 0, 1) := by decide +kernel
theorem dX7_programme_317 : decode cX7_programme 317 = .ok (.iconst (-1), 1) := by decide +kernel
theorem dX7_programme_318 : decode cX7_programme 318 = .ok (.iastore, 1) := by decide +kernel
theorem dX7_programme_319 : decode cX7_programme 319 = .ok (.iload 4, 2) := by decide +kernel
theorem dX7_programme_321 : decode cX7_programme 321 = .ok (.ifCond .lt 201, 3) := by decide +kernel
theorem dX7_programme_324 : decode cX7_programme 324 = .ok (.aload_n 0, 1) := by decide +kernel
theorem dX7_programme_325 : decode cX7_programme 325 = .ok (.getfield 73, 3) := by decide +kernel
theorem dX7_programme_328 : decode cX7_programme 328 = .ok (.iload 4, 2) := by decide +kernel
theorem dX7_programme_330 : decode cX7_programme 330 = .ok (.dup2, 1) := by decide +kernel
theorem dX7_programme_331 : decode cX7_programme 331 = .ok (.iaload, 1) := by decide +kernel
theorem dX7_programme_332 : decode cX7_programme 332 = .ok (.iconst 1, 1) := by decide +kernel
theorem dX7_programme_333 : decode cX7_programme 333 = .ok (.iadd, 1) := by decide +kernel
theorem dX7_programme_334 : decode cX7_programme 334 = .ok (.iastore, 1) := by decide +kernel
theorem dX7_programme_335 : decode cX7_programme 335 = .ok (.aload_n 0, 1) := by decide +kernel
theorem dX7_programme_336 : decode cX7_programme 336 = .ok (.getfield 73, 3) := by decide +kernel
theorem dX7_programme_339 : decode cX7_programme 339 = .ok (.iload 4, 2) := by decide +kernel
theorem dX7_programme_341 : decode cX7_programme 341 = .ok (.iaload, 1) := by decide +kernel
theorem dX7_programme_342 : decode cX7_programme 342 = .ok (.aload_n 0, 1) := by decide +kernel
theorem dX7_programme_343 : decode cX7_programme 343 = .ok (.getfield 151, 3) := by decide +kernel
theorem dX7_programme_346 : decode cX7_programme 346 = .ok (.if_icmp .ne 9, 3) := by decide +kernel
theorem dX7_programme_349 : decode cX7_programme 349 = .ok (.iinc 4 (-1), 3) := by decide +kernel
theorem dX7_programme_352 : decode cX7_programme 352 = .ok (.goto (-33), 3) := by decide +kernel
theorem dX7_programme_355 : decode cX7_programme 355 = .ok (.aload_n 0, 1) := by decide +kernel
theorem dX7_programme_356 : decode cX7_programme 356 = .ok (.iload 4, 2) := by decide +kernel
theorem dX7_programme_358 : decode cX7_programme 358 = .ok (.invokevirtual 203, 3) := by decide +kernel
theorem dX7_programme_361 : decode cX7_programme 361 = .ok (.ifCond .eq (-42), 3) := by decide +kernel
theorem dX7_programme_364 : decode cX7_programme 364 = .ok (.iload_n 3, 1) := by decide +kernel
theorem dX7_programme_365 : decode cX7_programme 365 = .ok (.ifCond .lt 28, 3) := by decide +kernel
theorem dX7_programme_368 : decode cX7_programme 368 = .ok (.aload_n 0, 1) := by decide +kernel
theorem dX7_programme_369 : decode cX7_programme 369 = .ok (.iload 4, 2) := by decide +kernel
theorem dX7_programme_371 : decode cX7_programme 371 = .ok (.iconst 1, 1) := by decide +kernel
theorem dX7_programme_372 : decode cX7_programme 372 = .ok (.iadd, 1) := by decide +kernel
theorem dX7_programme_373 : decode cX7_programme 373 = .ok (.invokevirtual 206, 3) := by decide +kernel
theorem dX7_programme_376 : decode cX7_programme 376 = .ok (.aload_n 0, 1) := by decide +kernel
theorem dX7_programme_377 : decode cX7_programme 377 = .ok (.getfield 70, 3) := by decide +kernel
theorem dX7_programme_380 : decode cX7_programme 380 = .ok (.iload 4, 2) := by decide +kernel
theorem dX7_programme_382 : decode cX7_programme 382 = .ok (.iconst 1, 1) := by decide +kernel
theorem dX7_programme_383 : decode cX7_programme 383 = .ok (.iadd, 1) := by decide +kernel
theorem dX7_programme_384 : decode cX7_programme 384 = .ok (.iaload, 1) := by decide +kernel
theorem dX7_programme_385 : decode cX7_programme 385 = .ok (.iadd, 1) := by decide +kernel
theorem dX7_programme_386 : decode cX7_programme 386 = .ok (.iload_n 3, 1) := by decide +kernel
theorem dX7_programme_387 : decode cX7_programme 387 = .ok (.if_icmp .lt 6, 3) := by decide +kernel
theorem dX7_programme_390 : decode cX7_programme 390 = .ok (.goto (-71), 3) := by decide +kernel
theorem dX7_programme_393 : decode cX7_programme 393 = .ok (.iload 4, 2) := by decide +kernel
theorem dX7_programme_395 : decode cX7_programme 395 = .ok (.iload_n 2, 1) := by decide +kernel
theorem dX7_programme_396 : decode cX7_programme 396 = .ok (.iconst 1, 1) := by decide +kernel
theorem dX7_programme_397 : decode cX7_programme 397 = .ok (.isub, 1) := by decide +kernel
theorem dX7_programme_398 : decode cX7_programme 398 = .ok (.if_icmp .ge 17, 3) := by decide +kernel
theorem dX7_programme_401 : decode cX7_programme 401 = .ok (.iinc 4 1, 3) := by decide +kernel
theorem dX7_programme_404 : decode cX7_programme 404 = .ok (.aload_n 0, 1) := by decide +kernel
theorem dX7_programme_405 : decode cX7_programme 405 = .ok (.getfield 73, 3) := by decide +kernel
theorem dX7_programme_408 : decode cX7_programme 408 = .ok (.iload 4, 2) := by decide +kernel
theorem dX7_programme_410 : decode cX7_programme 410 = .ok (.iconst (-1), 1) := by decide +kernel
theorem dX7_programme_411 : decode cX7_programme 411 = .ok (.iastore, 1) := by decide +kernel
theorem dX7_programme_412 : decode cX7_programme 412 = .ok (.goto (-93), 3) := by decide +kernel
theorem dX7_programme_415 : decode cX7_programme 415 = .ok (.aload_n 0, 1) := by decide +kernel
theorem dX7_programme_416 : decode cX7_programme 416 = .ok (.iload_n 2, 1) := by decide +kernel
theorem dX7_programme_417 : decode cX7_programme 417 = .ok (.invokevirtual 206, 3) := by decide +kernel
theorem dX7_programme_420 : decode cX7_programme 420 = .ok (.istore_n 3, 1) := by decide +kernel
theorem dX7_programme_421 : decode cX7_programme 421 = .ok (.aload_n 0, 1) := by decide +kernel
theorem dX7_programme_422 : decode cX7_programme 422 = .ok (.iload_n 2, 1) := by decide +kernel
theorem dX7_programme_423 : decode cX7_programme 423 = .ok (.putfield 209, 3) := by decide +kernel
theorem dX7_programme_426 : decode cX7_programme 426 = .ok (.iconst 0, 1) := by decide +kernel
theorem dX7_programme_427 : decode cX7_programme 427 = .ok (.istore 5, 2) := by decide +kernel
theorem dX7_programme_429 : decode cX7_programme 429 = .ok (.iload 5, 2) := by decide +kernel
theorem dX7_programme_431 : decode cX7_programme 431 = .ok (.iload_n 2, 1) := by decide +kernel
theorem dX7_programme_432 : decode cX7_programme 432 = .ok (.if_icmp .ge 87, 3) := by decide +kernel
theorem dX7_programme_435 : decode cX7_programme 435 = .ok (.aload_n 0, 1) := by decide +kernel
theorem dX7_programme_436 : decode cX7_programme 436 = .ok (.getfield 76, 3) := by decide +kernel
theorem dX7_programme_439 : decode cX7_programme 439 = .ok (.iload 5, 2) := by decide +kernel
theorem dX7_programme_441 : decode cX7_programme 441 = .ok (.aload_n 0, 1) := by decide +kernel
theorem dX7_programme_442 : decode cX7_programme 442 = .ok (.getfield 73, 3) := by decide +kernel
theorem dX7_programme_445 : decode cX7_programme 445 = .ok (.iload 5, 2) := by decide +kernel
theorem dX7_programme_447 : decode cX7_programme 447 = .ok (.iaload, 1) := by decide +kernel
theorem dX7_programme_448 : decode cX7_programme 448 = .ok (.iastore, 1) := by decide +kernel
theorem dX7_programme_449 : decode cX7_programme 449 = .ok (.aload_n 0, 1) := by decide +kernel
theorem dX7_programme_450 : decode cX7_programme 450 = .ok (.getfield 79, 3) := by decide +kernel
theorem dX7_programme_453 : decode cX7_programme 453 = .ok (.iload 5, 2) := by decide +kernel
theorem dX7_programme_455 : decode cX7_programme 455 = .ok (.aload_n 0, 1) := by decide +kernel
theorem dX7_programme_456 : decode cX7_programme 456 = .ok (.getfield 64, 3) := by decide +kernel
theorem dX7_programme_459 : decode cX7_programme 459 = .ok (.bipush 12, 2) := by decide +kernel
theorem dX7_programme_461 : decode cX7_programme 461 = .ok (.iload 5, 2) := by decide +kernel
theorem dX7_programme_463 : decode cX7_programme 463 = .ok (.imul, 1) := by decide +kernel
theorem dX7_programme_464 : decode cX7_programme 464 = .ok (.aload_n 0, 1) := by decide +kernel
theorem dX7_programme_465 : decode cX7_programme 465 = .ok (.getfield 73, 3) := by decide +kernel
theorem dX7_programme_468 : decode cX7_programme 468 = .ok (.iload 5, 2) := by decide +kernel
theorem dX7_programme_470 : decode cX7_programme 470 = .ok (.iaload, 1) := by decide +kernel
theorem dX7_programme_471 : decode cX7_programme 471 = .ok (.iadd, 1) := by decide +kernel
theorem dX7_programme_472 : decode cX7_programme 472 = .ok (.iaload, 1) := by decide +kernel
theorem dX7_programme_473 : decode cX7_programme 473 = .ok (.iastore, 1) := by decide +kernel
theorem dX7_programme_474 : decode cX7_programme 474 = .ok (.aload_n 0, 1) := by decide +kernel
theorem dX7_programme_475 : decode cX7_programme 475 = .ok (.getfield 82, 3) := by decide +kernel
theorem dX7_programme_478 : decode cX7_programme 478 = .ok (.iload 5, 2) := by decide +kernel
theorem dX7_programme_480 : decode cX7_programme 480 = .ok (.aload_n 0, 1) := by decide +kernel
theorem dX7_programme_481 : decode cX7_programme 481 = .ok (.getfield 67, 3) := by decide +kernel
theorem dX7_programme_484 : decode cX7_programme 484 = .ok (.bipush 12, 2) := by decide +kernel
theorem dX7_programme_486 : decode cX7_programme 486 = .ok (.iload 5, 2) := by decide +kernel
theorem dX7_programme_488 : decode cX7_programme 488 = .ok (.imul, 1) := by decide +kernel
theorem dX7_programme_489 : decode cX7_programme 489 = .ok (.aload_n 0, 1) := by decide +kernel
theorem dX7_programme_490 : decode cX7_programme 490 = .ok (.getfield 73, 3) := by decide +kernel
theorem dX7_programme_493 : decode cX7_programme 493 = .ok (.iload 5, 2) := by decide +kernel
theorem dX7_programme_495 : decode cX7_programme 495 = .ok (.iaload, 1) := by decide +kernel
theorem dX7_programme_496 : decode cX7_programme 496 = .ok (.iadd, 1) := by decide +kernel
theorem dX7_programme_497 : decode cX7_programme 497 = .ok (.iaload, 1) := by decide +kernel
theorem dX7_programme_498 : decode cX7_programme 498 = .ok (.iastore, 1) := by decide +kernel
theorem dX7_programme_499 : decode cX7_programme 499 = .ok (.aload_n 0, 1) := by decide +kernel
theorem dX7_programme_500 : decode cX7_programme 500 = .ok (.getfield 85, 3) := by decide +kernel
theorem dX7_programme_503 : decode cX7_programme 503 = .ok (.iload 5, 2) := by decide +kernel
theorem dX7_programme_505 : decode cX7_programme 505 = .ok (.aload_n 0, 1) := by decide +kernel
theorem dX7_programme_506 : decode cX7_programme 506 = .ok (.iload 5, 2) := by decide +kernel
theorem dX7_programme_508 : decode cX7_programme 508 = .ok (.iload_n 1, 1) := by decide +kernel
theorem dX7_programme_509 : decode cX7_programme 509 = .ok (.invokevirtual 200, 3) := by decide +kernel
theorem dX7_programme_512 : decode cX7_programme 512 = .ok (.iastore, 1) := by decide +kernel
theorem dX7_programme_513 : decode cX7_programme 513 = .ok (.iinc 5 1, 3) := by decide +kernel
theorem dX7_programme_516 : decode cX7_programme 516 = .ok (.goto (-87), 3) := by decide +kernel
theorem dX7_programme_519 : decode cX7_programme 519 = .ok (.goto (-200), 3) := by decide +kernel
theorem dX7_programme_522 : decode cX7_programme 522 = .ok (.iconst 0, 1) := by decide +kernel
theorem dX7_programme_523 : decode cX7_programme 523 = .ok (.istore 5, 2) := by decide +kernel
theorem dX7_programme_525 : decode cX7_programme 525 = .ok (.iload 5, 2) := by decide +kernel
theorem dX7_programme_527 : decode cX7_programme 527 = .ok (.aload_n 0, 1) := by decide +kernel
theorem dX7_programme_528 : decode cX7_programme 528 = .ok (.getfield 209, 3) := by decide +kernel
theorem dX7_programme_531 : decode cX7_programme 531 = .ok (.if_icmp .ge 90, 3) := by decide +kernel
theorem dX7_programme_534 : decode cX7_programme 534 = .ok (.iload_n 3, 1) := by decide +kernel
theorem dX7_programme_535 : decode cX7_programme 535 = .ok (.ifCond .lt 86, 3) := by decide +kernel
theorem dX7_programme_538 : decode cX7_programme 538 = .ok (.aload_n 0, 1) := by decide +kernel
theorem dX7_programme_539 : decode cX7_programme 539 = .ok (.aload_n 0, 1) := by decide +kernel
theorem dX7_programme_540 : decode cX7_programme 540 = .ok (.getfield 76, 3) := by decide +kernel
theorem dX7_programme_543 : decode cX7_programme 543 = .ok (.iload 5, 2) := by decide +kernel
theorem dX7_programme_545 : decode cX7_programme 545 = .ok (.iaload, 1) := by decide +kernel
theorem dX7_programme_546 : decode cX7_programme 546 = .ok (.invokevirtual 170, 3) := by decide +kernel
theorem dX7_programme_549 : decode cX7_programme 549 = .ok (.aload_n 0, 1) := by decide +kernel
theorem dX7_programme_550 : decode cX7_programme 550 = .ok (.getfield 88, 3) := by decide +kernel
theorem dX7_programme_553 : decode cX7_programme 553 = .ok (.iload 5, 2) := by decide +kernel
theorem dX7_programme_555 : decode cX7_programme 555 = .ok (.aload_n 0, 1) := by decide +kernel
theorem dX7_programme_556 : decode cX7_programme 556 = .ok (.aload_n 0, 1) := by decide +kernel
theorem dX7_programme_557 : decode cX7_programme 557 = .ok (.getfield 76, 3) := by decide +kernel
theorem dX7_programme_560 : decode cX7_programme 560 = .ok (.iload 5, 2) := by decide +kernel
theorem dX7_programme_562 : decode cX7_programme 562 = .ok (.iaload, 1) := by decide +kernel
theorem dX7_programme_563 : decode cX7_programme 563 = .ok (.aload_n 0, 1) := by decide +kernel
theorem dX7_programme_564 : decode cX7_programme 564 = .ok (.getfield 79, 3) := by decide +kernel
theorem dX7_programme_567 : decode cX7_programme 567 = .ok (.iload 5, 2) := by decide +kernel
theorem dX7_programme_569 : decode cX7_programme 569 = .ok (.iaload, 1) := by decide +kernel
theorem dX7_programme_570 : decode cX7_programme 570 = .ok (.invokevirtual 174, 3) := by decide +kernel
theorem dX7_programme_573 : decode cX7_programme 573 = .ok (.iastore, 1) := by decide +kernel
theorem dX7_programme_574 : decode cX7_programme 574 = .ok (.iconst 0, 1) := by decide +kernel
theorem dX7_programme_575 : decode cX7_programme 575 = .ok (.istore 6, 2) := by decide +kernel
theorem dX7_programme_577 : decode cX7_programme 577 = .ok (.iload 6, 2) := by decide +kernel
theorem dX7_programme_579 : decode cX7_programme 579 = .ok (.aload_n 0, 1) := by decide +kernel
theorem dX7_programme_580 : decode cX7_programme 580 = .ok (.getfield 88, 3) := by decide +kernel
theorem dX7_programme_583 : decode cX7_programme 583 = .ok (.iload 5, 2) := by decide +kernel
theorem dX7_programme_585 : decode cX7_programme 585 = .ok (.iaload, 1) := by decide +kernel
theorem dX7_programme_586 : decode cX7_programme 586 = .ok (.if_icmp .ge 29, 3) := by decide +kernel
theorem dX7_programme_589 : decode cX7_programme 589 = .ok (.aload_n 0, 1) := by decide +kernel
theorem dX7_programme_590 : decode cX7_programme 590 = .ok (.getfield 91, 3) := by decide +kernel
theorem dX7_programme_593 : decode cX7_programme 593 = .ok (.bipush 16, 2) := by decide +kernel
theorem dX7_programme_595 : decode cX7_programme 595 = .ok (.iload 5, 2) := by decide +kernel
theorem dX7_programme_597 : decode cX7_programme 597 = .ok (.imul, 1) := by decide +kernel
theorem dX7_programme_598 : decode cX7_programme 598 = .ok (.iload 6, 2) := by decide +kernel
theorem dX7_programme_600 : decode cX7_programme 600 = .ok (.iadd, 1) := by decide +kernel
theorem dX7_programme_601 : decode cX7_programme 601 = .ok (.aload_n 0, 1) := by decide +kernel
theorem dX7_programme_602 : decode cX7_programme 602 = .ok (.getfield 54, 3) := by decide +kernel
theorem dX7_programme_605 : decode cX7_programme 605 = .ok (.iload 6, 2) := by decide +kernel
theorem dX7_programme_607 : decode cX7_programme 607 = .ok (.iaload, 1) := by decide +kernel
theorem dX7_programme_608 : decode cX7_programme 608 = .ok (.iastore, 1) := by decide +kernel
theorem dX7_programme_609 : decode cX7_programme 609 = .ok (.iinc 6 1, 3) := by decide +kernel
theorem dX7_programme_612 : decode cX7_programme 612 = .ok (.goto (-35), 3) := by decide +kernel
theorem dX7_programme_615 : decode cX7_programme 615 = .ok (.iinc 5 1, 3) := by decide +kernel
theorem dX7_programme_618 : decode cX7_programme 618 = .ok (.goto (-93), 3) := by decide +kernel
theorem dX7_programme_621 : decode cX7_programme 621 = .ok (.iload_n 3, 1) := by decide +kernel
theorem dX7_programme_622 : decode cX7_programme 622 = .ok (.ifCond .ge 8, 3) := by decide +kernel
theorem dX7_programme_625 : decode cX7_programme 625 = .ok (.bipush (-2), 2) := by decide +kernel
theorem dX7_programme_627 : decode cX7_programme 627 = .ok (.goto 4, 3) := by decide +kernel
theorem dX7_programme_630 : decode cX7_programme 630 = .ok (.iload_n 3, 1) := by decide +kernel
theorem dX7_programme_631 : decode cX7_programme 631 = .ok (.ireturn, 1) := by decide +kernel
theorem dX7_given_0 : decode cX7_given 0 = .ok (.iload_n 1, 1) := by decide +kernel
theorem dX7_given_1 : decode cX7_given 1 = .ok (.iconst 0, 1) := by decide +kernel
theorem dX7_given_2 : decode cX7_given 2 = .ok (.aload_n 0, 1) := by decide +kernel
theorem dX7_given_3 : decode cX7_given 3 = .ok (.getfield 209, 3) := by decide +kernel
theorem dX7_given_6 : decode cX7_given 6 = .ok (.iconst 1, 1) := by decide +kernel
theorem dX7_given_7 : decode cX7_given 7 = .ok (.isub, 1) := by decide +kernel
theorem dX7_given_8 : decode cX7_given 8 = .ok (.invokestatic 130, 3) := by decide +kernel
theorem dX7_given_11 : decode cX7_given 11 = .ok (.ifCond .ne 5, 3) := by decide +kernel
theorem dX7_given_14 : decode cX7_given 14 = .ok (.iconst (-1), 1) := by decide +kernel
theorem dX7_given_15 : decode cX7_given 15 = .ok (.ireturn, 1) := by decide +kernel
theorem dX7_given_16 : decode cX7_given 16 = .ok (.iload_n 2, 1) := by decide +kernel
theorem dX7_given_17 : decode cX7_given 17 = .ok (.tableswitch 94 0 3 #[31, 38, 45, 52], 31) := by decide +kernel
theorem dX7_given_48 : decode cX7_given 48 = .ok (.aload_n 0, 1) := by decide +kernel
theorem dX7_given_49 : decode cX7_given 49 = .ok (.getfield 76, 3) := by decide +kernel
theorem dX7_given_52 : decode cX7_given 52 = .ok (.iload_n 1, 1) := by decide +kernel
theorem dX7_given_53 : decode cX7_given 53 = .ok (.iaload, 1) := by decide +kernel
theorem dX7_given_54 : decode cX7_given 54 = .ok (.ireturn, 1) := by decide +kernel
theorem dX7_given_55 : decode cX7_given 55 = .ok (.aload_n 0, 1) := by decide +kernel
theorem dX7_given_56 : decode cX7_given 56 = .ok (.getfield 79, 3) := by decide +kernel
theorem dX7_given_59 : decode cX7_given 59 = .ok (.iload_n 1, 1) := by decide +kernel
theorem dX7_given_60 : decode cX7_given 60 = .ok (.iaload, 1) := by decide +kernel
theorem dX7_given_61 : decode cX7_given 61 = .ok (.ireturn, 1) := by decide +kernel
theorem dX7_given_62 : decode cX7_given 62 = .ok (.aload_n 0, 1) := by decide +kernel
theorem dX7_given_63 : decode cX7_given 63 = .ok (.getfield 82, 3) := by decide +kernel
theorem dX7_given_66 : decode cX7_given 66 = .ok (.iload_n 1, 1) := by decide +kernel
theorem dX7_given_67 : decode cX7_given 67 = .ok (.iaload, 1) := by decide +kernel
theorem dX7_given_68 : decode cX7_given 68 = .ok (.ireturn, 1) := by decide +kernel
theorem dX7_given_69 : decode cX7_given 69 = .ok (.iload_n 1, 1) := by decide +kernel
theorem dX7_given_70 : decode cX7_given 70 = .ok (.aload_n 0, 1) := by decide +kernel
theorem dX7_given_71 : decode cX7_given 71 = .ok (.getfield 209, 3) := by decide +kernel
theorem dX7_given_74 : decode cX7_given 74 = .ok (.iconst 1, 1) := by decide +kernel
theorem dX7_given_75 : decode cX7_given 75 = .ok (.isub, 1) := by decide +kernel
theorem dX7_given_76 : decode cX7_given 76 = .ok (.if_icmp .ne 7, 3) := by decide +kernel
theorem dX7_given_79 : decode cX7_given 79 = .ok (.iconst 0, 1) := by decide +kernel
theorem dX7_given_80 : decode cX7_given 80 = .ok (.goto 30, 3) := by decide +kernel
theorem dX7_given_83 : decode cX7_given 83 = .ok (.aload_n 0, 1) := by decide +kernel
theorem dX7_given_84 : decode cX7_given 84 = .ok (.getfield 20, 3) := by decide +kernel
theorem dX7_given_87 : decode cX7_given 87 = .ok (.aload_n 0, 1) := by decide +kernel
theorem dX7_given_88 : decode cX7_given 88 = .ok (.getfield 76, 3) := by decide +kernel
theorem dX7_given_91 : decode cX7_given 91 = .ok (.iload_n 1, 1) := by decide +kernel
theorem dX7_given_92 : decode cX7_given 92 = .ok (.iaload, 1) := by decide +kernel
theorem dX7_given_93 : decode cX7_given 93 = .ok (.iaload, 1) := by decide +kernel
theorem dX7_given_94 : decode cX7_given 94 = .ok (.aload_n 0, 1) := by decide +kernel
theorem dX7_given_95 : decode cX7_given 95 = .ok (.getfield 20, 3) := by decide +kernel
theorem dX7_given_98 : decode cX7_given 98 = .ok (.aload_n 0, 1) := by decide +kernel
theorem dX7_given_99 : decode cX7_given 99 = .ok (.getfield 76, 3) := by decide +kernel
theorem dX7_given_102 : decode cX7_given 102 = .ok (.iload_n 1, 1) := by decide +kernel
theorem dX7_given_103 : decode cX7_given 103 = .ok (.iconst 1, 1) := by decide +kernel
theorem dX7_given_104 : decode cX7_given 104 = .ok (.iadd, 1) := by decide +kernel
theorem dX7_given_105 : decode cX7_given 105 = .ok (.iaload, 1) := by decide +kernel
theorem dX7_given_106 : decode cX7_given 106 = .ok (.iaload, 1) := by decide +kernel
theorem dX7_given_107 : decode cX7_given 107 = .ok (.invokestatic 197, 3) := by decide +kernel
theorem dX7_given_110 : decode cX7_given 110 = .ok (.ireturn, 1) := by decide +kernel
theorem dX7_given_111 : decode cX7_given 111 = .ok (.iconst (-1), 1) := by decide +kernel
theorem dX7_given_112 : decode cX7_given 112 = .ok (.ireturn, 1) := by decide +kernel
theorem dX7_beginPiece_0 : decode cX7_beginPiece 0 = .ok (.aload_n 0, 1) := by decide +kernel
theorem dX7_beginPiece_1 : decode cX7_beginPiece 1 = .ok (.iload_n 1, 1) := by decide +kernel
theorem dX7_beginPiece_2 : decode cX7_beginPiece 2 = .ok (.putfield 212, 3) := by decide +kernel
theorem dX7_beginPiece_5 : decode cX7_beginPiece 5 = .ok (.aload_n 0, 1) := by decide +kernel
theorem dX7_beginPiece_6 : decode cX7_beginPiece 6 = .ok (.iconst 0, 1) := by decide +kernel
theorem dX7_beginPiece_7 : decode cX7_beginPiece 7 = .ok (.putfield 215, 3) := by decide +kernel
theorem dX7_beginPiece_10 : decode cX7_beginPiece 10 = .ok (.aload_n 0, 1) := by decide +kernel
theorem dX7_beginPiece_11 : decode cX7_beginPiece 11 = .ok (.iconst 0, 1) := by decide +kernel
theorem dX7_beginPiece_12 : decode cX7_beginPiece 12 = .ok (.putfield 218, 3) := by decide +kernel
theorem dX7_beginPiece_15 : decode cX7_beginPiece 15 = .ok (.aload_n 0, 1) := by decide +kernel
theorem dX7_beginPiece_16 : decode cX7_beginPiece 16 = .ok (.aload_n 0, 1) := by decide +kernel
theorem dX7_beginPiece_17 : decode cX7_beginPiece 17 = .ok (.getfield 41, 3) := by decide +kernel
theorem dX7_beginPiece_20 : decode cX7_beginPiece 20 = .ok (.bipush 8, 2) := by decide +kernel
theorem dX7_beginPiece_22 : decode cX7_beginPiece 22 = .ok (.aload_n 0, 1) := by decide +kernel
theorem dX7_beginPiece_23 : decode cX7_beginPiece 23 = .ok (.getfield 94, 3) := by decide +kernel
theorem dX7_beginPiece_26 : decode cX7_beginPiece 26 = .ok (.iload_n 1, 1) := by decide +kernel
theorem dX7_beginPiece_27 : decode cX7_beginPiece 27 = .ok (.iaload, 1) := by decide +kernel
theorem dX7_beginPiece_28 : decode cX7_beginPiece 28 = .ok (.imul, 1) := by decide +kernel
theorem dX7_beginPiece_29 : decode cX7_beginPiece 29 = .ok (.aload_n 0, 1) := by decide +kernel
theorem dX7_beginPiece_30 : decode cX7_beginPiece 30 = .ok (.getfield 106, 3) := by decide +kernel
theorem dX7_beginPiece_33 : decode cX7_beginPiece 33 = .ok (.bipush 16, 2) := by decide +kernel
theorem dX7_beginPiece_35 : decode cX7_beginPiece 35 = .ok (.iload_n 1, 1) := by decide +kernel
theorem dX7_beginPiece_36 : decode cX7_beginPiece 36 = .ok (.imul, 1) := by decide +kernel
theorem dX7_beginPiece_37 : decode cX7_beginPiece 37 = .ok (.iaload, 1) := by decide +kernel
theorem dX7_beginPiece_38 : decode cX7_beginPiece 38 = .ok (.iadd, 1) := by decide +kernel
theorem dX7_beginPiece_39 : decode cX7_beginPiece 39 = .ok (.iaload, 1) := by decide +kernel
theorem dX7_beginPiece_40 : decode cX7_beginPiece 40 = .ok (.putfield 221, 3) := by decide +kernel
theorem dX7_beginPiece_43 : decode cX7_beginPiece 43 = .ok (.aload_n 0, 1) := by decide +kernel
theorem dX7_beginPiece_44 : decode cX7_beginPiece 44 = .ok (.getfield 112, 3) := by decide +kernel
theorem dX7_beginPiece_47 : decode cX7_beginPiece 47 = .ok (.aload_n 0, 1) := by decide +kernel
theorem dX7_beginPiece_48 : decode cX7_beginPiece 48 = .ok (.getfield 94, 3) := by decide +kernel
theorem dX7_beginPiece_51 : decode cX7_beginPiece 51 = .ok (.iload_n 1, 1) := by decide +kernel
theorem dX7_beginPiece_52 : decode cX7_beginPiece 52 = .ok (.iaload, 1) := by decide +kernel
theorem dX7_beginPiece_53 : decode cX7_beginPiece 53 = .ok (.dup2, 1) := by decide +kernel
theorem dX7_beginPiece_54 : decode cX7_beginPiece 54 = .ok (.iaload, 1) := by decide +kernel
theorem dX7_beginPiece_55 : decode cX7_beginPiece 55 = .ok (.iconst 1, 1) := by decide +kernel
theorem dX7_beginPiece_56 : decode cX7_beginPiece 56 = .ok (.iadd, 1) := by decide +kernel
theorem dX7_beginPiece_57 : decode cX7_beginPiece 57 = .ok (.iastore, 1) := by decide +kernel
theorem dX7_beginPiece_58 : decode cX7_beginPiece 58 = .ok (.aload_n 0, 1) := by decide +kernel
theorem dX7_beginPiece_59 : decode cX7_beginPiece 59 = .ok (.dup, 1) := by decide +kernel
theorem dX7_beginPiece_60 : decode cX7_beginPiece 60 = .ok (.getfield 224, 3) := by decide +kernel
theorem dX7_beginPiece_63 : decode cX7_beginPiece 63 = .ok (.aload_n 0, 1) := by decide +kernel
theorem dX7_beginPiece_64 : decode cX7_beginPiece 64 = .ok (.getfield 35, 3) := by decide +kernel
theorem dX7_beginPiece_67 : decode cX7_beginPiece 67 = .ok (.aload_n 0, 1) := by decide +kernel
theorem dX7_beginPiece_68 : decode cX7_beginPiece 68 = .ok (.getfield 94, 3) := by decide +kernel
theorem dX7_beginPiece_71 : decode cX7_beginPiece 71 = .ok (.iload_n 1, 1) := by decide +kernel
theorem dX7_beginPiece_72 : decode cX7_beginPiece 72 = .ok (.iaload, 1) := by decide +kernel
theorem dX7_beginPiece_73 : decode cX7_beginPiece 73 = .ok (.iaload, 1) := by decide +kernel
theorem dX7_beginPiece_74 : decode cX7_beginPiece 74 = .ok (.iadd, 1) := by decide +kernel
theorem dX7_beginPiece_75 : decode cX7_beginPiece 75 = .ok (.putfield 224, 3) := by decide +kernel
theorem dX7_beginPiece_78 : decode cX7_beginPiece 78 = .ok (.aload_n 0, 1) := by decide +kernel
theorem dX7_beginPiece_79 : decode cX7_beginPiece 79 = .ok (.dup, 1) := by decide +kernel
theorem dX7_beginPiece_80 : decode cX7_beginPiece 80 = .ok (.getfield 227, 3) := by decide +kernel
theorem dX7_beginPiece_83 : decode cX7_beginPiece 83 = .ok (.iconst 1, 1) := by decide +kernel
theorem dX7_beginPiece_84 : decode cX7_beginPiece 84 = .ok (.iadd, 1) := by decide +kernel
theorem dX7_beginPiece_85 : decode cX7_beginPiece 85 = .ok (.putfield 227, 3) := by decide +kernel
theorem dX7_beginPiece_88 : decode cX7_beginPiece 88 = .ok (.return_, 1) := by decide +kernel
theorem dX7_begin_0 : decode cX7_begin 0 = .ok (.aload_n 0, 1) := by decide +kernel
theorem dX7_begin_1 : decode cX7_begin 1 = .ok (.getfield 209, 3) := by decide +kernel
theorem dX7_begin_4 : decode cX7_begin 4 = .ok (.ifCond .ne 6, 3) := by decide +kernel
theorem dX7_begin_7 : decode cX7_begin 7 = .ok (.bipush (-2), 2) := by decide +kernel
theorem dX7_begin_9 : decode cX7_begin 9 = .ok (.ireturn, 1) := by decide +kernel
theorem dX7_begin_10 : decode cX7_begin 10 = .ok (.aload_n 0, 1) := by decide +kernel
theorem dX7_begin_11 : decode cX7_begin 11 = .ok (.iconst 1, 1) := by decide +kernel
theorem dX7_begin_12 : decode cX7_begin 12 = .ok (.putfield 230, 3) := by decide +kernel
theorem dX7_begin_15 : decode cX7_begin 15 = .ok (.aload_n 0, 1) := by decide +kernel
theorem dX7_begin_16 : decode cX7_begin 16 = .ok (.iconst 0, 1) := by decide +kernel
theorem dX7_begin_17 : decode cX7_begin 17 = .ok (.putfield 234, 3) := by decide +kernel
theorem dX7_begin_20 : decode cX7_begin 20 = .ok (.aload_n 0, 1) := by decide +kernel
theorem dX7_begin_21 : decode cX7_begin 21 = .ok (.iconst 0, 1) := by decide +kernel
theorem dX7_begin_22 : decode cX7_begin 22 = .ok (.putfield 237, 3) := by decide +kernel
theorem dX7_begin_25 : decode cX7_begin 25 = .ok (.aload_n 0, 1) := by decide +kernel
theorem dX7_begin_26 : decode cX7_begin 26 = .ok (.aload_n 0, 1) := by decide +kernel
theorem dX7_begin_27 : decode cX7_begin 27 = .ok (.getfield 209, 3) := by decide +kernel
theorem dX7_begin_30 : decode cX7_begin 30 = .ok (.putfield 240, 3) := by decide +kernel
theorem dX7_begin_33 : decode cX7_begin 33 = .ok (.aload_n 0, 1) := by decide +kernel
theorem dX7_begin_34 : decode cX7_begin 34 = .ok (.iconst 0, 1) := by decide +kernel
theorem dX7_begin_35 : decode cX7_begin 35 = .ok (.putfield 243, 3) := by decide +kernel
theorem dX7_begin_38 : decode cX7_begin 38 = .ok (.aload_n 0, 1) := by decide +kernel
theorem dX7_begin_39 : decode cX7_begin 39 = .ok (.iconst 0, 1) := by decide +kernel
theorem dX7_begin_40 : decode cX7_begin 40 = .ok (.putfield 246, 3) := by decide +kernel
theorem dX7_begin_43 : decode cX7_begin 43 = .ok (.aload_n 0, 1) := by decide +kernel
theorem dX7_begin_44 : decode cX7_begin 44 = .ok (.iconst 0, 1) := by decide +kernel
theorem dX7_begin_45 : decode cX7_begin 45 = .ok (.putfield 249, 3) := by decide +kernel
theorem dX7_begin_48 : decode cX7_begin 48 = .ok (.aload_n 0, 1) := by decide +kernel
theorem dX7_begin_49 : decode cX7_begin 49 = .ok (.iconst 0, 1) := by decide +kernel
theorem dX7_begin_50 : decode cX7_begin 50 = .ok (.putfield 252, 3) := by decide +kernel
theorem dX7_begin_53 : decode cX7_begin 53 = .ok (.iconst 0, 1) := by decide +kernel
theorem dX7_begin_54 : decode cX7_begin 54 = .ok (.istore_n 1, 1) := by decide +kernel
theorem dX7_begin_55 : decode cX7_begin 55 = .ok (.iload_n 1, 1) := by decide +kernel
theorem dX7_begin_56 : decode cX7_begin 56 = .ok (.aload_n 0, 1) := by decide +kernel
theorem dX7_begin_57 : decode cX7_begin 57 = .ok (.getfield 240, 3) := by decide +kernel
theorem dX7_begin_60 : decode cX7_begin 60 = .ok (.if_icmp .ge 159, 3) := by decide +kernel
theorem dX7_begin_63 : decode cX7_begin 63 = .ok (.aload_n 0, 1) := by decide +kernel
theorem dX7_begin_64 : decode cX7_begin 64 = .ok (.getfield 76, 3) := by decide +kernel
theorem dX7_begin_67 : decode cX7_begin 67 = .ok (.iload_n 1, 1) := by decide +kernel
theorem dX7_begin_68 : decode cX7_begin 68 = .ok (.iaload, 1) := by decide +kernel
theorem dX7_begin_69 : decode cX7_begin 69 = .ok (.istore_n 2, 1) := by decide +kernel
theorem dX7_begin_70 : decode cX7_begin 70 = .ok (.aload_n 0, 1) := by decide +kernel
theorem dX7_begin_71 : decode cX7_begin 71 = .ok (.getfield 94, 3) := by decide +kernel
theorem dX7_begin_74 : decode cX7_begin 74 = .ok (.iload_n 1, 1) := by decide +kernel
theorem dX7_begin_75 : decode cX7_begin 75 = .ok (.iload_n 2, 1) := by decide +kernel
theorem dX7_begin_76 : decode cX7_begin 76 = .ok (.iastore, 1) := by decide +kernel
theorem dX7_begin_77 : decode cX7_begin 77 = .ok (.aload_n 0, 1) := by decide +kernel
theorem dX7_begin_78 : decode cX7_begin 78 = .ok (.getfield 97, 3) := by decide +kernel
theorem dX7_begin_81 : decode cX7_begin 81 = .ok (.iload_n 1, 1) := by decide +kernel
theorem dX7_begin_82 : decode cX7_begin 82 = .ok (.aload_n 0, 1) := by decide +kernel
theorem dX7_begin_83 : decode cX7_begin 83 = .ok (.getfield 79, 3) := by decide +kernel
theorem dX7_begin_86 : decode cX7_begin 86 = .ok (.iload_n 1, 1) := by decide +kernel
theorem dX7_begin_87 : decode cX7_begin 87 = .ok (.iaload, 1) := by decide +kernel
theorem dX7_begin_88 : decode cX7_begin 88 = .ok (.iastore, 1) := by decide +kernel
theorem dX7_begin_89 : decode cX7_begin 89 = .ok (.aload_n 0, 1) := by decide +kernel
theorem dX7_begin_90 : decode cX7_begin 90 = .ok (.getfield 85, 3) := by decide +kernel
theorem dX7_begin_93 : decode cX7_begin 93 = .ok (.iload_n 1, 1) := by decide +kernel
theorem dX7_begin_94 : decode cX7_begin 94 = .ok (.iaload, 1) := by decide +kernel
theorem dX7_begin_95 : decode cX7_begin 95 = .ok (.istore_n 3, 1) := by decide +kernel
theorem dX7_begin_96 : decode cX7_begin 96 = .ok (.iload_n 3, 1) := by decide +kernel
theorem dX7_begin_97 : decode cX7_begin 97 = .ok (.aload_n 0, 1) := by decide +kernel
theorem dX7_begin_98 : decode cX7_begin 98 = .ok (.iload_n 2, 1) := by decide +kernel
theorem dX7_begin_99 : decode cX7_begin 99 = .ok (.aload_n 0, 1) := by decide +kernel
theorem dX7_begin_100 : decode cX7_begin 100 = .ok (.getfield 79, 3) := by decide +kernel
theorem dX7_begin_103 : decode cX7_begin 103 = .ok (.iload_n 1, 1) := by decide +kernel
theorem dX7_begin_104 : decode cX7_begin 104 = .ok (.iaload, 1) := by decide +kernel
theorem dX7_begin_105 : decode cX7_begin 105 = .ok (.invokevirtual 178, 3) := by decide +kernel
theorem dX7_begin_108 : decode cX7_begin 108 = .ok (.if_icmp .ge 15, 3) := by decide +kernel
theorem dX7_begin_111 : decode cX7_begin 111 = .ok (.aload_n 0, 1) := by decide +kernel
theorem dX7_begin_112 : decode cX7_begin 112 = .ok (.iload_n 2, 1) := by decide +kernel
theorem dX7_begin_113 : decode cX7_begin 113 = .ok (.aload_n 0, 1) := by decide +kernel
theorem dX7_begin_114 : decode cX7_begin 114 = .ok (.getfield 79, 3) := by decide +kernel
theorem dX7_begin_117 : decode cX7_begin 117 = .ok (.iload_n 1, 1) := by decide +kernel
theorem dX7_begin_118 : decode cX7_begin 118 = .ok (.iaload, 1) := by decide +kernel
theorem dX7_begin_119 : decode cX7_begin 119 = .ok (.invokevirtual 178, 3) := by decide +kernel
theorem dX7_begin_122 : decode cX7_begin 122 = .ok (.istore_n 3, 1) := by decide +kernel
theorem dX7_begin_123 : decode cX7_begin 123 = .ok (.iload_n 3, 1) := by decide +kernel
theorem dX7_begin_124 : decode cX7_begin 124 = .ok (.aload_n 0, 1) := by decide +kernel
theorem dX7_begin_125 : decode cX7_begin 125 = .ok (.iload_n 2, 1) := by decide +kernel
theorem dX7_begin_126 : decode cX7_begin 126 = .ok (.aload_n 0, 1) := by decide +kernel
theorem dX7_begin_127 : decode cX7_begin 127 = .ok (.getfield 79, 3) := by decide +kernel
theorem dX7_begin_130 : decode cX7_begin 130 = .ok (.iload_n 1, 1) := by decide +kernel
theorem dX7_begin_131 : decode cX7_begin 131 = .ok (.iaload, 1) := by decide +kernel
theorem dX7_begin_132 : decode cX7_begin 132 = .ok (.invokevirtual 181, 3) := by decide +kernel
theorem dX7_begin_135 : decode cX7_begin 135 = .ok (.if_icmp .le 15, 3) := by decide +kernel
theorem dX7_begin_138 : decode cX7_begin 138 = .ok (.aload_n 0, 1) := by decide +kernel
theorem dX7_begin_139 : decode cX7_begin 139 = .ok (.iload_n 2, 1) := by decide +kernel
theorem dX7_begin_140 : decode cX7_begin 140 = .ok (.aload_n 0, 1) := by decide +kernel
theorem dX7_begin_141 : decode cX7_begin 141 = .ok (.getfield 79, 3) := by decide +kernel
theorem dX7_begin_144 : decode cX7_begin 144 = .ok (.iload_n 1, 1) := by decide +kernel
theorem dX7_begin_145 : decode cX7_begin 145 = .ok (.iaload, 1) := by decide +kernel
theorem dX7_begin_146 : decode cX7_begin 146 = .ok (.invokevirtual 181, 3) := by decide +kernel
theorem dX7_begin_149 : decode cX7_begin 149 = .ok (.istore_n 3, 1) := by decide +kernel
theorem dX7_begin_150 : decode cX7_begin 150 = .ok (.aload_n 0, 1) := by decide +kernel
theorem dX7_begin_151 : decode cX7_begin 151 = .ok (.getfield 100, 3) := by decide +kernel
theorem dX7_begin_154 : decode cX7_begin 154 = .ok (.iload_n 1, 1) := by decide +kernel
theorem dX7_begin_155 : decode cX7_begin 155 = .ok (.iload_n 3, 1) := by decide +kernel
theorem dX7_begin_156 : decode cX7_begin 156 = .ok (.iastore, 1) := by decide +kernel
theorem dX7_begin_157 : decode cX7_begin 157 = .ok (.aload_n 0, 1) := by decide +kernel
theorem dX7_begin_158 : decode cX7_begin 158 = .ok (.getfield 103, 3) := by decide +kernel
theorem dX7_begin_161 : decode cX7_begin 161 = .ok (.iload_n 1, 1) := by decide +kernel
theorem dX7_begin_162 : decode cX7_begin 162 = .ok (.aload_n 0, 1) := by decide +kernel
theorem dX7_begin_163 : decode cX7_begin 163 = .ok (.getfield 88, 3) := by decide +kernel
theorem dX7_begin_166 : decode cX7_begin 166 = .ok (.iload_n 1, 1) := by decide +kernel
theorem dX7_begin_167 : decode cX7_begin 167 = .ok (.iaload, 1) := by decide +kernel
theorem dX7_begin_168 : decode cX7_begin 168 = .ok (.iastore, 1) := by decide +kernel
theorem dX7_begin_169 : decode cX7_begin 169 = .ok (.iconst 0, 1) := by decide +kernel
theorem dX7_begin_170 : decode cX7_begin 170 = .ok (.istore 4, 2) := by decide +kernel
theorem dX7_begin_172 : decode cX7_begin 172 = .ok (.iload 4, 2) := by decide +kernel
theorem dX7_begin_174 : decode cX7_begin 174 = .ok (.aload_n 0, 1) := by decide +kernel
theorem dX7_begin_175 : decode cX7_begin 175 = .ok (.getfield 103, 3) := by decide +kernel
theorem dX7_begin_178 : decode cX7_begin 178 = .ok (.iload_n 1, 1) := by decide +kernel
theorem dX7_begin_179 : decode cX7_begin 179 = .ok (.iaload, 1) := by decide +kernel
theorem dX7_begin_180 : decode cX7_begin 180 = .ok (.if_icmp .ge 33, 3) := by decide +kernel
theorem dX7_begin_183 : decode cX7_begin 183 = .ok (.aload_n 0, 1) := by decide +kernel
theorem dX7_begin_184 : decode cX7_begin 184 = .ok (.getfield 106, 3) := by decide +kernel
theorem dX7_begin_187 : decode cX7_begin 187 = .ok (.bipush 16, 2) := by decide +kernel
theorem dX7_begin_189 : decode cX7_begin 189 = .ok (.iload_n 1, 1) := by decide +kernel
theorem dX7_begin_190 : decode cX7_begin 190 = .ok (.imul, 1) := by decide +kernel
theorem dX7_begin_191 : decode cX7_begin 191 = .ok (.iload 4, 2) := by decide +kernel
theorem dX7_begin_193 : decode cX7_begin 193 = .ok (.iadd, 1) := by decide +kernel
theorem dX7_begin_194 : decode cX7_begin 194 = .ok (.aload_n 0, 1) := by decide +kernel
theorem dX7_begin_195 : decode cX7_begin 195 = .ok (.getfield 91, 3) := by decide +kernel
theorem dX7_begin_198 : decode cX7_begin 198 = .ok (.bipush 16, 2) := by decide +kernel
theorem dX7_begin_200 : decode cX7_begin 200 = .ok (.iload_n 1, 1) := by decide +kernel
theorem dX7_begin_201 : decode cX7_begin 201 = .ok (.imul, 1) := by decide +kernel
theorem dX7_begin_202 : decode cX7_begin 202 = .ok (.iload 4, 2) := by decide +kernel
theorem dX7_begin_204 : decode cX7_begin 204 = .ok (.iadd, 1) := by decide +kernel
theorem dX7_begin_205 : decode cX7_begin 205 = .ok (.iaload, 1) := by decide +kernel
theorem dX7_begin_206 : decode cX7_begin 206 = .ok (.iastore, 1) := by decide +kernel
theorem dX7_begin_207 : decode cX7_begin 207 = .ok (.iinc 4 1, 3) := by decide +kernel
theorem dX7_begin_210 : decode cX7_begin 210 = .ok (.goto (-38), 3) := by decide +kernel
theorem dX7_begin_213 : decode cX7_begin 213 = .ok (.iinc 1 1, 3) := by decide +kernel
theorem dX7_begin_216 : decode cX7_begin 216 = .ok (.goto (-161), 3) := by decide +kernel
theorem dX7_begin_219 : decode cX7_begin 219 = .ok (.aload_n 0, 1) := by decide +kernel
theorem dX7_begin_220 : decode cX7_begin 220 = .ok (.iconst 0, 1) := by decide +kernel
theorem dX7_begin_221 : decode cX7_begin 221 = .ok (.invokevirtual 255, 3) := by decide +kernel
theorem dX7_begin_224 : decode cX7_begin 224 = .ok (.aload_n 0, 1) := by decide +kernel
theorem dX7_begin_225 : decode cX7_begin 225 = .ok (.getfield 240, 3) := by decide +kernel
theorem dX7_begin_228 : decode cX7_begin 228 = .ok (.ireturn, 1) := by decide +kernel
theorem dX7_doneBeats_0 : decode cX7_doneBeats 0 = .ok (.aload_n 0, 1) := by decide +kernel
theorem dX7_doneBeats_1 : decode cX7_doneBeats 1 = .ok (.getfield 215, 3) := by decide +kernel
theorem dX7_doneBeats_4 : decode cX7_doneBeats 4 = .ok (.i2l, 1) := by decide +kernel
theorem dX7_doneBeats_5 : decode cX7_doneBeats 5 = .ok (.aload_n 0, 1) := by decide +kernel
theorem dX7_doneBeats_6 : decode cX7_doneBeats 6 = .ok (.getfield 97, 3) := by decide +kernel
theorem dX7_doneBeats_9 : decode cX7_doneBeats 9 = .ok (.aload_n 0, 1) := by decide +kernel
theorem dX7_doneBeats_10 : decode cX7_doneBeats 10 = .ok (.getfield 212, 3) := by decide +kernel
theorem dX7_doneBeats_13 : decode cX7_doneBeats 13 = .ok (.iaload, 1) := by decide +kernel
theorem dX7_doneBeats_14 : decode cX7_doneBeats 14 = .ok (.i2l, 1) := by decide +kernel
theorem dX7_doneBeats_15 : decode cX7_doneBeats 15 = .ok (.lmul, 1) := by decide +kernel
theorem dX7_doneBeats_16 : decode cX7_doneBeats 16 = .ok (.aload_n 0, 1) := by decide +kernel
theorem dX7_doneBeats_17 : decode cX7_doneBeats 17 = .ok (.getfield 100, 3) := by decide +kernel
theorem dX7_doneBeats_20 : decode cX7_doneBeats 20 = .ok (.aload_n 0, 1) := by decide +kernel
theorem dX7_doneBeats_21 : decode cX7_doneBeats 21 = .ok (.getfield 212, 3) := by decide +kernel
theorem dX7_doneBeats_24 : decode cX7_doneBeats 24 = .ok (.iaload, 1) := by decide +kernel
theorem dX7_doneBeats_25 : decode cX7_doneBeats 25 = .ok (.i2l, 1) := by decide +kernel
theorem dX7_doneBeats_26 : decode cX7_doneBeats 26 = .ok (.ldiv, 1) := by decide +kernel
theorem dX7_doneBeats_27 : decode cX7_doneBeats 27 = .ok (.l2i, 1) := by decide +kernel
theorem dX7_doneBeats_28 : decode cX7_doneBeats 28 = .ok (.ireturn, 1) := by decide +kernel
theorem dX7_blockNow_0 : decode cX7_blockNow 0 = .ok (.aload_n 0, 1) := by decide +kernel
theorem dX7_blockNow_1 : decode cX7_blockNow 1 = .ok (.getfield 103, 3) := by decide +kernel
theorem dX7_blockNow_4 : decode cX7_blockNow 4 = .ok (.aload_n 0, 1) := by decide +kernel
theorem dX7_blockNow_5 : decode cX7_blockNow 5 = .ok (.getfield 212, 3) := by decide +kernel
theorem dX7_blockNow_8 : decode cX7_blockNow 8 = .ok (.iaload, 1) := by decide +kernel
theorem dX7_blockNow_9 : decode cX7_blockNow 9 = .ok (.iconst 1, 1) := by decide +kernel
theorem dX7_blockNow_10 : decode cX7_blockNow 10 = .ok (.isub, 1) := by decide +kernel
theorem dX7_blockNow_11 : decode cX7_blockNow 11 = .ok (.istore_n 1, 1) := by decide +kernel
theorem dX7_blockNow_12 : decode cX7_blockNow 12 = .ok (.aload_n 0, 1) := by decide +kernel
theorem dX7_blockNow_13 : decode cX7_blockNow 13 = .ok (.getfield 106, 3) := by decide +kernel
theorem dX7_blockNow_16 : decode cX7_blockNow 16 = .ok (.bipush 16, 2) := by decide +kernel
theorem dX7_blockNow_18 : decode cX7_blockNow 18 = .ok (.aload_n 0, 1) := by decide +kernel
theorem dX7_blockNow_19 : decode cX7_blockNow 19 = .ok (.getfield 212, 3) := by decide +kernel
theorem dX7_blockNow_22 : decode cX7_blockNow 22 = .ok (.imul, 1) := by decide +kernel
theorem dX7_blockNow_23 : decode cX7_blockNow 23 = .ok (.aload_n 0, 1) := by decide +kernel
theorem dX7_blockNow_24 : decode cX7_blockNow 24 = .ok (.getfield 218, 3) := by decide +kernel
theorem dX7_blockNow_27 : decode cX7_blockNow 27 = .ok (.iload_n 1, 1) := by decide +kernel
theorem dX7_blockNow_28 : decode cX7_blockNow 28 = .ok (.if_icmp .ge 10, 3) := by decide +kernel
theorem dX7_blockNow_31 : decode cX7_blockNow 31 = .ok (.aload_n 0, 1) := by decide +kernel
theorem dX7_blockNow_32 : decode cX7_blockNow 32 = .ok (.getfield 218, 3) := by decide +kernel
theorem dX7_blockNow_35 : decode cX7_blockNow 35 = .ok (.goto 4, 3) := by decide +kernel
theorem dX7_blockNow_38 : decode cX7_blockNow 38 = .ok (.iload_n 1, 1) := by decide +kernel
theorem dX7_blockNow_39 : decode cX7_blockNow 39 = .ok (.iadd, 1) := by decide +kernel
theorem dX7_blockNow_40 : decode cX7_blockNow 40 = .ok (.iaload, 1) := by decide +kernel
theorem dX7_blockNow_41 : decode cX7_blockNow 41 = .ok (.ireturn, 1) := by decide +kernel
theorem dX7_tenth_0 : decode cX7_tenth 0 = .ok (.aload_n 0, 1) := by decide +kernel
theorem dX7_tenth_1 : decode cX7_tenth 1 = .ok (.dup, 1) := by decide +kernel
theorem dX7_tenth_2 : decode cX7_tenth 2 = .ok (.getfield 243, 3) := by decide +kernel
theorem dX7_tenth_5 : decode cX7_tenth 5 = .ok (.iconst 1, 1) := by decide +kernel
theorem dX7_tenth_6 : decode cX7_tenth 6 = .ok (.iadd, 1) := by decide +kernel
theorem dX7_tenth_7 : decode cX7_tenth 7 = .ok (.putfield 243, 3) := by decide +kernel
theorem dX7_tenth_10 : decode cX7_tenth 10 = .ok (.aload_n 0, 1) := by decide +kernel
theorem dX7_tenth_11 : decode cX7_tenth 11 = .ok (.dup, 1) := by decide +kernel
theorem dX7_tenth_12 : decode cX7_tenth 12 = .ok (.getfield 215, 3) := by decide +kernel
theorem dX7_tenth_15 : decode cX7_tenth 15 = .ok (.iconst 1, 1) := by decide +kernel
theorem dX7_tenth_16 : decode cX7_tenth 16 = .ok (.iadd, 1) := by decide +kernel
theorem dX7_tenth_17 : decode cX7_tenth 17 = .ok (.putfield 215, 3) := by decide +kernel
theorem dX7_tenth_20 : decode cX7_tenth 20 = .ok (.aload_n 0, 1) := by decide +kernel
theorem dX7_tenth_21 : decode cX7_tenth 21 = .ok (.getfield 234, 3) := by decide +kernel
theorem dX7_tenth_24 : decode cX7_tenth 24 = .ok (.ifCond .ne 21, 3) := by decide +kernel
theorem dX7_tenth_27 : decode cX7_tenth 27 = .ok (.aload_n 0, 1) := by decide +kernel
theorem dX7_tenth_28 : decode cX7_tenth 28 = .ok (.invokevirtual 258, 3) := by decide +kernel
theorem dX7_tenth_31 : decode cX7_tenth 31 = .ok (.aload_n 0, 1) := by decide +kernel
theorem dX7_tenth_32 : decode cX7_tenth 32 = .ok (.getfield 221, 3) := by decide +kernel
theorem dX7_tenth_35 : decode cX7_tenth 35 = .ok (.if_icmp .lt 10, 3) := by decide +kernel
theorem dX7_tenth_38 : decode cX7_tenth 38 = .ok (.aload_n 0, 1) := by decide +kernel
theorem dX7_tenth_39 : decode cX7_tenth 39 = .ok (.invokevirtual 261, 3) := by decide +kernel
theorem dX7_tenth_42 : decode cX7_tenth 42 = .ok (.goto (-22), 3) := by decide +kernel
theorem dX7_tenth_45 : decode cX7_tenth 45 = .ok (.return_, 1) := by decide +kernel
theorem dX7_endBlock_0 : decode cX7_endBlock 0 = .ok (.aload_n 0, 1) := by decide +kernel
theorem dX7_endBlock_1 : decode cX7_endBlock 1 = .ok (.getfield 212, 3) := by decide +kernel
theorem dX7_endBlock_4 : decode cX7_endBlock 4 = .ok (.istore_n 1, 1) := by decide +kernel
theorem dX7_endBlock_5 : decode cX7_endBlock 5 = .ok (.bipush 8, 2) := by decide +kernel
theorem dX7_endBlock_7 : decode cX7_endBlock 7 = .ok (.aload_n 0, 1) := by decide +kernel
theorem dX7_endBlock_8 : decode cX7_endBlock 8 = .ok (.getfield 94, 3) := by decide +kernel
theorem dX7_endBlock_11 : decode cX7_endBlock 11 = .ok (.iload_n 1, 1) := by decide +kernel
theorem dX7_endBlock_12 : decode cX7_endBlock 12 = .ok (.iaload, 1) := by decide +kernel
theorem dX7_endBlock_13 : decode cX7_endBlock 13 = .ok (.imul, 1) := by decide +kernel
theorem dX7_endBlock_14 : decode cX7_endBlock 14 = .ok (.aload_n 0, 1) := by decide +kernel
theorem dX7_endBlock_15 : decode cX7_endBlock 15 = .ok (.invokevirtual 264, 3) := by decide +kernel
theorem dX7_endBlock_18 : decode cX7_endBlock 18 = .ok (.iadd, 1) := by decide +kernel
theorem dX7_endBlock_19 : decode cX7_endBlock 19 = .ok (.istore_n 2, 1) := by decide +kernel
theorem dX7_endBlock_20 : decode cX7_endBlock 20 = .ok (.aload_n 0, 1) := by decide +kernel
theorem dX7_endBlock_21 : decode cX7_endBlock 21 = .ok (.getfield 218, 3) := by decide +kernel
theorem dX7_endBlock_24 : decode cX7_endBlock 24 = .ok (.aload_n 0, 1) := by decide +kernel
theorem dX7_endBlock_25 : decode cX7_endBlock 25 = .ok (.getfield 103, 3) := by decide +kernel
theorem dX7_endBlock_28 : decode cX7_endBlock 28 = .ok (.iload_n 1, 1) := by decide +kernel
theorem dX7_endBlock_29 : decode cX7_endBlock 29 = .ok (.iaload, 1) := by decide +kernel
theorem dX7_endBlock_30 : decode cX7_endBlock 30 = .ok (.iconst 1, 1) := by decide +kernel
theorem dX7_endBlock_31 : decode cX7_endBlock 31 = .ok (.isub, 1) := by decide +kernel
theorem dX7_endBlock_32 : decode cX7_endBlock 32 = .ok (.if_icmp .lt 7, 3) := by decide +kernel
theorem dX7_endBlock_35 : decode cX7_endBlock 35 = .ok (.iconst 1, 1) := by decide +kernel
theorem dX7_endBlock_36 : decode cX7_endBlock 36 = .ok (.goto 4, 3) := by decide +kernel
theorem dX7_endBlock_39 : decode cX7_endBlock 39 = .ok (.iconst 0, 1) := by decide +kernel
theorem dX7_endBlock_40 : decode cX7_endBlock 40 = .ok (.istore_n 3, 1) := by decide +kernel
theorem dX7_endBlock_41 : decode cX7_endBlock 41 = .ok (.iload_n 1, 1) := by decide +kernel
theorem dX7_endBlock_42 : decode cX7_endBlock 42 = .ok (.aload_n 0, 1) := by decide +kernel
theorem dX7_endBlock_43 : decode cX7_endBlock 43 = .ok (.getfield 240, 3) := by decide +kernel
theorem dX7_endBlock_46 : decode cX7_endBlock 46 = .ok (.iconst 1, 1) := by decide +kernel
theorem dX7_endBlock_47 : decode cX7_endBlock 47 = .ok (.isub, 1) := by decide +kernel
theorem dX7_endBlock_48 : decode cX7_endBlock 48 = .ok (.if_icmp .ne 13, 3) := by decide +kernel
theorem dX7_endBlock_51 : decode cX7_endBlock 51 = .ok (.iload_n 3, 1) := by decide +kernel
theorem dX7_endBlock_52 : decode cX7_endBlock 52 = .ok (.ifCond .eq 59, 3) := by decide +kernel
theorem dX7_endBlock_55 : decode cX7_endBlock 55 = .ok (.aload_n 0, 1) := by decide +kernel
theorem dX7_endBlock_56 : decode cX7_endBlock 56 = .ok (.iconst 1, 1) := by decide +kernel
theorem dX7_endBlock_57 : decode cX7_endBlock 57 = .ok (.putfield 234, 3) := by decide +kernel
theorem dX7_endBlock_60 : decode cX7_endBlock 60 = .ok (.return_, 1) := by decide +kernel
theorem dX7_endBlock_61 : decode cX7_endBlock 61 = .ok (.aload_n 0, 1) := by decide +kernel
theorem dX7_endBlock_62 : decode cX7_endBlock 62 = .ok (.getfield 252, 3) := by decide +kernel
theorem dX7_endBlock_65 : decode cX7_endBlock 65 = .ok (.iload_n 1, 1) := by decide +kernel
theorem dX7_endBlock_66 : decode cX7_endBlock 66 = .ok (.if_icmp .le 45, 3) := by decide +kernel
theorem dX7_endBlock_69 : decode cX7_endBlock 69 = .ok (.aload_n 0, 1) := by decide +kernel
theorem dX7_endBlock_70 : decode cX7_endBlock 70 = .ok (.getfield 44, 3) := by decide +kernel
theorem dX7_endBlock_73 : decode cX7_endBlock 73 = .ok (.iload_n 2, 1) := by decide +kernel
theorem dX7_endBlock_74 : decode cX7_endBlock 74 = .ok (.iaload, 1) := by decide +kernel
theorem dX7_endBlock_75 : decode cX7_endBlock 75 = .ok (.iconst 1, 1) := by decide +kernel
theorem dX7_endBlock_76 : decode cX7_endBlock 76 = .ok (.iand, 1) := by decide +kernel
theorem dX7_endBlock_77 : decode cX7_endBlock 77 = .ok (.iconst 1, 1) := by decide +kernel
theorem dX7_endBlock_78 : decode cX7_endBlock 78 = .ok (.if_icmp .ne 33, 3) := by decide +kernel
theorem dX7_endBlock_81 : decode cX7_endBlock 81 = .ok (.aload_n 0, 1) := by decide +kernel
theorem dX7_endBlock_82 : decode cX7_endBlock 82 = .ok (.dup, 1) := by decide +kernel
theorem dX7_endBlock_83 : decode cX7_endBlock 83 = .ok (.getfield 249, 3) := by decide +kernel
theorem dX7_endBlock_86 : decode cX7_endBlock 86 = .ok (.aload_n 0, 1) := by decide +kernel
theorem dX7_endBlock_87 : decode cX7_endBlock 87 = .ok (.getfield 243, 3) := by decide +kernel
theorem dX7_endBlock_90 : decode cX7_endBlock 90 = .ok (.aload_n 0, 1) := by decide +kernel
theorem dX7_endBlock_91 : decode cX7_endBlock 91 = .ok (.getfield 109, 3) := by decide +kernel
theorem dX7_endBlock_94 : decode cX7_endBlock 94 = .ok (.iload_n 1, 1) := by decide +kernel
theorem dX7_endBlock_95 : decode cX7_endBlock 95 = .ok (.iconst 1, 1) := by decide +kernel
theorem dX7_endBlock_96 : decode cX7_endBlock 96 = .ok (.iadd, 1) := by decide +kernel
theorem dX7_endBlock_97 : decode cX7_endBlock 97 = .ok (.iaload, 1) := by decide +kernel
theorem dX7_endBlock_98 : decode cX7_endBlock 98 = .ok (.isub, 1) := by decide +kernel
theorem dX7_endBlock_99 : decode cX7_endBlock 99 = .ok (.iadd, 1) := by decide +kernel
theorem dX7_endBlock_100 : decode cX7_endBlock 100 = .ok (.putfield 249, 3) := by decide +kernel
theorem dX7_endBlock_103 : decode cX7_endBlock 103 = .ok (.aload_n 0, 1) := by decide +kernel
theorem dX7_endBlock_104 : decode cX7_endBlock 104 = .ok (.iload_n 1, 1) := by decide +kernel
theorem dX7_endBlock_105 : decode cX7_endBlock 105 = .ok (.iconst 1, 1) := by decide +kernel
theorem dX7_endBlock_106 : decode cX7_endBlock 106 = .ok (.iadd, 1) := by decide +kernel
theorem dX7_endBlock_107 : decode cX7_endBlock 107 = .ok (.invokevirtual 255, 3) := by decide +kernel
theorem dX7_endBlock_110 : decode cX7_endBlock 110 = .ok (.return_, 1) := by decide +kernel
theorem dX7_endBlock_111 : decode cX7_endBlock 111 = .ok (.aload_n 0, 1) := by decide +kernel
theorem dX7_endBlock_112 : decode cX7_endBlock 112 = .ok (.dup, 1) := by decide +kernel
theorem dX7_endBlock_113 : decode cX7_endBlock 113 = .ok (.getfield 218, 3) := by decide +kernel
theorem dX7_endBlock_116 : decode cX7_endBlock 116 = .ok (.iconst 1, 1) := by decide +kernel
theorem dX7_endBlock_117 : decode cX7_endBlock 117 = .ok (.iadd, 1) := by decide +kernel
theorem dX7_endBlock_118 : decode cX7_endBlock 118 = .ok (.putfield 218, 3) := by decide +kernel
theorem dX7_endBlock_121 : decode cX7_endBlock 121 = .ok (.iload_n 3, 1) := by decide +kernel
theorem dX7_endBlock_122 : decode cX7_endBlock 122 = .ok (.ifCond .eq 13, 3) := by decide +kernel
theorem dX7_endBlock_125 : decode cX7_endBlock 125 = .ok (.aload_n 0, 1) := by decide +kernel
theorem dX7_endBlock_126 : decode cX7_endBlock 126 = .ok (.dup, 1) := by decide +kernel
theorem dX7_endBlock_127 : decode cX7_endBlock 127 = .ok (.getfield 246, 3) := by decide +kernel
theorem dX7_endBlock_130 : decode cX7_endBlock 130 = .ok (.iconst 1, 1) := by decide +kernel
theorem dX7_endBlock_131 : decode cX7_endBlock 131 = .ok (.iadd, 1) := by decide +kernel
theorem dX7_endBlock_132 : decode cX7_endBlock 132 = .ok (.putfield 246, 3) := by decide +kernel
theorem dX7_endBlock_135 : decode cX7_endBlock 135 = .ok (.aload_n 0, 1) := by decide +kernel
theorem dX7_endBlock_136 : decode cX7_endBlock 136 = .ok (.dup, 1) := by decide +kernel
theorem dX7_endBlock_137 : decode cX7_endBlock 137 = .ok (.getfield 221, 3) := by decide +kernel
theorem dX7_endBlock_140 : decode cX7_endBlock 140 = .ok (.aload_n 0, 1) := by decide +kernel
theorem dX7_endBlock_141 : decode cX7_endBlock 141 = .ok (.getfield 41, 3) := by decide +kernel
theorem dX7_endBlock_144 : decode cX7_endBlock 144 = .ok (.bipush 8, 2) := by decide +kernel
theorem dX7_endBlock_146 : decode cX7_endBlock 146 = .ok (.aload_n 0, 1) := by decide +kernel
theorem dX7_endBlock_147 : decode cX7_endBlock 147 = .ok (.getfield 94, 3) := by decide +kernel
theorem dX7_endBlock_150 : decode cX7_endBlock 150 = .ok (.iload_n 1, 1) := by decide +kernel
theorem dX7_endBlock_151 : decode cX7_endBlock 151 = .ok (.iaload, 1) := by decide +kernel
theorem dX7_endBlock_152 : decode cX7_endBlock 152 = .ok (.imul, 1) := by decide +kernel
theorem dX7_endBlock_153 : decode cX7_endBlock 153 = .ok (.aload_n 0, 1) := by decide +kernel
theorem dX7_endBlock_154 : decode cX7_endBlock 154 = .ok (.invokevirtual 264, 3) := by decide +kernel
theorem dX7_endBlock_157 : decode cX7_endBlock 157 = .ok (.iadd, 1) := by decide +kernel
theorem dX7_endBlock_158 : decode cX7_endBlock 158 = .ok (.iaload, 1) := by decide +kernel
theorem dX7_endBlock_159 : decode cX7_endBlock 159 = .ok (.iadd, 1) := by decide +kernel
theorem dX7_endBlock_160 : decode cX7_endBlock 160 = .ok (.putfield 221, 3) := by decide +kernel
theorem dX7_endBlock_163 : decode cX7_endBlock 163 = .ok (.return_, 1) := by decide +kernel
theorem dX7_go_0 : decode cX7_go 0 = .ok (.iload_n 1, 1) := by decide +kernel
theorem dX7_go_1 : decode cX7_go 1 = .ok (.iconst 1, 1) := by decide +kernel
theorem dX7_go_2 : decode cX7_go 2 = .ok (.sipush 600, 3) := by decide +kernel
theorem dX7_go_5 : decode cX7_go 5 = .ok (.invokestatic 130, 3) := by decide +kernel
theorem dX7_go_8 : decode cX7_go 8 = .ok (.ifCond .ne 5, 3) := by decide +kernel
theorem dX7_go_11 : decode cX7_go 11 = .ok (.iconst (-1), 1) := by decide +kernel
theorem dX7_go_12 : decode cX7_go 12 = .ok (.ireturn, 1) := by decide +kernel
theorem dX7_go_13 : decode cX7_go 13 = .ok (.aload_n 0, 1) := by decide +kernel
theorem dX7_go_14 : decode cX7_go 14 = .ok (.getfield 230, 3) := by decide +kernel
theorem dX7_go_17 : decode cX7_go 17 = .ok (.ifCond .eq 10, 3) := by decide +kernel
theorem dX7_go_20 : decode cX7_go 20 = .ok (.aload_n 0, 1) := by decide +kernel
theorem dX7_go_21 : decode cX7_go 21 = .ok (.getfield 234, 3) := by decide +kernel
theorem dX7_go_24 : decode cX7_go 24 = .ok (.ifCond .eq 6, 3) := by decide +kernel
theorem dX7_go_27 : decode cX7_go 27 = .ok (.bipush (-2), 2) := by decide +kernel
theorem dX7_go_29 : decode cX7_go 29 = .ok (.ireturn, 1) := by decide +kernel
theorem dX7_go_30 : decode cX7_go 30 = .ok (.iconst 0, 1) := by decide +kernel
theorem dX7_go_31 : decode cX7_go 31 = .ok (.istore_n 2, 1) := by decide +kernel
theorem dX7_go_32 : decode cX7_go 32 = .ok (.iload_n 2, 1) := by decide +kernel
theorem dX7_go_33 : decode cX7_go 33 = .ok (.iload_n 1, 1) := by decide +kernel
theorem dX7_go_34 : decode cX7_go 34 = .ok (.if_icmp .ge 20, 3) := by decide +kernel
theorem dX7_go_37 : decode cX7_go 37 = .ok (.aload_n 0, 1) := by decide +kernel
theorem dX7_go_38 : decode cX7_go 38 = .ok (.getfield 234, 3) := by decide +kernel
theorem dX7_go_41 : decode cX7_go 41 = .ok (.ifCond .ne 13, 3) := by decide +kernel
theorem dX7_go_44 : decode cX7_go 44 = .ok (.aload_n 0, 1) := by decide +kernel
theorem dX7_go_45 : decode cX7_go 45 = .ok (.invokevirtual 267, 3) := by decide +kernel
theorem dX7_go_48 : decode cX7_go 48 = .ok (.iinc 2 1, 3) := by decide +kernel
theorem dX7_go_51 : decode cX7_go 51 = .ok (.goto (-19), 3) := by decide +kernel
theorem dX7_go_54 : decode cX7_go 54 = .ok (.aload_n 0, 1) := by decide +kernel
theorem dX7_go_55 : decode cX7_go 55 = .ok (.getfield 243, 3) := by decide +kernel
theorem dX7_go_58 : decode cX7_go 58 = .ok (.ireturn, 1) := by decide +kernel
theorem dX7_seen_0 : decode cX7_seen 0 = .ok (.aload_n 0, 1) := by decide +kernel
theorem dX7_seen_1 : decode cX7_seen 1 = .ok (.getfield 230, 3) := by decide +kernel
theorem dX7_seen_4 : decode cX7_seen 4 = .ok (.ifCond .eq 30, 3) := by decide +kernel
theorem dX7_seen_7 : decode cX7_seen 7 = .ok (.aload_n 0, 1) := by decide +kernel
theorem dX7_seen_8 : decode cX7_seen 8 = .ok (.getfield 234, 3) := by decide +kernel
theorem dX7_seen_11 : decode cX7_seen 11 = .ok (.ifCond .ne 23, 3) := by decide +kernel
theorem dX7_seen_14 : decode cX7_seen 14 = .ok (.aload_n 0, 1) := by decide +kernel
theorem dX7_seen_15 : decode cX7_seen 15 = .ok (.getfield 237, 3) := by decide +kernel
theorem dX7_seen_18 : decode cX7_seen 18 = .ok (.ifCond .ne 16, 3) := by decide +kernel
theorem dX7_seen_21 : decode cX7_seen 21 = .ok (.aload_n 0, 1) := by decide +kernel
theorem dX7_seen_22 : decode cX7_seen 22 = .ok (.getfield 252, 3) := by decide +kernel
theorem dX7_seen_25 : decode cX7_seen 25 = .ok (.aload_n 0, 1) := by decide +kernel
theorem dX7_seen_26 : decode cX7_seen 26 = .ok (.getfield 240, 3) := by decide +kernel
theorem dX7_seen_29 : decode cX7_seen 29 = .ok (.iconst 1, 1) := by decide +kernel
theorem dX7_seen_30 : decode cX7_seen 30 = .ok (.isub, 1) := by decide +kernel
theorem dX7_seen_31 : decode cX7_seen 31 = .ok (.if_icmp .ne 6, 3) := by decide +kernel
theorem dX7_seen_34 : decode cX7_seen 34 = .ok (.bipush (-2), 2) := by decide +kernel
theorem dX7_seen_36 : decode cX7_seen 36 = .ok (.ireturn, 1) := by decide +kernel
theorem dX7_seen_37 : decode cX7_seen 37 = .ok (.aload_n 0, 1) := by decide +kernel
theorem dX7_seen_38 : decode cX7_seen 38 = .ok (.dup, 1) := by decide +kernel
theorem dX7_seen_39 : decode cX7_seen 39 = .ok (.getfield 252, 3) := by decide +kernel
theorem dX7_seen_42 : decode cX7_seen 42 = .ok (.iconst 1, 1) := by decide +kernel
theorem dX7_seen_43 : decode cX7_seen 43 = .ok (.iadd, 1) := by decide +kernel
theorem dX7_seen_44 : decode cX7_seen 44 = .ok (.putfield 252, 3) := by decide +kernel
theorem dX7_seen_47 : decode cX7_seen 47 = .ok (.aload_n 0, 1) := by decide +kernel
theorem dX7_seen_48 : decode cX7_seen 48 = .ok (.getfield 109, 3) := by decide +kernel
theorem dX7_seen_51 : decode cX7_seen 51 = .ok (.aload_n 0, 1) := by decide +kernel
theorem dX7_seen_52 : decode cX7_seen 52 = .ok (.getfield 252, 3) := by decide +kernel
theorem dX7_seen_55 : decode cX7_seen 55 = .ok (.aload_n 0, 1) := by decide +kernel
theorem dX7_seen_56 : decode cX7_seen 56 = .ok (.getfield 243, 3) := by decide +kernel
theorem dX7_seen_59 : decode cX7_seen 59 = .ok (.iastore, 1) := by decide +kernel
theorem dX7_seen_60 : decode cX7_seen 60 = .ok (.aload_n 0, 1) := by decide +kernel
theorem dX7_seen_61 : decode cX7_seen 61 = .ok (.getfield 252, 3) := by decide +kernel
theorem dX7_seen_64 : decode cX7_seen 64 = .ok (.ireturn, 1) := by decide +kernel
theorem dX7_reel_0 : decode cX7_reel 0 = .ok (.iload_n 1, 1) := by decide +kernel
theorem dX7_reel_1 : decode cX7_reel 1 = .ok (.iconst 0, 1) := by decide +kernel
theorem dX7_reel_2 : decode cX7_reel 2 = .ok (.iconst 1, 1) := by decide +kernel
theorem dX7_reel_3 : decode cX7_reel 3 = .ok (.invokestatic 130, 3) := by decide +kernel
theorem dX7_reel_6 : decode cX7_reel 6 = .ok (.ifCond .ne 5, 3) := by decide +kernel
theorem dX7_reel_9 : decode cX7_reel 9 = .ok (.iconst (-1), 1) := by decide +kernel
theorem dX7_reel_10 : decode cX7_reel 10 = .ok (.ireturn, 1) := by decide +kernel
theorem dX7_reel_11 : decode cX7_reel 11 = .ok (.aload_n 0, 1) := by decide +kernel
theorem dX7_reel_12 : decode cX7_reel 12 = .ok (.getfield 230, 3) := by decide +kernel
theorem dX7_reel_15 : decode cX7_reel 15 = .ok (.ifCond .ne 6, 3) := by decide +kernel
theorem dX7_reel_18 : decode cX7_reel 18 = .ok (.bipush (-2), 2) := by decide +kernel
theorem dX7_reel_20 : decode cX7_reel 20 = .ok (.ireturn, 1) := by decide +kernel
theorem dX7_reel_21 : decode cX7_reel 21 = .ok (.aload_n 0, 1) := by decide +kernel
theorem dX7_reel_22 : decode cX7_reel 22 = .ok (.getfield 237, 3) := by decide +kernel
theorem dX7_reel_25 : decode cX7_reel 25 = .ok (.ifCond .eq 7, 3) := by decide +kernel
theorem dX7_reel_28 : decode cX7_reel 28 = .ok (.iconst 1, 1) := by decide +kernel
theorem dX7_reel_29 : decode cX7_reel 29 = .ok (.goto 4, 3) := by decide +kernel
theorem dX7_reel_32 : decode cX7_reel 32 = .ok (.iconst 0, 1) := by decide +kernel
theorem dX7_reel_33 : decode cX7_reel 33 = .ok (.istore_n 2, 1) := by decide +kernel
theorem dX7_reel_34 : decode cX7_reel 34 = .ok (.aload_n 0, 1) := by decide +kernel
theorem dX7_reel_35 : decode cX7_reel 35 = .ok (.iload_n 1, 1) := by decide +kernel
theorem dX7_reel_36 : decode cX7_reel 36 = .ok (.iconst 1, 1) := by decide +kernel
theorem dX7_reel_37 : decode cX7_reel 37 = .ok (.if_icmp .ne 7, 3) := by decide +kernel
theorem dX7_reel_40 : decode cX7_reel 40 = .ok (.iconst 1, 1) := by decide +kernel
theorem dX7_reel_41 : decode cX7_reel 41 = .ok (.goto 4, 3) := by decide +kernel
theorem dX7_reel_44 : decode cX7_reel 44 = .ok (.iconst 0, 1) := by decide +kernel
theorem dX7_reel_45 : decode cX7_reel 45 = .ok (.putfield 237, 3) := by decide +kernel
theorem dX7_reel_48 : decode cX7_reel 48 = .ok (.iload_n 2, 1) := by decide +kernel
theorem dX7_reel_49 : decode cX7_reel 49 = .ok (.ireturn, 1) := by decide +kernel
theorem dX7_now_0 : decode cX7_now 0 = .ok (.aload_n 0, 1) := by decide +kernel
theorem dX7_now_1 : decode cX7_now 1 = .ok (.getfield 230, 3) := by decide +kernel
theorem dX7_now_4 : decode cX7_now 4 = .ok (.ifCond .ne 5, 3) := by decide +kernel
theorem dX7_now_7 : decode cX7_now 7 = .ok (.iconst (-1), 1) := by decide +kernel
theorem dX7_now_8 : decode cX7_now 8 = .ok (.ireturn, 1) := by decide +kernel
theorem dX7_now_9 : decode cX7_now 9 = .ok (.iload_n 1, 1) := by decide +kernel
theorem dX7_now_10 : decode cX7_now 10 = .ok (.tableswitch 108 0 8 #[50, 55, 60, 70, 75, 80, 85, 98, 103], 50) := by decide +kernel
theorem dX7_now_60 : decode cX7_now 60 = .ok (.aload_n 0, 1) := by decide +kernel
theorem dX7_now_61 : decode cX7_now 61 = .ok (.getfield 212, 3) := by decide +kernel
theorem dX7_now_64 : decode cX7_now 64 = .ok (.ireturn, 1) := by decide +kernel
theorem dX7_now_65 : decode cX7_now 65 = .ok (.aload_n 0, 1) := by decide +kernel
theorem dX7_now_66 : decode cX7_now 66 = .ok (.invokevirtual 264, 3) := by decide +kernel
theorem dX7_now_69 : decode cX7_now 69 = .ok (.ireturn, 1) := by decide +kernel
theorem dX7_now_70 : decode cX7_now 70 = .ok (.aload_n 0, 1) := by decide +kernel
theorem dX7_now_71 : decode cX7_now 71 = .ok (.getfield 94, 3) := by decide +kernel
theorem dX7_now_74 : decode cX7_now 74 = .ok (.aload_n 0, 1) := by decide +kernel
theorem dX7_now_75 : decode cX7_now 75 = .ok (.getfield 212, 3) := by decide +kernel
theorem dX7_now_78 : decode cX7_now 78 = .ok (.iaload, 1) := by decide +kernel
theorem dX7_now_79 : decode cX7_now 79 = .ok (.ireturn, 1) := by decide +kernel
theorem dX7_now_80 : decode cX7_now 80 = .ok (.aload_n 0, 1) := by decide +kernel
theorem dX7_now_81 : decode cX7_now 81 = .ok (.getfield 246, 3) := by decide +kernel
theorem dX7_now_84 : decode cX7_now 84 = .ok (.ireturn, 1) := by decide +kernel
theorem dX7_now_85 : decode cX7_now 85 = .ok (.aload_n 0, 1) := by decide +kernel
theorem dX7_now_86 : decode cX7_now 86 = .ok (.getfield 249, 3) := by decide +kernel
theorem dX7_now_89 : decode cX7_now 89 = .ok (.ireturn, 1) := by decide +kernel
theorem dX7_now_90 : decode cX7_now 90 = .ok (.aload_n 0, 1) := by decide +kernel
theorem dX7_now_91 : decode cX7_now 91 = .ok (.getfield 243, 3) := by decide +kernel
theorem dX7_now_94 : decode cX7_now 94 = .ok (.ireturn, 1) := by decide +kernel
theorem dX7_now_95 : decode cX7_now 95 = .ok (.aload_n 0, 1) := by decide +kernel
theorem dX7_now_96 : decode cX7_now 96 = .ok (.getfield 234, 3) := by decide +kernel
theorem dX7_now_99 : decode cX7_now 99 = .ok (.ifCond .eq 7, 3) := by decide +kernel
theorem dX7_now_102 : decode cX7_now 102 = .ok (.iconst 1, 1) := by decide +kernel
theorem dX7_now_103 : decode cX7_now 103 = .ok (.goto 4, 3) := by decide +kernel
theorem dX7_now_106 : decode cX7_now 106 = .ok (.iconst 0, 1) := by decide +kernel
theorem dX7_now_107 : decode cX7_now 107 = .ok (.ireturn, 1) := by decide +kernel
theorem dX7_now_108 : decode cX7_now 108 = .ok (.aload_n 0, 1) := by decide +kernel
theorem dX7_now_109 : decode cX7_now 109 = .ok (.getfield 252, 3) := by decide +kernel
theorem dX7_now_112 : decode cX7_now 112 = .ok (.ireturn, 1) := by decide +kernel
theorem dX7_now_113 : decode cX7_now 113 = .ok (.aload_n 0, 1) := by decide +kernel
theorem dX7_now_114 : decode cX7_now 114 = .ok (.invokevirtual 258, 3) := by decide +kernel
theorem dX7_now_117 : decode cX7_now 117 = .ok (.ireturn, 1) := by decide +kernel
theorem dX7_now_118 : decode cX7_now 118 = .ok (.iconst (-1), 1) := by decide +kernel
theorem dX7_now_119 : decode cX7_now 119 = .ok (.ireturn, 1) := by decide +kernel
theorem dX7_played_0 : decode cX7_played 0 = .ok (.aload_n 0, 1) := by decide +kernel
theorem dX7_played_1 : decode cX7_played 1 = .ok (.iload_n 1, 1) := by decide +kernel
theorem dX7_played_2 : decode cX7_played 2 = .ok (.invokevirtual 155, 3) := by decide +kernel
theorem dX7_played_5 : decode cX7_played 5 = .ok (.ifCond .eq 12, 3) := by decide +kernel
theorem dX7_played_8 : decode cX7_played 8 = .ok (.aload_n 0, 1) := by decide +kernel
theorem dX7_played_9 : decode cX7_played 9 = .ok (.getfield 112, 3) := by decide +kernel
theorem dX7_played_12 : decode cX7_played 12 = .ok (.iload_n 1, 1) := by decide +kernel
theorem dX7_played_13 : decode cX7_played 13 = .ok (.iaload, 1) := by decide +kernel
theorem dX7_played_14 : decode cX7_played 14 = .ok (.goto 4, 3) := by decide +kernel
theorem dX7_played_17 : decode cX7_played 17 = .ok (.iconst (-1), 1) := by decide +kernel
theorem dX7_played_18 : decode cX7_played 18 = .ok (.ireturn, 1) := by decide +kernel
theorem dX7_fees_0 : decode cX7_fees 0 = .ok (.aload_n 0, 1) := by decide +kernel
theorem dX7_fees_1 : decode cX7_fees 1 = .ok (.getfield 224, 3) := by decide +kernel
theorem dX7_fees_4 : decode cX7_fees 4 = .ok (.ireturn, 1) := by decide +kernel
theorem dX7_effect_0 : decode cX7_effect 0 = .ok (.iload_n 1, 1) := by decide +kernel
theorem dX7_effect_1 : decode cX7_effect 1 = .ok (.iconst 0, 1) := by decide +kernel
theorem dX7_effect_2 : decode cX7_effect 2 = .ok (.ldc_w 270, 3) := by decide +kernel
theorem dX7_effect_5 : decode cX7_effect 5 = .ok (.invokestatic 130, 3) := by decide +kernel
theorem dX7_effect_8 : decode cX7_effect 8 = .ok (.ifCond .eq 24, 3) := by decide +kernel
theorem dX7_effect_11 : decode cX7_effect 11 = .ok (.iload_n 2, 1) := by decide +kernel
theorem dX7_effect_12 : decode cX7_effect 12 = .ok (.iload_n 1, 1) := by decide +kernel
theorem dX7_effect_13 : decode cX7_effect 13 = .ok (.iconst 1, 1) := by decide +kernel
theorem dX7_effect_14 : decode cX7_effect 14 = .ok (.iadd, 1) := by decide +kernel
theorem dX7_effect_15 : decode cX7_effect 15 = .ok (.ldc 187, 2) := by decide +kernel
theorem dX7_effect_17 : decode cX7_effect 17 = .ok (.invokestatic 130, 3) := by decide +kernel
theorem dX7_effect_20 : decode cX7_effect 20 = .ok (.ifCond .eq 12, 3) := by decide +kernel
theorem dX7_effect_23 : decode cX7_effect 23 = .ok (.iload_n 3, 1) := by decide +kernel
theorem dX7_effect_24 : decode cX7_effect 24 = .ok (.iconst 1, 1) := by decide +kernel
theorem dX7_effect_25 : decode cX7_effect 25 = .ok (.iconst 4, 1) := by decide +kernel
theorem dX7_effect_26 : decode cX7_effect 26 = .ok (.invokestatic 130, 3) := by decide +kernel
theorem dX7_effect_29 : decode cX7_effect 29 = .ok (.ifCond .ne 5, 3) := by decide +kernel
theorem dX7_effect_32 : decode cX7_effect 32 = .ok (.iconst (-1), 1) := by decide +kernel
theorem dX7_effect_33 : decode cX7_effect 33 = .ok (.ireturn, 1) := by decide +kernel
theorem dX7_effect_34 : decode cX7_effect 34 = .ok (.aload_n 0, 1) := by decide +kernel
theorem dX7_effect_35 : decode cX7_effect 35 = .ok (.getfield 271, 3) := by decide +kernel
theorem dX7_effect_38 : decode cX7_effect 38 = .ok (.bipush 30, 2) := by decide +kernel
theorem dX7_effect_40 : decode cX7_effect 40 = .ok (.if_icmp .ne 6, 3) := by decide +kernel
theorem dX7_effect_43 : decode cX7_effect 43 = .ok (.bipush (-3), 2) := by decide +kernel
theorem dX7_effect_45 : decode cX7_effect 45 = .ok (.ireturn, 1) := by decide +kernel
theorem dX7_effect_46 : decode cX7_effect 46 = .ok (.aload_n 0, 1) := by decide +kernel
theorem dX7_effect_47 : decode cX7_effect 47 = .ok (.getfield 115, 3) := by decide +kernel
theorem dX7_effect_50 : decode cX7_effect 50 = .ok (.aload_n 0, 1) := by decide +kernel
theorem dX7_effect_51 : decode cX7_effect 51 = .ok (.getfield 271, 3) := by decide +kernel
theorem dX7_effect_54 : decode cX7_effect 54 = .ok (.iload_n 1, 1) := by decide +kernel
theorem dX7_effect_55 : decode cX7_effect 55 = .ok (.iastore, 1) := by decide +kernel
theorem dX7_effect_56 : decode cX7_effect 56 = .ok (.aload_n 0, 1) := by decide +kernel
theorem dX7_effect_57 : decode cX7_effect 57 = .ok (.getfield 118, 3) := by decide +kernel
theorem dX7_effect_60 : decode cX7_effect 60 = .ok (.aload_n 0, 1) := by decide +kernel
theorem dX7_effect_61 : decode cX7_effect 61 = .ok (.getfield 271, 3) := by decide +kernel
theorem dX7_effect_64 : decode cX7_effect 64 = .ok (.iload_n 2, 1) := by decide +kernel
theorem dX7_effect_65 : decode cX7_effect 65 = .ok (.iastore, 1) := by decide +kernel
theorem dX7_effect_66 : decode cX7_effect 66 = .ok (.aload_n 0, 1) := by decide +kernel
theorem dX7_effect_67 : decode cX7_effect 67 = .ok (.getfield 121, 3) := by decide +kernel
theorem dX7_effect_70 : decode cX7_effect 70 = .ok (.aload_n 0, 1) := by decide +kernel
theorem dX7_effect_71 : decode cX7_effect 71 = .ok (.getfield 271, 3) := by decide +kernel
theorem dX7_effect_74 : decode cX7_effect 74 = .ok (.iload_n 3, 1) := by decide +kernel
theorem dX7_effect_75 : decode cX7_effect 75 = .ok (.iastore, 1) := by decide +kernel
theorem dX7_effect_76 : decode cX7_effect 76 = .ok (.aload_n 0, 1) := by decide +kernel
theorem dX7_effect_77 : decode cX7_effect 77 = .ok (.dup, 1) := by decide +kernel
theorem dX7_effect_78 : decode cX7_effect 78 = .ok (.getfield 271, 3) := by decide +kernel
theorem dX7_effect_81 : decode cX7_effect 81 = .ok (.iconst 1, 1) := by decide +kernel
theorem dX7_effect_82 : decode cX7_effect 82 = .ok (.iadd, 1) := by decide +kernel
theorem dX7_effect_83 : decode cX7_effect 83 = .ok (.putfield 271, 3) := by decide +kernel
theorem dX7_effect_86 : decode cX7_effect 86 = .ok (.aload_n 0, 1) := by decide +kernel
theorem dX7_effect_87 : decode cX7_effect 87 = .ok (.getfield 271, 3) := by decide +kernel
theorem dX7_effect_90 : decode cX7_effect 90 = .ok (.iconst 1, 1) := by decide +kernel
theorem dX7_effect_91 : decode cX7_effect 91 = .ok (.isub, 1) := by decide +kernel
theorem dX7_effect_92 : decode cX7_effect 92 = .ok (.ireturn, 1) := by decide +kernel
theorem dX7_hands_0 : decode cX7_hands 0 = .ok (.iload_n 1, 1) := by decide +kernel
theorem dX7_hands_1 : decode cX7_hands 1 = .ok (.iconst 0, 1) := by decide +kernel
theorem dX7_hands_2 : decode cX7_hands 2 = .ok (.iconst 4, 1) := by decide +kernel
theorem dX7_hands_3 : decode cX7_hands 3 = .ok (.invokestatic 130, 3) := by decide +kernel
theorem dX7_hands_6 : decode cX7_hands 6 = .ok (.ifCond .ne 5, 3) := by decide +kernel
theorem dX7_hands_9 : decode cX7_hands 9 = .ok (.iconst (-1), 1) := by decide +kernel
theorem dX7_hands_10 : decode cX7_hands 10 = .ok (.ireturn, 1) := by decide +kernel
theorem dX7_hands_11 : decode cX7_hands 11 = .ok (.aload_n 0, 1) := by decide +kernel
theorem dX7_hands_12 : decode cX7_hands 12 = .ok (.getfield 124, 3) := by decide +kernel
theorem dX7_hands_15 : decode cX7_hands 15 = .ok (.istore_n 2, 1) := by decide +kernel
theorem dX7_hands_16 : decode cX7_hands 16 = .ok (.aload_n 0, 1) := by decide +kernel
theorem dX7_hands_17 : decode cX7_hands 17 = .ok (.iload_n 1, 1) := by decide +kernel
theorem dX7_hands_18 : decode cX7_hands 18 = .ok (.putfield 124, 3) := by decide +kernel
theorem dX7_hands_21 : decode cX7_hands 21 = .ok (.iload_n 2, 1) := by decide +kernel
theorem dX7_hands_22 : decode cX7_hands 22 = .ok (.ireturn, 1) := by decide +kernel
theorem dX7_freeIn_0 : decode cX7_freeIn 0 = .ok (.aload_n 0, 1) := by decide +kernel
theorem dX7_freeIn_1 : decode cX7_freeIn 1 = .ok (.getfield 124, 3) := by decide +kernel
theorem dX7_freeIn_4 : decode cX7_freeIn 4 = .ok (.istore_n 3, 1) := by decide +kernel
theorem dX7_freeIn_5 : decode cX7_freeIn 5 = .ok (.iconst 0, 1) := by decide +kernel
theorem dX7_freeIn_6 : decode cX7_freeIn 6 = .ok (.istore 4, 2) := by decide +kernel
theorem dX7_freeIn_8 : decode cX7_freeIn 8 = .ok (.iload 4, 2) := by decide +kernel
theorem dX7_freeIn_10 : decode cX7_freeIn 10 = .ok (.aload_n 0, 1) := by decide +kernel
theorem dX7_freeIn_11 : decode cX7_freeIn 11 = .ok (.getfield 271, 3) := by decide +kernel
theorem dX7_freeIn_14 : decode cX7_freeIn 14 = .ok (.if_icmp .ge 50, 3) := by decide +kernel
theorem dX7_freeIn_17 : decode cX7_freeIn 17 = .ok (.iload_n 1, 1) := by decide +kernel
theorem dX7_freeIn_18 : decode cX7_freeIn 18 = .ok (.aload_n 0, 1) := by decide +kernel
theorem dX7_freeIn_19 : decode cX7_freeIn 19 = .ok (.getfield 115, 3) := by decide +kernel
theorem dX7_freeIn_22 : decode cX7_freeIn 22 = .ok (.iload 4, 2) := by decide +kernel
theorem dX7_freeIn_24 : decode cX7_freeIn 24 = .ok (.iaload, 1) := by decide +kernel
theorem dX7_freeIn_25 : decode cX7_freeIn 25 = .ok (.if_icmp .lt 33, 3) := by decide +kernel
theorem dX7_freeIn_28 : decode cX7_freeIn 28 = .ok (.iload_n 1, 1) := by decide +kernel
theorem dX7_freeIn_29 : decode cX7_freeIn 29 = .ok (.aload_n 0, 1) := by decide +kernel
theorem dX7_freeIn_30 : decode cX7_freeIn 30 = .ok (.getfield 118, 3) := by decide +kernel
theorem dX7_freeIn_33 : decode cX7_freeIn 33 = .ok (.iload 4, 2) := by decide +kernel
theorem dX7_freeIn_35 : decode cX7_freeIn 35 = .ok (.iaload, 1) := by decide +kernel
theorem dX7_freeIn_36 : decode cX7_freeIn 36 = .ok (.if_icmp .ge 22, 3) := by decide +kernel
theorem dX7_freeIn_39 : decode cX7_freeIn 39 = .ok (.iload_n 2, 1) := by decide +kernel
theorem dX7_freeIn_40 : decode cX7_freeIn 40 = .ok (.iload 4, 2) := by decide +kernel
theorem dX7_freeIn_42 : decode cX7_freeIn 42 = .ok (.ishr, 1) := by decide +kernel
theorem dX7_freeIn_43 : decode cX7_freeIn 43 = .ok (.iconst 1, 1) := by decide +kernel
theorem dX7_freeIn_44 : decode cX7_freeIn 44 = .ok (.iand, 1) := by decide +kernel
theorem dX7_freeIn_45 : decode cX7_freeIn 45 = .ok (.ifCond .ne 13, 3) := by decide +kernel
theorem dX7_freeIn_48 : decode cX7_freeIn 48 = .ok (.iload_n 3, 1) := by decide +kernel
theorem dX7_freeIn_49 : decode cX7_freeIn 49 = .ok (.aload_n 0, 1) := by decide +kernel
theorem dX7_freeIn_50 : decode cX7_freeIn 50 = .ok (.getfield 121, 3) := by decide +kernel
theorem dX7_freeIn_53 : decode cX7_freeIn 53 = .ok (.iload 4, 2) := by decide +kernel
theorem dX7_freeIn_55 : decode cX7_freeIn 55 = .ok (.iaload, 1) := by decide +kernel
theorem dX7_freeIn_56 : decode cX7_freeIn 56 = .ok (.isub, 1) := by decide +kernel
theorem dX7_freeIn_57 : decode cX7_freeIn 57 = .ok (.istore_n 3, 1) := by decide +kernel
theorem dX7_freeIn_58 : decode cX7_freeIn 58 = .ok (.iinc 4 1, 3) := by decide +kernel
theorem dX7_freeIn_61 : decode cX7_freeIn 61 = .ok (.goto (-53), 3) := by decide +kernel
theorem dX7_freeIn_64 : decode cX7_freeIn 64 = .ok (.iload_n 3, 1) := by decide +kernel
theorem dX7_freeIn_65 : decode cX7_freeIn 65 = .ok (.ireturn, 1) := by decide +kernel
theorem dX7_free_0 : decode cX7_free 0 = .ok (.iload_n 1, 1) := by decide +kernel
theorem dX7_free_1 : decode cX7_free 1 = .ok (.iconst 0, 1) := by decide +kernel
theorem dX7_free_2 : decode cX7_free 2 = .ok (.ldc_w 270, 3) := by decide +kernel
theorem dX7_free_5 : decode cX7_free 5 = .ok (.invokestatic 130, 3) := by decide +kernel
theorem dX7_free_8 : decode cX7_free 8 = .ok (.ifCond .eq 12, 3) := by decide +kernel
theorem dX7_free_11 : decode cX7_free 11 = .ok (.aload_n 0, 1) := by decide +kernel
theorem dX7_free_12 : decode cX7_free 12 = .ok (.iload_n 1, 1) := by decide +kernel
theorem dX7_free_13 : decode cX7_free 13 = .ok (.iconst 0, 1) := by decide +kernel
theorem dX7_free_14 : decode cX7_free 14 = .ok (.invokevirtual 274, 3) := by decide +kernel
theorem dX7_free_17 : decode cX7_free 17 = .ok (.goto 5, 3) := by decide +kernel
theorem dX7_free_20 : decode cX7_free 20 = .ok (.bipush (-99), 2) := by decide +kernel
theorem dX7_free_22 : decode cX7_free 22 = .ok (.ireturn, 1) := by decide +kernel
theorem dX7_clash_0 : decode cX7_clash 0 = .ok (.bipush (-2), 2) := by decide +kernel
theorem dX7_clash_2 : decode cX7_clash 2 = .ok (.istore_n 1, 1) := by decide +kernel
theorem dX7_clash_3 : decode cX7_clash 3 = .ok (.iconst 0, 1) := by decide +kernel
theorem dX7_clash_4 : decode cX7_clash 4 = .ok (.istore_n 2, 1) := by decide +kernel
theorem dX7_clash_5 : decode cX7_clash 5 = .ok (.iload_n 2, 1) := by decide +kernel
theorem dX7_clash_6 : decode cX7_clash 6 = .ok (.aload_n 0, 1) := by decide +kernel
theorem dX7_clash_7 : decode cX7_clash 7 = .ok (.getfield 271, 3) := by decide +kernel
theorem dX7_clash_10 : decode cX7_clash 10 = .ok (.if_icmp .ge 44, 3) := by decide +kernel
theorem dX7_clash_13 : decode cX7_clash 13 = .ok (.aload_n 0, 1) := by decide +kernel
theorem dX7_clash_14 : decode cX7_clash 14 = .ok (.aload_n 0, 1) := by decide +kernel
theorem dX7_clash_15 : decode cX7_clash 15 = .ok (.getfield 115, 3) := by decide +kernel
theorem dX7_clash_18 : decode cX7_clash 18 = .ok (.iload_n 2, 1) := by decide +kernel
theorem dX7_clash_19 : decode cX7_clash 19 = .ok (.iaload, 1) := by decide +kernel
theorem dX7_clash_20 : decode cX7_clash 20 = .ok (.iconst 0, 1) := by decide +kernel
theorem dX7_clash_21 : decode cX7_clash 21 = .ok (.invokevirtual 274, 3) := by decide +kernel
theorem dX7_clash_24 : decode cX7_clash 24 = .ok (.ifCond .ge 24, 3) := by decide +kernel
theorem dX7_clash_27 : decode cX7_clash 27 = .ok (.iload_n 1, 1) := by decide +kernel
theorem dX7_clash_28 : decode cX7_clash 28 = .ok (.ifCond .lt 13, 3) := by decide +kernel
theorem dX7_clash_31 : decode cX7_clash 31 = .ok (.aload_n 0, 1) := by decide +kernel
theorem dX7_clash_32 : decode cX7_clash 32 = .ok (.getfield 115, 3) := by decide +kernel
theorem dX7_clash_35 : decode cX7_clash 35 = .ok (.iload_n 2, 1) := by decide +kernel
theorem dX7_clash_36 : decode cX7_clash 36 = .ok (.iaload, 1) := by decide +kernel
theorem dX7_clash_37 : decode cX7_clash 37 = .ok (.iload_n 1, 1) := by decide +kernel
theorem dX7_clash_38 : decode cX7_clash 38 = .ok (.if_icmp .ge 10, 3) := by decide +kernel
theorem dX7_clash_41 : decode cX7_clash 41 = .ok (.aload_n 0, 1) := by decide +kernel
theorem dX7_clash_42 : decode cX7_clash 42 = .ok (.getfield 115, 3) := by decide +kernel
theorem dX7_clash_45 : decode cX7_clash 45 = .ok (.iload_n 2, 1) := by decide +kernel
theorem dX7_clash_46 : decode cX7_clash 46 = .ok (.iaload, 1) := by decide +kernel
theorem dX7_clash_47 : decode cX7_clash 47 = .ok (.istore_n 1, 1) := by decide +kernel
theorem dX7_clash_48 : decode cX7_clash 48 = .ok (.iinc 2 1, 3) := by decide +kernel
theorem dX7_clash_51 : decode cX7_clash 51 = .ok (.goto (-46), 3) := by decide +kernel
theorem dX7_clash_54 : decode cX7_clash 54 = .ok (.iload_n 1, 1) := by decide +kernel
theorem dX7_clash_55 : decode cX7_clash 55 = .ok (.ireturn, 1) := by decide +kernel
theorem dX7_bitsOf_0 : decode cX7_bitsOf 0 = .ok (.iconst 0, 1) := by decide +kernel
theorem dX7_bitsOf_1 : decode cX7_bitsOf 1 = .ok (.istore_n 1, 1) := by decide +kernel
theorem dX7_bitsOf_2 : decode cX7_bitsOf 2 = .ok (.iload_n 0, 1) := by decide +kernel
theorem dX7_bitsOf_3 : decode cX7_bitsOf 3 = .ok (.istore_n 2, 1) := by decide +kernel
theorem dX7_bitsOf_4 : decode cX7_bitsOf 4 = .ok (.iload_n 2, 1) := by decide +kernel
theorem dX7_bitsOf_5 : decode cX7_bitsOf 5 = .ok (.ifCond .eq 15, 3) := by decide +kernel
theorem dX7_bitsOf_8 : decode cX7_bitsOf 8 = .ok (.iinc 1 1, 3) := by decide +kernel
theorem dX7_bitsOf_11 : decode cX7_bitsOf 11 = .ok (.iload_n 2, 1) := by decide +kernel
theorem dX7_bitsOf_12 : decode cX7_bitsOf 12 = .ok (.iload_n 2, 1) := by decide +kernel
theorem dX7_bitsOf_13 : decode cX7_bitsOf 13 = .ok (.iconst 1, 1) := by decide +kernel
theorem dX7_bitsOf_14 : decode cX7_bitsOf 14 = .ok (.isub, 1) := by decide +kernel
theorem dX7_bitsOf_15 : decode cX7_bitsOf 15 = .ok (.iand, 1) := by decide +kernel
theorem dX7_bitsOf_16 : decode cX7_bitsOf 16 = .ok (.istore_n 2, 1) := by decide +kernel
theorem dX7_bitsOf_17 : decode cX7_bitsOf 17 = .ok (.goto (-13), 3) := by decide +kernel
theorem dX7_bitsOf_20 : decode cX7_bitsOf 20 = .ok (.iload_n 1, 1) := by decide +kernel
theorem dX7_bitsOf_21 : decode cX7_bitsOf 21 = .ok (.ireturn, 1) := by decide +kernel
theorem dX7_left_0 : decode cX7_left 0 = .ok (.aload_n 0, 1) := by decide +kernel
theorem dX7_left_1 : decode cX7_left 1 = .ok (.getfield 271, 3) := by decide +kernel
theorem dX7_left_4 : decode cX7_left 4 = .ok (.bipush 12, 2) := by decide +kernel
theorem dX7_left_6 : decode cX7_left 6 = .ok (.if_icmp .le 6, 3) := by decide +kernel
theorem dX7_left_9 : decode cX7_left 9 = .ok (.bipush (-4), 2) := by decide +kernel
theorem dX7_left_11 : decode cX7_left 11 = .ok (.ireturn, 1) := by decide +kernel
theorem dX7_left_12 : decode cX7_left 12 = .ok (.iconst (-1), 1) := by decide +kernel
theorem dX7_left_13 : decode cX7_left 13 = .ok (.istore_n 1, 1) := by decide +kernel
theorem dX7_left_14 : decode cX7_left 14 = .ok (.iconst 0, 1) := by decide +kernel
theorem dX7_left_15 : decode cX7_left 15 = .ok (.istore_n 2, 1) := by decide +kernel
theorem dX7_left_16 : decode cX7_left 16 = .ok (.iload_n 2, 1) := by decide +kernel
theorem dX7_left_17 : decode cX7_left 17 = .ok (.iconst 1, 1) := by decide +kernel
theorem dX7_left_18 : decode cX7_left 18 = .ok (.aload_n 0, 1) := by decide +kernel
theorem dX7_left_19 : decode cX7_left 19 = .ok (.getfield 271, 3) := by decide +kernel
theorem dX7_left_22 : decode cX7_left 22 = .ok (.ishl, 1) := by decide +kernel
theorem dX7_left_23 : decode cX7_left 23 = .ok (.if_icmp .ge 107, 3) := by decide +kernel
theorem dX7_left_26 : decode cX7_left 26 = .ok (.iconst 1, 1) := by decide +kernel
theorem dX7_left_27 : decode cX7_left 27 = .ok (.istore_n 3, 1) := by decide +kernel
theorem dX7_left_28 : decode cX7_left 28 = .ok (.iconst 0, 1) := by decide +kernel
theorem dX7_left_29 : decode cX7_left 29 = .ok (.istore 4, 2) := by decide +kernel
theorem dX7_left_31 : decode cX7_left 31 = .ok (.iload 4, 2) := by decide +kernel
theorem dX7_left_33 : decode cX7_left 33 = .ok (.aload_n 0, 1) := by decide +kernel
theorem dX7_left_34 : decode cX7_left 34 = .ok (.getfield 271, 3) := by decide +kernel
theorem dX7_left_37 : decode cX7_left 37 = .ok (.if_icmp .ge 34, 3) := by decide +kernel
theorem dX7_left_40 : decode cX7_left 40 = .ok (.iload_n 3, 1) := by decide +kernel
theorem dX7_left_41 : decode cX7_left 41 = .ok (.ifCond .eq 30, 3) := by decide +kernel
theorem dX7_left_44 : decode cX7_left 44 = .ok (.aload_n 0, 1) := by decide +kernel
theorem dX7_left_45 : decode cX7_left 45 = .ok (.aload_n 0, 1) := by decide +kernel
theorem dX7_left_46 : decode cX7_left 46 = .ok (.getfield 115, 3) := by decide +kernel
theorem dX7_left_49 : decode cX7_left 49 = .ok (.iload 4, 2) := by decide +kernel
theorem dX7_left_51 : decode cX7_left 51 = .ok (.iaload, 1) := by decide +kernel
theorem dX7_left_52 : decode cX7_left 52 = .ok (.iload_n 2, 1) := by decide +kernel
theorem dX7_left_53 : decode cX7_left 53 = .ok (.invokevirtual 274, 3) := by decide +kernel
theorem dX7_left_56 : decode cX7_left 56 = .ok (.ifCond .lt 7, 3) := by decide +kernel
theorem dX7_left_59 : decode cX7_left 59 = .ok (.iconst 1, 1) := by decide +kernel
theorem dX7_left_60 : decode cX7_left 60 = .ok (.goto 4, 3) := by decide +kernel
theorem dX7_left_63 : decode cX7_left 63 = .ok (.iconst 0, 1) := by decide +kernel
theorem dX7_left_64 : decode cX7_left 64 = .ok (.istore_n 3, 1) := by decide +kernel
theorem dX7_left_65 : decode cX7_left 65 = .ok (.iinc 4 1, 3) := by decide +kernel
theorem dX7_left_68 : decode cX7_left 68 = .ok (.goto (-37), 3) := by decide +kernel
theorem dX7_left_71 : decode cX7_left 71 = .ok (.iload_n 3, 1) := by decide +kernel
theorem dX7_left_72 : decode cX7_left 72 = .ok (.ifCond .ne 6, 3) := by decide +kernel
theorem dX7_left_75 : decode cX7_left 75 = .ok (.goto 49, 3) := by decide +kernel
theorem dX7_left_78 : decode cX7_left 78 = .ok (.iload_n 1, 1) := by decide +kernel
theorem dX7_left_79 : decode cX7_left 79 = .ok (.ifCond .lt 43, 3) := by decide +kernel
theorem dX7_left_82 : decode cX7_left 82 = .ok (.iload_n 2, 1) := by decide +kernel
theorem dX7_left_83 : decode cX7_left 83 = .ok (.invokestatic 277, 3) := by decide +kernel
theorem dX7_left_86 : decode cX7_left 86 = .ok (.iload_n 1, 1) := by decide +kernel
theorem dX7_left_87 : decode cX7_left 87 = .ok (.invokestatic 277, 3) := by decide +kernel
theorem dX7_left_90 : decode cX7_left 90 = .ok (.isub, 1) := by decide +kernel
theorem dX7_left_91 : decode cX7_left 91 = .ok (.istore 4, 2) := by decide +kernel
theorem dX7_left_93 : decode cX7_left 93 = .ok (.iload_n 2, 1) := by decide +kernel
theorem dX7_left_94 : decode cX7_left 94 = .ok (.iload_n 1, 1) := by decide +kernel
theorem dX7_left_95 : decode cX7_left 95 = .ok (.ixor, 1) := by decide +kernel
theorem dX7_left_96 : decode cX7_left 96 = .ok (.istore 5, 2) := by decide +kernel
theorem dX7_left_98 : decode cX7_left 98 = .ok (.iload 4, 2) := by decide +kernel
theorem dX7_left_100 : decode cX7_left 100 = .ok (.ifCond .gt 24, 3) := by decide +kernel
theorem dX7_left_103 : decode cX7_left 103 = .ok (.iload 4, 2) := by decide +kernel
theorem dX7_left_105 : decode cX7_left 105 = .ok (.ifCond .ne 17, 3) := by decide +kernel
theorem dX7_left_108 : decode cX7_left 108 = .ok (.iload_n 2, 1) := by decide +kernel
theorem dX7_left_109 : decode cX7_left 109 = .ok (.iload 5, 2) := by decide +kernel
theorem dX7_left_111 : decode cX7_left 111 = .ok (.iand, 1) := by decide +kernel
theorem dX7_left_112 : decode cX7_left 112 = .ok (.iload 5, 2) := by decide +kernel
theorem dX7_left_114 : decode cX7_left 114 = .ok (.ineg, 1) := by decide +kernel
theorem dX7_left_115 : decode cX7_left 115 = .ok (.iand, 1) := by decide +kernel
theorem dX7_left_116 : decode cX7_left 116 = .ok (.ifCond .ne 6, 3) := by decide +kernel
theorem dX7_left_119 : decode cX7_left 119 = .ok (.goto 5, 3) := by decide +kernel
theorem dX7_left_122 : decode cX7_left 122 = .ok (.iload_n 2, 1) := by decide +kernel
theorem dX7_left_123 : decode cX7_left 123 = .ok (.istore_n 1, 1) := by decide +kernel
theorem dX7_left_124 : decode cX7_left 124 = .ok (.iinc 2 1, 3) := by decide +kernel
theorem dX7_left_127 : decode cX7_left 127 = .ok (.goto (-111), 3) := by decide +kernel
theorem dX7_left_130 : decode cX7_left 130 = .ok (.iload_n 1, 1) := by decide +kernel
theorem dX7_left_131 : decode cX7_left 131 = .ok (.ireturn, 1) := by decide +kernel
theorem dX7_count_0 : decode cX7_count 0 = .ok (.iconst 0, 1) := by decide +kernel
theorem dX7_count_1 : decode cX7_count 1 = .ok (.istore_n 2, 1) := by decide +kernel
theorem dX7_count_2 : decode cX7_count 2 = .ok (.iload_n 1, 1) := by decide +kernel
theorem dX7_count_3 : decode cX7_count 3 = .ok (.tableswitch 89 0 5 #[37, 42, 47, 52, 79, 84], 37) := by decide +kernel
theorem dX7_count_40 : decode cX7_count 40 = .ok (.aload_n 0, 1) := by decide +kernel
theorem dX7_count_41 : decode cX7_count 41 = .ok (.getfield 134, 3) := by decide +kernel
theorem dX7_count_44 : decode cX7_count 44 = .ok (.ireturn, 1) := by decide +kernel
theorem dX7_count_45 : decode cX7_count 45 = .ok (.aload_n 0, 1) := by decide +kernel
theorem dX7_count_46 : decode cX7_count 46 = .ok (.invokevirtual 148, 3) := by decide +kernel
theorem dX7_count_49 : decode cX7_count 49 = .ok (.ireturn, 1) := by decide +kernel
theorem dX7_count_50 : decode cX7_count 50 = .ok (.aload_n 0, 1) := by decide +kernel
theorem dX7_count_51 : decode cX7_count 51 = .ok (.getfield 151, 3) := by decide +kernel
theorem dX7_count_54 : decode cX7_count 54 = .ok (.ireturn, 1) := by decide +kernel
theorem dX7_count_55 : decode cX7_count 55 = .ok (.iconst 0, 1) := by decide +kernel
theorem dX7_count_56 : decode cX7_count 56 = .ok (.istore_n 3, 1) := by decide +kernel
theorem dX7_count_57 : decode cX7_count 57 = .ok (.iload_n 3, 1) := by decide +kernel
theorem dX7_count_58 : decode cX7_count 58 = .ok (.aload_n 0, 1) := by decide +kernel
theorem dX7_count_59 : decode cX7_count 59 = .ok (.getfield 151, 3) := by decide +kernel
theorem dX7_count_62 : decode cX7_count 62 = .ok (.if_icmp .ge 18, 3) := by decide +kernel
theorem dX7_count_65 : decode cX7_count 65 = .ok (.iload_n 2, 1) := by decide +kernel
theorem dX7_count_66 : decode cX7_count 66 = .ok (.aload_n 0, 1) := by decide +kernel
theorem dX7_count_67 : decode cX7_count 67 = .ok (.getfield 38, 3) := by decide +kernel
theorem dX7_count_70 : decode cX7_count 70 = .ok (.iload_n 3, 1) := by decide +kernel
theorem dX7_count_71 : decode cX7_count 71 = .ok (.iaload, 1) := by decide +kernel
theorem dX7_count_72 : decode cX7_count 72 = .ok (.iadd, 1) := by decide +kernel
theorem dX7_count_73 : decode cX7_count 73 = .ok (.istore_n 2, 1) := by decide +kernel
theorem dX7_count_74 : decode cX7_count 74 = .ok (.iinc 3 1, 3) := by decide +kernel
theorem dX7_count_77 : decode cX7_count 77 = .ok (.goto (-20), 3) := by decide +kernel
theorem dX7_count_80 : decode cX7_count 80 = .ok (.iload_n 2, 1) := by decide +kernel
theorem dX7_count_81 : decode cX7_count 81 = .ok (.ireturn, 1) := by decide +kernel
theorem dX7_count_82 : decode cX7_count 82 = .ok (.aload_n 0, 1) := by decide +kernel
theorem dX7_count_83 : decode cX7_count 83 = .ok (.getfield 271, 3) := by decide +kernel
theorem dX7_count_86 : decode cX7_count 86 = .ok (.ireturn, 1) := by decide +kernel
theorem dX7_count_87 : decode cX7_count 87 = .ok (.aload_n 0, 1) := by decide +kernel
theorem dX7_count_88 : decode cX7_count 88 = .ok (.getfield 227, 3) := by decide +kernel
theorem dX7_count_91 : decode cX7_count 91 = .ok (.ireturn, 1) := by decide +kernel
theorem dX7_count_92 : decode cX7_count 92 = .ok (.iconst (-1), 1) := by decide +kernel
theorem dX7_count_93 : decode cX7_count 93 = .ok (.ireturn, 1) := by decide +kernel
