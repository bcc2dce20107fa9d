theorem dX10_init_0 : decode cX10_init 0 = .ok (.aload_n 0, 1) := by decide +kernel
theorem dX10_init_1 : decode cX10_init 1 = .ok (.invokespecial 1, 3) := by decide +kernel
theorem dX10_init_4 : decode cX10_init 4 = .ok (.aload_n 0, 1) := by decide +kernel
theorem dX10_init_5 : decode cX10_init 5 = .ok (.bipush 31, 2) := by decide +kernel
theorem dX10_init_7 : decode cX10_init 7 = .ok (.newarray .int, 2) := by decide +kernel
theorem dX10_init_9 : decode cX10_init 9 = .ok (.putfield 7, 3) := by decide +kernel
theorem dX10_init_12 : decode cX10_init 12 = .ok (.aload_n 0, 1) := by decide +kernel
theorem dX10_init_13 : decode cX10_init 13 = .ok (.bipush 31, 2) := by decide +kernel
theorem dX10_init_15 : decode cX10_init 15 = .ok (.newarray .int, 2) := by decide +kernel
theorem dX10_init_17 : decode cX10_init 17 = .ok (.putfield 13, 3) := by decide +kernel
theorem dX10_init_20 : decode cX10_init 20 = .ok (.aload_n 0, 1) := by decide +kernel
theorem dX10_init_21 : decode cX10_init 21 = .ok (.bipush 31, 2) := by decide +kernel
theorem dX10_init_23 : decode cX10_init 23 = .ok (.newarray .int, 2) := by decide +kernel
theorem dX10_init_25 : decode cX10_init 25 = .ok (.putfield 16, 3) := by decide +kernel
theorem dX10_init_28 : decode cX10_init 28 = .ok (.aload_n 0, 1) := by decide +kernel
theorem dX10_init_29 : decode cX10_init 29 = .ok (.bipush 31, 2) := by decide +kernel
theorem dX10_init_31 : decode cX10_init 31 = .ok (.newarray .int, 2) := by decide +kernel
theorem dX10_init_33 : decode cX10_init 33 = .ok (.putfield 19, 3) := by decide +kernel
theorem dX10_init_36 : decode cX10_init 36 = .ok (.aload_n 0, 1) := by decide +kernel
theorem dX10_init_37 : decode cX10_init 37 = .ok (.bipush 20, 2) := by decide +kernel
theorem dX10_init_39 : decode cX10_init 39 = .ok (.newarray .int, 2) := by decide +kernel
theorem dX10_init_41 : decode cX10_init 41 = .ok (.putfield 22, 3) := by decide +kernel
theorem dX10_init_44 : decode cX10_init 44 = .ok (.aload_n 0, 1) := by decide +kernel
theorem dX10_init_45 : decode cX10_init 45 = .ok (.bipush 20, 2) := by decide +kernel
theorem dX10_init_47 : decode cX10_init 47 = .ok (.newarray .int, 2) := by decide +kernel
theorem dX10_init_49 : decode cX10_init 49 = .ok (.putfield 25, 3) := by decide +kernel
theorem dX10_init_52 : decode cX10_init 52 = .ok (.aload_n 0, 1) := by decide +kernel
theorem dX10_init_53 : decode cX10_init 53 = .ok (.bipush 20, 2) := by decide +kernel
theorem dX10_init_55 : decode cX10_init 55 = .ok (.newarray .int, 2) := by decide +kernel
theorem dX10_init_57 : decode cX10_init 57 = .ok (.putfield 28, 3) := by decide +kernel
theorem dX10_init_60 : decode cX10_init 60 = .ok (.aload_n 0, 1) := by decide +kernel
theorem dX10_init_61 : decode cX10_init 61 = .ok (.bipush 20, 2) := by decide +kernel
theorem dX10_init_63 : decode cX10_init 63 = .ok (.newarray .int, 2) := by decide +kernel
theorem dX10_init_65 : decode cX10_init 65 = .ok (.putfield 31, 3) := by decide +kernel
theorem dX10_init_68 : decode cX10_init 68 = .ok (.aload_n 0, 1) := by decide +kernel
theorem dX10_init_69 : decode cX10_init 69 = .ok (.bipush 20, 2) := by decide +kernel
theorem dX10_init_71 : decode cX10_init 71 = .ok (.newarray .int, 2) := by decide +kernel
theorem dX10_init_73 : decode cX10_init 73 = .ok (.putfield 34, 3) := by decide +kernel
theorem dX10_init_76 : decode cX10_init 76 = .ok (.aload_n 0, 1) := by decide +kernel
theorem dX10_init_77 : decode cX10_init 77 = .ok (.bipush 20, 2) := by decide +kernel
theorem dX10_init_79 : decode cX10_init 79 = .ok (.newarray .int, 2) := by decide +kernel
theorem dX10_init_81 : decode cX10_init 81 = .ok (.putfield 37, 3) := by decide +kernel
theorem dX10_init_84 : decode cX10_init 84 = .ok (.aload_n 0, 1) := by decide +kernel
theorem dX10_init_85 : decode cX10_init 85 = .ok (.bipush 20, 2) := by decide +kernel
theorem dX10_init_87 : decode cX10_init 87 = .ok (.newarray .int, 2) := by decide +kernel
theorem dX10_init_89 : decode cX10_init 89 = .ok (.putfield 40, 3) := by decide +kernel
theorem dX10_init_92 : decode cX10_init 92 = .ok (.aload_n 0, 1) := by decide +kernel
theorem dX10_init_93 : decode cX10_init 93 = .ok (.bipush 60, 2) := by decide +kernel
theorem dX10_init_95 : decode cX10_init 95 = .ok (.newarray .int, 2) := by decide +kernel
theorem dX10_init_97 : decode cX10_init 97 = .ok (.putfield 43, 3) := by decide +kernel
theorem dX10_init_100 : decode cX10_init 100 = .ok (.aload_n 0, 1) := by decide +kernel
theorem dX10_init_101 : decode cX10_init 101 = .ok (.bipush 60, 2) := by decide +kernel
theorem dX10_init_103 : decode cX10_init 103 = .ok (.newarray .int, 2) := by decide +kernel
theorem dX10_init_105 : decode cX10_init 105 = .ok (.putfield 46, 3) := by decide +kernel
theorem dX10_init_108 : decode cX10_init 108 = .ok (.aload_n 0, 1) := by decide +kernel
theorem dX10_init_109 : decode cX10_init 109 = .ok (.bipush 60, 2) := by decide +kernel
theorem dX10_init_111 : decode cX10_init 111 = .ok (.newarray .int, 2) := by decide +kernel
theorem dX10_init_113 : decode cX10_init 113 = .ok (.putfield 49, 3) := by decide +kernel
theorem dX10_init_116 : decode cX10_init 116 = .ok (.aload_n 0, 1) := by decide +kernel
theorem dX10_init_117 : decode cX10_init 117 = .ok (.bipush 60, 2) := by decide +kernel
theorem dX10_init_119 : decode cX10_init 119 = .ok (.newarray .int, 2) := by decide +kernel
theorem dX10_init_121 : decode cX10_init 121 = .ok (.putfield 52, 3) := by decide +kernel
theorem dX10_init_124 : decode cX10_init 124 = .ok (.aload_n 0, 1) := by decide +kernel
theorem dX10_init_125 : decode cX10_init 125 = .ok (.bipush 60, 2) := by decide +kernel
theorem dX10_init_127 : decode cX10_init 127 = .ok (.newarray .int, 2) := by decide +kernel
theorem dX10_init_129 : decode cX10_init 129 = .ok (.putfield 55, 3) := by decide +kernel
theorem dX10_init_132 : decode cX10_init 132 = .ok (.aload_n 0, 1) := by decide +kernel
theorem dX10_init_133 : decode cX10_init 133 = .ok (.bipush 60, 2) := by decide +kernel
theorem dX10_init_135 : decode cX10_init 135 = .ok (.newarray .int, 2) := by decide +kernel
theorem dX10_init_137 : decode cX10_init 137 = .ok (.putfield 58, 3) := by decide +kernel
theorem dX10_init_140 : decode cX10_init 140 = .ok (.aload_n 0, 1) := by decide +kernel
theorem dX10_init_141 : decode cX10_init 141 = .ok (.bipush 60, 2) := by decide +kernel
theorem dX10_init_143 : decode cX10_init 143 = .ok (.newarray .int, 2) := by decide +kernel
theorem dX10_init_145 : decode cX10_init 145 = .ok (.putfield 61, 3) := by decide +kernel
theorem dX10_init_148 : decode cX10_init 148 = .ok (.aload_n 0, 1) := by decide +kernel
theorem dX10_init_149 : decode cX10_init 149 = .ok (.bipush 60, 2) := by decide +kernel
theorem dX10_init_151 : decode cX10_init 151 = .ok (.newarray .int, 2) := by decide +kernel
theorem dX10_init_153 : decode cX10_init 153 = .ok (.putfield 64, 3) := by decide +kernel
theorem dX10_init_156 : decode cX10_init 156 = .ok (.aload_n 0, 1) := by decide +kernel
theorem dX10_init_157 : decode cX10_init 157 = .ok (.bipush 60, 2) := by decide +kernel
theorem dX10_init_159 : decode cX10_init 159 = .ok (.newarray .int, 2) := by decide +kernel
theorem dX10_init_161 : decode cX10_init 161 = .ok (.putfield 67, 3) := by decide +kernel
theorem dX10_init_164 : decode cX10_init 164 = .ok (.aload_n 0, 1) := by decide +kernel
theorem dX10_init_165 : decode cX10_init 165 = .ok (.bipush 60, 2) := by decide +kernel
theorem dX10_init_167 : decode cX10_init 167 = .ok (.newarray .int, 2) := by decide +kernel
theorem dX10_init_169 : decode cX10_init 169 = .ok (.putfield 70, 3) := by decide +kernel
theorem dX10_init_172 : decode cX10_init 172 = .ok (.aload_n 0, 1) := by decide +kernel
theorem dX10_init_173 : decode cX10_init 173 = .ok (.bipush 60, 2) := by decide +kernel
theorem dX10_init_175 : decode cX10_init 175 = .ok (.newarray .int, 2) := by decide +kernel
theorem dX10_init_177 : decode cX10_init 177 = .ok (.putfield 73, 3) := by decide +kernel
theorem dX10_init_180 : decode cX10_init 180 = .ok (.aload_n 0, 1) := by decide +kernel
theorem dX10_init_181 : decode cX10_init 181 = .ok (.bipush 12, 2) := by decide +kernel
theorem dX10_init_183 : decode cX10_init 183 = .ok (.newarray .int, 2) := by decide +kernel
theorem dX10_init_185 : decode cX10_init 185 = .ok (.putfield 76, 3) := by decide +kernel
theorem dX10_init_188 : decode cX10_init 188 = .ok (.aload_n 0, 1) := by decide +kernel
theorem dX10_init_189 : decode cX10_init 189 = .ok (.bipush 12, 2) := by decide +kernel
theorem dX10_init_191 : decode cX10_init 191 = .ok (.newarray .int, 2) := by decide +kernel
theorem dX10_init_193 : decode cX10_init 193 = .ok (.putfield 79, 3) := by decide +kernel
theorem dX10_init_196 : decode cX10_init 196 = .ok (.aload_n 0, 1) := by decide +kernel
theorem dX10_init_197 : decode cX10_init 197 = .ok (.bipush 12, 2) := by decide +kernel
theorem dX10_init_199 : decode cX10_init 199 = .ok (.newarray .int, 2) := by decide +kernel
theorem dX10_init_201 : decode cX10_init 201 = .ok (.putfield 82, 3) := by decide +kernel
theorem dX10_init_204 : decode cX10_init 204 = .ok (.aload_n 0, 1) := by decide +kernel
theorem dX10_init_205 : decode cX10_init 205 = .ok (.bipush 12, 2) := by decide +kernel
theorem dX10_init_207 : decode cX10_init 207 = .ok (.newarray .int, 2) := by decide +kernel
theorem dX10_init_209 : decode cX10_init 209 = .ok (.putfield 85, 3) := by decide +kernel
theorem dX10_init_212 : decode cX10_init 212 = .ok (.aload_n 0, 1) := by decide +kernel
theorem dX10_init_213 : decode cX10_init 213 = .ok (.bipush 12, 2) := by decide +kernel
theorem dX10_init_215 : decode cX10_init 215 = .ok (.newarray .int, 2) := by decide +kernel
theorem dX10_init_217 : decode cX10_init 217 = .ok (.putfield 88, 3) := by decide +kernel
theorem dX10_init_220 : decode cX10_init 220 = .ok (.aload_n 0, 1) := by decide +kernel
theorem dX10_init_221 : decode cX10_init 221 = .ok (.bipush 12, 2) := by decide +kernel
theorem dX10_init_223 : decode cX10_init 223 = .ok (.newarray .int, 2) := by decide +kernel
theorem dX10_init_225 : decode cX10_init 225 = .ok (.putfield 91, 3) := by decide +kernel
theorem dX10_init_228 : decode cX10_init 228 = .ok (.aload_n 0, 1) := by decide +kernel
theorem dX10_init_229 : decode cX10_init 229 = .ok (.bipush 12, 2) := by decide +kernel
theorem dX10_init_231 : decode cX10_init 231 = .ok (.newarray .int, 2) := by decide +kernel
theorem dX10_init_233 : decode cX10_init 233 = .ok (.putfield 94, 3) := by decide +kernel
theorem dX10_init_236 : decode cX10_init 236 = .ok (.aload_n 0, 1) := by decide +kernel
theorem dX10_init_237 : decode cX10_init 237 = .ok (.bipush 12, 2) := by decide +kernel
theorem dX10_init_239 : decode cX10_init 239 = .ok (.newarray .int, 2) := by decide +kernel
theorem dX10_init_241 : decode cX10_init 241 = .ok (.putfield 97, 3) := by decide +kernel
theorem dX10_init_244 : decode cX10_init 244 = .ok (.aload_n 0, 1) := by decide +kernel
theorem dX10_init_245 : decode cX10_init 245 = .ok (.bipush 12, 2) := by decide +kernel
theorem dX10_init_247 : decode cX10_init 247 = .ok (.newarray .int, 2) := by decide +kernel
theorem dX10_init_249 : decode cX10_init 249 = .ok (.putfield 100, 3) := by decide +kernel
theorem dX10_init_252 : decode cX10_init 252 = .ok (.aload_n 0, 1) := by decide +kernel
theorem dX10_init_253 : decode cX10_init 253 = .ok (.bipush 12, 2) := by decide +kernel
theorem dX10_init_255 : decode cX10_init 255 = .ok (.newarray .int, 2) := by decide +kernel
theorem dX10_init_257 : decode cX10_init 257 = .ok (.putfield 103, 3) := by decide +kernel
theorem dX10_init_260 : decode cX10_init 260 = .ok (.aload_n 0, 1) := by decide +kernel
theorem dX10_init_261 : decode cX10_init 261 = .ok (.bipush 12, 2) := by decide +kernel
theorem dX10_init_263 : decode cX10_init 263 = .ok (.newarray .int, 2) := by decide +kernel
theorem dX10_init_265 : decode cX10_init 265 = .ok (.putfield 106, 3) := by decide +kernel
theorem dX10_init_268 : decode cX10_init 268 = .ok (.aload_n 0, 1) := by decide +kernel
theorem dX10_init_269 : decode cX10_init 269 = .ok (.bipush 12, 2) := by decide +kernel
theorem dX10_init_271 : decode cX10_init 271 = .ok (.newarray .int, 2) := by decide +kernel
theorem dX10_init_273 : decode cX10_init 273 = .ok (.putfield 109, 3) := by decide +kernel
theorem dX10_init_276 : decode cX10_init 276 = .ok (.aload_n 0, 1) := by decide +kernel
theorem dX10_init_277 : decode cX10_init 277 = .ok (.bipush 60, 2) := by decide +kernel
theorem dX10_init_279 : decode cX10_init 279 = .ok (.newarray .int, 2) := by decide +kernel
theorem dX10_init_281 : decode cX10_init 281 = .ok (.putfield 112, 3) := by decide +kernel
theorem dX10_init_284 : decode cX10_init 284 = .ok (.aload_n 0, 1) := by decide +kernel
theorem dX10_init_285 : decode cX10_init 285 = .ok (.bipush 60, 2) := by decide +kernel
theorem dX10_init_287 : decode cX10_init 287 = .ok (.newarray .int, 2) := by decide +kernel
theorem dX10_init_289 : decode cX10_init 289 = .ok (.putfield 115, 3) := by decide +kernel
theorem dX10_init_292 : decode cX10_init 292 = .ok (.aload_n 0, 1) := by decide +kernel
theorem dX10_init_293 : decode cX10_init 293 = .ok (.bipush 60, 2) := by decide +kernel
theorem dX10_init_295 : decode cX10_init 295 = .ok (.newarray .int, 2) := by decide +kernel
theorem dX10_init_297 : decode cX10_init 297 = .ok (.putfield 118, 3) := by decide +kernel
theorem dX10_init_300 : decode cX10_init 300 = .ok (.aload_n 0, 1) := by decide +kernel
theorem dX10_init_301 : decode cX10_init 301 = .ok (.bipush 60, 2) := by decide +kernel
theorem dX10_init_303 : decode cX10_init 303 = .ok (.newarray .boolean, 2) := by decide +kernel
theorem dX10_init_305 : decode cX10_init 305 = .ok (.putfield 121, 3) := by decide +kernel
theorem dX10_init_308 : decode cX10_init 308 = .ok (.aload_n 0, 1) := by decide +kernel
theorem dX10_init_309 : decode cX10_init 309 = .ok (.bipush 60, 2) := by decide +kernel
theorem dX10_init_311 : decode cX10_init 311 = .ok (.newarray .int, 2) := by decide +kernel
theorem dX10_init_313 : decode cX10_init 313 = .ok (.putfield 125, 3) := by decide +kernel
theorem dX10_init_316 : decode cX10_init 316 = .ok (.aload_n 0, 1) := by decide +kernel
theorem dX10_init_317 : decode cX10_init 317 = .ok (.bipush 60, 2) := by decide +kernel
theorem dX10_init_319 : decode cX10_init 319 = .ok (.newarray .int, 2) := by decide +kernel
theorem dX10_init_321 : decode cX10_init 321 = .ok (.putfield 128, 3) := by decide +kernel
theorem dX10_init_324 : decode cX10_init 324 = .ok (.aload_n 0, 1) := by decide +kernel
theorem dX10_init_325 : decode cX10_init 325 = .ok (.bipush 60, 2) := by decide +kernel
theorem dX10_init_327 : decode cX10_init 327 = .ok (.newarray .int, 2) := by decide +kernel
theorem dX10_init_329 : decode cX10_init 329 = .ok (.putfield 131, 3) := by decide +kernel
theorem dX10_init_332 : decode cX10_init 332 = .ok (.aload_n 0, 1) := by decide +kernel
theorem dX10_init_333 : decode cX10_init 333 = .ok (.bipush 60, 2) := by decide +kernel
theorem dX10_init_335 : decode cX10_init 335 = .ok (.newarray .int, 2) := by decide +kernel
theorem dX10_init_337 : decode cX10_init 337 = .ok (.putfield 134, 3) := by decide +kernel
theorem dX10_init_340 : decode cX10_init 340 = .ok (.aload_n 0, 1) := by decide +kernel
theorem dX10_init_341 : decode cX10_init 341 = .ok (.bipush 60, 2) := by decide +kernel
theorem dX10_init_343 : decode cX10_init 343 = .ok (.newarray .int, 2) := by decide +kernel
theorem dX10_init_345 : decode cX10_init 345 = .ok (.putfield 137, 3) := by decide +kernel
theorem dX10_init_348 : decode cX10_init 348 = .ok (.aload_n 0, 1) := by decide +kernel
theorem dX10_init_349 : decode cX10_init 349 = .ok (.bipush 60, 2) := by decide +kernel
theorem dX10_init_351 : decode cX10_init 351 = .ok (.newarray .int, 2) := by decide +kernel
theorem dX10_init_353 : decode cX10_init 353 = .ok (.putfield 140, 3) := by decide +kernel
theorem dX10_init_356 : decode cX10_init 356 = .ok (.aload_n 0, 1) := by decide +kernel
theorem dX10_init_357 : decode cX10_init 357 = .ok (.bipush 60, 2) := by decide +kernel
theorem dX10_init_359 : decode cX10_init 359 = .ok (.newarray .int, 2) := by decide +kernel
theorem dX10_init_361 : decode cX10_init 361 = .ok (.putfield 143, 3) := by decide +kernel
theorem dX10_init_364 : decode cX10_init 364 = .ok (.aload_n 0, 1) := by decide +kernel
theorem dX10_init_365 : decode cX10_init 365 = .ok (.bipush 20, 2) := by decide +kernel
theorem dX10_init_367 : decode cX10_init 367 = .ok (.newarray .int, 2) := by decide +kernel
theorem dX10_init_369 : decode cX10_init 369 = .ok (.putfield 146, 3) := by decide +kernel
theorem dX10_init_372 : decode cX10_init 372 = .ok (.aload_n 0, 1) := by decide +kernel
theorem dX10_init_373 : decode cX10_init 373 = .ok (.bipush 20, 2) := by decide +kernel
theorem dX10_init_375 : decode cX10_init 375 = .ok (.newarray .int, 2) := by decide +kernel
theorem dX10_init_377 : decode cX10_init 377 = .ok (.putfield 149, 3) := by decide +kernel
theorem dX10_init_380 : decode cX10_init 380 = .ok (.aload_n 0, 1) := by decide +kernel
theorem dX10_init_381 : decode cX10_init 381 = .ok (.sipush 240, 3) := by decide +kernel
theorem dX10_init_384 : decode cX10_init 384 = .ok (.newarray .int, 2) := by decide +kernel
theorem dX10_init_386 : decode cX10_init 386 = .ok (.putfield 152, 3) := by decide +kernel
theorem dX10_init_389 : decode cX10_init 389 = .ok (.aload_n 0, 1) := by decide +kernel
theorem dX10_init_390 : decode cX10_init 390 = .ok (.bipush 12, 2) := by decide +kernel
theorem dX10_init_392 : decode cX10_init 392 = .ok (.newarray .int, 2) := by decide +kernel
theorem dX10_init_394 : decode cX10_init 394 = .ok (.putfield 155, 3) := by decide +kernel
theorem dX10_init_397 : decode cX10_init 397 = .ok (.aload_n 0, 1) := by decide +kernel
theorem dX10_init_398 : decode cX10_init 398 = .ok (.bipush 12, 2) := by decide +kernel
theorem dX10_init_400 : decode cX10_init 400 = .ok (.newarray .int, 2) := by decide +kernel
theorem dX10_init_402 : decode cX10_init 402 = .ok (.putfield 158, 3) := by decide +kernel
theorem dX10_init_405 : decode cX10_init 405 = .ok (.aload_n 0, 1) := by decide +kernel
theorem dX10_init_406 : decode cX10_init 406 = .ok (.sipush 400, 3) := by decide +kernel
theorem dX10_init_409 : decode cX10_init 409 = .ok (.newarray .int, 2) := by decide +kernel
theorem dX10_init_411 : decode cX10_init 411 = .ok (.putfield 161, 3) := by decide +kernel
theorem dX10_init_414 : decode cX10_init 414 = .ok (.aload_n 0, 1) := by decide +kernel
theorem dX10_init_415 : decode cX10_init 415 = .ok (.iconst (-1), 1) := by decide +kernel
theorem dX10_init_416 : decode cX10_init 416 = .ok (.putfield 164, 3) := by decide +kernel
theorem dX10_init_419 : decode cX10_init 419 = .ok (.aload_n 0, 1) := by decide +kernel
theorem dX10_init_420 : decode cX10_init 420 = .ok (.bipush 6, 2) := by decide +kernel
theorem dX10_init_422 : decode cX10_init 422 = .ok (.newarray .int, 2) := by decide +kernel
theorem dX10_init_424 : decode cX10_init 424 = .ok (.putfield 168, 3) := by decide +kernel
theorem dX10_init_427 : decode cX10_init 427 = .ok (.aload_n 0, 1) := by decide +kernel
theorem dX10_init_428 : decode cX10_init 428 = .ok (.iconst 5, 1) := by decide +kernel
theorem dX10_init_429 : decode cX10_init 429 = .ok (.newarray .boolean, 2) := by decide +kernel
theorem dX10_init_431 : decode cX10_init 431 = .ok (.putfield 171, 3) := by decide +kernel
theorem dX10_init_434 : decode cX10_init 434 = .ok (.aload_n 0, 1) := by decide +kernel
theorem dX10_init_435 : decode cX10_init 435 = .ok (.sipush 4096, 3) := by decide +kernel
theorem dX10_init_438 : decode cX10_init 438 = .ok (.newarray .int, 2) := by decide +kernel
theorem dX10_init_440 : decode cX10_init 440 = .ok (.putfield 174, 3) := by decide +kernel
theorem dX10_init_443 : decode cX10_init 443 = .ok (.aload_n 0, 1) := by decide +kernel
theorem dX10_init_444 : decode cX10_init 444 = .ok (.bipush 8, 2) := by decide +kernel
theorem dX10_init_446 : decode cX10_init 446 = .ok (.newarray .int, 2) := by decide +kernel
theorem dX10_init_448 : decode cX10_init 448 = .ok (.putfield 177, 3) := by decide +kernel
theorem dX10_init_451 : decode cX10_init 451 = .ok (.iconst 0, 1) := by decide +kernel
theorem dX10_init_452 : decode cX10_init 452 = .ok (.istore_n 1, 1) := by decide +kernel
theorem dX10_init_453 : decode cX10_init 453 = .ok (.iload_n 1, 1) := by decide +kernel
theorem dX10_init_454 : decode cX10_init 454 = .ok (.bipush 31, 2) := by decide +kernel
theorem dX10_init_456 : decode cX10_init 456 = .ok (.if_icmp .ge 41, 3) := by decide +kernel
theorem dX10_init_459 : decode cX10_init 459 = .ok (.aload_n 0, 1) := by decide +kernel
theorem dX10_init_460 : decode cX10_init 460 = .ok (.getfield 7, 3) := by decide +kernel
theorem dX10_init_463 : decode cX10_init 463 = .ok (.iload_n 1, 1) := by decide +kernel
theorem dX10_init_464 : decode cX10_init 464 = .ok (.bipush 15, 2) := by decide +kernel
theorem dX10_init_466 : decode cX10_init 466 = .ok (.iastore, 1) := by decide +kernel
theorem dX10_init_467 : decode cX10_init 467 = .ok (.aload_n 0, 1) := by decide +kernel
theorem dX10_init_468 : decode cX10_init 468 = .ok (.getfield 13, 3) := by decide +kernel
theorem dX10_init_471 : decode cX10_init 471 = .ok (.iload_n 1, 1) := by decide +kernel
theorem dX10_init_472 : decode cX10_init 472 = .ok (.bipush 50, 2) := by decide +kernel
theorem dX10_init_474 : decode cX10_init 474 = .ok (.iastore, 1) := by decide +kernel
theorem dX10_init_475 : decode cX10_init 475 = .ok (.aload_n 0, 1) := by decide +kernel
theorem dX10_init_476 : decode cX10_init 476 = .ok (.getfield 16, 3) := by decide +kernel
theorem dX10_init_479 : decode cX10_init 479 = .ok (.iload_n 1, 1) := by decide +kernel
theorem dX10_init_480 : decode cX10_init 480 = .ok (.bipush (-20), 2) := by decide +kernel
theorem dX10_init_482 : decode cX10_init 482 = .ok (.iastore, 1) := by decide +kernel
theorem dX10_init_483 : decode cX10_init 483 = .ok (.aload_n 0, 1) := by decide +kernel
theorem dX10_init_484 : decode cX10_init 484 = .ok (.getfield 19, 3) := by decide +kernel
theorem dX10_init_487 : decode cX10_init 487 = .ok (.iload_n 1, 1) := by decide +kernel
theorem dX10_init_488 : decode cX10_init 488 = .ok (.bipush 40, 2) := by decide +kernel
theorem dX10_init_490 : decode cX10_init 490 = .ok (.iastore, 1) := by decide +kernel
theorem dX10_init_491 : decode cX10_init 491 = .ok (.iinc 1 1, 3) := by decide +kernel
theorem dX10_init_494 : decode cX10_init 494 = .ok (.goto (-41), 3) := by decide +kernel
theorem dX10_init_497 : decode cX10_init 497 = .ok (.return_, 1) := by decide +kernel
theorem dX10_thrown_0 : decode cX10_thrown 0 = .ok (.aload_n 0, 1) := by decide +kernel
theorem dX10_thrown_1 : decode cX10_thrown 1 = .ok (.getfield 180, 3) := by decide +kernel
theorem dX10_thrown_4 : decode cX10_thrown 4 = .ok (.ireturn, 1) := by decide +kernel
theorem dX10_isIn_0 : decode cX10_isIn 0 = .ok (.iload_n 0, 1) := by decide +kernel
theorem dX10_isIn_1 : decode cX10_isIn 1 = .ok (.iload_n 1, 1) := by decide +kernel
theorem dX10_isIn_2 : decode cX10_isIn 2 = .ok (.if_icmp .lt 12, 3) := by decide +kernel
theorem dX10_isIn_5 : decode cX10_isIn 5 = .ok (.iload_n 0, 1) := by decide +kernel
theorem dX10_isIn_6 : decode cX10_isIn 6 = .ok (.iload_n 2, 1) := by decide +kernel
theorem dX10_isIn_7 : decode cX10_isIn 7 = .ok (.if_icmp .gt 7, 3) := by decide +kernel
theorem dX10_isIn_10 : decode cX10_isIn 10 = .ok (.iconst 1, 1) := by decide +kernel
theorem dX10_isIn_11 : decode cX10_isIn 11 = .ok (.goto 4, 3) := by decide +kernel
theorem dX10_isIn_14 : decode cX10_isIn 14 = .ok (.iconst 0, 1) := by decide +kernel
theorem dX10_isIn_15 : decode cX10_isIn 15 = .ok (.ireturn, 1) := by decide +kernel
theorem dX10_steps_0 : decode cX10_steps 0 = .ok (.iload_n 0, 1) := by decide +kernel
theorem dX10_steps_1 : decode cX10_steps 1 = .ok (.iload_n 2, 1) := by decide +kernel
theorem dX10_steps_2 : decode cX10_steps 2 = .ok (.if_icmp .le 9, 3) := by decide +kernel
theorem dX10_steps_5 : decode cX10_steps 5 = .ok (.iload_n 0, 1) := by decide +kernel
theorem dX10_steps_6 : decode cX10_steps 6 = .ok (.iload_n 2, 1) := by decide +kernel
theorem dX10_steps_7 : decode cX10_steps 7 = .ok (.isub, 1) := by decide +kernel
theorem dX10_steps_8 : decode cX10_steps 8 = .ok (.goto 6, 3) := by decide +kernel
theorem dX10_steps_11 : decode cX10_steps 11 = .ok (.iload_n 2, 1) := by decide +kernel
theorem dX10_steps_12 : decode cX10_steps 12 = .ok (.iload_n 0, 1) := by decide +kernel
theorem dX10_steps_13 : decode cX10_steps 13 = .ok (.isub, 1) := by decide +kernel
theorem dX10_steps_14 : decode cX10_steps 14 = .ok (.istore 4, 2) := by decide +kernel
theorem dX10_steps_16 : decode cX10_steps 16 = .ok (.iload_n 1, 1) := by decide +kernel
theorem dX10_steps_17 : decode cX10_steps 17 = .ok (.iload_n 3, 1) := by decide +kernel
theorem dX10_steps_18 : decode cX10_steps 18 = .ok (.if_icmp .le 9, 3) := by decide +kernel
theorem dX10_steps_21 : decode cX10_steps 21 = .ok (.iload_n 1, 1) := by decide +kernel
theorem dX10_steps_22 : decode cX10_steps 22 = .ok (.iload_n 3, 1) := by decide +kernel
theorem dX10_steps_23 : decode cX10_steps 23 = .ok (.isub, 1) := by decide +kernel
theorem dX10_steps_24 : decode cX10_steps 24 = .ok (.goto 6, 3) := by decide +kernel
theorem dX10_steps_27 : decode cX10_steps 27 = .ok (.iload_n 3, 1) := by decide +kernel
theorem dX10_steps_28 : decode cX10_steps 28 = .ok (.iload_n 1, 1) := by decide +kernel
theorem dX10_steps_29 : decode cX10_steps 29 = .ok (.isub, 1) := by decide +kernel
theorem dX10_steps_30 : decode cX10_steps 30 = .ok (.istore 5, 2) := by decide +kernel
theorem dX10_steps_32 : decode cX10_steps 32 = .ok (.iload 4, 2) := by decide +kernel
theorem dX10_steps_34 : decode cX10_steps 34 = .ok (.iload 5, 2) := by decide +kernel
theorem dX10_steps_36 : decode cX10_steps 36 = .ok (.if_icmp .le 8, 3) := by decide +kernel
theorem dX10_steps_39 : decode cX10_steps 39 = .ok (.iload 4, 2) := by decide +kernel
theorem dX10_steps_41 : decode cX10_steps 41 = .ok (.goto 5, 3) := by decide +kernel
theorem dX10_steps_44 : decode cX10_steps 44 = .ok (.iload 5, 2) := by decide +kernel
theorem dX10_steps_46 : decode cX10_steps 46 = .ok (.ireturn, 1) := by decide +kernel
theorem dX10_held_0 : decode cX10_held 0 = .ok (.iload_n 0, 1) := by decide +kernel
theorem dX10_held_1 : decode cX10_held 1 = .ok (.ifCond .ge 7, 3) := by decide +kernel
theorem dX10_held_4 : decode cX10_held 4 = .ok (.iconst 0, 1) := by decide +kernel
theorem dX10_held_5 : decode cX10_held 5 = .ok (.goto 15, 3) := by decide +kernel
theorem dX10_held_8 : decode cX10_held 8 = .ok (.iload_n 0, 1) := by decide +kernel
theorem dX10_held_9 : decode cX10_held 9 = .ok (.bipush 19, 2) := by decide +kernel
theorem dX10_held_11 : decode cX10_held 11 = .ok (.if_icmp .le 8, 3) := by decide +kernel
theorem dX10_held_14 : decode cX10_held 14 = .ok (.bipush 19, 2) := by decide +kernel
theorem dX10_held_16 : decode cX10_held 16 = .ok (.goto 4, 3) := by decide +kernel
theorem dX10_held_19 : decode cX10_held 19 = .ok (.iload_n 0, 1) := by decide +kernel
theorem dX10_held_20 : decode cX10_held 20 = .ok (.ireturn, 1) := by decide +kernel
theorem dX10_isHive_0 : decode cX10_isHive 0 = .ok (.iload_n 1, 1) := by decide +kernel
theorem dX10_isHive_1 : decode cX10_isHive 1 = .ok (.ifCond .lt 15, 3) := by decide +kernel
theorem dX10_isHive_4 : decode cX10_isHive 4 = .ok (.iload_n 1, 1) := by decide +kernel
theorem dX10_isHive_5 : decode cX10_isHive 5 = .ok (.aload_n 0, 1) := by decide +kernel
theorem dX10_isHive_6 : decode cX10_isHive 6 = .ok (.getfield 183, 3) := by decide +kernel
theorem dX10_isHive_9 : decode cX10_isHive 9 = .ok (.if_icmp .ge 7, 3) := by decide +kernel
theorem dX10_isHive_12 : decode cX10_isHive 12 = .ok (.iconst 1, 1) := by decide +kernel
theorem dX10_isHive_13 : decode cX10_isHive 13 = .ok (.goto 4, 3) := by decide +kernel
theorem dX10_isHive_16 : decode cX10_isHive 16 = .ok (.iconst 0, 1) := by decide +kernel
theorem dX10_isHive_17 : decode cX10_isHive 17 = .ok (.ireturn, 1) := by decide +kernel
theorem dX10_isSwarm_0 : decode cX10_isSwarm 0 = .ok (.iload_n 1, 1) := by decide +kernel
theorem dX10_isSwarm_1 : decode cX10_isSwarm 1 = .ok (.ifCond .lt 15, 3) := by decide +kernel
theorem dX10_isSwarm_4 : decode cX10_isSwarm 4 = .ok (.iload_n 1, 1) := by decide +kernel
theorem dX10_isSwarm_5 : decode cX10_isSwarm 5 = .ok (.aload_n 0, 1) := by decide +kernel
theorem dX10_isSwarm_6 : decode cX10_isSwarm 6 = .ok (.getfield 186, 3) := by decide +kernel
theorem dX10_isSwarm_9 : decode cX10_isSwarm 9 = .ok (.if_icmp .ge 7, 3) := by decide +kernel
theorem dX10_isSwarm_12 : decode cX10_isSwarm 12 = .ok (.iconst 1, 1) := by decide +kernel
theorem dX10_isSwarm_13 : decode cX10_isSwarm 13 = .ok (.goto 4, 3) := by decide +kernel
theorem dX10_isSwarm_16 : decode cX10_isSwarm 16 = .ok (.iconst 0, 1) := by decide +kernel
theorem dX10_isSwarm_17 : decode cX10_isSwarm 17 = .ok (.ireturn, 1) := by decide +kernel
theorem dX10_isKeeper_0 : decode cX10_isKeeper 0 = .ok (.iload_n 1, 1) := by decide +kernel
theorem dX10_isKeeper_1 : decode cX10_isKeeper 1 = .ok (.ifCond .lt 15, 3) := by decide +kernel
theorem dX10_isKeeper_4 : decode cX10_isKeeper 4 = .ok (.iload_n 1, 1) := by decide +kernel
theorem dX10_isKeeper_5 : decode cX10_isKeeper 5 = .ok (.aload_n 0, 1) := by decide +kernel
theorem dX10_isKeeper_6 : decode cX10_isKeeper 6 = .ok (.getfield 189, 3) := by decide +kernel
theorem dX10_isKeeper_9 : decode cX10_isKeeper 9 = .ok (.if_icmp .ge 7, 3) := by decide +kernel
theorem dX10_isKeeper_12 : decode cX10_isKeeper 12 = .ok (.iconst 1, 1) := by decide +kernel
theorem dX10_isKeeper_13 : decode cX10_isKeeper 13 = .ok (.goto 4, 3) := by decide +kernel
theorem dX10_isKeeper_16 : decode cX10_isKeeper 16 = .ok (.iconst 0, 1) := by decide +kernel
theorem dX10_isKeeper_17 : decode cX10_isKeeper 17 = .ok (.ireturn, 1) := by decide +kernel
theorem dX10_isCase_0 : decode cX10_isCase 0 = .ok (.iload_n 1, 1) := by decide +kernel
theorem dX10_isCase_1 : decode cX10_isCase 1 = .ok (.ifCond .lt 15, 3) := by decide +kernel
theorem dX10_isCase_4 : decode cX10_isCase 4 = .ok (.iload_n 1, 1) := by decide +kernel
theorem dX10_isCase_5 : decode cX10_isCase 5 = .ok (.aload_n 0, 1) := by decide +kernel
theorem dX10_isCase_6 : decode cX10_isCase 6 = .ok (.getfield 192, 3) := by decide +kernel
theorem dX10_isCase_9 : decode cX10_isCase 9 = .ok (.if_icmp .ge 7, 3) := by decide +kernel
theorem dX10_isCase_12 : decode cX10_isCase 12 = .ok (.iconst 1, 1) := by decide +kernel
theorem dX10_isCase_13 : decode cX10_isCase 13 = .ok (.goto 4, 3) := by decide +kernel
theorem dX10_isCase_16 : decode cX10_isCase 16 = .ok (.iconst 0, 1) := by decide +kernel
theorem dX10_isCase_17 : decode cX10_isCase 17 = .ok (.ireturn, 1) := by decide +kernel
theorem dX10_byteCame_0 : decode cX10_byteCame 0 = .ok (.aload_n 0, 1) := by decide +kernel
theorem dX10_byteCame_1 : decode cX10_byteCame 1 = .ok (.getfield 161, 3) := by decide +kernel
theorem dX10_byteCame_4 : decode cX10_byteCame 4 = .ok (.aload_n 0, 1) := by decide +kernel
theorem dX10_byteCame_5 : decode cX10_byteCame 5 = .ok (.getfield 195, 3) := by decide +kernel
theorem dX10_byteCame_8 : decode cX10_byteCame 8 = .ok (.iload_n 1, 1) := by decide +kernel
theorem dX10_byteCame_9 : decode cX10_byteCame 9 = .ok (.sipush 255, 3) := by decide +kernel
theorem dX10_byteCame_12 : decode cX10_byteCame 12 = .ok (.iand, 1) := by decide +kernel
theorem dX10_byteCame_13 : decode cX10_byteCame 13 = .ok (.iastore, 1) := by decide +kernel
theorem dX10_byteCame_14 : decode cX10_byteCame 14 = .ok (.aload_n 0, 1) := by decide +kernel
theorem dX10_byteCame_15 : decode cX10_byteCame 15 = .ok (.dup, 1) := by decide +kernel
theorem dX10_byteCame_16 : decode cX10_byteCame 16 = .ok (.getfield 195, 3) := by decide +kernel
theorem dX10_byteCame_19 : decode cX10_byteCame 19 = .ok (.iconst 1, 1) := by decide +kernel
theorem dX10_byteCame_20 : decode cX10_byteCame 20 = .ok (.iadd, 1) := by decide +kernel
theorem dX10_byteCame_21 : decode cX10_byteCame 21 = .ok (.putfield 195, 3) := by decide +kernel
theorem dX10_byteCame_24 : decode cX10_byteCame 24 = .ok (.return_, 1) := by decide +kernel
set_option maxRecDepth 20000 in
theorem ggX10_feed_X10_byteCame : GoodIn wsX10_feed wsX10_byteCame := goodIn_r _ [7, 8, 2, 9, 10, 11, 12, 13, 14, 15, 16, 17, 18, 19, 20, 21, 22, 23, 24, 25, 26, 27, 28, 29, 30, 31, 32, 33, 34, 35, 36, 37, 38, 39, 40, 41, 42, 43, 44, 45, 46, 47, 48, 49, 50, 51, 52, 53, 54, 55, 56, 57, 58, 59, 60, 61, 62, 63, 64, 65, 66, 67, 68, 69, 70, 71, 72, 73, 74, 75, 76, 77] (by decide +kernel) (by decide +kernel)
set_option maxRecDepth 20000 in
theorem gX10_feed_X10_byteCame : GoodIn wsX10_feed (wsV RX10 198 RX10 yX10_byteCame wsX10_byteCame) := goodIn_app (goodIn_of _ (by decide +kernel)) ggX10_feed_X10_byteCame
theorem dX10_feed_0 : decode cX10_feed 0 = .ok (.aload_n 0, 1) := by decide +kernel
theorem dX10_feed_1 : decode cX10_feed 1 = .ok (.iconst 0, 1) := by decide +kernel
theorem dX10_feed_2 : decode cX10_feed 2 = .ok (.putfield 180, 3) := by decide +kernel
theorem dX10_feed_5 : decode cX10_feed 5 = .ok (.aload_n 0, 1) := by decide +kernel
theorem dX10_feed_6 : decode cX10_feed 6 = .ok (.getfield 195, 3) := by decide +kernel
theorem dX10_feed_9 : decode cX10_feed 9 = .ok (.bipush 20, 2) := by decide +kernel
theorem dX10_feed_11 : decode cX10_feed 11 = .ok (.iadd, 1) := by decide +kernel
theorem dX10_feed_12 : decode cX10_feed 12 = .ok (.sipush 400, 3) := by decide +kernel
theorem dX10_feed_15 : decode cX10_feed 15 = .ok (.if_icmp .le 5, 3) := by decide +kernel
theorem dX10_feed_18 : decode cX10_feed 18 = .ok (.iconst (-1), 1) := by decide +kernel
theorem dX10_feed_19 : decode cX10_feed 19 = .ok (.ireturn, 1) := by decide +kernel
theorem dX10_feed_20 : decode cX10_feed 20 = .ok (.bipush 24, 2) := by decide +kernel
theorem dX10_feed_22 : decode cX10_feed 22 = .ok (.istore 6, 2) := by decide +kernel
theorem dX10_feed_24 : decode cX10_feed 24 = .ok (.iload 6, 2) := by decide +kernel
theorem dX10_feed_26 : decode cX10_feed 26 = .ok (.ifCond .lt 17, 3) := by decide +kernel
theorem dX10_feed_29 : decode cX10_feed 29 = .ok (.aload_n 0, 1) := by decide +kernel
theorem dX10_feed_30 : decode cX10_feed 30 = .ok (.iload_n 1, 1) := by decide +kernel
theorem dX10_feed_31 : decode cX10_feed 31 = .ok (.iload 6, 2) := by decide +kernel
theorem dX10_feed_33 : decode cX10_feed 33 = .ok (.ishr, 1) := by decide +kernel
theorem dX10_feed_34 : decode cX10_feed 34 = .ok (.invokevirtual 198, 3) := by decide +kernel
theorem dX10_feed_37 : decode cX10_feed 37 = .ok (.iinc 6 (-8), 3) := by decide +kernel
theorem dX10_feed_40 : decode cX10_feed 40 = .ok (.goto (-16), 3) := by decide +kernel
theorem dX10_feed_43 : decode cX10_feed 43 = .ok (.bipush 24, 2) := by decide +kernel
theorem dX10_feed_45 : decode cX10_feed 45 = .ok (.istore 6, 2) := by decide +kernel
theorem dX10_feed_47 : decode cX10_feed 47 = .ok (.iload 6, 2) := by decide +kernel
theorem dX10_feed_49 : decode cX10_feed 49 = .ok (.ifCond .lt 17, 3) := by decide +kernel
theorem dX10_feed_52 : decode cX10_feed 52 = .ok (.aload_n 0, 1) := by decide +kernel
theorem dX10_feed_53 : decode cX10_feed 53 = .ok (.iload_n 2, 1) := by decide +kernel
theorem dX10_feed_54 : decode cX10_feed 54 = .ok (.iload 6, 2) := by decide +kernel
theorem dX10_feed_56 : decode cX10_feed 56 = .ok (.ishr, 1) := by decide +kernel
theorem dX10_feed_57 : decode cX10_feed 57 = .ok (.invokevirtual 198, 3) := by decide +kernel
theorem dX10_feed_60 : decode cX10_feed 60 = .ok (.iinc 6 (-8), 3) := by decide +kernel
theorem dX10_feed_63 : decode cX10_feed 63 = .ok (.goto (-16), 3) := by decide +kernel
theorem dX10_feed_66 : decode cX10_feed 66 = .ok (.bipush 24, 2) := by decide +kernel
theorem dX10_feed_68 : decode cX10_feed 68 = .ok (.istore 6, 2) := by decide +kernel
theorem dX10_feed_70 : decode cX10_feed 70 = .ok (.iload 6, 2) := by decide +kernel
theorem dX10_feed_72 : decode cX10_feed 72 = .ok (.ifCond .lt 17, 3) := by decide +kernel
theorem dX10_feed_75 : decode cX10_feed 75 = .ok (.aload_n 0, 1) := by decide +kernel
theorem dX10_feed_76 : decode cX10_feed 76 = .ok (.iload_n 3, 1) := by decide +kernel
theorem dX10_feed_77 : decode cX10_feed 77 = .ok (.iload 6, 2) := by decide +kernel
theorem dX10_feed_79 : decode cX10_feed 79 = .ok (.ishr, 1) := by decide +kernel
theorem dX10_feed_80 : decode cX10_feed 80 = .ok (.invokevirtual 198, 3) := by decide +kernel
theorem dX10_feed_83 : decode cX10_feed 83 = .ok (.iinc 6 (-8), 3) := by decide +kernel
theorem dX10_feed_86 : decode cX10_feed 86 = .ok (.goto (-16), 3) := by decide +kernel
theorem dX10_feed_89 : decode cX10_feed 89 = .ok (.bipush 24, 2) := by decide +kernel
theorem dX10_feed_91 : decode cX10_feed 91 = .ok (.istore 6, 2) := by decide +kernel
theorem dX10_feed_93 : decode cX10_feed 93 = .ok (.iload 6, 2) := by decide +kernel
theorem dX10_feed_95 : decode cX10_feed 95 = .ok (.ifCond .lt 18, 3) := by decide +kernel
theorem dX10_feed_98 : decode cX10_feed 98 = .ok (.aload_n 0, 1) := by decide +kernel
theorem dX10_feed_99 : decode cX10_feed 99 = .ok (.iload 4, 2) := by decide +kernel
theorem dX10_feed_101 : decode cX10_feed 101 = .ok (.iload 6, 2) := by decide +kernel
theorem dX10_feed_103 : decode cX10_feed 103 = .ok (.ishr, 1) := by decide +kernel
theorem dX10_feed_104 : decode cX10_feed 104 = .ok (.invokevirtual 198, 3) := by decide +kernel
theorem dX10_feed_107 : decode cX10_feed 107 = .ok (.iinc 6 (-8), 3) := by decide +kernel
theorem dX10_feed_110 : decode cX10_feed 110 = .ok (.goto (-17), 3) := by decide +kernel
theorem dX10_feed_113 : decode cX10_feed 113 = .ok (.bipush 24, 2) := by decide +kernel
theorem dX10_feed_115 : decode cX10_feed 115 = .ok (.istore 6, 2) := by decide +kernel
theorem dX10_feed_117 : decode cX10_feed 117 = .ok (.iload 6, 2) := by decide +kernel
theorem dX10_feed_119 : decode cX10_feed 119 = .ok (.ifCond .lt 18, 3) := by decide +kernel
theorem dX10_feed_122 : decode cX10_feed 122 = .ok (.aload_n 0, 1) := by decide +kernel
theorem dX10_feed_123 : decode cX10_feed 123 = .ok (.iload 5, 2) := by decide +kernel
theorem dX10_feed_125 : decode cX10_feed 125 = .ok (.iload 6, 2) := by decide +kernel
theorem dX10_feed_127 : decode cX10_feed 127 = .ok (.ishr, 1) := by decide +kernel
theorem dX10_feed_128 : decode cX10_feed 128 = .ok (.invokevirtual 198, 3) := by decide +kernel
theorem dX10_feed_131 : decode cX10_feed 131 = .ok (.iinc 6 (-8), 3) := by decide +kernel
theorem dX10_feed_134 : decode cX10_feed 134 = .ok (.goto (-17), 3) := by decide +kernel
theorem dX10_feed_137 : decode cX10_feed 137 = .ok (.aload_n 0, 1) := by decide +kernel
theorem dX10_feed_138 : decode cX10_feed 138 = .ok (.getfield 195, 3) := by decide +kernel
theorem dX10_feed_141 : decode cX10_feed 141 = .ok (.ireturn, 1) := by decide +kernel
theorem dX10_end_0 : decode cX10_end 0 = .ok (.aload_n 0, 1) := by decide +kernel
theorem dX10_end_1 : decode cX10_end 1 = .ok (.iconst 0, 1) := by decide +kernel
theorem dX10_end_2 : decode cX10_end 2 = .ok (.putfield 180, 3) := by decide +kernel
theorem dX10_end_5 : decode cX10_end 5 = .ok (.iload_n 1, 1) := by decide +kernel
theorem dX10_end_6 : decode cX10_end 6 = .ok (.ifCond .lt 11, 3) := by decide +kernel
theorem dX10_end_9 : decode cX10_end 9 = .ok (.iload_n 1, 1) := by decide +kernel
theorem dX10_end_10 : decode cX10_end 10 = .ok (.aload_n 0, 1) := by decide +kernel
theorem dX10_end_11 : decode cX10_end 11 = .ok (.getfield 195, 3) := by decide +kernel
theorem dX10_end_14 : decode cX10_end 14 = .ok (.if_icmp .le 5, 3) := by decide +kernel
theorem dX10_end_17 : decode cX10_end 17 = .ok (.iconst 0, 1) := by decide +kernel
theorem dX10_end_18 : decode cX10_end 18 = .ok (.ireturn, 1) := by decide +kernel
theorem dX10_end_19 : decode cX10_end 19 = .ok (.aload_n 0, 1) := by decide +kernel
theorem dX10_end_20 : decode cX10_end 20 = .ok (.iload_n 1, 1) := by decide +kernel
theorem dX10_end_21 : decode cX10_end 21 = .ok (.putfield 195, 3) := by decide +kernel
theorem dX10_end_24 : decode cX10_end 24 = .ok (.iconst 1, 1) := by decide +kernel
theorem dX10_end_25 : decode cX10_end 25 = .ok (.ireturn, 1) := by decide +kernel
set_option maxRecDepth 20000 in
theorem ggX10_weather_X10_isIn : GoodIn wsX10_weather wsX10_isIn := goodIn_r _ [8] (by decide +kernel) (by decide +kernel)
set_option maxRecDepth 20000 in
theorem gX10_weather_X10_isIn : GoodIn wsX10_weather (va_wsS RX10 202 yX10_isIn wsX10_isIn) := goodIn_app (goodIn_of _ (by decide +kernel)) ggX10_weather_X10_isIn
theorem dX10_weather_0 : decode cX10_weather 0 = .ok (.aload_n 0, 1) := by decide +kernel
theorem dX10_weather_1 : decode cX10_weather 1 = .ok (.iload_n 1, 1) := by decide +kernel
theorem dX10_weather_2 : decode cX10_weather 2 = .ok (.iconst 0, 1) := by decide +kernel
theorem dX10_weather_3 : decode cX10_weather 3 = .ok (.bipush 30, 2) := by decide +kernel
theorem dX10_weather_5 : decode cX10_weather 5 = .ok (.invokestatic 202, 3) := by decide +kernel
theorem dX10_weather_8 : decode cX10_weather 8 = .ok (.ifCond .ne 7, 3) := by decide +kernel
theorem dX10_weather_11 : decode cX10_weather 11 = .ok (.iconst 1, 1) := by decide +kernel
theorem dX10_weather_12 : decode cX10_weather 12 = .ok (.goto 55, 3) := by decide +kernel
theorem dX10_weather_15 : decode cX10_weather 15 = .ok (.iload_n 2, 1) := by decide +kernel
theorem dX10_weather_16 : decode cX10_weather 16 = .ok (.bipush (-20), 2) := by decide +kernel
theorem dX10_weather_18 : decode cX10_weather 18 = .ok (.bipush 40, 2) := by decide +kernel
theorem dX10_weather_20 : decode cX10_weather 20 = .ok (.invokestatic 202, 3) := by decide +kernel
theorem dX10_weather_23 : decode cX10_weather 23 = .ok (.ifCond .eq 13, 3) := by decide +kernel
theorem dX10_weather_26 : decode cX10_weather 26 = .ok (.iload_n 3, 1) := by decide +kernel
theorem dX10_weather_27 : decode cX10_weather 27 = .ok (.iconst 0, 1) := by decide +kernel
theorem dX10_weather_28 : decode cX10_weather 28 = .ok (.bipush 100, 2) := by decide +kernel
theorem dX10_weather_30 : decode cX10_weather 30 = .ok (.invokestatic 202, 3) := by decide +kernel
theorem dX10_weather_33 : decode cX10_weather 33 = .ok (.ifCond .ne 7, 3) := by decide +kernel
theorem dX10_weather_36 : decode cX10_weather 36 = .ok (.iconst 2, 1) := by decide +kernel
theorem dX10_weather_37 : decode cX10_weather 37 = .ok (.goto 30, 3) := by decide +kernel
theorem dX10_weather_40 : decode cX10_weather 40 = .ok (.iload_n 1, 1) := by decide +kernel
theorem dX10_weather_41 : decode cX10_weather 41 = .ok (.aload_n 0, 1) := by decide +kernel
theorem dX10_weather_42 : decode cX10_weather 42 = .ok (.getfield 206, 3) := by decide +kernel
theorem dX10_weather_45 : decode cX10_weather 45 = .ok (.bipush 24, 2) := by decide +kernel
theorem dX10_weather_47 : decode cX10_weather 47 = .ok (.idiv, 1) := by decide +kernel
theorem dX10_weather_48 : decode cX10_weather 48 = .ok (.if_icmp .gt 18, 3) := by decide +kernel
theorem dX10_weather_51 : decode cX10_weather 51 = .ok (.iload_n 1, 1) := by decide +kernel
theorem dX10_weather_52 : decode cX10_weather 52 = .ok (.ifCond .ne 10, 3) := by decide +kernel
theorem dX10_weather_55 : decode cX10_weather 55 = .ok (.aload_n 0, 1) := by decide +kernel
theorem dX10_weather_56 : decode cX10_weather 56 = .ok (.getfield 206, 3) := by decide +kernel
theorem dX10_weather_59 : decode cX10_weather 59 = .ok (.ifCond .eq 7, 3) := by decide +kernel
theorem dX10_weather_62 : decode cX10_weather 62 = .ok (.iconst 3, 1) := by decide +kernel
theorem dX10_weather_63 : decode cX10_weather 63 = .ok (.goto 4, 3) := by decide +kernel
theorem dX10_weather_66 : decode cX10_weather 66 = .ok (.iconst 0, 1) := by decide +kernel
theorem dX10_weather_67 : decode cX10_weather 67 = .ok (.putfield 180, 3) := by decide +kernel
theorem dX10_weather_70 : decode cX10_weather 70 = .ok (.aload_n 0, 1) := by decide +kernel
theorem dX10_weather_71 : decode cX10_weather 71 = .ok (.getfield 180, 3) := by decide +kernel
theorem dX10_weather_74 : decode cX10_weather 74 = .ok (.ifCond .le 4, 3) := by decide +kernel
theorem dX10_weather_77 : decode cX10_weather 77 = .ok (.return_, 1) := by decide +kernel
theorem dX10_weather_78 : decode cX10_weather 78 = .ok (.aload_n 0, 1) := by decide +kernel
theorem dX10_weather_79 : decode cX10_weather 79 = .ok (.getfield 7, 3) := by decide +kernel
theorem dX10_weather_82 : decode cX10_weather 82 = .ok (.iload_n 1, 1) := by decide +kernel
theorem dX10_weather_83 : decode cX10_weather 83 = .ok (.iload_n 2, 1) := by decide +kernel
theorem dX10_weather_84 : decode cX10_weather 84 = .ok (.iastore, 1) := by decide +kernel
theorem dX10_weather_85 : decode cX10_weather 85 = .ok (.aload_n 0, 1) := by decide +kernel
theorem dX10_weather_86 : decode cX10_weather 86 = .ok (.getfield 13, 3) := by decide +kernel
theorem dX10_weather_89 : decode cX10_weather 89 = .ok (.iload_n 1, 1) := by decide +kernel
theorem dX10_weather_90 : decode cX10_weather 90 = .ok (.iload_n 3, 1) := by decide +kernel
theorem dX10_weather_91 : decode cX10_weather 91 = .ok (.iastore, 1) := by decide +kernel
theorem dX10_weather_92 : decode cX10_weather 92 = .ok (.return_, 1) := by decide +kernel
set_option maxRecDepth 20000 in
theorem ggX10_foretell_X10_isIn : GoodIn wsX10_foretell wsX10_isIn := goodIn_r _ [7] (by decide +kernel) (by decide +kernel)
set_option maxRecDepth 20000 in
theorem gX10_foretell_X10_isIn : GoodIn wsX10_foretell (va_wsS RX10 202 yX10_isIn wsX10_isIn) := goodIn_app (goodIn_of _ (by decide +kernel)) ggX10_foretell_X10_isIn
theorem dX10_foretell_0 : decode cX10_foretell 0 = .ok (.aload_n 0, 1) := by decide +kernel
theorem dX10_foretell_1 : decode cX10_foretell 1 = .ok (.iload_n 1, 1) := by decide +kernel
theorem dX10_foretell_2 : decode cX10_foretell 2 = .ok (.iconst 0, 1) := by decide +kernel
theorem dX10_foretell_3 : decode cX10_foretell 3 = .ok (.bipush 30, 2) := by decide +kernel
theorem dX10_foretell_5 : decode cX10_foretell 5 = .ok (.invokestatic 202, 3) := by decide +kernel
theorem dX10_foretell_8 : decode cX10_foretell 8 = .ok (.ifCond .ne 7, 3) := by decide +kernel
theorem dX10_foretell_11 : decode cX10_foretell 11 = .ok (.iconst 1, 1) := by decide +kernel
theorem dX10_foretell_12 : decode cX10_foretell 12 = .ok (.goto 35, 3) := by decide +kernel
theorem dX10_foretell_15 : decode cX10_foretell 15 = .ok (.iload_n 2, 1) := by decide +kernel
theorem dX10_foretell_16 : decode cX10_foretell 16 = .ok (.bipush (-20), 2) := by decide +kernel
theorem dX10_foretell_18 : decode cX10_foretell 18 = .ok (.bipush 40, 2) := by decide +kernel
theorem dX10_foretell_20 : decode cX10_foretell 20 = .ok (.invokestatic 202, 3) := by decide +kernel
theorem dX10_foretell_23 : decode cX10_foretell 23 = .ok (.ifCond .eq 19, 3) := by decide +kernel
theorem dX10_foretell_26 : decode cX10_foretell 26 = .ok (.iload_n 3, 1) := by decide +kernel
theorem dX10_foretell_27 : decode cX10_foretell 27 = .ok (.bipush (-20), 2) := by decide +kernel
theorem dX10_foretell_29 : decode cX10_foretell 29 = .ok (.bipush 40, 2) := by decide +kernel
theorem dX10_foretell_31 : decode cX10_foretell 31 = .ok (.invokestatic 202, 3) := by decide +kernel
theorem dX10_foretell_34 : decode cX10_foretell 34 = .ok (.ifCond .eq 8, 3) := by decide +kernel
theorem dX10_foretell_37 : decode cX10_foretell 37 = .ok (.iload_n 2, 1) := by decide +kernel
theorem dX10_foretell_38 : decode cX10_foretell 38 = .ok (.iload_n 3, 1) := by decide +kernel
theorem dX10_foretell_39 : decode cX10_foretell 39 = .ok (.if_icmp .le 7, 3) := by decide +kernel
theorem dX10_foretell_42 : decode cX10_foretell 42 = .ok (.iconst 2, 1) := by decide +kernel
theorem dX10_foretell_43 : decode cX10_foretell 43 = .ok (.goto 4, 3) := by decide +kernel
theorem dX10_foretell_46 : decode cX10_foretell 46 = .ok (.iconst 0, 1) := by decide +kernel
theorem dX10_foretell_47 : decode cX10_foretell 47 = .ok (.putfield 180, 3) := by decide +kernel
theorem dX10_foretell_50 : decode cX10_foretell 50 = .ok (.aload_n 0, 1) := by decide +kernel
theorem dX10_foretell_51 : decode cX10_foretell 51 = .ok (.getfield 180, 3) := by decide +kernel
theorem dX10_foretell_54 : decode cX10_foretell 54 = .ok (.ifCond .le 4, 3) := by decide +kernel
theorem dX10_foretell_57 : decode cX10_foretell 57 = .ok (.return_, 1) := by decide +kernel
theorem dX10_foretell_58 : decode cX10_foretell 58 = .ok (.aload_n 0, 1) := by decide +kernel
theorem dX10_foretell_59 : decode cX10_foretell 59 = .ok (.getfield 16, 3) := by decide +kernel
theorem dX10_foretell_62 : decode cX10_foretell 62 = .ok (.iload_n 1, 1) := by decide +kernel
theorem dX10_foretell_63 : decode cX10_foretell 63 = .ok (.iload_n 2, 1) := by decide +kernel
theorem dX10_foretell_64 : decode cX10_foretell 64 = .ok (.iastore, 1) := by decide +kernel
theorem dX10_foretell_65 : decode cX10_foretell 65 = .ok (.aload_n 0, 1) := by decide +kernel
theorem dX10_foretell_66 : decode cX10_foretell 66 = .ok (.getfield 19, 3) := by decide +kernel
theorem dX10_foretell_69 : decode cX10_foretell 69 = .ok (.iload_n 1, 1) := by decide +kernel
theorem dX10_foretell_70 : decode cX10_foretell 70 = .ok (.iload_n 3, 1) := by decide +kernel
theorem dX10_foretell_71 : decode cX10_foretell 71 = .ok (.iastore, 1) := by decide +kernel
theorem dX10_foretell_72 : decode cX10_foretell 72 = .ok (.return_, 1) := by decide +kernel
set_option maxRecDepth 20000 in
theorem ggX10_hive_X10_isIn : GoodIn wsX10_hive wsX10_isIn := goodIn_r _ [14] (by decide +kernel) (by decide +kernel)
set_option maxRecDepth 20000 in
theorem gX10_hive_X10_isIn : GoodIn wsX10_hive (va_wsS RX10 202 yX10_isIn wsX10_isIn) := goodIn_app (goodIn_of _ (by decide +kernel)) ggX10_hive_X10_isIn
theorem dX10_hive_0 : decode cX10_hive 0 = .ok (.iload_n 1, 1) := by decide +kernel
theorem dX10_hive_1 : decode cX10_hive 1 = .ok (.iconst 0, 1) := by decide +kernel
theorem dX10_hive_2 : decode cX10_hive 2 = .ok (.bipush 19, 2) := by decide +kernel
theorem dX10_hive_4 : decode cX10_hive 4 = .ok (.invokestatic 202, 3) := by decide +kernel
theorem dX10_hive_7 : decode cX10_hive 7 = .ok (.ifCond .eq 51, 3) := by decide +kernel
theorem dX10_hive_10 : decode cX10_hive 10 = .ok (.iload_n 2, 1) := by decide +kernel
theorem dX10_hive_11 : decode cX10_hive 11 = .ok (.iconst 0, 1) := by decide +kernel
theorem dX10_hive_12 : decode cX10_hive 12 = .ok (.bipush 19, 2) := by decide +kernel
theorem dX10_hive_14 : decode cX10_hive 14 = .ok (.invokestatic 202, 3) := by decide +kernel
theorem dX10_hive_17 : decode cX10_hive 17 = .ok (.ifCond .eq 41, 3) := by decide +kernel
theorem dX10_hive_20 : decode cX10_hive 20 = .ok (.iload_n 3, 1) := by decide +kernel
theorem dX10_hive_21 : decode cX10_hive 21 = .ok (.iconst 0, 1) := by decide +kernel
theorem dX10_hive_22 : decode cX10_hive 22 = .ok (.ldc 209, 2) := by decide +kernel
theorem dX10_hive_24 : decode cX10_hive 24 = .ok (.invokestatic 202, 3) := by decide +kernel
theorem dX10_hive_27 : decode cX10_hive 27 = .ok (.ifCond .eq 31, 3) := by decide +kernel
theorem dX10_hive_30 : decode cX10_hive 30 = .ok (.iload 4, 2) := by decide +kernel
theorem dX10_hive_32 : decode cX10_hive 32 = .ok (.sipush 1000, 3) := by decide +kernel
theorem dX10_hive_35 : decode cX10_hive 35 = .ok (.ldc 209, 2) := by decide +kernel
theorem dX10_hive_37 : decode cX10_hive 37 = .ok (.invokestatic 202, 3) := by decide +kernel
theorem dX10_hive_40 : decode cX10_hive 40 = .ok (.ifCond .eq 18, 3) := by decide +kernel
theorem dX10_hive_43 : decode cX10_hive 43 = .ok (.iload 5, 2) := by decide +kernel
theorem dX10_hive_45 : decode cX10_hive 45 = .ok (.iconst 0, 1) := by decide +kernel
theorem dX10_hive_46 : decode cX10_hive 46 = .ok (.bipush 7, 2) := by decide +kernel
theorem dX10_hive_48 : decode cX10_hive 48 = .ok (.invokestatic 202, 3) := by decide +kernel
theorem dX10_hive_51 : decode cX10_hive 51 = .ok (.ifCond .eq 7, 3) := by decide +kernel
theorem dX10_hive_54 : decode cX10_hive 54 = .ok (.iconst 1, 1) := by decide +kernel
theorem dX10_hive_55 : decode cX10_hive 55 = .ok (.goto 4, 3) := by decide +kernel
theorem dX10_hive_58 : decode cX10_hive 58 = .ok (.iconst 0, 1) := by decide +kernel
theorem dX10_hive_59 : decode cX10_hive 59 = .ok (.istore 6, 2) := by decide +kernel
theorem dX10_hive_61 : decode cX10_hive 61 = .ok (.aload_n 0, 1) := by decide +kernel
theorem dX10_hive_62 : decode cX10_hive 62 = .ok (.iload 6, 2) := by decide +kernel
theorem dX10_hive_64 : decode cX10_hive 64 = .ok (.ifCond .ne 7, 3) := by decide +kernel
theorem dX10_hive_67 : decode cX10_hive 67 = .ok (.iconst 1, 1) := by decide +kernel
theorem dX10_hive_68 : decode cX10_hive 68 = .ok (.goto 17, 3) := by decide +kernel
theorem dX10_hive_71 : decode cX10_hive 71 = .ok (.aload_n 0, 1) := by decide +kernel
theorem dX10_hive_72 : decode cX10_hive 72 = .ok (.getfield 183, 3) := by decide +kernel
theorem dX10_hive_75 : decode cX10_hive 75 = .ok (.bipush 20, 2) := by decide +kernel
theorem dX10_hive_77 : decode cX10_hive 77 = .ok (.if_icmp .ne 7, 3) := by decide +kernel
theorem dX10_hive_80 : decode cX10_hive 80 = .ok (.iconst 2, 1) := by decide +kernel
theorem dX10_hive_81 : decode cX10_hive 81 = .ok (.goto 4, 3) := by decide +kernel
theorem dX10_hive_84 : decode cX10_hive 84 = .ok (.iconst 0, 1) := by decide +kernel
theorem dX10_hive_85 : decode cX10_hive 85 = .ok (.putfield 180, 3) := by decide +kernel
theorem dX10_hive_88 : decode cX10_hive 88 = .ok (.aload_n 0, 1) := by decide +kernel
theorem dX10_hive_89 : decode cX10_hive 89 = .ok (.getfield 180, 3) := by decide +kernel
theorem dX10_hive_92 : decode cX10_hive 92 = .ok (.ifCond .le 5, 3) := by decide +kernel
theorem dX10_hive_95 : decode cX10_hive 95 = .ok (.iconst 0, 1) := by decide +kernel
theorem dX10_hive_96 : decode cX10_hive 96 = .ok (.ireturn, 1) := by decide +kernel
theorem dX10_hive_97 : decode cX10_hive 97 = .ok (.aload_n 0, 1) := by decide +kernel
theorem dX10_hive_98 : decode cX10_hive 98 = .ok (.getfield 22, 3) := by decide +kernel
theorem dX10_hive_101 : decode cX10_hive 101 = .ok (.aload_n 0, 1) := by decide +kernel
theorem dX10_hive_102 : decode cX10_hive 102 = .ok (.getfield 183, 3) := by decide +kernel
theorem dX10_hive_105 : decode cX10_hive 105 = .ok (.iload_n 1, 1) := by decide +kernel
theorem dX10_hive_106 : decode cX10_hive 106 = .ok (.iastore, 1) := by decide +kernel
theorem dX10_hive_107 : decode cX10_hive 107 = .ok (.aload_n 0, 1) := by decide +kernel
theorem dX10_hive_108 : decode cX10_hive 108 = .ok (.getfield 25, 3) := by decide +kernel
theorem dX10_hive_111 : decode cX10_hive 111 = .ok (.aload_n 0, 1) := by decide +kernel
theorem dX10_hive_112 : decode cX10_hive 112 = .ok (.getfield 183, 3) := by decide +kernel
theorem dX10_hive_115 : decode cX10_hive 115 = .ok (.iload_n 2, 1) := by decide +kernel
theorem dX10_hive_116 : decode cX10_hive 116 = .ok (.iastore, 1) := by decide +kernel
theorem dX10_hive_117 : decode cX10_hive 117 = .ok (.aload_n 0, 1) := by decide +kernel
theorem dX10_hive_118 : decode cX10_hive 118 = .ok (.getfield 28, 3) := by decide +kernel
theorem dX10_hive_121 : decode cX10_hive 121 = .ok (.aload_n 0, 1) := by decide +kernel
theorem dX10_hive_122 : decode cX10_hive 122 = .ok (.getfield 183, 3) := by decide +kernel
theorem dX10_hive_125 : decode cX10_hive 125 = .ok (.iload_n 3, 1) := by decide +kernel
theorem dX10_hive_126 : decode cX10_hive 126 = .ok (.iastore, 1) := by decide +kernel
theorem dX10_hive_127 : decode cX10_hive 127 = .ok (.aload_n 0, 1) := by decide +kernel
theorem dX10_hive_128 : decode cX10_hive 128 = .ok (.getfield 31, 3) := by decide +kernel
theorem dX10_hive_131 : decode cX10_hive 131 = .ok (.aload_n 0, 1) := by decide +kernel
theorem dX10_hive_132 : decode cX10_hive 132 = .ok (.getfield 183, 3) := by decide +kernel
theorem dX10_hive_135 : decode cX10_hive 135 = .ok (.iload 4, 2) := by decide +kernel
theorem dX10_hive_137 : decode cX10_hive 137 = .ok (.iastore, 1) := by decide +kernel
theorem dX10_hive_138 : decode cX10_hive 138 = .ok (.aload_n 0, 1) := by decide +kernel
theorem dX10_hive_139 : decode cX10_hive 139 = .ok (.getfield 34, 3) := by decide +kernel
theorem dX10_hive_142 : decode cX10_hive 142 = .ok (.aload_n 0, 1) := by decide +kernel
theorem dX10_hive_143 : decode cX10_hive 143 = .ok (.getfield 183, 3) := by decide +kernel
theorem dX10_hive_146 : decode cX10_hive 146 = .ok (.iload 5, 2) := by decide +kernel
theorem dX10_hive_148 : decode cX10_hive 148 = .ok (.iastore, 1) := by decide +kernel
theorem dX10_hive_149 : decode cX10_hive 149 = .ok (.aload_n 0, 1) := by decide +kernel
theorem dX10_hive_150 : decode cX10_hive 150 = .ok (.getfield 37, 3) := by decide +kernel
theorem dX10_hive_153 : decode cX10_hive 153 = .ok (.aload_n 0, 1) := by decide +kernel
theorem dX10_hive_154 : decode cX10_hive 154 = .ok (.getfield 183, 3) := by decide +kernel
theorem dX10_hive_157 : decode cX10_hive 157 = .ok (.iconst 0, 1) := by decide +kernel
theorem dX10_hive_158 : decode cX10_hive 158 = .ok (.iastore, 1) := by decide +kernel
theorem dX10_hive_159 : decode cX10_hive 159 = .ok (.aload_n 0, 1) := by decide +kernel
theorem dX10_hive_160 : decode cX10_hive 160 = .ok (.getfield 40, 3) := by decide +kernel
theorem dX10_hive_163 : decode cX10_hive 163 = .ok (.aload_n 0, 1) := by decide +kernel
theorem dX10_hive_164 : decode cX10_hive 164 = .ok (.getfield 183, 3) := by decide +kernel
theorem dX10_hive_167 : decode cX10_hive 167 = .ok (.iconst (-1), 1) := by decide +kernel
theorem dX10_hive_168 : decode cX10_hive 168 = .ok (.iastore, 1) := by decide +kernel
theorem dX10_hive_169 : decode cX10_hive 169 = .ok (.aload_n 0, 1) := by decide +kernel
theorem dX10_hive_170 : decode cX10_hive 170 = .ok (.dup, 1) := by decide +kernel
theorem dX10_hive_171 : decode cX10_hive 171 = .ok (.getfield 183, 3) := by decide +kernel
theorem dX10_hive_174 : decode cX10_hive 174 = .ok (.iconst 1, 1) := by decide +kernel
theorem dX10_hive_175 : decode cX10_hive 175 = .ok (.iadd, 1) := by decide +kernel
theorem dX10_hive_176 : decode cX10_hive 176 = .ok (.putfield 183, 3) := by decide +kernel
theorem dX10_hive_179 : decode cX10_hive 179 = .ok (.aload_n 0, 1) := by decide +kernel
theorem dX10_hive_180 : decode cX10_hive 180 = .ok (.getfield 183, 3) := by decide +kernel
theorem dX10_hive_183 : decode cX10_hive 183 = .ok (.iconst 1, 1) := by decide +kernel
theorem dX10_hive_184 : decode cX10_hive 184 = .ok (.isub, 1) := by decide +kernel
theorem dX10_hive_185 : decode cX10_hive 185 = .ok (.ireturn, 1) := by decide +kernel
set_option maxRecDepth 20000 in
theorem ggX10_keeper_X10_isIn : GoodIn wsX10_keeper wsX10_isIn := goodIn_r _ [17] (by decide +kernel) (by decide +kernel)
set_option maxRecDepth 20000 in
theorem gX10_keeper_X10_isIn : GoodIn wsX10_keeper (va_wsS RX10 202 yX10_isIn wsX10_isIn) := goodIn_app (goodIn_of _ (by decide +kernel)) ggX10_keeper_X10_isIn
theorem dX10_keeper_0 : decode cX10_keeper 0 = .ok (.iload_n 1, 1) := by decide +kernel
theorem dX10_keeper_1 : decode cX10_keeper 1 = .ok (.iconst 0, 1) := by decide +kernel
theorem dX10_keeper_2 : decode cX10_keeper 2 = .ok (.bipush 19, 2) := by decide +kernel
theorem dX10_keeper_4 : decode cX10_keeper 4 = .ok (.invokestatic 202, 3) := by decide +kernel
theorem dX10_keeper_7 : decode cX10_keeper 7 = .ok (.ifCond .eq 71, 3) := by decide +kernel
theorem dX10_keeper_10 : decode cX10_keeper 10 = .ok (.iload_n 2, 1) := by decide +kernel
theorem dX10_keeper_11 : decode cX10_keeper 11 = .ok (.iconst 0, 1) := by decide +kernel
theorem dX10_keeper_12 : decode cX10_keeper 12 = .ok (.bipush 19, 2) := by decide +kernel
theorem dX10_keeper_14 : decode cX10_keeper 14 = .ok (.invokestatic 202, 3) := by decide +kernel
theorem dX10_keeper_17 : decode cX10_keeper 17 = .ok (.ifCond .eq 61, 3) := by decide +kernel
theorem dX10_keeper_20 : decode cX10_keeper 20 = .ok (.iload_n 3, 1) := by decide +kernel
theorem dX10_keeper_21 : decode cX10_keeper 21 = .ok (.iconst 0, 1) := by decide +kernel
theorem dX10_keeper_22 : decode cX10_keeper 22 = .ok (.bipush 20, 2) := by decide +kernel
theorem dX10_keeper_24 : decode cX10_keeper 24 = .ok (.invokestatic 202, 3) := by decide +kernel
theorem dX10_keeper_27 : decode cX10_keeper 27 = .ok (.ifCond .eq 51, 3) := by decide +kernel
theorem dX10_keeper_30 : decode cX10_keeper 30 = .ok (.iload 4, 2) := by decide +kernel
theorem dX10_keeper_32 : decode cX10_keeper 32 = .ok (.iconst 0, 1) := by decide +kernel
theorem dX10_keeper_33 : decode cX10_keeper 33 = .ok (.bipush 9, 2) := by decide +kernel
theorem dX10_keeper_35 : decode cX10_keeper 35 = .ok (.invokestatic 202, 3) := by decide +kernel
theorem dX10_keeper_38 : decode cX10_keeper 38 = .ok (.ifCond .eq 40, 3) := by decide +kernel
theorem dX10_keeper_41 : decode cX10_keeper 41 = .ok (.iload 5, 2) := by decide +kernel
theorem dX10_keeper_43 : decode cX10_keeper 43 = .ok (.iconst 1, 1) := by decide +kernel
theorem dX10_keeper_44 : decode cX10_keeper 44 = .ok (.bipush 10, 2) := by decide +kernel
theorem dX10_keeper_46 : decode cX10_keeper 46 = .ok (.invokestatic 202, 3) := by decide +kernel
theorem dX10_keeper_49 : decode cX10_keeper 49 = .ok (.ifCond .eq 29, 3) := by decide +kernel
theorem dX10_keeper_52 : decode cX10_keeper 52 = .ok (.iload 6, 2) := by decide +kernel
theorem dX10_keeper_54 : decode cX10_keeper 54 = .ok (.iconst 0, 1) := by decide +kernel
theorem dX10_keeper_55 : decode cX10_keeper 55 = .ok (.bipush 23, 2) := by decide +kernel
theorem dX10_keeper_57 : decode cX10_keeper 57 = .ok (.invokestatic 202, 3) := by decide +kernel
theorem dX10_keeper_60 : decode cX10_keeper 60 = .ok (.ifCond .eq 18, 3) := by decide +kernel
theorem dX10_keeper_63 : decode cX10_keeper 63 = .ok (.iload 7, 2) := by decide +kernel
theorem dX10_keeper_65 : decode cX10_keeper 65 = .ok (.iconst 0, 1) := by decide +kernel
theorem dX10_keeper_66 : decode cX10_keeper 66 = .ok (.bipush 23, 2) := by decide +kernel
theorem dX10_keeper_68 : decode cX10_keeper 68 = .ok (.invokestatic 202, 3) := by decide +kernel
theorem dX10_keeper_71 : decode cX10_keeper 71 = .ok (.ifCond .eq 7, 3) := by decide +kernel
theorem dX10_keeper_74 : decode cX10_keeper 74 = .ok (.iconst 1, 1) := by decide +kernel
theorem dX10_keeper_75 : decode cX10_keeper 75 = .ok (.goto 4, 3) := by decide +kernel
theorem dX10_keeper_78 : decode cX10_keeper 78 = .ok (.iconst 0, 1) := by decide +kernel
theorem dX10_keeper_79 : decode cX10_keeper 79 = .ok (.istore 8, 2) := by decide +kernel
theorem dX10_keeper_81 : decode cX10_keeper 81 = .ok (.aload_n 0, 1) := by decide +kernel
theorem dX10_keeper_82 : decode cX10_keeper 82 = .ok (.iload 8, 2) := by decide +kernel
theorem dX10_keeper_84 : decode cX10_keeper 84 = .ok (.ifCond .ne 7, 3) := by decide +kernel
theorem dX10_keeper_87 : decode cX10_keeper 87 = .ok (.iconst 1, 1) := by decide +kernel
theorem dX10_keeper_88 : decode cX10_keeper 88 = .ok (.goto 17, 3) := by decide +kernel
theorem dX10_keeper_91 : decode cX10_keeper 91 = .ok (.aload_n 0, 1) := by decide +kernel
theorem dX10_keeper_92 : decode cX10_keeper 92 = .ok (.getfield 189, 3) := by decide +kernel
theorem dX10_keeper_95 : decode cX10_keeper 95 = .ok (.bipush 12, 2) := by decide +kernel
theorem dX10_keeper_97 : decode cX10_keeper 97 = .ok (.if_icmp .ne 7, 3) := by decide +kernel
theorem dX10_keeper_100 : decode cX10_keeper 100 = .ok (.iconst 2, 1) := by decide +kernel
theorem dX10_keeper_101 : decode cX10_keeper 101 = .ok (.goto 4, 3) := by decide +kernel
theorem dX10_keeper_104 : decode cX10_keeper 104 = .ok (.iconst 0, 1) := by decide +kernel
theorem dX10_keeper_105 : decode cX10_keeper 105 = .ok (.putfield 180, 3) := by decide +kernel
theorem dX10_keeper_108 : decode cX10_keeper 108 = .ok (.aload_n 0, 1) := by decide +kernel
theorem dX10_keeper_109 : decode cX10_keeper 109 = .ok (.getfield 180, 3) := by decide +kernel
theorem dX10_keeper_112 : decode cX10_keeper 112 = .ok (.ifCond .le 5, 3) := by decide +kernel
theorem dX10_keeper_115 : decode cX10_keeper 115 = .ok (.iconst 0, 1) := by decide +kernel
theorem dX10_keeper_116 : decode cX10_keeper 116 = .ok (.ireturn, 1) := by decide +kernel
theorem dX10_keeper_117 : decode cX10_keeper 117 = .ok (.aload_n 0, 1) := by decide +kernel
theorem dX10_keeper_118 : decode cX10_keeper 118 = .ok (.getfield 189, 3) := by decide +kernel
theorem dX10_keeper_121 : decode cX10_keeper 121 = .ok (.istore 9, 2) := by decide +kernel
theorem dX10_keeper_123 : decode cX10_keeper 123 = .ok (.aload_n 0, 1) := by decide +kernel
theorem dX10_keeper_124 : decode cX10_keeper 124 = .ok (.getfield 76, 3) := by decide +kernel
theorem dX10_keeper_127 : decode cX10_keeper 127 = .ok (.iload 9, 2) := by decide +kernel
theorem dX10_keeper_129 : decode cX10_keeper 129 = .ok (.iload_n 1, 1) := by decide +kernel
theorem dX10_keeper_130 : decode cX10_keeper 130 = .ok (.iastore, 1) := by decide +kernel
theorem dX10_keeper_131 : decode cX10_keeper 131 = .ok (.aload_n 0, 1) := by decide +kernel
theorem dX10_keeper_132 : decode cX10_keeper 132 = .ok (.getfield 79, 3) := by decide +kernel
theorem dX10_keeper_135 : decode cX10_keeper 135 = .ok (.iload 9, 2) := by decide +kernel
theorem dX10_keeper_137 : decode cX10_keeper 137 = .ok (.iload_n 2, 1) := by decide +kernel
theorem dX10_keeper_138 : decode cX10_keeper 138 = .ok (.iastore, 1) := by decide +kernel
theorem dX10_keeper_139 : decode cX10_keeper 139 = .ok (.aload_n 0, 1) := by decide +kernel
theorem dX10_keeper_140 : decode cX10_keeper 140 = .ok (.getfield 82, 3) := by decide +kernel
theorem dX10_keeper_143 : decode cX10_keeper 143 = .ok (.iload 9, 2) := by decide +kernel
theorem dX10_keeper_145 : decode cX10_keeper 145 = .ok (.iload_n 3, 1) := by decide +kernel
theorem dX10_keeper_146 : decode cX10_keeper 146 = .ok (.iastore, 1) := by decide +kernel
theorem dX10_keeper_147 : decode cX10_keeper 147 = .ok (.aload_n 0, 1) := by decide +kernel
theorem dX10_keeper_148 : decode cX10_keeper 148 = .ok (.getfield 85, 3) := by decide +kernel
theorem dX10_keeper_151 : decode cX10_keeper 151 = .ok (.iload 9, 2) := by decide +kernel
theorem dX10_keeper_153 : decode cX10_keeper 153 = .ok (.iload 4, 2) := by decide +kernel
theorem dX10_keeper_155 : decode cX10_keeper 155 = .ok (.iastore, 1) := by decide +kernel
theorem dX10_keeper_156 : decode cX10_keeper 156 = .ok (.aload_n 0, 1) := by decide +kernel
theorem dX10_keeper_157 : decode cX10_keeper 157 = .ok (.getfield 88, 3) := by decide +kernel
theorem dX10_keeper_160 : decode cX10_keeper 160 = .ok (.iload 9, 2) := by decide +kernel
theorem dX10_keeper_162 : decode cX10_keeper 162 = .ok (.iload 5, 2) := by decide +kernel
theorem dX10_keeper_164 : decode cX10_keeper 164 = .ok (.iastore, 1) := by decide +kernel
theorem dX10_keeper_165 : decode cX10_keeper 165 = .ok (.aload_n 0, 1) := by decide +kernel
theorem dX10_keeper_166 : decode cX10_keeper 166 = .ok (.getfield 91, 3) := by decide +kernel
theorem dX10_keeper_169 : decode cX10_keeper 169 = .ok (.iload 9, 2) := by decide +kernel
theorem dX10_keeper_171 : decode cX10_keeper 171 = .ok (.iload 6, 2) := by decide +kernel
theorem dX10_keeper_173 : decode cX10_keeper 173 = .ok (.iastore, 1) := by decide +kernel
theorem dX10_keeper_174 : decode cX10_keeper 174 = .ok (.aload_n 0, 1) := by decide +kernel
theorem dX10_keeper_175 : decode cX10_keeper 175 = .ok (.getfield 94, 3) := by decide +kernel
theorem dX10_keeper_178 : decode cX10_keeper 178 = .ok (.iload 9, 2) := by decide +kernel
theorem dX10_keeper_180 : decode cX10_keeper 180 = .ok (.iload 7, 2) := by decide +kernel
theorem dX10_keeper_182 : decode cX10_keeper 182 = .ok (.iastore, 1) := by decide +kernel
theorem dX10_keeper_183 : decode cX10_keeper 183 = .ok (.aload_n 0, 1) := by decide +kernel
theorem dX10_keeper_184 : decode cX10_keeper 184 = .ok (.getfield 97, 3) := by decide +kernel
theorem dX10_keeper_187 : decode cX10_keeper 187 = .ok (.iload 9, 2) := by decide +kernel
theorem dX10_keeper_189 : decode cX10_keeper 189 = .ok (.iconst 0, 1) := by decide +kernel
theorem dX10_keeper_190 : decode cX10_keeper 190 = .ok (.iastore, 1) := by decide +kernel
theorem dX10_keeper_191 : decode cX10_keeper 191 = .ok (.aload_n 0, 1) := by decide +kernel
theorem dX10_keeper_192 : decode cX10_keeper 192 = .ok (.getfield 100, 3) := by decide +kernel
theorem dX10_keeper_195 : decode cX10_keeper 195 = .ok (.iload 9, 2) := by decide +kernel
theorem dX10_keeper_197 : decode cX10_keeper 197 = .ok (.iconst 0, 1) := by decide +kernel
theorem dX10_keeper_198 : decode cX10_keeper 198 = .ok (.iastore, 1) := by decide +kernel
theorem dX10_keeper_199 : decode cX10_keeper 199 = .ok (.aload_n 0, 1) := by decide +kernel
theorem dX10_keeper_200 : decode cX10_keeper 200 = .ok (.getfield 106, 3) := by decide +kernel
theorem dX10_keeper_203 : decode cX10_keeper 203 = .ok (.iload 9, 2) := by decide +kernel
theorem dX10_keeper_205 : decode cX10_keeper 205 = .ok (.iconst (-1), 1) := by decide +kernel
theorem dX10_keeper_206 : decode cX10_keeper 206 = .ok (.iastore, 1) := by decide +kernel
theorem dX10_keeper_207 : decode cX10_keeper 207 = .ok (.aload_n 0, 1) := by decide +kernel
theorem dX10_keeper_208 : decode cX10_keeper 208 = .ok (.getfield 109, 3) := by decide +kernel
theorem dX10_keeper_211 : decode cX10_keeper 211 = .ok (.iload 9, 2) := by decide +kernel
theorem dX10_keeper_213 : decode cX10_keeper 213 = .ok (.iconst 0, 1) := by decide +kernel
theorem dX10_keeper_214 : decode cX10_keeper 214 = .ok (.iastore, 1) := by decide +kernel
theorem dX10_keeper_215 : decode cX10_keeper 215 = .ok (.aload_n 0, 1) := by decide +kernel
theorem dX10_keeper_216 : decode cX10_keeper 216 = .ok (.dup, 1) := by decide +kernel
theorem dX10_keeper_217 : decode cX10_keeper 217 = .ok (.getfield 189, 3) := by decide +kernel
theorem dX10_keeper_220 : decode cX10_keeper 220 = .ok (.iconst 1, 1) := by decide +kernel
theorem dX10_keeper_221 : decode cX10_keeper 221 = .ok (.iadd, 1) := by decide +kernel
theorem dX10_keeper_222 : decode cX10_keeper 222 = .ok (.putfield 189, 3) := by decide +kernel
theorem dX10_keeper_225 : decode cX10_keeper 225 = .ok (.iload 9, 2) := by decide +kernel
theorem dX10_keeper_227 : decode cX10_keeper 227 = .ok (.ireturn, 1) := by decide +kernel
set_option maxRecDepth 20000 in
theorem ggX10_boxes_X10_isKeeper : GoodIn wsX10_boxes wsX10_isKeeper := goodIn_r _ [7, 8, 12, 13, 14, 15, 16, 17, 18, 19, 20, 21, 22, 23, 24, 25, 26, 27, 28, 29, 30, 31, 32, 33, 34, 35, 36, 37, 38, 39, 40, 41, 42, 43, 44, 45, 46, 47, 48, 49, 50, 51, 52, 53, 54, 55, 56, 57, 58, 59, 60, 61, 62, 63, 64, 65, 66, 67, 68, 69, 70, 71, 72, 73, 74, 75, 76, 77, 78, 79, 80] (by decide +kernel) (by decide +kernel)
set_option maxRecDepth 20000 in
theorem gX10_boxes_X10_isKeeper : GoodIn wsX10_boxes (wsV RX10 210 RX10 yX10_isKeeper wsX10_isKeeper) := goodIn_app (goodIn_of _ (by decide +kernel)) ggX10_boxes_X10_isKeeper
set_option maxRecDepth 20000 in
theorem ggX10_boxes_X10_isIn : GoodIn wsX10_boxes wsX10_isIn := goodIn_r _ [11] (by decide +kernel) (by decide +kernel)
set_option maxRecDepth 20000 in
theorem gX10_boxes_X10_isIn : GoodIn wsX10_boxes (va_wsS RX10 202 yX10_isIn wsX10_isIn) := goodIn_app (goodIn_of _ (by decide +kernel)) ggX10_boxes_X10_isIn
theorem dX10_boxes_0 : decode cX10_boxes 0 = .ok (.aload_n 0, 1) := by decide +kernel
theorem dX10_boxes_1 : decode cX10_boxes 1 = .ok (.aload_n 0, 1) := by decide +kernel
theorem dX10_boxes_2 : decode cX10_boxes 2 = .ok (.iload_n 1, 1) := by decide +kernel
theorem dX10_boxes_3 : decode cX10_boxes 3 = .ok (.invokevirtual 210, 3) := by decide +kernel
theorem dX10_boxes_6 : decode cX10_boxes 6 = .ok (.ifCond .ne 7, 3) := by decide +kernel
theorem dX10_boxes_9 : decode cX10_boxes 9 = .ok (.iconst 1, 1) := by decide +kernel
theorem dX10_boxes_10 : decode cX10_boxes 10 = .ok (.goto 18, 3) := by decide +kernel
theorem dX10_boxes_13 : decode cX10_boxes 13 = .ok (.iload_n 2, 1) := by decide +kernel
theorem dX10_boxes_14 : decode cX10_boxes 14 = .ok (.iconst 0, 1) := by decide +kernel
theorem dX10_boxes_15 : decode cX10_boxes 15 = .ok (.bipush 20, 2) := by decide +kernel
theorem dX10_boxes_17 : decode cX10_boxes 17 = .ok (.invokestatic 202, 3) := by decide +kernel
theorem dX10_boxes_20 : decode cX10_boxes 20 = .ok (.ifCond .ne 7, 3) := by decide +kernel
theorem dX10_boxes_23 : decode cX10_boxes 23 = .ok (.iconst 2, 1) := by decide +kernel
theorem dX10_boxes_24 : decode cX10_boxes 24 = .ok (.goto 4, 3) := by decide +kernel
theorem dX10_boxes_27 : decode cX10_boxes 27 = .ok (.iconst 0, 1) := by decide +kernel
theorem dX10_boxes_28 : decode cX10_boxes 28 = .ok (.putfield 180, 3) := by decide +kernel
theorem dX10_boxes_31 : decode cX10_boxes 31 = .ok (.aload_n 0, 1) := by decide +kernel
theorem dX10_boxes_32 : decode cX10_boxes 32 = .ok (.getfield 180, 3) := by decide +kernel
theorem dX10_boxes_35 : decode cX10_boxes 35 = .ok (.ifCond .le 5, 3) := by decide +kernel
theorem dX10_boxes_38 : decode cX10_boxes 38 = .ok (.iconst 0, 1) := by decide +kernel
theorem dX10_boxes_39 : decode cX10_boxes 39 = .ok (.ireturn, 1) := by decide +kernel
theorem dX10_boxes_40 : decode cX10_boxes 40 = .ok (.aload_n 0, 1) := by decide +kernel
theorem dX10_boxes_41 : decode cX10_boxes 41 = .ok (.getfield 82, 3) := by decide +kernel
theorem dX10_boxes_44 : decode cX10_boxes 44 = .ok (.iload_n 1, 1) := by decide +kernel
theorem dX10_boxes_45 : decode cX10_boxes 45 = .ok (.iaload, 1) := by decide +kernel
theorem dX10_boxes_46 : decode cX10_boxes 46 = .ok (.iload_n 2, 1) := by decide +kernel
theorem dX10_boxes_47 : decode cX10_boxes 47 = .ok (.iadd, 1) := by decide +kernel
theorem dX10_boxes_48 : decode cX10_boxes 48 = .ok (.istore_n 3, 1) := by decide +kernel
theorem dX10_boxes_49 : decode cX10_boxes 49 = .ok (.aload_n 0, 1) := by decide +kernel
theorem dX10_boxes_50 : decode cX10_boxes 50 = .ok (.getfield 82, 3) := by decide +kernel
theorem dX10_boxes_53 : decode cX10_boxes 53 = .ok (.iload_n 1, 1) := by decide +kernel
theorem dX10_boxes_54 : decode cX10_boxes 54 = .ok (.iload_n 3, 1) := by decide +kernel
theorem dX10_boxes_55 : decode cX10_boxes 55 = .ok (.bipush 20, 2) := by decide +kernel
theorem dX10_boxes_57 : decode cX10_boxes 57 = .ok (.if_icmp .le 8, 3) := by decide +kernel
theorem dX10_boxes_60 : decode cX10_boxes 60 = .ok (.bipush 20, 2) := by decide +kernel
theorem dX10_boxes_62 : decode cX10_boxes 62 = .ok (.goto 4, 3) := by decide +kernel
theorem dX10_boxes_65 : decode cX10_boxes 65 = .ok (.iload_n 3, 1) := by decide +kernel
theorem dX10_boxes_66 : decode cX10_boxes 66 = .ok (.iastore, 1) := by decide +kernel
theorem dX10_boxes_67 : decode cX10_boxes 67 = .ok (.aload_n 0, 1) := by decide +kernel
theorem dX10_boxes_68 : decode cX10_boxes 68 = .ok (.getfield 82, 3) := by decide +kernel
theorem dX10_boxes_71 : decode cX10_boxes 71 = .ok (.iload_n 1, 1) := by decide +kernel
theorem dX10_boxes_72 : decode cX10_boxes 72 = .ok (.iaload, 1) := by decide +kernel
theorem dX10_boxes_73 : decode cX10_boxes 73 = .ok (.ireturn, 1) := by decide +kernel
theorem dX10_taken_0 : decode cX10_taken 0 = .ok (.iload_n 0, 1) := by decide +kernel
theorem dX10_taken_1 : decode cX10_taken 1 = .ok (.bipush 25, 2) := by decide +kernel
theorem dX10_taken_3 : decode cX10_taken 3 = .ok (.if_icmp .lt 7, 3) := by decide +kernel
theorem dX10_taken_6 : decode cX10_taken 6 = .ok (.iconst 3, 1) := by decide +kernel
theorem dX10_taken_7 : decode cX10_taken 7 = .ok (.goto 14, 3) := by decide +kernel
theorem dX10_taken_10 : decode cX10_taken 10 = .ok (.iload_n 0, 1) := by decide +kernel
theorem dX10_taken_11 : decode cX10_taken 11 = .ok (.bipush 18, 2) := by decide +kernel
theorem dX10_taken_13 : decode cX10_taken 13 = .ok (.if_icmp .lt 7, 3) := by decide +kernel
theorem dX10_taken_16 : decode cX10_taken 16 = .ok (.iconst 2, 1) := by decide +kernel
theorem dX10_taken_17 : decode cX10_taken 17 = .ok (.goto 4, 3) := by decide +kernel
theorem dX10_taken_20 : decode cX10_taken 20 = .ok (.iconst 1, 1) := by decide +kernel
theorem dX10_taken_21 : decode cX10_taken 21 = .ok (.ireturn, 1) := by decide +kernel
set_option maxRecDepth 20000 in
theorem ggX10_hours_X10_isIn : GoodIn wsX10_hours wsX10_isIn := goodIn_r _ [6] (by decide +kernel) (by decide +kernel)
set_option maxRecDepth 20000 in
theorem gX10_hours_X10_isIn : GoodIn wsX10_hours (va_wsS RX10 202 yX10_isIn wsX10_isIn) := goodIn_app (goodIn_of _ (by decide +kernel)) ggX10_hours_X10_isIn
set_option maxRecDepth 20000 in
theorem ggX10_hours_X10_hour : GoodIn wsX10_hours wsX10_hour := goodIn_r _ [10, 2, 11, 12, 13, 14, 15, 16, 17, 18, 19, 20, 5, 21, 22, 23, 24, 25, 26, 27, 28, 29, 30, 31, 32, 33, 34, 35, 36, 37, 38, 39, 40, 41, 42, 43, 44, 45, 46, 47, 48, 49, 50, 51, 52, 53, 54, 55, 56, 57, 58, 59, 60, 61, 62, 63, 64, 65, 66, 67, 68, 69, 70, 71, 72, 73, 74, 75, 76, 77, 78, 79, 80, 81, 82, 83, 84, 85, 86, 87, 88, 89, 90, 91, 92, 93, 94, 95, 96, 97, 98, 99, 100, 101, 102, 103, 104, 105, 106, 107, 108, 109, 110, 111, 112, 113, 114, 115, 116, 117, 118, 119, 120, 121, 122, 123, 124, 125, 126, 127, 128, 129, 130, 131, 132, 133, 134, 135] (by decide +kernel) (by decide +kernel)
set_option maxRecDepth 20000 in
theorem gX10_hours_X10_hour : GoodIn wsX10_hours (wsV RX10 214 RX10 yX10_hour wsX10_hour) := goodIn_app (goodIn_of _ (by decide +kernel)) ggX10_hours_X10_hour
theorem dX10_hours_0 : decode cX10_hours 0 = .ok (.aload_n 0, 1) := by decide +kernel
theorem dX10_hours_1 : decode cX10_hours 1 = .ok (.iload_n 1, 1) := by decide +kernel
theorem dX10_hours_2 : decode cX10_hours 2 = .ok (.iconst 0, 1) := by decide +kernel
theorem dX10_hours_3 : decode cX10_hours 3 = .ok (.bipush 100, 2) := by decide +kernel
theorem dX10_hours_5 : decode cX10_hours 5 = .ok (.invokestatic 202, 3) := by decide +kernel
theorem dX10_hours_8 : decode cX10_hours 8 = .ok (.ifCond .ne 7, 3) := by decide +kernel
theorem dX10_hours_11 : decode cX10_hours 11 = .ok (.iconst 1, 1) := by decide +kernel
theorem dX10_hours_12 : decode cX10_hours 12 = .ok (.goto 4, 3) := by decide +kernel
theorem dX10_hours_15 : decode cX10_hours 15 = .ok (.iconst 0, 1) := by decide +kernel
theorem dX10_hours_16 : decode cX10_hours 16 = .ok (.putfield 180, 3) := by decide +kernel
theorem dX10_hours_19 : decode cX10_hours 19 = .ok (.aload_n 0, 1) := by decide +kernel
theorem dX10_hours_20 : decode cX10_hours 20 = .ok (.getfield 180, 3) := by decide +kernel
theorem dX10_hours_23 : decode cX10_hours 23 = .ok (.ifCond .le 5, 3) := by decide +kernel
theorem dX10_hours_26 : decode cX10_hours 26 = .ok (.iconst 0, 1) := by decide +kernel
theorem dX10_hours_27 : decode cX10_hours 27 = .ok (.ireturn, 1) := by decide +kernel
theorem dX10_hours_28 : decode cX10_hours 28 = .ok (.iconst 0, 1) := by decide +kernel
theorem dX10_hours_29 : decode cX10_hours 29 = .ok (.istore_n 2, 1) := by decide +kernel
theorem dX10_hours_30 : decode cX10_hours 30 = .ok (.iload_n 2, 1) := by decide +kernel
theorem dX10_hours_31 : decode cX10_hours 31 = .ok (.iload_n 1, 1) := by decide +kernel
theorem dX10_hours_32 : decode cX10_hours 32 = .ok (.if_icmp .ge 23, 3) := by decide +kernel
theorem dX10_hours_35 : decode cX10_hours 35 = .ok (.aload_n 0, 1) := by decide +kernel
theorem dX10_hours_36 : decode cX10_hours 36 = .ok (.getfield 206, 3) := by decide +kernel
theorem dX10_hours_39 : decode cX10_hours 39 = .ok (.sipush 743, 3) := by decide +kernel
theorem dX10_hours_42 : decode cX10_hours 42 = .ok (.if_icmp .ge 13, 3) := by decide +kernel
theorem dX10_hours_45 : decode cX10_hours 45 = .ok (.aload_n 0, 1) := by decide +kernel
theorem dX10_hours_46 : decode cX10_hours 46 = .ok (.invokevirtual 214, 3) := by decide +kernel
theorem dX10_hours_49 : decode cX10_hours 49 = .ok (.iinc 2 1, 3) := by decide +kernel
theorem dX10_hours_52 : decode cX10_hours 52 = .ok (.goto (-22), 3) := by decide +kernel
theorem dX10_hours_55 : decode cX10_hours 55 = .ok (.aload_n 0, 1) := by decide +kernel
theorem dX10_hours_56 : decode cX10_hours 56 = .ok (.getfield 206, 3) := by decide +kernel
theorem dX10_hours_59 : decode cX10_hours 59 = .ok (.ireturn, 1) := by decide +kernel
set_option maxRecDepth 20000 in
theorem ggX10_hour_X10_taken : GoodIn wsX10_hour wsX10_taken := goodIn_r _ [13] (by decide +kernel) (by decide +kernel)
set_option maxRecDepth 20000 in
theorem gX10_hour_X10_taken : GoodIn wsX10_hour (va_wsS RX10 217 yX10_taken wsX10_taken) := goodIn_app (goodIn_of _ (by decide +kernel)) ggX10_hour_X10_taken
set_option maxRecDepth 20000 in
theorem ggX10_hour_X10_onTheWay : GoodIn wsX10_hour wsX10_onTheWay := goodIn_r _ [17, 18, 8, 19, 20, 21, 22, 23, 12, 24, 2, 25, 26, 27, 28, 3, 29, 30, 31, 32, 33, 6, 1, 34, 35, 36, 37, 38, 39, 40, 59, 60, 61, 62, 63, 64, 65, 66, 67, 68, 69, 70, 71, 72, 73, 74, 75, 76, 77, 78, 79, 80, 81, 82, 83, 84, 85, 86, 87, 88, 89, 90, 91, 92, 93, 94, 95, 96, 97, 98, 99, 100, 101, 102, 103, 104, 105, 106, 107, 108, 109, 110, 111, 112, 113, 114, 115, 116, 117, 118, 119, 120, 121, 122, 123, 124, 125, 126, 127] (by decide +kernel) (by decide +kernel)
set_option maxRecDepth 20000 in
theorem gX10_hour_X10_onTheWay : GoodIn wsX10_hour (wsV RX10 221 RX10 yX10_onTheWay wsX10_onTheWay) := goodIn_app (goodIn_of _ (by decide +kernel)) ggX10_hour_X10_onTheWay
set_option maxRecDepth 20000 in
theorem ggX10_hour_X10_noon : GoodIn wsX10_hour wsX10_noon := goodIn_r _ [44, 45, 46, 47, 48, 5, 49, 2, 3, 50, 51, 25, 52, 26, 53, 30, 54, 1, 4, 33, 6, 34, 55, 56, 57, 12, 58, 59, 60, 61, 62, 63, 64, 65, 66, 67, 68, 69, 70, 71, 72, 73, 74, 75, 76, 77, 78, 79, 80, 81, 82, 83, 84, 85, 86, 87, 88, 89, 90, 91, 92, 93, 94, 95, 96, 97, 98, 99, 100, 101, 102, 103, 104, 105, 106, 107, 108, 109, 110, 111, 112, 113, 114, 115, 116, 117, 118, 119, 120, 121, 122, 123, 124, 125, 126, 127] (by decide +kernel) (by decide +kernel)
set_option maxRecDepth 20000 in
theorem gX10_hour_X10_noon : GoodIn wsX10_hour (wsV RX10 224 RX10 yX10_noon wsX10_noon) := goodIn_app (goodIn_of _ (by decide +kernel)) ggX10_hour_X10_noon
theorem dX10_hour_0 : decode cX10_hour 0 = .ok (.aload_n 0, 1) := by decide +kernel
theorem dX10_hour_1 : decode cX10_hour 1 = .ok (.dup, 1) := by decide +kernel
theorem dX10_hour_2 : decode cX10_hour 2 = .ok (.getfield 206, 3) := by decide +kernel
theorem dX10_hour_5 : decode cX10_hour 5 = .ok (.iconst 1, 1) := by decide +kernel
theorem dX10_hour_6 : decode cX10_hour 6 = .ok (.iadd, 1) := by decide +kernel
theorem dX10_hour_7 : decode cX10_hour 7 = .ok (.putfield 206, 3) := by decide +kernel
theorem dX10_hour_10 : decode cX10_hour 10 = .ok (.iconst 0, 1) := by decide +kernel
theorem dX10_hour_11 : decode cX10_hour 11 = .ok (.istore_n 1, 1) := by decide +kernel
theorem dX10_hour_12 : decode cX10_hour 12 = .ok (.iload_n 1, 1) := by decide +kernel
theorem dX10_hour_13 : decode cX10_hour 13 = .ok (.aload_n 0, 1) := by decide +kernel
theorem dX10_hour_14 : decode cX10_hour 14 = .ok (.getfield 186, 3) := by decide +kernel
theorem dX10_hour_17 : decode cX10_hour 17 = .ok (.if_icmp .ge 74, 3) := by decide +kernel
theorem dX10_hour_20 : decode cX10_hour 20 = .ok (.aload_n 0, 1) := by decide +kernel
theorem dX10_hour_21 : decode cX10_hour 21 = .ok (.getfield 43, 3) := by decide +kernel
theorem dX10_hour_24 : decode cX10_hour 24 = .ok (.iload_n 1, 1) := by decide +kernel
theorem dX10_hour_25 : decode cX10_hour 25 = .ok (.iaload, 1) := by decide +kernel
theorem dX10_hour_26 : decode cX10_hour 26 = .ok (.ifCond .eq 6, 3) := by decide +kernel
theorem dX10_hour_29 : decode cX10_hour 29 = .ok (.goto 56, 3) := by decide +kernel
theorem dX10_hour_32 : decode cX10_hour 32 = .ok (.aload_n 0, 1) := by decide +kernel
theorem dX10_hour_33 : decode cX10_hour 33 = .ok (.getfield 64, 3) := by decide +kernel
theorem dX10_hour_36 : decode cX10_hour 36 = .ok (.iload_n 1, 1) := by decide +kernel
theorem dX10_hour_37 : decode cX10_hour 37 = .ok (.dup2, 1) := by decide +kernel
theorem dX10_hour_38 : decode cX10_hour 38 = .ok (.iaload, 1) := by decide +kernel
theorem dX10_hour_39 : decode cX10_hour 39 = .ok (.aload_n 0, 1) := by decide +kernel
theorem dX10_hour_40 : decode cX10_hour 40 = .ok (.getfield 7, 3) := by decide +kernel
theorem dX10_hour_43 : decode cX10_hour 43 = .ok (.aload_n 0, 1) := by decide +kernel
theorem dX10_hour_44 : decode cX10_hour 44 = .ok (.getfield 206, 3) := by decide +kernel
theorem dX10_hour_47 : decode cX10_hour 47 = .ok (.bipush 24, 2) := by decide +kernel
theorem dX10_hour_49 : decode cX10_hour 49 = .ok (.idiv, 1) := by decide +kernel
theorem dX10_hour_50 : decode cX10_hour 50 = .ok (.iaload, 1) := by decide +kernel
theorem dX10_hour_51 : decode cX10_hour 51 = .ok (.invokestatic 217, 3) := by decide +kernel
theorem dX10_hour_54 : decode cX10_hour 54 = .ok (.isub, 1) := by decide +kernel
theorem dX10_hour_55 : decode cX10_hour 55 = .ok (.iastore, 1) := by decide +kernel
theorem dX10_hour_56 : decode cX10_hour 56 = .ok (.aload_n 0, 1) := by decide +kernel
theorem dX10_hour_57 : decode cX10_hour 57 = .ok (.getfield 64, 3) := by decide +kernel
theorem dX10_hour_60 : decode cX10_hour 60 = .ok (.iload_n 1, 1) := by decide +kernel
theorem dX10_hour_61 : decode cX10_hour 61 = .ok (.iaload, 1) := by decide +kernel
theorem dX10_hour_62 : decode cX10_hour 62 = .ok (.ifCond .le 6, 3) := by decide +kernel
theorem dX10_hour_65 : decode cX10_hour 65 = .ok (.goto 20, 3) := by decide +kernel
theorem dX10_hour_68 : decode cX10_hour 68 = .ok (.aload_n 0, 1) := by decide +kernel
theorem dX10_hour_69 : decode cX10_hour 69 = .ok (.getfield 43, 3) := by decide +kernel
theorem dX10_hour_72 : decode cX10_hour 72 = .ok (.iload_n 1, 1) := by decide +kernel
theorem dX10_hour_73 : decode cX10_hour 73 = .ok (.iconst 2, 1) := by decide +kernel
theorem dX10_hour_74 : decode cX10_hour 74 = .ok (.iastore, 1) := by decide +kernel
theorem dX10_hour_75 : decode cX10_hour 75 = .ok (.aload_n 0, 1) := by decide +kernel
theorem dX10_hour_76 : decode cX10_hour 76 = .ok (.getfield 70, 3) := by decide +kernel
theorem dX10_hour_79 : decode cX10_hour 79 = .ok (.iload_n 1, 1) := by decide +kernel
theorem dX10_hour_80 : decode cX10_hour 80 = .ok (.aload_n 0, 1) := by decide +kernel
theorem dX10_hour_81 : decode cX10_hour 81 = .ok (.getfield 206, 3) := by decide +kernel
theorem dX10_hour_84 : decode cX10_hour 84 = .ok (.iastore, 1) := by decide +kernel
theorem dX10_hour_85 : decode cX10_hour 85 = .ok (.iinc 1 1, 3) := by decide +kernel
theorem dX10_hour_88 : decode cX10_hour 88 = .ok (.goto (-76), 3) := by decide +kernel
theorem dX10_hour_91 : decode cX10_hour 91 = .ok (.iconst 0, 1) := by decide +kernel
theorem dX10_hour_92 : decode cX10_hour 92 = .ok (.istore_n 1, 1) := by decide +kernel
theorem dX10_hour_93 : decode cX10_hour 93 = .ok (.iload_n 1, 1) := by decide +kernel
theorem dX10_hour_94 : decode cX10_hour 94 = .ok (.aload_n 0, 1) := by decide +kernel
theorem dX10_hour_95 : decode cX10_hour 95 = .ok (.getfield 189, 3) := by decide +kernel
theorem dX10_hour_98 : decode cX10_hour 98 = .ok (.if_icmp .ge 23, 3) := by decide +kernel
theorem dX10_hour_101 : decode cX10_hour 101 = .ok (.aload_n 0, 1) := by decide +kernel
theorem dX10_hour_102 : decode cX10_hour 102 = .ok (.getfield 97, 3) := by decide +kernel
theorem dX10_hour_105 : decode cX10_hour 105 = .ok (.iload_n 1, 1) := by decide +kernel
theorem dX10_hour_106 : decode cX10_hour 106 = .ok (.iaload, 1) := by decide +kernel
theorem dX10_hour_107 : decode cX10_hour 107 = .ok (.ifCond .eq 8, 3) := by decide +kernel
theorem dX10_hour_110 : decode cX10_hour 110 = .ok (.aload_n 0, 1) := by decide +kernel
theorem dX10_hour_111 : decode cX10_hour 111 = .ok (.iload_n 1, 1) := by decide +kernel
theorem dX10_hour_112 : decode cX10_hour 112 = .ok (.invokevirtual 221, 3) := by decide +kernel
theorem dX10_hour_115 : decode cX10_hour 115 = .ok (.iinc 1 1, 3) := by decide +kernel
theorem dX10_hour_118 : decode cX10_hour 118 = .ok (.goto (-25), 3) := by decide +kernel
theorem dX10_hour_121 : decode cX10_hour 121 = .ok (.aload_n 0, 1) := by decide +kernel
theorem dX10_hour_122 : decode cX10_hour 122 = .ok (.getfield 206, 3) := by decide +kernel
theorem dX10_hour_125 : decode cX10_hour 125 = .ok (.bipush 24, 2) := by decide +kernel
theorem dX10_hour_127 : decode cX10_hour 127 = .ok (.irem, 1) := by decide +kernel
theorem dX10_hour_128 : decode cX10_hour 128 = .ok (.bipush 12, 2) := by decide +kernel
theorem dX10_hour_130 : decode cX10_hour 130 = .ok (.if_icmp .eq 4, 3) := by decide +kernel
theorem dX10_hour_133 : decode cX10_hour 133 = .ok (.return_, 1) := by decide +kernel
theorem dX10_hour_134 : decode cX10_hour 134 = .ok (.iconst 0, 1) := by decide +kernel
theorem dX10_hour_135 : decode cX10_hour 135 = .ok (.istore_n 1, 1) := by decide +kernel
theorem dX10_hour_136 : decode cX10_hour 136 = .ok (.iload_n 1, 1) := by decide +kernel
theorem dX10_hour_137 : decode cX10_hour 137 = .ok (.aload_n 0, 1) := by decide +kernel
theorem dX10_hour_138 : decode cX10_hour 138 = .ok (.getfield 183, 3) := by decide +kernel
theorem dX10_hour_141 : decode cX10_hour 141 = .ok (.if_icmp .ge 21, 3) := by decide +kernel
theorem dX10_hour_144 : decode cX10_hour 144 = .ok (.aload_n 0, 1) := by decide +kernel
theorem dX10_hour_145 : decode cX10_hour 145 = .ok (.iload_n 1, 1) := by decide +kernel
theorem dX10_hour_146 : decode cX10_hour 146 = .ok (.aload_n 0, 1) := by decide +kernel
theorem dX10_hour_147 : decode cX10_hour 147 = .ok (.getfield 206, 3) := by decide +kernel
theorem dX10_hour_150 : decode cX10_hour 150 = .ok (.bipush 24, 2) := by decide +kernel
theorem dX10_hour_152 : decode cX10_hour 152 = .ok (.idiv, 1) := by decide +kernel
theorem dX10_hour_153 : decode cX10_hour 153 = .ok (.invokevirtual 224, 3) := by decide +kernel
theorem dX10_hour_156 : decode cX10_hour 156 = .ok (.iinc 1 1, 3) := by decide +kernel
theorem dX10_hour_159 : decode cX10_hour 159 = .ok (.goto (-23), 3) := by decide +kernel
theorem dX10_hour_162 : decode cX10_hour 162 = .ok (.return_, 1) := by decide +kernel
set_option maxRecDepth 20000 in
theorem ggX10_onTheWay_X10_visit : GoodIn wsX10_onTheWay wsX10_visit := goodIn_r _ [9, 10, 11, 12, 13, 14, 15, 16, 17, 18, 19, 20, 21, 22, 23, 24, 25, 26, 27, 28, 8, 29, 30, 31, 32, 33, 34, 35, 36, 37, 38, 39, 40, 41, 42, 43, 44, 45, 46, 47, 48, 49, 50, 51, 52, 53, 54, 55, 56, 57, 58, 59, 60, 61, 62, 63, 64, 65, 66, 67, 68, 69, 70, 71, 72, 73, 74, 75, 76, 77, 78, 79, 80, 81, 82, 83, 84, 85, 86, 87, 88, 89, 90, 91, 92, 93, 94, 95, 96, 97, 98] (by decide +kernel) (by decide +kernel)
set_option maxRecDepth 20000 in
theorem gX10_onTheWay_X10_visit : GoodIn wsX10_onTheWay (wsV RX10 228 RX10 yX10_visit wsX10_visit) := goodIn_app (goodIn_of _ (by decide +kernel)) ggX10_onTheWay_X10_visit
theorem dX10_onTheWay_0 : decode cX10_onTheWay 0 = .ok (.aload_n 0, 1) := by decide +kernel
theorem dX10_onTheWay_1 : decode cX10_onTheWay 1 = .ok (.getfield 100, 3) := by decide +kernel
theorem dX10_onTheWay_4 : decode cX10_onTheWay 4 = .ok (.iload_n 1, 1) := by decide +kernel
theorem dX10_onTheWay_5 : decode cX10_onTheWay 5 = .ok (.dup2, 1) := by decide +kernel
theorem dX10_onTheWay_6 : decode cX10_onTheWay 6 = .ok (.iaload, 1) := by decide +kernel
theorem dX10_onTheWay_7 : decode cX10_onTheWay 7 = .ok (.iconst 1, 1) := by decide +kernel
theorem dX10_onTheWay_8 : decode cX10_onTheWay 8 = .ok (.isub, 1) := by decide +kernel
theorem dX10_onTheWay_9 : decode cX10_onTheWay 9 = .ok (.iastore, 1) := by decide +kernel
theorem dX10_onTheWay_10 : decode cX10_onTheWay 10 = .ok (.aload_n 0, 1) := by decide +kernel
theorem dX10_onTheWay_11 : decode cX10_onTheWay 11 = .ok (.getfield 100, 3) := by decide +kernel
theorem dX10_onTheWay_14 : decode cX10_onTheWay 14 = .ok (.iload_n 1, 1) := by decide +kernel
theorem dX10_onTheWay_15 : decode cX10_onTheWay 15 = .ok (.iaload, 1) := by decide +kernel
theorem dX10_onTheWay_16 : decode cX10_onTheWay 16 = .ok (.ifCond .le 4, 3) := by decide +kernel
theorem dX10_onTheWay_19 : decode cX10_onTheWay 19 = .ok (.return_, 1) := by decide +kernel
theorem dX10_onTheWay_20 : decode cX10_onTheWay 20 = .ok (.aload_n 0, 1) := by decide +kernel
theorem dX10_onTheWay_21 : decode cX10_onTheWay 21 = .ok (.getfield 97, 3) := by decide +kernel
theorem dX10_onTheWay_24 : decode cX10_onTheWay 24 = .ok (.iload_n 1, 1) := by decide +kernel
theorem dX10_onTheWay_25 : decode cX10_onTheWay 25 = .ok (.iaload, 1) := by decide +kernel
theorem dX10_onTheWay_26 : decode cX10_onTheWay 26 = .ok (.iconst 2, 1) := by decide +kernel
theorem dX10_onTheWay_27 : decode cX10_onTheWay 27 = .ok (.if_icmp .ne 18, 3) := by decide +kernel
theorem dX10_onTheWay_30 : decode cX10_onTheWay 30 = .ok (.aload_n 0, 1) := by decide +kernel
theorem dX10_onTheWay_31 : decode cX10_onTheWay 31 = .ok (.getfield 97, 3) := by decide +kernel
theorem dX10_onTheWay_34 : decode cX10_onTheWay 34 = .ok (.iload_n 1, 1) := by decide +kernel
theorem dX10_onTheWay_35 : decode cX10_onTheWay 35 = .ok (.iconst 0, 1) := by decide +kernel
theorem dX10_onTheWay_36 : decode cX10_onTheWay 36 = .ok (.iastore, 1) := by decide +kernel
theorem dX10_onTheWay_37 : decode cX10_onTheWay 37 = .ok (.aload_n 0, 1) := by decide +kernel
theorem dX10_onTheWay_38 : decode cX10_onTheWay 38 = .ok (.getfield 106, 3) := by decide +kernel
theorem dX10_onTheWay_41 : decode cX10_onTheWay 41 = .ok (.iload_n 1, 1) := by decide +kernel
theorem dX10_onTheWay_42 : decode cX10_onTheWay 42 = .ok (.iconst (-1), 1) := by decide +kernel
theorem dX10_onTheWay_43 : decode cX10_onTheWay 43 = .ok (.iastore, 1) := by decide +kernel
theorem dX10_onTheWay_44 : decode cX10_onTheWay 44 = .ok (.return_, 1) := by decide +kernel
theorem dX10_onTheWay_45 : decode cX10_onTheWay 45 = .ok (.aload_n 0, 1) := by decide +kernel
theorem dX10_onTheWay_46 : decode cX10_onTheWay 46 = .ok (.iload_n 1, 1) := by decide +kernel
theorem dX10_onTheWay_47 : decode cX10_onTheWay 47 = .ok (.aload_n 0, 1) := by decide +kernel
theorem dX10_onTheWay_48 : decode cX10_onTheWay 48 = .ok (.getfield 106, 3) := by decide +kernel
theorem dX10_onTheWay_51 : decode cX10_onTheWay 51 = .ok (.iload_n 1, 1) := by decide +kernel
theorem dX10_onTheWay_52 : decode cX10_onTheWay 52 = .ok (.iaload, 1) := by decide +kernel
theorem dX10_onTheWay_53 : decode cX10_onTheWay 53 = .ok (.invokevirtual 228, 3) := by decide +kernel
theorem dX10_onTheWay_56 : decode cX10_onTheWay 56 = .ok (.aload_n 0, 1) := by decide +kernel
theorem dX10_onTheWay_57 : decode cX10_onTheWay 57 = .ok (.getfield 97, 3) := by decide +kernel
theorem dX10_onTheWay_60 : decode cX10_onTheWay 60 = .ok (.iload_n 1, 1) := by decide +kernel
theorem dX10_onTheWay_61 : decode cX10_onTheWay 61 = .ok (.iconst 2, 1) := by decide +kernel
theorem dX10_onTheWay_62 : decode cX10_onTheWay 62 = .ok (.iastore, 1) := by decide +kernel
theorem dX10_onTheWay_63 : decode cX10_onTheWay 63 = .ok (.aload_n 0, 1) := by decide +kernel
theorem dX10_onTheWay_64 : decode cX10_onTheWay 64 = .ok (.getfield 100, 3) := by decide +kernel
theorem dX10_onTheWay_67 : decode cX10_onTheWay 67 = .ok (.iload_n 1, 1) := by decide +kernel
theorem dX10_onTheWay_68 : decode cX10_onTheWay 68 = .ok (.aload_n 0, 1) := by decide +kernel
theorem dX10_onTheWay_69 : decode cX10_onTheWay 69 = .ok (.getfield 103, 3) := by decide +kernel
theorem dX10_onTheWay_72 : decode cX10_onTheWay 72 = .ok (.iload_n 1, 1) := by decide +kernel
theorem dX10_onTheWay_73 : decode cX10_onTheWay 73 = .ok (.iaload, 1) := by decide +kernel
theorem dX10_onTheWay_74 : decode cX10_onTheWay 74 = .ok (.iastore, 1) := by decide +kernel
theorem dX10_onTheWay_75 : decode cX10_onTheWay 75 = .ok (.return_, 1) := by decide +kernel
set_option maxRecDepth 20000 in
theorem ggX10_visit_X10_steps : GoodIn wsX10_visit wsX10_steps := goodIn_r _ [21] (by decide +kernel) (by decide +kernel)
set_option maxRecDepth 20000 in
theorem gX10_visit_X10_steps : GoodIn wsX10_visit (va_wsS RX10 231 yX10_steps wsX10_steps) := goodIn_app (goodIn_of _ (by decide +kernel)) ggX10_visit_X10_steps
theorem dX10_visit_0 : decode cX10_visit 0 = .ok (.iconst (-1), 1) := by decide +kernel
theorem dX10_visit_1 : decode cX10_visit 1 = .ok (.istore_n 3, 1) := by decide +kernel
theorem dX10_visit_2 : decode cX10_visit 2 = .ok (.iconst 2, 1) := by decide +kernel
theorem dX10_visit_3 : decode cX10_visit 3 = .ok (.istore 4, 2) := by decide +kernel
theorem dX10_visit_5 : decode cX10_visit 5 = .ok (.iconst 0, 1) := by decide +kernel
theorem dX10_visit_6 : decode cX10_visit 6 = .ok (.istore 5, 2) := by decide +kernel
theorem dX10_visit_8 : decode cX10_visit 8 = .ok (.iload 5, 2) := by decide +kernel
theorem dX10_visit_10 : decode cX10_visit 10 = .ok (.aload_n 0, 1) := by decide +kernel
theorem dX10_visit_11 : decode cX10_visit 11 = .ok (.getfield 186, 3) := by decide +kernel
theorem dX10_visit_14 : decode cX10_visit 14 = .ok (.if_icmp .ge 67, 3) := by decide +kernel
theorem dX10_visit_17 : decode cX10_visit 17 = .ok (.aload_n 0, 1) := by decide +kernel
theorem dX10_visit_18 : decode cX10_visit 18 = .ok (.getfield 52, 3) := by decide +kernel
theorem dX10_visit_21 : decode cX10_visit 21 = .ok (.iload 5, 2) := by decide +kernel
theorem dX10_visit_23 : decode cX10_visit 23 = .ok (.iaload, 1) := by decide +kernel
theorem dX10_visit_24 : decode cX10_visit 24 = .ok (.aload_n 0, 1) := by decide +kernel
theorem dX10_visit_25 : decode cX10_visit 25 = .ok (.getfield 55, 3) := by decide +kernel
theorem dX10_visit_28 : decode cX10_visit 28 = .ok (.iload 5, 2) := by decide +kernel
theorem dX10_visit_30 : decode cX10_visit 30 = .ok (.iaload, 1) := by decide +kernel
theorem dX10_visit_31 : decode cX10_visit 31 = .ok (.aload_n 0, 1) := by decide +kernel
theorem dX10_visit_32 : decode cX10_visit 32 = .ok (.getfield 115, 3) := by decide +kernel
theorem dX10_visit_35 : decode cX10_visit 35 = .ok (.iload_n 2, 1) := by decide +kernel
theorem dX10_visit_36 : decode cX10_visit 36 = .ok (.iaload, 1) := by decide +kernel
theorem dX10_visit_37 : decode cX10_visit 37 = .ok (.aload_n 0, 1) := by decide +kernel
theorem dX10_visit_38 : decode cX10_visit 38 = .ok (.getfield 118, 3) := by decide +kernel
theorem dX10_visit_41 : decode cX10_visit 41 = .ok (.iload_n 2, 1) := by decide +kernel
theorem dX10_visit_42 : decode cX10_visit 42 = .ok (.iaload, 1) := by decide +kernel
theorem dX10_visit_43 : decode cX10_visit 43 = .ok (.invokestatic 231, 3) := by decide +kernel
theorem dX10_visit_46 : decode cX10_visit 46 = .ok (.istore 6, 2) := by decide +kernel
theorem dX10_visit_48 : decode cX10_visit 48 = .ok (.aload_n 0, 1) := by decide +kernel
theorem dX10_visit_49 : decode cX10_visit 49 = .ok (.getfield 43, 3) := by decide +kernel
theorem dX10_visit_52 : decode cX10_visit 52 = .ok (.iload 5, 2) := by decide +kernel
theorem dX10_visit_54 : decode cX10_visit 54 = .ok (.iaload, 1) := by decide +kernel
theorem dX10_visit_55 : decode cX10_visit 55 = .ok (.ifCond .ne 20, 3) := by decide +kernel
theorem dX10_visit_58 : decode cX10_visit 58 = .ok (.iload 6, 2) := by decide +kernel
theorem dX10_visit_60 : decode cX10_visit 60 = .ok (.iload 4, 2) := by decide +kernel
theorem dX10_visit_62 : decode cX10_visit 62 = .ok (.if_icmp .lt 6, 3) := by decide +kernel
theorem dX10_visit_65 : decode cX10_visit 65 = .ok (.goto 10, 3) := by decide +kernel
theorem dX10_visit_68 : decode cX10_visit 68 = .ok (.iload 5, 2) := by decide +kernel
theorem dX10_visit_70 : decode cX10_visit 70 = .ok (.istore_n 3, 1) := by decide +kernel
theorem dX10_visit_71 : decode cX10_visit 71 = .ok (.iload 6, 2) := by decide +kernel
theorem dX10_visit_73 : decode cX10_visit 73 = .ok (.istore 4, 2) := by decide +kernel
theorem dX10_visit_75 : decode cX10_visit 75 = .ok (.iinc 5 1, 3) := by decide +kernel
theorem dX10_visit_78 : decode cX10_visit 78 = .ok (.goto (-70), 3) := by decide +kernel
theorem dX10_visit_81 : decode cX10_visit 81 = .ok (.iload_n 3, 1) := by decide +kernel
theorem dX10_visit_82 : decode cX10_visit 82 = .ok (.iconst (-1), 1) := by decide +kernel
theorem dX10_visit_83 : decode cX10_visit 83 = .ok (.if_icmp .ne 11, 3) := by decide +kernel
theorem dX10_visit_86 : decode cX10_visit 86 = .ok (.aload_n 0, 1) := by decide +kernel
theorem dX10_visit_87 : decode cX10_visit 87 = .ok (.getfield 112, 3) := by decide +kernel
theorem dX10_visit_90 : decode cX10_visit 90 = .ok (.iload_n 2, 1) := by decide +kernel
theorem dX10_visit_91 : decode cX10_visit 91 = .ok (.iconst 3, 1) := by decide +kernel
theorem dX10_visit_92 : decode cX10_visit 92 = .ok (.iastore, 1) := by decide +kernel
theorem dX10_visit_93 : decode cX10_visit 93 = .ok (.return_, 1) := by decide +kernel
theorem dX10_visit_94 : decode cX10_visit 94 = .ok (.aload_n 0, 1) := by decide +kernel
theorem dX10_visit_95 : decode cX10_visit 95 = .ok (.getfield 58, 3) := by decide +kernel
theorem dX10_visit_98 : decode cX10_visit 98 = .ok (.iload_n 3, 1) := by decide +kernel
theorem dX10_visit_99 : decode cX10_visit 99 = .ok (.iaload, 1) := by decide +kernel
theorem dX10_visit_100 : decode cX10_visit 100 = .ok (.aload_n 0, 1) := by decide +kernel
theorem dX10_visit_101 : decode cX10_visit 101 = .ok (.getfield 85, 3) := by decide +kernel
theorem dX10_visit_104 : decode cX10_visit 104 = .ok (.iload_n 1, 1) := by decide +kernel
theorem dX10_visit_105 : decode cX10_visit 105 = .ok (.iaload, 1) := by decide +kernel
theorem dX10_visit_106 : decode cX10_visit 106 = .ok (.if_icmp .le 38, 3) := by decide +kernel
theorem dX10_visit_109 : decode cX10_visit 109 = .ok (.aload_n 0, 1) := by decide +kernel
theorem dX10_visit_110 : decode cX10_visit 110 = .ok (.getfield 112, 3) := by decide +kernel
theorem dX10_visit_113 : decode cX10_visit 113 = .ok (.iload_n 2, 1) := by decide +kernel
theorem dX10_visit_114 : decode cX10_visit 114 = .ok (.iconst 0, 1) := by decide +kernel
theorem dX10_visit_115 : decode cX10_visit 115 = .ok (.iastore, 1) := by decide +kernel
theorem dX10_visit_116 : decode cX10_visit 116 = .ok (.aload_n 0, 1) := by decide +kernel
theorem dX10_visit_117 : decode cX10_visit 117 = .ok (.getfield 125, 3) := by decide +kernel
theorem dX10_visit_120 : decode cX10_visit 120 = .ok (.iload_n 2, 1) := by decide +kernel
theorem dX10_visit_121 : decode cX10_visit 121 = .ok (.iaload, 1) := by decide +kernel
theorem dX10_visit_122 : decode cX10_visit 122 = .ok (.aload_n 0, 1) := by decide +kernel
theorem dX10_visit_123 : decode cX10_visit 123 = .ok (.getfield 58, 3) := by decide +kernel
theorem dX10_visit_126 : decode cX10_visit 126 = .ok (.iload_n 3, 1) := by decide +kernel
theorem dX10_visit_127 : decode cX10_visit 127 = .ok (.iaload, 1) := by decide +kernel
theorem dX10_visit_128 : decode cX10_visit 128 = .ok (.if_icmp .ge 15, 3) := by decide +kernel
theorem dX10_visit_131 : decode cX10_visit 131 = .ok (.aload_n 0, 1) := by decide +kernel
theorem dX10_visit_132 : decode cX10_visit 132 = .ok (.getfield 125, 3) := by decide +kernel
theorem dX10_visit_135 : decode cX10_visit 135 = .ok (.iload_n 2, 1) := by decide +kernel
theorem dX10_visit_136 : decode cX10_visit 136 = .ok (.aload_n 0, 1) := by decide +kernel
theorem dX10_visit_137 : decode cX10_visit 137 = .ok (.getfield 58, 3) := by decide +kernel
theorem dX10_visit_140 : decode cX10_visit 140 = .ok (.iload_n 3, 1) := by decide +kernel
theorem dX10_visit_141 : decode cX10_visit 141 = .ok (.iaload, 1) := by decide +kernel
theorem dX10_visit_142 : decode cX10_visit 142 = .ok (.iastore, 1) := by decide +kernel
theorem dX10_visit_143 : decode cX10_visit 143 = .ok (.return_, 1) := by decide +kernel
theorem dX10_visit_144 : decode cX10_visit 144 = .ok (.aload_n 0, 1) := by decide +kernel
theorem dX10_visit_145 : decode cX10_visit 145 = .ok (.getfield 43, 3) := by decide +kernel
theorem dX10_visit_148 : decode cX10_visit 148 = .ok (.iload_n 3, 1) := by decide +kernel
theorem dX10_visit_149 : decode cX10_visit 149 = .ok (.iconst 1, 1) := by decide +kernel
theorem dX10_visit_150 : decode cX10_visit 150 = .ok (.iastore, 1) := by decide +kernel
theorem dX10_visit_151 : decode cX10_visit 151 = .ok (.aload_n 0, 1) := by decide +kernel
theorem dX10_visit_152 : decode cX10_visit 152 = .ok (.getfield 67, 3) := by decide +kernel
theorem dX10_visit_155 : decode cX10_visit 155 = .ok (.iload_n 3, 1) := by decide +kernel
theorem dX10_visit_156 : decode cX10_visit 156 = .ok (.iload_n 1, 1) := by decide +kernel
theorem dX10_visit_157 : decode cX10_visit 157 = .ok (.iastore, 1) := by decide +kernel
theorem dX10_visit_158 : decode cX10_visit 158 = .ok (.aload_n 0, 1) := by decide +kernel
theorem dX10_visit_159 : decode cX10_visit 159 = .ok (.getfield 70, 3) := by decide +kernel
theorem dX10_visit_162 : decode cX10_visit 162 = .ok (.iload_n 3, 1) := by decide +kernel
theorem dX10_visit_163 : decode cX10_visit 163 = .ok (.aload_n 0, 1) := by decide +kernel
theorem dX10_visit_164 : decode cX10_visit 164 = .ok (.getfield 206, 3) := by decide +kernel
theorem dX10_visit_167 : decode cX10_visit 167 = .ok (.iastore, 1) := by decide +kernel
theorem dX10_visit_168 : decode cX10_visit 168 = .ok (.aload_n 0, 1) := by decide +kernel
theorem dX10_visit_169 : decode cX10_visit 169 = .ok (.getfield 73, 3) := by decide +kernel
theorem dX10_visit_172 : decode cX10_visit 172 = .ok (.iload_n 3, 1) := by decide +kernel
theorem dX10_visit_173 : decode cX10_visit 173 = .ok (.iload_n 2, 1) := by decide +kernel
theorem dX10_visit_174 : decode cX10_visit 174 = .ok (.iastore, 1) := by decide +kernel
theorem dX10_visit_175 : decode cX10_visit 175 = .ok (.aload_n 0, 1) := by decide +kernel
theorem dX10_visit_176 : decode cX10_visit 176 = .ok (.getfield 82, 3) := by decide +kernel
theorem dX10_visit_179 : decode cX10_visit 179 = .ok (.iload_n 1, 1) := by decide +kernel
theorem dX10_visit_180 : decode cX10_visit 180 = .ok (.dup2, 1) := by decide +kernel
theorem dX10_visit_181 : decode cX10_visit 181 = .ok (.iaload, 1) := by decide +kernel
theorem dX10_visit_182 : decode cX10_visit 182 = .ok (.iconst 1, 1) := by decide +kernel
theorem dX10_visit_183 : decode cX10_visit 183 = .ok (.isub, 1) := by decide +kernel
theorem dX10_visit_184 : decode cX10_visit 184 = .ok (.iastore, 1) := by decide +kernel
theorem dX10_visit_185 : decode cX10_visit 185 = .ok (.aload_n 0, 1) := by decide +kernel
theorem dX10_visit_186 : decode cX10_visit 186 = .ok (.getfield 109, 3) := by decide +kernel
theorem dX10_visit_189 : decode cX10_visit 189 = .ok (.iload_n 1, 1) := by decide +kernel
theorem dX10_visit_190 : decode cX10_visit 190 = .ok (.dup2, 1) := by decide +kernel
theorem dX10_visit_191 : decode cX10_visit 191 = .ok (.iaload, 1) := by decide +kernel
theorem dX10_visit_192 : decode cX10_visit 192 = .ok (.iconst 1, 1) := by decide +kernel
theorem dX10_visit_193 : decode cX10_visit 193 = .ok (.iadd, 1) := by decide +kernel
theorem dX10_visit_194 : decode cX10_visit 194 = .ok (.iastore, 1) := by decide +kernel
theorem dX10_visit_195 : decode cX10_visit 195 = .ok (.aload_n 0, 1) := by decide +kernel
theorem dX10_visit_196 : decode cX10_visit 196 = .ok (.getfield 112, 3) := by decide +kernel
theorem dX10_visit_199 : decode cX10_visit 199 = .ok (.iload_n 2, 1) := by decide +kernel
theorem dX10_visit_200 : decode cX10_visit 200 = .ok (.iconst 2, 1) := by decide +kernel
theorem dX10_visit_201 : decode cX10_visit 201 = .ok (.iastore, 1) := by decide +kernel
theorem dX10_visit_202 : decode cX10_visit 202 = .ok (.aload_n 0, 1) := by decide +kernel
theorem dX10_visit_203 : decode cX10_visit 203 = .ok (.getfield 143, 3) := by decide +kernel
theorem dX10_visit_206 : decode cX10_visit 206 = .ok (.iload_n 2, 1) := by decide +kernel
theorem dX10_visit_207 : decode cX10_visit 207 = .ok (.iload_n 3, 1) := by decide +kernel
theorem dX10_visit_208 : decode cX10_visit 208 = .ok (.iastore, 1) := by decide +kernel
theorem dX10_visit_209 : decode cX10_visit 209 = .ok (.return_, 1) := by decide +kernel
set_option maxRecDepth 20000 in
theorem ggX10_noon_X10_held : GoodIn wsX10_noon wsX10_held := goodIn_r _ [26] (by decide +kernel) (by decide +kernel)
set_option maxRecDepth 20000 in
theorem gX10_noon_X10_held : GoodIn wsX10_noon (va_wsS RX10 235 yX10_held wsX10_held) := goodIn_app (goodIn_of _ (by decide +kernel)) ggX10_noon_X10_held
theorem dX10_noon_0 : decode cX10_noon 0 = .ok (.aload_n 0, 1) := by decide +kernel
theorem dX10_noon_1 : decode cX10_noon 1 = .ok (.getfield 28, 3) := by decide +kernel
theorem dX10_noon_4 : decode cX10_noon 4 = .ok (.iload_n 1, 1) := by decide +kernel
theorem dX10_noon_5 : decode cX10_noon 5 = .ok (.iaload, 1) := by decide +kernel
theorem dX10_noon_6 : decode cX10_noon 6 = .ok (.aload_n 0, 1) := by decide +kernel
theorem dX10_noon_7 : decode cX10_noon 7 = .ok (.getfield 28, 3) := by decide +kernel
theorem dX10_noon_10 : decode cX10_noon 10 = .ok (.iload_n 1, 1) := by decide +kernel
theorem dX10_noon_11 : decode cX10_noon 11 = .ok (.iaload, 1) := by decide +kernel
theorem dX10_noon_12 : decode cX10_noon 12 = .ok (.aload_n 0, 1) := by decide +kernel
theorem dX10_noon_13 : decode cX10_noon 13 = .ok (.getfield 13, 3) := by decide +kernel
theorem dX10_noon_16 : decode cX10_noon 16 = .ok (.iload_n 2, 1) := by decide +kernel
theorem dX10_noon_17 : decode cX10_noon 17 = .ok (.iaload, 1) := by decide +kernel
theorem dX10_noon_18 : decode cX10_noon 18 = .ok (.imul, 1) := by decide +kernel
theorem dX10_noon_19 : decode cX10_noon 19 = .ok (.sipush 1000, 3) := by decide +kernel
theorem dX10_noon_22 : decode cX10_noon 22 = .ok (.idiv, 1) := by decide +kernel
theorem dX10_noon_23 : decode cX10_noon 23 = .ok (.iadd, 1) := by decide +kernel
theorem dX10_noon_24 : decode cX10_noon 24 = .ok (.istore_n 3, 1) := by decide +kernel
theorem dX10_noon_25 : decode cX10_noon 25 = .ok (.aload_n 0, 1) := by decide +kernel
theorem dX10_noon_26 : decode cX10_noon 26 = .ok (.getfield 28, 3) := by decide +kernel
theorem dX10_noon_29 : decode cX10_noon 29 = .ok (.iload_n 1, 1) := by decide +kernel
theorem dX10_noon_30 : decode cX10_noon 30 = .ok (.iload_n 3, 1) := by decide +kernel
theorem dX10_noon_31 : decode cX10_noon 31 = .ok (.ldc 209, 2) := by decide +kernel
theorem dX10_noon_33 : decode cX10_noon 33 = .ok (.if_icmp .le 8, 3) := by decide +kernel
theorem dX10_noon_36 : decode cX10_noon 36 = .ok (.ldc 209, 2) := by decide +kernel
theorem dX10_noon_38 : decode cX10_noon 38 = .ok (.goto 4, 3) := by decide +kernel
theorem dX10_noon_41 : decode cX10_noon 41 = .ok (.iload_n 3, 1) := by decide +kernel
theorem dX10_noon_42 : decode cX10_noon 42 = .ok (.iastore, 1) := by decide +kernel
theorem dX10_noon_43 : decode cX10_noon 43 = .ok (.aload_n 0, 1) := by decide +kernel
theorem dX10_noon_44 : decode cX10_noon 44 = .ok (.getfield 37, 3) := by decide +kernel
theorem dX10_noon_47 : decode cX10_noon 47 = .ok (.iload_n 1, 1) := by decide +kernel
theorem dX10_noon_48 : decode cX10_noon 48 = .ok (.aload_n 0, 1) := by decide +kernel
theorem dX10_noon_49 : decode cX10_noon 49 = .ok (.getfield 7, 3) := by decide +kernel
theorem dX10_noon_52 : decode cX10_noon 52 = .ok (.iload_n 2, 1) := by decide +kernel
theorem dX10_noon_53 : decode cX10_noon 53 = .ok (.iaload, 1) := by decide +kernel
theorem dX10_noon_54 : decode cX10_noon 54 = .ok (.bipush 18, 2) := by decide +kernel
theorem dX10_noon_56 : decode cX10_noon 56 = .ok (.if_icmp .lt 14, 3) := by decide +kernel
theorem dX10_noon_59 : decode cX10_noon 59 = .ok (.aload_n 0, 1) := by decide +kernel
theorem dX10_noon_60 : decode cX10_noon 60 = .ok (.getfield 37, 3) := by decide +kernel
theorem dX10_noon_63 : decode cX10_noon 63 = .ok (.iload_n 1, 1) := by decide +kernel
theorem dX10_noon_64 : decode cX10_noon 64 = .ok (.iaload, 1) := by decide +kernel
theorem dX10_noon_65 : decode cX10_noon 65 = .ok (.iconst 1, 1) := by decide +kernel
theorem dX10_noon_66 : decode cX10_noon 66 = .ok (.iadd, 1) := by decide +kernel
theorem dX10_noon_67 : decode cX10_noon 67 = .ok (.goto 4, 3) := by decide +kernel
theorem dX10_noon_70 : decode cX10_noon 70 = .ok (.iconst 0, 1) := by decide +kernel
theorem dX10_noon_71 : decode cX10_noon 71 = .ok (.iastore, 1) := by decide +kernel
theorem dX10_noon_72 : decode cX10_noon 72 = .ok (.aload_n 0, 1) := by decide +kernel
theorem dX10_noon_73 : decode cX10_noon 73 = .ok (.getfield 28, 3) := by decide +kernel
theorem dX10_noon_76 : decode cX10_noon 76 = .ok (.iload_n 1, 1) := by decide +kernel
theorem dX10_noon_77 : decode cX10_noon 77 = .ok (.iaload, 1) := by decide +kernel
theorem dX10_noon_78 : decode cX10_noon 78 = .ok (.istore 4, 2) := by decide +kernel
theorem dX10_noon_80 : decode cX10_noon 80 = .ok (.iload 4, 2) := by decide +kernel
theorem dX10_noon_82 : decode cX10_noon 82 = .ok (.aload_n 0, 1) := by decide +kernel
theorem dX10_noon_83 : decode cX10_noon 83 = .ok (.getfield 31, 3) := by decide +kernel
theorem dX10_noon_86 : decode cX10_noon 86 = .ok (.iload_n 1, 1) := by decide +kernel
theorem dX10_noon_87 : decode cX10_noon 87 = .ok (.iaload, 1) := by decide +kernel
theorem dX10_noon_88 : decode cX10_noon 88 = .ok (.if_icmp .le 22, 3) := by decide +kernel
theorem dX10_noon_91 : decode cX10_noon 91 = .ok (.aload_n 0, 1) := by decide +kernel
theorem dX10_noon_92 : decode cX10_noon 92 = .ok (.getfield 37, 3) := by decide +kernel
theorem dX10_noon_95 : decode cX10_noon 95 = .ok (.iload_n 1, 1) := by decide +kernel
theorem dX10_noon_96 : decode cX10_noon 96 = .ok (.iaload, 1) := by decide +kernel
theorem dX10_noon_97 : decode cX10_noon 97 = .ok (.iconst 3, 1) := by decide +kernel
theorem dX10_noon_98 : decode cX10_noon 98 = .ok (.if_icmp .lt 12, 3) := by decide +kernel
theorem dX10_noon_101 : decode cX10_noon 101 = .ok (.aload_n 0, 1) := by decide +kernel
theorem dX10_noon_102 : decode cX10_noon 102 = .ok (.getfield 186, 3) := by decide +kernel
theorem dX10_noon_105 : decode cX10_noon 105 = .ok (.bipush 60, 2) := by decide +kernel
theorem dX10_noon_107 : decode cX10_noon 107 = .ok (.if_icmp .ne 4, 3) := by decide +kernel
theorem dX10_noon_110 : decode cX10_noon 110 = .ok (.return_, 1) := by decide +kernel
theorem dX10_noon_111 : decode cX10_noon 111 = .ok (.aload_n 0, 1) := by decide +kernel
theorem dX10_noon_112 : decode cX10_noon 112 = .ok (.getfield 186, 3) := by decide +kernel
theorem dX10_noon_115 : decode cX10_noon 115 = .ok (.istore 5, 2) := by decide +kernel
theorem dX10_noon_117 : decode cX10_noon 117 = .ok (.aload_n 0, 1) := by decide +kernel
theorem dX10_noon_118 : decode cX10_noon 118 = .ok (.dup, 1) := by decide +kernel
theorem dX10_noon_119 : decode cX10_noon 119 = .ok (.getfield 186, 3) := by decide +kernel
theorem dX10_noon_122 : decode cX10_noon 122 = .ok (.iconst 1, 1) := by decide +kernel
theorem dX10_noon_123 : decode cX10_noon 123 = .ok (.iadd, 1) := by decide +kernel
theorem dX10_noon_124 : decode cX10_noon 124 = .ok (.putfield 186, 3) := by decide +kernel
theorem dX10_noon_127 : decode cX10_noon 127 = .ok (.aload_n 0, 1) := by decide +kernel
theorem dX10_noon_128 : decode cX10_noon 128 = .ok (.getfield 43, 3) := by decide +kernel
theorem dX10_noon_131 : decode cX10_noon 131 = .ok (.iload 5, 2) := by decide +kernel
theorem dX10_noon_133 : decode cX10_noon 133 = .ok (.iconst 0, 1) := by decide +kernel
theorem dX10_noon_134 : decode cX10_noon 134 = .ok (.iastore, 1) := by decide +kernel
theorem dX10_noon_135 : decode cX10_noon 135 = .ok (.aload_n 0, 1) := by decide +kernel
theorem dX10_noon_136 : decode cX10_noon 136 = .ok (.getfield 46, 3) := by decide +kernel
theorem dX10_noon_139 : decode cX10_noon 139 = .ok (.iload 5, 2) := by decide +kernel
theorem dX10_noon_141 : decode cX10_noon 141 = .ok (.iload_n 1, 1) := by decide +kernel
theorem dX10_noon_142 : decode cX10_noon 142 = .ok (.iastore, 1) := by decide +kernel
theorem dX10_noon_143 : decode cX10_noon 143 = .ok (.aload_n 0, 1) := by decide +kernel
theorem dX10_noon_144 : decode cX10_noon 144 = .ok (.getfield 49, 3) := by decide +kernel
theorem dX10_noon_147 : decode cX10_noon 147 = .ok (.iload 5, 2) := by decide +kernel
theorem dX10_noon_149 : decode cX10_noon 149 = .ok (.iload 4, 2) := by decide +kernel
theorem dX10_noon_151 : decode cX10_noon 151 = .ok (.iconst 2, 1) := by decide +kernel
theorem dX10_noon_152 : decode cX10_noon 152 = .ok (.idiv, 1) := by decide +kernel
theorem dX10_noon_153 : decode cX10_noon 153 = .ok (.iastore, 1) := by decide +kernel
theorem dX10_noon_154 : decode cX10_noon 154 = .ok (.aload_n 0, 1) := by decide +kernel
theorem dX10_noon_155 : decode cX10_noon 155 = .ok (.getfield 52, 3) := by decide +kernel
theorem dX10_noon_158 : decode cX10_noon 158 = .ok (.iload 5, 2) := by decide +kernel
theorem dX10_noon_160 : decode cX10_noon 160 = .ok (.aload_n 0, 1) := by decide +kernel
theorem dX10_noon_161 : decode cX10_noon 161 = .ok (.getfield 22, 3) := by decide +kernel
theorem dX10_noon_164 : decode cX10_noon 164 = .ok (.iload_n 1, 1) := by decide +kernel
theorem dX10_noon_165 : decode cX10_noon 165 = .ok (.iaload, 1) := by decide +kernel
theorem dX10_noon_166 : decode cX10_noon 166 = .ok (.iload 4, 2) := by decide +kernel
theorem dX10_noon_168 : decode cX10_noon 168 = .ok (.sipush 1000, 3) := by decide +kernel
theorem dX10_noon_171 : decode cX10_noon 171 = .ok (.idiv, 1) := by decide +kernel
theorem dX10_noon_172 : decode cX10_noon 172 = .ok (.iload_n 2, 1) := by decide +kernel
theorem dX10_noon_173 : decode cX10_noon 173 = .ok (.iadd, 1) := by decide +kernel
theorem dX10_noon_174 : decode cX10_noon 174 = .ok (.bipush 7, 2) := by decide +kernel
theorem dX10_noon_176 : decode cX10_noon 176 = .ok (.irem, 1) := by decide +kernel
theorem dX10_noon_177 : decode cX10_noon 177 = .ok (.iadd, 1) := by decide +kernel
theorem dX10_noon_178 : decode cX10_noon 178 = .ok (.iconst 3, 1) := by decide +kernel
theorem dX10_noon_179 : decode cX10_noon 179 = .ok (.isub, 1) := by decide +kernel
theorem dX10_noon_180 : decode cX10_noon 180 = .ok (.invokestatic 235, 3) := by decide +kernel
theorem dX10_noon_183 : decode cX10_noon 183 = .ok (.iastore, 1) := by decide +kernel
theorem dX10_noon_184 : decode cX10_noon 184 = .ok (.aload_n 0, 1) := by decide +kernel
theorem dX10_noon_185 : decode cX10_noon 185 = .ok (.getfield 55, 3) := by decide +kernel
theorem dX10_noon_188 : decode cX10_noon 188 = .ok (.iload 5, 2) := by decide +kernel
theorem dX10_noon_190 : decode cX10_noon 190 = .ok (.aload_n 0, 1) := by decide +kernel
theorem dX10_noon_191 : decode cX10_noon 191 = .ok (.getfield 25, 3) := by decide +kernel
theorem dX10_noon_194 : decode cX10_noon 194 = .ok (.iload_n 1, 1) := by decide +kernel
theorem dX10_noon_195 : decode cX10_noon 195 = .ok (.iaload, 1) := by decide +kernel
theorem dX10_noon_196 : decode cX10_noon 196 = .ok (.iload 4, 2) := by decide +kernel
theorem dX10_noon_198 : decode cX10_noon 198 = .ok (.bipush 100, 2) := by decide +kernel
theorem dX10_noon_200 : decode cX10_noon 200 = .ok (.idiv, 1) := by decide +kernel
theorem dX10_noon_201 : decode cX10_noon 201 = .ok (.iload_n 2, 1) := by decide +kernel
theorem dX10_noon_202 : decode cX10_noon 202 = .ok (.iadd, 1) := by decide +kernel
theorem dX10_noon_203 : decode cX10_noon 203 = .ok (.bipush 7, 2) := by decide +kernel
theorem dX10_noon_205 : decode cX10_noon 205 = .ok (.irem, 1) := by decide +kernel
theorem dX10_noon_206 : decode cX10_noon 206 = .ok (.iadd, 1) := by decide +kernel
theorem dX10_noon_207 : decode cX10_noon 207 = .ok (.iconst 3, 1) := by decide +kernel
theorem dX10_noon_208 : decode cX10_noon 208 = .ok (.isub, 1) := by decide +kernel
theorem dX10_noon_209 : decode cX10_noon 209 = .ok (.invokestatic 235, 3) := by decide +kernel
theorem dX10_noon_212 : decode cX10_noon 212 = .ok (.iastore, 1) := by decide +kernel
theorem dX10_noon_213 : decode cX10_noon 213 = .ok (.aload_n 0, 1) := by decide +kernel
theorem dX10_noon_214 : decode cX10_noon 214 = .ok (.getfield 58, 3) := by decide +kernel
theorem dX10_noon_217 : decode cX10_noon 217 = .ok (.iload 5, 2) := by decide +kernel
theorem dX10_noon_219 : decode cX10_noon 219 = .ok (.iload 4, 2) := by decide +kernel
theorem dX10_noon_221 : decode cX10_noon 221 = .ok (.bipush 10, 2) := by decide +kernel
theorem dX10_noon_223 : decode cX10_noon 223 = .ok (.idiv, 1) := by decide +kernel
theorem dX10_noon_224 : decode cX10_noon 224 = .ok (.bipush 9, 2) := by decide +kernel
theorem dX10_noon_226 : decode cX10_noon 226 = .ok (.irem, 1) := by decide +kernel
theorem dX10_noon_227 : decode cX10_noon 227 = .ok (.iconst 1, 1) := by decide +kernel
theorem dX10_noon_228 : decode cX10_noon 228 = .ok (.iadd, 1) := by decide +kernel
theorem dX10_noon_229 : decode cX10_noon 229 = .ok (.iastore, 1) := by decide +kernel
theorem dX10_noon_230 : decode cX10_noon 230 = .ok (.aload_n 0, 1) := by decide +kernel
theorem dX10_noon_231 : decode cX10_noon 231 = .ok (.getfield 61, 3) := by decide +kernel
theorem dX10_noon_234 : decode cX10_noon 234 = .ok (.iload 5, 2) := by decide +kernel
theorem dX10_noon_236 : decode cX10_noon 236 = .ok (.aload_n 0, 1) := by decide +kernel
theorem dX10_noon_237 : decode cX10_noon 237 = .ok (.getfield 206, 3) := by decide +kernel
theorem dX10_noon_240 : decode cX10_noon 240 = .ok (.iastore, 1) := by decide +kernel
theorem dX10_noon_241 : decode cX10_noon 241 = .ok (.aload_n 0, 1) := by decide +kernel
theorem dX10_noon_242 : decode cX10_noon 242 = .ok (.getfield 64, 3) := by decide +kernel
theorem dX10_noon_245 : decode cX10_noon 245 = .ok (.iload 5, 2) := by decide +kernel
theorem dX10_noon_247 : decode cX10_noon 247 = .ok (.bipush 60, 2) := by decide +kernel
theorem dX10_noon_249 : decode cX10_noon 249 = .ok (.iastore, 1) := by decide +kernel
theorem dX10_noon_250 : decode cX10_noon 250 = .ok (.aload_n 0, 1) := by decide +kernel
theorem dX10_noon_251 : decode cX10_noon 251 = .ok (.getfield 67, 3) := by decide +kernel
theorem dX10_noon_254 : decode cX10_noon 254 = .ok (.iload 5, 2) := by decide +kernel
theorem dX10_noon_256 : decode cX10_noon 256 = .ok (.iconst (-1), 1) := by decide +kernel
theorem dX10_noon_257 : decode cX10_noon 257 = .ok (.iastore, 1) := by decide +kernel
theorem dX10_noon_258 : decode cX10_noon 258 = .ok (.aload_n 0, 1) := by decide +kernel
theorem dX10_noon_259 : decode cX10_noon 259 = .ok (.getfield 70, 3) := by decide +kernel
theorem dX10_noon_262 : decode cX10_noon 262 = .ok (.iload 5, 2) := by decide +kernel
theorem dX10_noon_264 : decode cX10_noon 264 = .ok (.iconst (-1), 1) := by decide +kernel
theorem dX10_noon_265 : decode cX10_noon 265 = .ok (.iastore, 1) := by decide +kernel
theorem dX10_noon_266 : decode cX10_noon 266 = .ok (.aload_n 0, 1) := by decide +kernel
theorem dX10_noon_267 : decode cX10_noon 267 = .ok (.getfield 73, 3) := by decide +kernel
theorem dX10_noon_270 : decode cX10_noon 270 = .ok (.iload 5, 2) := by decide +kernel
theorem dX10_noon_272 : decode cX10_noon 272 = .ok (.iconst (-1), 1) := by decide +kernel
theorem dX10_noon_273 : decode cX10_noon 273 = .ok (.iastore, 1) := by decide +kernel
theorem dX10_noon_274 : decode cX10_noon 274 = .ok (.aload_n 0, 1) := by decide +kernel
theorem dX10_noon_275 : decode cX10_noon 275 = .ok (.getfield 28, 3) := by decide +kernel
theorem dX10_noon_278 : decode cX10_noon 278 = .ok (.iload_n 1, 1) := by decide +kernel
theorem dX10_noon_279 : decode cX10_noon 279 = .ok (.iload 4, 2) := by decide +kernel
theorem dX10_noon_281 : decode cX10_noon 281 = .ok (.iload 4, 2) := by decide +kernel
theorem dX10_noon_283 : decode cX10_noon 283 = .ok (.iconst 2, 1) := by decide +kernel
theorem dX10_noon_284 : decode cX10_noon 284 = .ok (.idiv, 1) := by decide +kernel
theorem dX10_noon_285 : decode cX10_noon 285 = .ok (.isub, 1) := by decide +kernel
theorem dX10_noon_286 : decode cX10_noon 286 = .ok (.iastore, 1) := by decide +kernel
theorem dX10_noon_287 : decode cX10_noon 287 = .ok (.aload_n 0, 1) := by decide +kernel
theorem dX10_noon_288 : decode cX10_noon 288 = .ok (.getfield 37, 3) := by decide +kernel
theorem dX10_noon_291 : decode cX10_noon 291 = .ok (.iload_n 1, 1) := by decide +kernel
theorem dX10_noon_292 : decode cX10_noon 292 = .ok (.iconst 0, 1) := by decide +kernel
theorem dX10_noon_293 : decode cX10_noon 293 = .ok (.iastore, 1) := by decide +kernel
theorem dX10_noon_294 : decode cX10_noon 294 = .ok (.aload_n 0, 1) := by decide +kernel
theorem dX10_noon_295 : decode cX10_noon 295 = .ok (.getfield 40, 3) := by decide +kernel
theorem dX10_noon_298 : decode cX10_noon 298 = .ok (.iload_n 1, 1) := by decide +kernel
theorem dX10_noon_299 : decode cX10_noon 299 = .ok (.aload_n 0, 1) := by decide +kernel
theorem dX10_noon_300 : decode cX10_noon 300 = .ok (.getfield 206, 3) := by decide +kernel
theorem dX10_noon_303 : decode cX10_noon 303 = .ok (.iastore, 1) := by decide +kernel
theorem dX10_noon_304 : decode cX10_noon 304 = .ok (.return_, 1) := by decide +kernel
theorem dX10_wrong_0 : decode cX10_wrong 0 = .ok (.aload_n 0, 1) := by decide +kernel
theorem dX10_wrong_1 : decode cX10_wrong 1 = .ok (.iload_n 1, 1) := by decide +kernel
theorem dX10_wrong_2 : decode cX10_wrong 2 = .ok (.putfield 164, 3) := by decide +kernel
theorem dX10_wrong_5 : decode cX10_wrong 5 = .ok (.iconst 0, 1) := by decide +kernel
theorem dX10_wrong_6 : decode cX10_wrong 6 = .ok (.ireturn, 1) := by decide +kernel
theorem dX10_sign_0 : decode cX10_sign 0 = .ok (.aload_n 0, 1) := by decide +kernel
theorem dX10_sign_1 : decode cX10_sign 1 = .ok (.getfield 238, 3) := by decide +kernel
theorem dX10_sign_4 : decode cX10_sign 4 = .ok (.aload_n 0, 1) := by decide +kernel
theorem dX10_sign_5 : decode cX10_sign 5 = .ok (.getfield 241, 3) := by decide +kernel
theorem dX10_sign_8 : decode cX10_sign 8 = .ok (.if_icmp .ge 30, 3) := by decide +kernel
theorem dX10_sign_11 : decode cX10_sign 11 = .ok (.aload_n 0, 1) := by decide +kernel
theorem dX10_sign_12 : decode cX10_sign 12 = .ok (.getfield 161, 3) := by decide +kernel
theorem dX10_sign_15 : decode cX10_sign 15 = .ok (.aload_n 0, 1) := by decide +kernel
theorem dX10_sign_16 : decode cX10_sign 16 = .ok (.getfield 238, 3) := by decide +kernel
theorem dX10_sign_19 : decode cX10_sign 19 = .ok (.iaload, 1) := by decide +kernel
theorem dX10_sign_20 : decode cX10_sign 20 = .ok (.bipush 32, 2) := by decide +kernel
theorem dX10_sign_22 : decode cX10_sign 22 = .ok (.if_icmp .ne 16, 3) := by decide +kernel
theorem dX10_sign_25 : decode cX10_sign 25 = .ok (.aload_n 0, 1) := by decide +kernel
theorem dX10_sign_26 : decode cX10_sign 26 = .ok (.dup, 1) := by decide +kernel
theorem dX10_sign_27 : decode cX10_sign 27 = .ok (.getfield 238, 3) := by decide +kernel
theorem dX10_sign_30 : decode cX10_sign 30 = .ok (.iconst 1, 1) := by decide +kernel
theorem dX10_sign_31 : decode cX10_sign 31 = .ok (.iadd, 1) := by decide +kernel
theorem dX10_sign_32 : decode cX10_sign 32 = .ok (.putfield 238, 3) := by decide +kernel
theorem dX10_sign_35 : decode cX10_sign 35 = .ok (.goto (-35), 3) := by decide +kernel
theorem dX10_sign_38 : decode cX10_sign 38 = .ok (.aload_n 0, 1) := by decide +kernel
theorem dX10_sign_39 : decode cX10_sign 39 = .ok (.getfield 238, 3) := by decide +kernel
theorem dX10_sign_42 : decode cX10_sign 42 = .ok (.aload_n 0, 1) := by decide +kernel
theorem dX10_sign_43 : decode cX10_sign 43 = .ok (.getfield 241, 3) := by decide +kernel
theorem dX10_sign_46 : decode cX10_sign 46 = .ok (.if_icmp .ge 15, 3) := by decide +kernel
theorem dX10_sign_49 : decode cX10_sign 49 = .ok (.aload_n 0, 1) := by decide +kernel
theorem dX10_sign_50 : decode cX10_sign 50 = .ok (.getfield 161, 3) := by decide +kernel
theorem dX10_sign_53 : decode cX10_sign 53 = .ok (.aload_n 0, 1) := by decide +kernel
theorem dX10_sign_54 : decode cX10_sign 54 = .ok (.getfield 238, 3) := by decide +kernel
theorem dX10_sign_57 : decode cX10_sign 57 = .ok (.iaload, 1) := by decide +kernel
theorem dX10_sign_58 : decode cX10_sign 58 = .ok (.goto 4, 3) := by decide +kernel
theorem dX10_sign_61 : decode cX10_sign 61 = .ok (.iconst (-1), 1) := by decide +kernel
theorem dX10_sign_62 : decode cX10_sign 62 = .ok (.ireturn, 1) := by decide +kernel
theorem dX10_isLetter_0 : decode cX10_isLetter 0 = .ok (.iload_n 0, 1) := by decide +kernel
theorem dX10_isLetter_1 : decode cX10_isLetter 1 = .ok (.bipush 97, 2) := by decide +kernel
theorem dX10_isLetter_3 : decode cX10_isLetter 3 = .ok (.if_icmp .lt 13, 3) := by decide +kernel
theorem dX10_isLetter_6 : decode cX10_isLetter 6 = .ok (.iload_n 0, 1) := by decide +kernel
theorem dX10_isLetter_7 : decode cX10_isLetter 7 = .ok (.bipush 122, 2) := by decide +kernel
theorem dX10_isLetter_9 : decode cX10_isLetter 9 = .ok (.if_icmp .gt 7, 3) := by decide +kernel
theorem dX10_isLetter_12 : decode cX10_isLetter 12 = .ok (.iconst 1, 1) := by decide +kernel
theorem dX10_isLetter_13 : decode cX10_isLetter 13 = .ok (.goto 4, 3) := by decide +kernel
theorem dX10_isLetter_16 : decode cX10_isLetter 16 = .ok (.iconst 0, 1) := by decide +kernel
theorem dX10_isLetter_17 : decode cX10_isLetter 17 = .ok (.ireturn, 1) := by decide +kernel
theorem dX10_isDigit_0 : decode cX10_isDigit 0 = .ok (.iload_n 0, 1) := by decide +kernel
theorem dX10_isDigit_1 : decode cX10_isDigit 1 = .ok (.bipush 48, 2) := by decide +kernel
theorem dX10_isDigit_3 : decode cX10_isDigit 3 = .ok (.if_icmp .lt 13, 3) := by decide +kernel
theorem dX10_isDigit_6 : decode cX10_isDigit 6 = .ok (.iload_n 0, 1) := by decide +kernel
theorem dX10_isDigit_7 : decode cX10_isDigit 7 = .ok (.bipush 57, 2) := by decide +kernel
theorem dX10_isDigit_9 : decode cX10_isDigit 9 = .ok (.if_icmp .gt 7, 3) := by decide +kernel
theorem dX10_isDigit_12 : decode cX10_isDigit 12 = .ok (.iconst 1, 1) := by decide +kernel
theorem dX10_isDigit_13 : decode cX10_isDigit 13 = .ok (.goto 4, 3) := by decide +kernel
theorem dX10_isDigit_16 : decode cX10_isDigit 16 = .ok (.iconst 0, 1) := by decide +kernel
theorem dX10_isDigit_17 : decode cX10_isDigit 17 = .ok (.ireturn, 1) := by decide +kernel
set_option maxRecDepth 20000 in
theorem ggX10_wordEnd_X10_isLetter : GoodIn wsX10_wordEnd wsX10_isLetter := goodIn_r _ [7] (by decide +kernel) (by decide +kernel)
set_option maxRecDepth 20000 in
theorem gX10_wordEnd_X10_isLetter : GoodIn wsX10_wordEnd (va_wsS RX10 244 yX10_isLetter wsX10_isLetter) := goodIn_app (goodIn_of _ (by decide +kernel)) ggX10_wordEnd_X10_isLetter
theorem dX10_wordEnd_0 : decode cX10_wordEnd 0 = .ok (.aload_n 0, 1) := by decide +kernel
theorem dX10_wordEnd_1 : decode cX10_wordEnd 1 = .ok (.getfield 238, 3) := by decide +kernel
theorem dX10_wordEnd_4 : decode cX10_wordEnd 4 = .ok (.istore_n 1, 1) := by decide +kernel
theorem dX10_wordEnd_5 : decode cX10_wordEnd 5 = .ok (.iload_n 1, 1) := by decide +kernel
theorem dX10_wordEnd_6 : decode cX10_wordEnd 6 = .ok (.aload_n 0, 1) := by decide +kernel
theorem dX10_wordEnd_7 : decode cX10_wordEnd 7 = .ok (.getfield 241, 3) := by decide +kernel
theorem dX10_wordEnd_10 : decode cX10_wordEnd 10 = .ok (.if_icmp .ge 21, 3) := by decide +kernel
theorem dX10_wordEnd_13 : decode cX10_wordEnd 13 = .ok (.aload_n 0, 1) := by decide +kernel
theorem dX10_wordEnd_14 : decode cX10_wordEnd 14 = .ok (.getfield 161, 3) := by decide +kernel
theorem dX10_wordEnd_17 : decode cX10_wordEnd 17 = .ok (.iload_n 1, 1) := by decide +kernel
theorem dX10_wordEnd_18 : decode cX10_wordEnd 18 = .ok (.iaload, 1) := by decide +kernel
theorem dX10_wordEnd_19 : decode cX10_wordEnd 19 = .ok (.invokestatic 244, 3) := by decide +kernel
theorem dX10_wordEnd_22 : decode cX10_wordEnd 22 = .ok (.ifCond .eq 9, 3) := by decide +kernel
theorem dX10_wordEnd_25 : decode cX10_wordEnd 25 = .ok (.iinc 1 1, 3) := by decide +kernel
theorem dX10_wordEnd_28 : decode cX10_wordEnd 28 = .ok (.goto (-23), 3) := by decide +kernel
theorem dX10_wordEnd_31 : decode cX10_wordEnd 31 = .ok (.iload_n 1, 1) := by decide +kernel
theorem dX10_wordEnd_32 : decode cX10_wordEnd 32 = .ok (.ireturn, 1) := by decide +kernel
set_option maxRecDepth 20000 in
theorem ggX10_isWord_X10_sign : GoodIn wsX10_isWord wsX10_sign := goodIn_r _ [7, 1, 8, 2, 16, 17, 18, 19, 20, 21, 22, 23, 24, 25, 26, 27, 28, 29, 30, 31, 32, 33, 34, 35, 36, 37, 38, 39, 40, 41, 42, 43, 44, 45, 46, 47, 48, 49, 50, 51, 52, 53, 54, 55, 56, 57, 58, 59, 60, 61, 62, 63, 64, 65, 66, 67, 68, 69, 70, 71, 72, 73, 74, 75, 76, 77, 78, 79, 80, 81, 82, 83, 84] (by decide +kernel) (by decide +kernel)
set_option maxRecDepth 20000 in
theorem gX10_isWord_X10_sign : GoodIn wsX10_isWord (wsV RX10 247 RX10 yX10_sign wsX10_sign) := goodIn_app (goodIn_of _ (by decide +kernel)) ggX10_isWord_X10_sign
set_option maxRecDepth 20000 in
theorem ggX10_isWord_X10_wordEnd : GoodIn wsX10_isWord wsX10_wordEnd := goodIn_r _ [12, 1, 8, 2, 13, 14, 6, 15, 16, 17, 18, 19, 20, 21, 22, 23, 24, 25, 26, 27, 28, 29, 30, 31, 32, 33, 34, 35, 36, 37, 38, 39, 40, 41, 42, 43, 44, 45, 46, 47, 48, 49, 50, 51, 52, 53, 54, 55, 56, 57, 58, 59, 60, 61, 62, 63, 64, 65, 66, 67, 68, 69, 70, 71, 72, 73, 74, 75, 76, 77, 78, 79, 80, 81, 82, 83, 84] (by decide +kernel) (by decide +kernel)
set_option maxRecDepth 20000 in
theorem gX10_isWord_X10_wordEnd : GoodIn wsX10_isWord (wsV RX10 251 RX10 yX10_wordEnd wsX10_wordEnd) := goodIn_app (goodIn_of _ (by decide +kernel)) ggX10_isWord_X10_wordEnd
theorem dX10_isWord_0 : decode cX10_isWord 0 = .ok (.aload_n 0, 1) := by decide +kernel
theorem dX10_isWord_1 : decode cX10_isWord 1 = .ok (.invokevirtual 247, 3) := by decide +kernel
theorem dX10_isWord_4 : decode cX10_isWord 4 = .ok (.istore_n 3, 1) := by decide +kernel
theorem dX10_isWord_5 : decode cX10_isWord 5 = .ok (.aload_n 0, 1) := by decide +kernel
theorem dX10_isWord_6 : decode cX10_isWord 6 = .ok (.invokevirtual 251, 3) := by decide +kernel
theorem dX10_isWord_9 : decode cX10_isWord 9 = .ok (.istore 4, 2) := by decide +kernel
theorem dX10_isWord_11 : decode cX10_isWord 11 = .ok (.lconst 0, 1) := by decide +kernel
theorem dX10_isWord_12 : decode cX10_isWord 12 = .ok (.lstore 5, 2) := by decide +kernel
theorem dX10_isWord_14 : decode cX10_isWord 14 = .ok (.aload_n 0, 1) := by decide +kernel
theorem dX10_isWord_15 : decode cX10_isWord 15 = .ok (.getfield 238, 3) := by decide +kernel
theorem dX10_isWord_18 : decode cX10_isWord 18 = .ok (.istore 7, 2) := by decide +kernel
theorem dX10_isWord_20 : decode cX10_isWord 20 = .ok (.iload 7, 2) := by decide +kernel
theorem dX10_isWord_22 : decode cX10_isWord 22 = .ok (.iload 4, 2) := by decide +kernel
theorem dX10_isWord_24 : decode cX10_isWord 24 = .ok (.if_icmp .ge 37, 3) := by decide +kernel
theorem dX10_isWord_27 : decode cX10_isWord 27 = .ok (.iload 7, 2) := by decide +kernel
theorem dX10_isWord_29 : decode cX10_isWord 29 = .ok (.aload_n 0, 1) := by decide +kernel
theorem dX10_isWord_30 : decode cX10_isWord 30 = .ok (.getfield 238, 3) := by decide +kernel
theorem dX10_isWord_33 : decode cX10_isWord 33 = .ok (.bipush 7, 2) := by decide +kernel
theorem dX10_isWord_35 : decode cX10_isWord 35 = .ok (.iadd, 1) := by decide +kernel
theorem dX10_isWord_36 : decode cX10_isWord 36 = .ok (.if_icmp .ge 25, 3) := by decide +kernel
theorem dX10_isWord_39 : decode cX10_isWord 39 = .ok (.lload 5, 2) := by decide +kernel
theorem dX10_isWord_41 : decode cX10_isWord 41 = .ok (.bipush 8, 2) := by decide +kernel
theorem dX10_isWord_43 : decode cX10_isWord 43 = .ok (.lshl, 1) := by decide +kernel
theorem dX10_isWord_44 : decode cX10_isWord 44 = .ok (.aload_n 0, 1) := by decide +kernel
theorem dX10_isWord_45 : decode cX10_isWord 45 = .ok (.getfield 161, 3) := by decide +kernel
theorem dX10_isWord_48 : decode cX10_isWord 48 = .ok (.iload 7, 2) := by decide +kernel
theorem dX10_isWord_50 : decode cX10_isWord 50 = .ok (.iaload, 1) := by decide +kernel
theorem dX10_isWord_51 : decode cX10_isWord 51 = .ok (.i2l, 1) := by decide +kernel
theorem dX10_isWord_52 : decode cX10_isWord 52 = .ok (.lor, 1) := by decide +kernel
theorem dX10_isWord_53 : decode cX10_isWord 53 = .ok (.lstore 5, 2) := by decide +kernel
theorem dX10_isWord_55 : decode cX10_isWord 55 = .ok (.iinc 7 1, 3) := by decide +kernel
theorem dX10_isWord_58 : decode cX10_isWord 58 = .ok (.goto (-38), 3) := by decide +kernel
theorem dX10_isWord_61 : decode cX10_isWord 61 = .ok (.iload 4, 2) := by decide +kernel
theorem dX10_isWord_63 : decode cX10_isWord 63 = .ok (.aload_n 0, 1) := by decide +kernel
theorem dX10_isWord_64 : decode cX10_isWord 64 = .ok (.getfield 238, 3) := by decide +kernel
theorem dX10_isWord_67 : decode cX10_isWord 67 = .ok (.if_icmp .le 26, 3) := by decide +kernel
theorem dX10_isWord_70 : decode cX10_isWord 70 = .ok (.iload 4, 2) := by decide +kernel
theorem dX10_isWord_72 : decode cX10_isWord 72 = .ok (.aload_n 0, 1) := by decide +kernel
theorem dX10_isWord_73 : decode cX10_isWord 73 = .ok (.getfield 238, 3) := by decide +kernel
theorem dX10_isWord_76 : decode cX10_isWord 76 = .ok (.isub, 1) := by decide +kernel
theorem dX10_isWord_77 : decode cX10_isWord 77 = .ok (.bipush 7, 2) := by decide +kernel
theorem dX10_isWord_79 : decode cX10_isWord 79 = .ok (.if_icmp .ge 14, 3) := by decide +kernel
theorem dX10_isWord_82 : decode cX10_isWord 82 = .ok (.lload 5, 2) := by decide +kernel
theorem dX10_isWord_84 : decode cX10_isWord 84 = .ok (.lload_n 1, 1) := by decide +kernel
theorem dX10_isWord_85 : decode cX10_isWord 85 = .ok (.lcmp, 1) := by decide +kernel
theorem dX10_isWord_86 : decode cX10_isWord 86 = .ok (.ifCond .ne 7, 3) := by decide +kernel
theorem dX10_isWord_89 : decode cX10_isWord 89 = .ok (.iconst 1, 1) := by decide +kernel
theorem dX10_isWord_90 : decode cX10_isWord 90 = .ok (.goto 4, 3) := by decide +kernel
theorem dX10_isWord_93 : decode cX10_isWord 93 = .ok (.iconst 0, 1) := by decide +kernel
theorem dX10_isWord_94 : decode cX10_isWord 94 = .ok (.ireturn, 1) := by decide +kernel
set_option maxRecDepth 20000 in
theorem ggX10_number_X10_sign : GoodIn wsX10_number wsX10_sign := goodIn_r _ [9, 1, 2, 3, 18, 19, 20, 21, 22, 23, 24, 25, 26, 27, 28, 29, 30, 31, 32, 33, 34, 35, 36, 37, 38, 39, 40, 41, 42, 43, 44, 45, 46, 47, 48, 49, 50, 51, 52, 53, 54, 55, 56, 57, 58, 59, 60, 61, 62, 63, 64, 65, 66, 67, 68, 69, 70, 71, 72, 73, 74, 75, 76, 77, 78, 79, 80, 81, 82, 83, 84, 85, 86] (by decide +kernel) (by decide +kernel)
set_option maxRecDepth 20000 in
theorem gX10_number_X10_sign : GoodIn wsX10_number (wsV RX10 247 RX10 yX10_sign wsX10_sign) := goodIn_app (goodIn_of _ (by decide +kernel)) ggX10_number_X10_sign
set_option maxRecDepth 20000 in
theorem ggX10_number_X10_isDigit : GoodIn wsX10_number wsX10_isDigit := goodIn_r _ [12] (by decide +kernel) (by decide +kernel)
set_option maxRecDepth 20000 in
theorem gX10_number_X10_isDigit : GoodIn wsX10_number (va_wsS RX10 254 yX10_isDigit wsX10_isDigit) := goodIn_app (goodIn_of _ (by decide +kernel)) ggX10_number_X10_isDigit
set_option maxRecDepth 20000 in
theorem ggX10_number_X10_wrong : GoodIn wsX10_number wsX10_wrong := goodIn_r _ [16, 17, 18, 19, 20, 21, 22, 23, 24, 25, 26, 27, 28, 29, 30, 31, 32, 33, 34, 35, 36, 37, 38, 39, 40, 41, 42, 43, 44, 45, 46, 47, 48, 49, 50, 51, 52, 53, 54, 55, 56, 57, 58, 59, 60, 61, 62, 63, 64, 65, 66, 67, 68, 69, 70, 71, 72, 73, 74, 75, 76, 77, 78, 79, 80, 81, 82, 83, 84, 85, 86] (by decide +kernel) (by decide +kernel)
set_option maxRecDepth 20000 in
theorem gX10_number_X10_wrong : GoodIn wsX10_number (wsV RX10 257 RX10 yX10_wrong wsX10_wrong) := goodIn_app (goodIn_of _ (by decide +kernel)) ggX10_number_X10_wrong
theorem dX10_number_0 : decode cX10_number 0 = .ok (.aload_n 0, 1) := by decide +kernel
theorem dX10_number_1 : decode cX10_number 1 = .ok (.invokevirtual 247, 3) := by decide +kernel
theorem dX10_number_4 : decode cX10_number 4 = .ok (.invokestatic 254, 3) := by decide +kernel
theorem dX10_number_7 : decode cX10_number 7 = .ok (.ifCond .ne 12, 3) := by decide +kernel
theorem dX10_number_10 : decode cX10_number 10 = .ok (.aload_n 0, 1) := by decide +kernel
theorem dX10_number_11 : decode cX10_number 11 = .ok (.aload_n 0, 1) := by decide +kernel
theorem dX10_number_12 : decode cX10_number 12 = .ok (.getfield 238, 3) := by decide +kernel
theorem dX10_number_15 : decode cX10_number 15 = .ok (.invokevirtual 257, 3) := by decide +kernel
theorem dX10_number_18 : decode cX10_number 18 = .ok (.ireturn, 1) := by decide +kernel
theorem dX10_number_19 : decode cX10_number 19 = .ok (.aload_n 0, 1) := by decide +kernel
theorem dX10_number_20 : decode cX10_number 20 = .ok (.getfield 238, 3) := by decide +kernel
theorem dX10_number_23 : decode cX10_number 23 = .ok (.istore 4, 2) := by decide +kernel
theorem dX10_number_25 : decode cX10_number 25 = .ok (.iconst 0, 1) := by decide +kernel
theorem dX10_number_26 : decode cX10_number 26 = .ok (.istore 5, 2) := by decide +kernel
theorem dX10_number_28 : decode cX10_number 28 = .ok (.aload_n 0, 1) := by decide +kernel
theorem dX10_number_29 : decode cX10_number 29 = .ok (.getfield 238, 3) := by decide +kernel
theorem dX10_number_32 : decode cX10_number 32 = .ok (.aload_n 0, 1) := by decide +kernel
theorem dX10_number_33 : decode cX10_number 33 = .ok (.getfield 241, 3) := by decide +kernel
theorem dX10_number_36 : decode cX10_number 36 = .ok (.if_icmp .ge 69, 3) := by decide +kernel
theorem dX10_number_39 : decode cX10_number 39 = .ok (.aload_n 0, 1) := by decide +kernel
theorem dX10_number_40 : decode cX10_number 40 = .ok (.getfield 161, 3) := by decide +kernel
theorem dX10_number_43 : decode cX10_number 43 = .ok (.aload_n 0, 1) := by decide +kernel
theorem dX10_number_44 : decode cX10_number 44 = .ok (.getfield 238, 3) := by decide +kernel
theorem dX10_number_47 : decode cX10_number 47 = .ok (.iaload, 1) := by decide +kernel
theorem dX10_number_48 : decode cX10_number 48 = .ok (.invokestatic 254, 3) := by decide +kernel
theorem dX10_number_51 : decode cX10_number 51 = .ok (.ifCond .eq 54, 3) := by decide +kernel
theorem dX10_number_54 : decode cX10_number 54 = .ok (.aload_n 0, 1) := by decide +kernel
theorem dX10_number_55 : decode cX10_number 55 = .ok (.getfield 238, 3) := by decide +kernel
theorem dX10_number_58 : decode cX10_number 58 = .ok (.iload 4, 2) := by decide +kernel
theorem dX10_number_60 : decode cX10_number 60 = .ok (.isub, 1) := by decide +kernel
theorem dX10_number_61 : decode cX10_number 61 = .ok (.iconst 3, 1) := by decide +kernel
theorem dX10_number_62 : decode cX10_number 62 = .ok (.if_icmp .ne 10, 3) := by decide +kernel
theorem dX10_number_65 : decode cX10_number 65 = .ok (.aload_n 0, 1) := by decide +kernel
theorem dX10_number_66 : decode cX10_number 66 = .ok (.iload 4, 2) := by decide +kernel
theorem dX10_number_68 : decode cX10_number 68 = .ok (.invokevirtual 257, 3) := by decide +kernel
theorem dX10_number_71 : decode cX10_number 71 = .ok (.ireturn, 1) := by decide +kernel
theorem dX10_number_72 : decode cX10_number 72 = .ok (.bipush 10, 2) := by decide +kernel
theorem dX10_number_74 : decode cX10_number 74 = .ok (.iload 5, 2) := by decide +kernel
theorem dX10_number_76 : decode cX10_number 76 = .ok (.imul, 1) := by decide +kernel
theorem dX10_number_77 : decode cX10_number 77 = .ok (.aload_n 0, 1) := by decide +kernel
theorem dX10_number_78 : decode cX10_number 78 = .ok (.getfield 161, 3) := by decide +kernel
theorem dX10_number_81 : decode cX10_number 81 = .ok (.aload_n 0, 1) := by decide +kernel
theorem dX10_number_82 : decode cX10_number 82 = .ok (.getfield 238, 3) := by decide +kernel
theorem dX10_number_85 : decode cX10_number 85 = .ok (.iaload, 1) := by decide +kernel
theorem dX10_number_86 : decode cX10_number 86 = .ok (.iadd, 1) := by decide +kernel
theorem dX10_number_87 : decode cX10_number 87 = .ok (.bipush 48, 2) := by decide +kernel
theorem dX10_number_89 : decode cX10_number 89 = .ok (.isub, 1) := by decide +kernel
theorem dX10_number_90 : decode cX10_number 90 = .ok (.istore 5, 2) := by decide +kernel
theorem dX10_number_92 : decode cX10_number 92 = .ok (.aload_n 0, 1) := by decide +kernel
theorem dX10_number_93 : decode cX10_number 93 = .ok (.dup, 1) := by decide +kernel
theorem dX10_number_94 : decode cX10_number 94 = .ok (.getfield 238, 3) := by decide +kernel
theorem dX10_number_97 : decode cX10_number 97 = .ok (.iconst 1, 1) := by decide +kernel
theorem dX10_number_98 : decode cX10_number 98 = .ok (.iadd, 1) := by decide +kernel
theorem dX10_number_99 : decode cX10_number 99 = .ok (.putfield 238, 3) := by decide +kernel
theorem dX10_number_102 : decode cX10_number 102 = .ok (.goto (-74), 3) := by decide +kernel
theorem dX10_number_105 : decode cX10_number 105 = .ok (.iload 5, 2) := by decide +kernel
theorem dX10_number_107 : decode cX10_number 107 = .ok (.iload_n 2, 1) := by decide +kernel
theorem dX10_number_108 : decode cX10_number 108 = .ok (.if_icmp .lt 9, 3) := by decide +kernel
theorem dX10_number_111 : decode cX10_number 111 = .ok (.iload 5, 2) := by decide +kernel
theorem dX10_number_113 : decode cX10_number 113 = .ok (.iload_n 3, 1) := by decide +kernel
theorem dX10_number_114 : decode cX10_number 114 = .ok (.if_icmp .le 10, 3) := by decide +kernel
theorem dX10_number_117 : decode cX10_number 117 = .ok (.aload_n 0, 1) := by decide +kernel
theorem dX10_number_118 : decode cX10_number 118 = .ok (.iload 4, 2) := by decide +kernel
theorem dX10_number_120 : decode cX10_number 120 = .ok (.invokevirtual 257, 3) := by decide +kernel
theorem dX10_number_123 : decode cX10_number 123 = .ok (.ireturn, 1) := by decide +kernel
theorem dX10_number_124 : decode cX10_number 124 = .ok (.aload_n 0, 1) := by decide +kernel
theorem dX10_number_125 : decode cX10_number 125 = .ok (.getfield 168, 3) := by decide +kernel
theorem dX10_number_128 : decode cX10_number 128 = .ok (.iload_n 1, 1) := by decide +kernel
theorem dX10_number_129 : decode cX10_number 129 = .ok (.iload 5, 2) := by decide +kernel
theorem dX10_number_131 : decode cX10_number 131 = .ok (.iastore, 1) := by decide +kernel
theorem dX10_number_132 : decode cX10_number 132 = .ok (.iconst 1, 1) := by decide +kernel
theorem dX10_number_133 : decode cX10_number 133 = .ok (.ireturn, 1) := by decide +kernel
set_option maxRecDepth 20000 in
theorem ggX10_factOf_X10_isWord : GoodIn wsX10_factOf wsX10_isWord := goodIn_r _ [10, 11, 12, 13, 14, 15, 9, 16, 17, 18, 19, 20, 21, 22, 23, 24, 25, 26, 27, 28, 29, 30, 31, 32, 33, 34, 35, 36, 37, 38, 39, 40, 41, 42, 43, 44, 45, 46, 47, 48, 49, 50, 51, 52, 53, 54, 55, 56, 57, 58, 59, 60, 61, 62, 63, 64, 65, 66, 67, 68, 69, 70, 71, 72, 73, 74, 75, 76, 77, 78, 79, 80, 81, 82, 83, 84, 85, 86, 87, 88, 89, 90, 91, 92, 93] (by decide +kernel) (by decide +kernel)
set_option maxRecDepth 20000 in
theorem gX10_factOf_X10_isWord : GoodIn wsX10_factOf (wsV RX10 262 RX10 yX10_isWord wsX10_isWord) := goodIn_app (goodIn_of _ (by decide +kernel)) ggX10_factOf_X10_isWord
theorem dX10_factOf_0 : decode cX10_factOf 0 = .ok (.aload_n 0, 1) := by decide +kernel
theorem dX10_factOf_1 : decode cX10_factOf 1 = .ok (.ldc2_w 260, 3) := by decide +kernel
theorem dX10_factOf_4 : decode cX10_factOf 4 = .ok (.invokevirtual 262, 3) := by decide +kernel
theorem dX10_factOf_7 : decode cX10_factOf 7 = .ok (.ifCond .eq 7, 3) := by decide +kernel
theorem dX10_factOf_10 : decode cX10_factOf 10 = .ok (.iconst 0, 1) := by decide +kernel
theorem dX10_factOf_11 : decode cX10_factOf 11 = .ok (.goto 60, 3) := by decide +kernel
theorem dX10_factOf_14 : decode cX10_factOf 14 = .ok (.aload_n 0, 1) := by decide +kernel
theorem dX10_factOf_15 : decode cX10_factOf 15 = .ok (.ldc2_w 266, 3) := by decide +kernel
theorem dX10_factOf_18 : decode cX10_factOf 18 = .ok (.invokevirtual 262, 3) := by decide +kernel
theorem dX10_factOf_21 : decode cX10_factOf 21 = .ok (.ifCond .eq 7, 3) := by decide +kernel
theorem dX10_factOf_24 : decode cX10_factOf 24 = .ok (.iconst 1, 1) := by decide +kernel
theorem dX10_factOf_25 : decode cX10_factOf 25 = .ok (.goto 46, 3) := by decide +kernel
theorem dX10_factOf_28 : decode cX10_factOf 28 = .ok (.aload_n 0, 1) := by decide +kernel
theorem dX10_factOf_29 : decode cX10_factOf 29 = .ok (.ldc2_w 268, 3) := by decide +kernel
theorem dX10_factOf_32 : decode cX10_factOf 32 = .ok (.invokevirtual 262, 3) := by decide +kernel
theorem dX10_factOf_35 : decode cX10_factOf 35 = .ok (.ifCond .eq 7, 3) := by decide +kernel
theorem dX10_factOf_38 : decode cX10_factOf 38 = .ok (.iconst 2, 1) := by decide +kernel
theorem dX10_factOf_39 : decode cX10_factOf 39 = .ok (.goto 32, 3) := by decide +kernel
theorem dX10_factOf_42 : decode cX10_factOf 42 = .ok (.aload_n 0, 1) := by decide +kernel
theorem dX10_factOf_43 : decode cX10_factOf 43 = .ok (.ldc2_w 270, 3) := by decide +kernel
theorem dX10_factOf_46 : decode cX10_factOf 46 = .ok (.invokevirtual 262, 3) := by decide +kernel
theorem dX10_factOf_49 : decode cX10_factOf 49 = .ok (.ifCond .eq 7, 3) := by decide +kernel
theorem dX10_factOf_52 : decode cX10_factOf 52 = .ok (.iconst 3, 1) := by decide +kernel
theorem dX10_factOf_53 : decode cX10_factOf 53 = .ok (.goto 18, 3) := by decide +kernel
theorem dX10_factOf_56 : decode cX10_factOf 56 = .ok (.aload_n 0, 1) := by decide +kernel
theorem dX10_factOf_57 : decode cX10_factOf 57 = .ok (.ldc2_w 272, 3) := by decide +kernel
theorem dX10_factOf_60 : decode cX10_factOf 60 = .ok (.invokevirtual 262, 3) := by decide +kernel
theorem dX10_factOf_63 : decode cX10_factOf 63 = .ok (.ifCond .eq 7, 3) := by decide +kernel
theorem dX10_factOf_66 : decode cX10_factOf 66 = .ok (.iconst 4, 1) := by decide +kernel
theorem dX10_factOf_67 : decode cX10_factOf 67 = .ok (.goto 4, 3) := by decide +kernel
theorem dX10_factOf_70 : decode cX10_factOf 70 = .ok (.iconst (-1), 1) := by decide +kernel
theorem dX10_factOf_71 : decode cX10_factOf 71 = .ok (.ireturn, 1) := by decide +kernel
set_option maxRecDepth 20000 in
theorem ggX10_readFact_X10_factOf : GoodIn wsX10_readFact wsX10_factOf := goodIn_r _ [8, 9, 10, 11, 12, 13, 14, 15, 16, 7, 17, 2, 18, 19, 20, 21, 22, 23, 24, 25, 26, 27, 28, 29, 30, 44, 45, 46, 47, 48, 49, 50, 51, 52, 53, 54, 55, 56, 57, 58, 59, 60, 61, 62, 63, 64, 65, 66, 67, 68, 69, 70, 71, 72, 73, 74, 75, 76, 77, 78, 79, 80, 81, 82, 83, 84, 85, 86, 87, 88, 89, 90, 91, 92, 93, 94, 95, 96, 97, 98, 99, 100, 101, 102, 103, 104, 105, 106, 107, 108, 109, 110, 111, 112] (by decide +kernel) (by decide +kernel)
set_option maxRecDepth 20000 in
theorem gX10_readFact_X10_factOf : GoodIn wsX10_readFact (wsV RX10 274 RX10 yX10_factOf wsX10_factOf) := goodIn_app (goodIn_of _ (by decide +kernel)) ggX10_readFact_X10_factOf
set_option maxRecDepth 20000 in
theorem ggX10_readFact_X10_wrong : GoodIn wsX10_readFact wsX10_wrong := goodIn_r _ [34, 35, 44, 45, 46, 47, 48, 49, 50, 51, 52, 53, 54, 55, 56, 57, 58, 59, 60, 61, 62, 63, 64, 65, 66, 67, 68, 69, 70, 71, 72, 73, 74, 75, 76, 77, 78, 79, 80, 81, 82, 83, 84, 85, 86, 87, 88, 89, 90, 91, 92, 93, 94, 95, 96, 97, 98, 99, 100, 101, 102, 103, 104, 105, 106, 107, 108, 109, 110, 111, 112] (by decide +kernel) (by decide +kernel)
set_option maxRecDepth 20000 in
theorem gX10_readFact_X10_wrong : GoodIn wsX10_readFact (wsV RX10 257 RX10 yX10_wrong wsX10_wrong) := goodIn_app (goodIn_of _ (by decide +kernel)) ggX10_readFact_X10_wrong
set_option maxRecDepth 20000 in
theorem ggX10_readFact_X10_wordEnd : GoodIn wsX10_readFact wsX10_wordEnd := goodIn_r _ [27, 2, 23, 18, 28, 29, 7, 30, 44, 45, 46, 47, 48, 49, 50, 51, 52, 53, 54, 55, 56, 57, 58, 59, 60, 61, 62, 63, 64, 65, 66, 67, 68, 69, 70, 71, 72, 73, 74, 75, 76, 77, 78, 79, 80, 81, 82, 83, 84, 85, 86, 87, 88, 89, 90, 91, 92, 93, 94, 95, 96, 97, 98, 99, 100, 101, 102, 103, 104, 105, 106, 107, 108, 109, 110, 111, 112] (by decide +kernel) (by decide +kernel)
set_option maxRecDepth 20000 in
theorem gX10_readFact_X10_wordEnd : GoodIn wsX10_readFact (wsV RX10 251 RX10 yX10_wordEnd wsX10_wordEnd) := goodIn_app (goodIn_of _ (by decide +kernel)) ggX10_readFact_X10_wordEnd
set_option maxRecDepth 20000 in
theorem ggX10_readFact_X10_number : GoodIn wsX10_readFact wsX10_number := goodIn_r _ [39, 2, 23, 18, 40, 19, 20, 21, 7, 22, 41, 42, 43, 31, 32, 33, 34, 35, 44, 45, 46, 47, 48, 49, 50, 51, 52, 53, 54, 55, 56, 57, 58, 59, 60, 61, 62, 63, 64, 65, 66, 67, 68, 69, 70, 71, 72, 73, 74, 75, 76, 77, 78, 79, 80, 81, 82, 83, 84, 85, 86, 87, 88, 89, 90, 91, 92, 93, 94, 95, 96, 97, 98, 99, 100, 101, 102, 103, 104, 105, 106, 107, 108, 109, 110, 111, 112] (by decide +kernel) (by decide +kernel)
set_option maxRecDepth 20000 in
theorem gX10_readFact_X10_number : GoodIn wsX10_readFact (wsV RX10 277 RX10 yX10_number wsX10_number) := goodIn_app (goodIn_of _ (by decide +kernel)) ggX10_readFact_X10_number
theorem dX10_readFact_0 : decode cX10_readFact 0 = .ok (.aload_n 0, 1) := by decide +kernel
theorem dX10_readFact_1 : decode cX10_readFact 1 = .ok (.invokevirtual 274, 3) := by decide +kernel
theorem dX10_readFact_4 : decode cX10_readFact 4 = .ok (.istore_n 1, 1) := by decide +kernel
theorem dX10_readFact_5 : decode cX10_readFact 5 = .ok (.iload_n 1, 1) := by decide +kernel
theorem dX10_readFact_6 : decode cX10_readFact 6 = .ok (.iconst (-1), 1) := by decide +kernel
theorem dX10_readFact_7 : decode cX10_readFact 7 = .ok (.if_icmp .eq 12, 3) := by decide +kernel
theorem dX10_readFact_10 : decode cX10_readFact 10 = .ok (.aload_n 0, 1) := by decide +kernel
theorem dX10_readFact_11 : decode cX10_readFact 11 = .ok (.getfield 171, 3) := by decide +kernel
theorem dX10_readFact_14 : decode cX10_readFact 14 = .ok (.iload_n 1, 1) := by decide +kernel
theorem dX10_readFact_15 : decode cX10_readFact 15 = .ok (.baload, 1) := by decide +kernel
theorem dX10_readFact_16 : decode cX10_readFact 16 = .ok (.ifCond .eq 12, 3) := by decide +kernel
theorem dX10_readFact_19 : decode cX10_readFact 19 = .ok (.aload_n 0, 1) := by decide +kernel
theorem dX10_readFact_20 : decode cX10_readFact 20 = .ok (.aload_n 0, 1) := by decide +kernel
theorem dX10_readFact_21 : decode cX10_readFact 21 = .ok (.getfield 238, 3) := by decide +kernel
theorem dX10_readFact_24 : decode cX10_readFact 24 = .ok (.invokevirtual 257, 3) := by decide +kernel
theorem dX10_readFact_27 : decode cX10_readFact 27 = .ok (.ireturn, 1) := by decide +kernel
theorem dX10_readFact_28 : decode cX10_readFact 28 = .ok (.aload_n 0, 1) := by decide +kernel
theorem dX10_readFact_29 : decode cX10_readFact 29 = .ok (.getfield 171, 3) := by decide +kernel
theorem dX10_readFact_32 : decode cX10_readFact 32 = .ok (.iload_n 1, 1) := by decide +kernel
theorem dX10_readFact_33 : decode cX10_readFact 33 = .ok (.iconst 1, 1) := by decide +kernel
theorem dX10_readFact_34 : decode cX10_readFact 34 = .ok (.bastore, 1) := by decide +kernel
theorem dX10_readFact_35 : decode cX10_readFact 35 = .ok (.aload_n 0, 1) := by decide +kernel
theorem dX10_readFact_36 : decode cX10_readFact 36 = .ok (.aload_n 0, 1) := by decide +kernel
theorem dX10_readFact_37 : decode cX10_readFact 37 = .ok (.invokevirtual 251, 3) := by decide +kernel
theorem dX10_readFact_40 : decode cX10_readFact 40 = .ok (.putfield 238, 3) := by decide +kernel
theorem dX10_readFact_43 : decode cX10_readFact 43 = .ok (.iload_n 1, 1) := by decide +kernel
theorem dX10_readFact_44 : decode cX10_readFact 44 = .ok (.tableswitch 89 0 3 #[32, 60, 69, 80], 32) := by decide +kernel
theorem dX10_readFact_76 : decode cX10_readFact 76 = .ok (.aload_n 0, 1) := by decide +kernel
theorem dX10_readFact_77 : decode cX10_readFact 77 = .ok (.iconst 0, 1) := by decide +kernel
theorem dX10_readFact_78 : decode cX10_readFact 78 = .ok (.iconst 0, 1) := by decide +kernel
theorem dX10_readFact_79 : decode cX10_readFact 79 = .ok (.bipush 19, 2) := by decide +kernel
theorem dX10_readFact_81 : decode cX10_readFact 81 = .ok (.invokevirtual 277, 3) := by decide +kernel
theorem dX10_readFact_84 : decode cX10_readFact 84 = .ok (.ifCond .eq 18, 3) := by decide +kernel
theorem dX10_readFact_87 : decode cX10_readFact 87 = .ok (.aload_n 0, 1) := by decide +kernel
theorem dX10_readFact_88 : decode cX10_readFact 88 = .ok (.iconst 1, 1) := by decide +kernel
theorem dX10_readFact_89 : decode cX10_readFact 89 = .ok (.iconst 0, 1) := by decide +kernel
theorem dX10_readFact_90 : decode cX10_readFact 90 = .ok (.bipush 19, 2) := by decide +kernel
theorem dX10_readFact_92 : decode cX10_readFact 92 = .ok (.invokevirtual 277, 3) := by decide +kernel
theorem dX10_readFact_95 : decode cX10_readFact 95 = .ok (.ifCond .eq 7, 3) := by decide +kernel
theorem dX10_readFact_98 : decode cX10_readFact 98 = .ok (.iconst 1, 1) := by decide +kernel
theorem dX10_readFact_99 : decode cX10_readFact 99 = .ok (.goto 4, 3) := by decide +kernel
theorem dX10_readFact_102 : decode cX10_readFact 102 = .ok (.iconst 0, 1) := by decide +kernel
theorem dX10_readFact_103 : decode cX10_readFact 103 = .ok (.ireturn, 1) := by decide +kernel
theorem dX10_readFact_104 : decode cX10_readFact 104 = .ok (.aload_n 0, 1) := by decide +kernel
theorem dX10_readFact_105 : decode cX10_readFact 105 = .ok (.iconst 2, 1) := by decide +kernel
theorem dX10_readFact_106 : decode cX10_readFact 106 = .ok (.iconst 1, 1) := by decide +kernel
theorem dX10_readFact_107 : decode cX10_readFact 107 = .ok (.bipush 9, 2) := by decide +kernel
theorem dX10_readFact_109 : decode cX10_readFact 109 = .ok (.invokevirtual 277, 3) := by decide +kernel
theorem dX10_readFact_112 : decode cX10_readFact 112 = .ok (.ireturn, 1) := by decide +kernel
theorem dX10_readFact_113 : decode cX10_readFact 113 = .ok (.aload_n 0, 1) := by decide +kernel
theorem dX10_readFact_114 : decode cX10_readFact 114 = .ok (.iconst 3, 1) := by decide +kernel
theorem dX10_readFact_115 : decode cX10_readFact 115 = .ok (.iconst 0, 1) := by decide +kernel
theorem dX10_readFact_116 : decode cX10_readFact 116 = .ok (.aload_n 0, 1) := by decide +kernel
theorem dX10_readFact_117 : decode cX10_readFact 117 = .ok (.getfield 206, 3) := by decide +kernel
theorem dX10_readFact_120 : decode cX10_readFact 120 = .ok (.invokevirtual 277, 3) := by decide +kernel
theorem dX10_readFact_123 : decode cX10_readFact 123 = .ok (.ireturn, 1) := by decide +kernel
theorem dX10_readFact_124 : decode cX10_readFact 124 = .ok (.aload_n 0, 1) := by decide +kernel
theorem dX10_readFact_125 : decode cX10_readFact 125 = .ok (.iconst 4, 1) := by decide +kernel
theorem dX10_readFact_126 : decode cX10_readFact 126 = .ok (.iconst 1, 1) := by decide +kernel
theorem dX10_readFact_127 : decode cX10_readFact 127 = .ok (.bipush 7, 2) := by decide +kernel
theorem dX10_readFact_129 : decode cX10_readFact 129 = .ok (.invokevirtual 277, 3) := by decide +kernel
theorem dX10_readFact_132 : decode cX10_readFact 132 = .ok (.ireturn, 1) := by decide +kernel
theorem dX10_readFact_133 : decode cX10_readFact 133 = .ok (.iconst 1, 1) := by decide +kernel
theorem dX10_readFact_134 : decode cX10_readFact 134 = .ok (.ireturn, 1) := by decide +kernel
set_option maxRecDepth 20000 in
theorem ggX10_readCall_X10_readFact : GoodIn wsX10_readCall wsX10_readFact := goodIn_r _ [9, 1, 3, 10, 11, 12, 13, 8, 14, 15, 16, 17, 18, 19, 20, 21, 22, 23, 24, 25, 26, 27, 28, 4, 29, 30, 31, 32, 33, 34, 35, 36, 37, 38, 39, 40, 41, 42, 43, 44, 2, 45, 46, 47, 48, 49, 50, 51, 52, 53, 54, 55, 56, 57, 58, 59, 60, 61, 62, 63, 64, 65, 66, 67, 68, 69, 70, 71, 72, 73, 74, 75, 76, 77, 78, 79, 80, 81, 82, 83, 84, 85, 86, 87, 88, 89, 90, 91, 92, 93, 94, 95, 96, 97, 98, 99, 100, 101, 102, 103, 104, 105, 106, 107, 108, 109, 110, 111, 112, 113, 114, 115, 116] (by decide +kernel) (by decide +kernel)
set_option maxRecDepth 20000 in
theorem gX10_readCall_X10_readFact : GoodIn wsX10_readCall (wsV RX10 280 RX10 yX10_readFact wsX10_readFact) := goodIn_app (goodIn_of _ (by decide +kernel)) ggX10_readCall_X10_readFact
set_option maxRecDepth 20000 in
theorem ggX10_readCall_X10_sign : GoodIn wsX10_readCall wsX10_sign := goodIn_r _ [28, 3, 4, 24, 48, 49, 50, 51, 52, 53, 54, 55, 56, 57, 58, 59, 60, 61, 62, 63, 64, 65, 66, 67, 68, 69, 70, 71, 72, 73, 74, 75, 76, 77, 78, 79, 80, 81, 82, 83, 84, 85, 86, 87, 88, 89, 90, 91, 92, 93, 94, 95, 96, 97, 98, 99, 100, 101, 102, 103, 104, 105, 106, 107, 108, 109, 110, 111, 112, 113, 114, 115, 116] (by decide +kernel) (by decide +kernel)
set_option maxRecDepth 20000 in
theorem gX10_readCall_X10_sign : GoodIn wsX10_readCall (wsV RX10 247 RX10 yX10_sign wsX10_sign) := goodIn_app (goodIn_of _ (by decide +kernel)) ggX10_readCall_X10_sign
set_option maxRecDepth 20000 in
theorem ggX10_readCall_X10_wrong : GoodIn wsX10_readCall wsX10_wrong := goodIn_r _ [39, 40, 48, 49, 50, 51, 52, 53, 54, 55, 56, 57, 58, 59, 60, 61, 62, 63, 64, 65, 66, 67, 68, 69, 70, 71, 72, 73, 74, 75, 76, 77, 78, 79, 80, 81, 82, 83, 84, 85, 86, 87, 88, 89, 90, 91, 92, 93, 94, 95, 96, 97, 98, 99, 100, 101, 102, 103, 104, 105, 106, 107, 108, 109, 110, 111, 112, 113, 114, 115, 116] (by decide +kernel) (by decide +kernel)
set_option maxRecDepth 20000 in
theorem gX10_readCall_X10_wrong : GoodIn wsX10_readCall (wsV RX10 257 RX10 yX10_wrong wsX10_wrong) := goodIn_app (goodIn_of _ (by decide +kernel)) ggX10_readCall_X10_wrong
theorem dX10_readCall_0 : decode cX10_readCall 0 = .ok (.iconst 0, 1) := by decide +kernel
theorem dX10_readCall_1 : decode cX10_readCall 1 = .ok (.istore_n 1, 1) := by decide +kernel
theorem dX10_readCall_2 : decode cX10_readCall 2 = .ok (.iload_n 1, 1) := by decide +kernel
theorem dX10_readCall_3 : decode cX10_readCall 3 = .ok (.iconst 5, 1) := by decide +kernel
theorem dX10_readCall_4 : decode cX10_readCall 4 = .ok (.if_icmp .ge 16, 3) := by decide +kernel
theorem dX10_readCall_7 : decode cX10_readCall 7 = .ok (.aload_n 0, 1) := by decide +kernel
theorem dX10_readCall_8 : decode cX10_readCall 8 = .ok (.getfield 171, 3) := by decide +kernel
theorem dX10_readCall_11 : decode cX10_readCall 11 = .ok (.iload_n 1, 1) := by decide +kernel
theorem dX10_readCall_12 : decode cX10_readCall 12 = .ok (.iconst 0, 1) := by decide +kernel
theorem dX10_readCall_13 : decode cX10_readCall 13 = .ok (.bastore, 1) := by decide +kernel
theorem dX10_readCall_14 : decode cX10_readCall 14 = .ok (.iinc 1 1, 3) := by decide +kernel
theorem dX10_readCall_17 : decode cX10_readCall 17 = .ok (.goto (-15), 3) := by decide +kernel
theorem dX10_readCall_20 : decode cX10_readCall 20 = .ok (.aload_n 0, 1) := by decide +kernel
theorem dX10_readCall_21 : decode cX10_readCall 21 = .ok (.getfield 168, 3) := by decide +kernel
theorem dX10_readCall_24 : decode cX10_readCall 24 = .ok (.iconst 2, 1) := by decide +kernel
theorem dX10_readCall_25 : decode cX10_readCall 25 = .ok (.iconst 0, 1) := by decide +kernel
theorem dX10_readCall_26 : decode cX10_readCall 26 = .ok (.iastore, 1) := by decide +kernel
theorem dX10_readCall_27 : decode cX10_readCall 27 = .ok (.aload_n 0, 1) := by decide +kernel
theorem dX10_readCall_28 : decode cX10_readCall 28 = .ok (.getfield 168, 3) := by decide +kernel
theorem dX10_readCall_31 : decode cX10_readCall 31 = .ok (.iconst 3, 1) := by decide +kernel
theorem dX10_readCall_32 : decode cX10_readCall 32 = .ok (.iconst (-1), 1) := by decide +kernel
theorem dX10_readCall_33 : decode cX10_readCall 33 = .ok (.iastore, 1) := by decide +kernel
theorem dX10_readCall_34 : decode cX10_readCall 34 = .ok (.aload_n 0, 1) := by decide +kernel
theorem dX10_readCall_35 : decode cX10_readCall 35 = .ok (.getfield 168, 3) := by decide +kernel
theorem dX10_readCall_38 : decode cX10_readCall 38 = .ok (.iconst 4, 1) := by decide +kernel
theorem dX10_readCall_39 : decode cX10_readCall 39 = .ok (.iconst 0, 1) := by decide +kernel
theorem dX10_readCall_40 : decode cX10_readCall 40 = .ok (.iastore, 1) := by decide +kernel
theorem dX10_readCall_41 : decode cX10_readCall 41 = .ok (.iconst 1, 1) := by decide +kernel
theorem dX10_readCall_42 : decode cX10_readCall 42 = .ok (.istore_n 1, 1) := by decide +kernel
theorem dX10_readCall_43 : decode cX10_readCall 43 = .ok (.iload_n 1, 1) := by decide +kernel
theorem dX10_readCall_44 : decode cX10_readCall 44 = .ok (.ifCond .eq 44, 3) := by decide +kernel
theorem dX10_readCall_47 : decode cX10_readCall 47 = .ok (.aload_n 0, 1) := by decide +kernel
theorem dX10_readCall_48 : decode cX10_readCall 48 = .ok (.invokevirtual 280, 3) := by decide +kernel
theorem dX10_readCall_51 : decode cX10_readCall 51 = .ok (.ifCond .ne 5, 3) := by decide +kernel
theorem dX10_readCall_54 : decode cX10_readCall 54 = .ok (.iconst 0, 1) := by decide +kernel
theorem dX10_readCall_55 : decode cX10_readCall 55 = .ok (.ireturn, 1) := by decide +kernel
theorem dX10_readCall_56 : decode cX10_readCall 56 = .ok (.aload_n 0, 1) := by decide +kernel
theorem dX10_readCall_57 : decode cX10_readCall 57 = .ok (.invokevirtual 247, 3) := by decide +kernel
theorem dX10_readCall_60 : decode cX10_readCall 60 = .ok (.bipush 44, 2) := by decide +kernel
theorem dX10_readCall_62 : decode cX10_readCall 62 = .ok (.if_icmp .ne 7, 3) := by decide +kernel
theorem dX10_readCall_65 : decode cX10_readCall 65 = .ok (.iconst 1, 1) := by decide +kernel
theorem dX10_readCall_66 : decode cX10_readCall 66 = .ok (.goto 4, 3) := by decide +kernel
theorem dX10_readCall_69 : decode cX10_readCall 69 = .ok (.iconst 0, 1) := by decide +kernel
theorem dX10_readCall_70 : decode cX10_readCall 70 = .ok (.istore_n 1, 1) := by decide +kernel
theorem dX10_readCall_71 : decode cX10_readCall 71 = .ok (.iload_n 1, 1) := by decide +kernel
theorem dX10_readCall_72 : decode cX10_readCall 72 = .ok (.ifCond .eq (-29), 3) := by decide +kernel
theorem dX10_readCall_75 : decode cX10_readCall 75 = .ok (.aload_n 0, 1) := by decide +kernel
theorem dX10_readCall_76 : decode cX10_readCall 76 = .ok (.dup, 1) := by decide +kernel
theorem dX10_readCall_77 : decode cX10_readCall 77 = .ok (.getfield 238, 3) := by decide +kernel
theorem dX10_readCall_80 : decode cX10_readCall 80 = .ok (.iconst 1, 1) := by decide +kernel
theorem dX10_readCall_81 : decode cX10_readCall 81 = .ok (.iadd, 1) := by decide +kernel
theorem dX10_readCall_82 : decode cX10_readCall 82 = .ok (.putfield 238, 3) := by decide +kernel
theorem dX10_readCall_85 : decode cX10_readCall 85 = .ok (.goto (-42), 3) := by decide +kernel
theorem dX10_readCall_88 : decode cX10_readCall 88 = .ok (.aload_n 0, 1) := by decide +kernel
theorem dX10_readCall_89 : decode cX10_readCall 89 = .ok (.invokevirtual 247, 3) := by decide +kernel
theorem dX10_readCall_92 : decode cX10_readCall 92 = .ok (.iconst (-1), 1) := by decide +kernel
theorem dX10_readCall_93 : decode cX10_readCall 93 = .ok (.if_icmp .eq 12, 3) := by decide +kernel
theorem dX10_readCall_96 : decode cX10_readCall 96 = .ok (.aload_n 0, 1) := by decide +kernel
theorem dX10_readCall_97 : decode cX10_readCall 97 = .ok (.aload_n 0, 1) := by decide +kernel
theorem dX10_readCall_98 : decode cX10_readCall 98 = .ok (.getfield 238, 3) := by decide +kernel
theorem dX10_readCall_101 : decode cX10_readCall 101 = .ok (.invokevirtual 257, 3) := by decide +kernel
theorem dX10_readCall_104 : decode cX10_readCall 104 = .ok (.ireturn, 1) := by decide +kernel
theorem dX10_readCall_105 : decode cX10_readCall 105 = .ok (.aload_n 0, 1) := by decide +kernel
theorem dX10_readCall_106 : decode cX10_readCall 106 = .ok (.getfield 171, 3) := by decide +kernel
theorem dX10_readCall_109 : decode cX10_readCall 109 = .ok (.iconst 0, 1) := by decide +kernel
theorem dX10_readCall_110 : decode cX10_readCall 110 = .ok (.baload, 1) := by decide +kernel
theorem dX10_readCall_111 : decode cX10_readCall 111 = .ok (.ifCond .ne 14, 3) := by decide +kernel
theorem dX10_readCall_114 : decode cX10_readCall 114 = .ok (.aload_n 0, 1) := by decide +kernel
theorem dX10_readCall_115 : decode cX10_readCall 115 = .ok (.aload_n 0, 1) := by decide +kernel
theorem dX10_readCall_116 : decode cX10_readCall 116 = .ok (.getfield 241, 3) := by decide +kernel
theorem dX10_readCall_119 : decode cX10_readCall 119 = .ok (.invokevirtual 257, 3) := by decide +kernel
theorem dX10_readCall_122 : decode cX10_readCall 122 = .ok (.ifCond .eq 7, 3) := by decide +kernel
theorem dX10_readCall_125 : decode cX10_readCall 125 = .ok (.iconst 1, 1) := by decide +kernel
theorem dX10_readCall_126 : decode cX10_readCall 126 = .ok (.goto 4, 3) := by decide +kernel
theorem dX10_readCall_129 : decode cX10_readCall 129 = .ok (.iconst 0, 1) := by decide +kernel
theorem dX10_readCall_130 : decode cX10_readCall 130 = .ok (.ireturn, 1) := by decide +kernel
theorem dX10_beginText_0 : decode cX10_beginText 0 = .ok (.aload_n 0, 1) := by decide +kernel
theorem dX10_beginText_1 : decode cX10_beginText 1 = .ok (.aload_n 0, 1) := by decide +kernel
theorem dX10_beginText_2 : decode cX10_beginText 2 = .ok (.getfield 195, 3) := by decide +kernel
theorem dX10_beginText_5 : decode cX10_beginText 5 = .ok (.putfield 241, 3) := by decide +kernel
theorem dX10_beginText_8 : decode cX10_beginText 8 = .ok (.aload_n 0, 1) := by decide +kernel
theorem dX10_beginText_9 : decode cX10_beginText 9 = .ok (.iconst 0, 1) := by decide +kernel
theorem dX10_beginText_10 : decode cX10_beginText 10 = .ok (.putfield 195, 3) := by decide +kernel
theorem dX10_beginText_13 : decode cX10_beginText 13 = .ok (.aload_n 0, 1) := by decide +kernel
theorem dX10_beginText_14 : decode cX10_beginText 14 = .ok (.iconst 0, 1) := by decide +kernel
theorem dX10_beginText_15 : decode cX10_beginText 15 = .ok (.putfield 238, 3) := by decide +kernel
theorem dX10_beginText_18 : decode cX10_beginText 18 = .ok (.aload_n 0, 1) := by decide +kernel
theorem dX10_beginText_19 : decode cX10_beginText 19 = .ok (.iconst (-1), 1) := by decide +kernel
theorem dX10_beginText_20 : decode cX10_beginText 20 = .ok (.putfield 164, 3) := by decide +kernel
theorem dX10_beginText_23 : decode cX10_beginText 23 = .ok (.return_, 1) := by decide +kernel
set_option maxRecDepth 20000 in
theorem ggX10_matching_X10_steps : GoodIn wsX10_matching wsX10_steps := goodIn_r _ [12] (by decide +kernel) (by decide +kernel)
set_option maxRecDepth 20000 in
theorem gX10_matching_X10_steps : GoodIn wsX10_matching (va_wsS RX10 231 yX10_steps wsX10_steps) := goodIn_app (goodIn_of _ (by decide +kernel)) ggX10_matching_X10_steps
theorem dX10_matching_0 : decode cX10_matching 0 = .ok (.iconst 0, 1) := by decide +kernel
theorem dX10_matching_1 : decode cX10_matching 1 = .ok (.istore_n 1, 1) := by decide +kernel
theorem dX10_matching_2 : decode cX10_matching 2 = .ok (.iload_n 1, 1) := by decide +kernel
theorem dX10_matching_3 : decode cX10_matching 3 = .ok (.aload_n 0, 1) := by decide +kernel
theorem dX10_matching_4 : decode cX10_matching 4 = .ok (.getfield 192, 3) := by decide +kernel
theorem dX10_matching_7 : decode cX10_matching 7 = .ok (.if_icmp .ge 111, 3) := by decide +kernel
theorem dX10_matching_10 : decode cX10_matching 10 = .ok (.aload_n 0, 1) := by decide +kernel
theorem dX10_matching_11 : decode cX10_matching 11 = .ok (.getfield 112, 3) := by decide +kernel
theorem dX10_matching_14 : decode cX10_matching 14 = .ok (.iload_n 1, 1) := by decide +kernel
theorem dX10_matching_15 : decode cX10_matching 15 = .ok (.iaload, 1) := by decide +kernel
theorem dX10_matching_16 : decode cX10_matching 16 = .ok (.iconst 2, 1) := by decide +kernel
theorem dX10_matching_17 : decode cX10_matching 17 = .ok (.if_icmp .ge 54, 3) := by decide +kernel
theorem dX10_matching_20 : decode cX10_matching 20 = .ok (.aload_n 0, 1) := by decide +kernel
theorem dX10_matching_21 : decode cX10_matching 21 = .ok (.getfield 115, 3) := by decide +kernel
theorem dX10_matching_24 : decode cX10_matching 24 = .ok (.iload_n 1, 1) := by decide +kernel
theorem dX10_matching_25 : decode cX10_matching 25 = .ok (.iaload, 1) := by decide +kernel
theorem dX10_matching_26 : decode cX10_matching 26 = .ok (.aload_n 0, 1) := by decide +kernel
theorem dX10_matching_27 : decode cX10_matching 27 = .ok (.getfield 118, 3) := by decide +kernel
theorem dX10_matching_30 : decode cX10_matching 30 = .ok (.iload_n 1, 1) := by decide +kernel
theorem dX10_matching_31 : decode cX10_matching 31 = .ok (.iaload, 1) := by decide +kernel
theorem dX10_matching_32 : decode cX10_matching 32 = .ok (.aload_n 0, 1) := by decide +kernel
theorem dX10_matching_33 : decode cX10_matching 33 = .ok (.getfield 168, 3) := by decide +kernel
theorem dX10_matching_36 : decode cX10_matching 36 = .ok (.iconst 0, 1) := by decide +kernel
theorem dX10_matching_37 : decode cX10_matching 37 = .ok (.iaload, 1) := by decide +kernel
theorem dX10_matching_38 : decode cX10_matching 38 = .ok (.aload_n 0, 1) := by decide +kernel
theorem dX10_matching_39 : decode cX10_matching 39 = .ok (.getfield 168, 3) := by decide +kernel
theorem dX10_matching_42 : decode cX10_matching 42 = .ok (.iconst 1, 1) := by decide +kernel
theorem dX10_matching_43 : decode cX10_matching 43 = .ok (.iaload, 1) := by decide +kernel
theorem dX10_matching_44 : decode cX10_matching 44 = .ok (.invokestatic 231, 3) := by decide +kernel
theorem dX10_matching_47 : decode cX10_matching 47 = .ok (.iconst 1, 1) := by decide +kernel
theorem dX10_matching_48 : decode cX10_matching 48 = .ok (.if_icmp .gt 23, 3) := by decide +kernel
theorem dX10_matching_51 : decode cX10_matching 51 = .ok (.aload_n 0, 1) := by decide +kernel
theorem dX10_matching_52 : decode cX10_matching 52 = .ok (.getfield 206, 3) := by decide +kernel
theorem dX10_matching_55 : decode cX10_matching 55 = .ok (.aload_n 0, 1) := by decide +kernel
theorem dX10_matching_56 : decode cX10_matching 56 = .ok (.getfield 137, 3) := by decide +kernel
theorem dX10_matching_59 : decode cX10_matching 59 = .ok (.iload_n 1, 1) := by decide +kernel
theorem dX10_matching_60 : decode cX10_matching 60 = .ok (.iaload, 1) := by decide +kernel
theorem dX10_matching_61 : decode cX10_matching 61 = .ok (.isub, 1) := by decide +kernel
theorem dX10_matching_62 : decode cX10_matching 62 = .ok (.bipush 6, 2) := by decide +kernel
theorem dX10_matching_64 : decode cX10_matching 64 = .ok (.if_icmp .gt 7, 3) := by decide +kernel
theorem dX10_matching_67 : decode cX10_matching 67 = .ok (.iconst 1, 1) := by decide +kernel
theorem dX10_matching_68 : decode cX10_matching 68 = .ok (.goto 4, 3) := by decide +kernel
theorem dX10_matching_71 : decode cX10_matching 71 = .ok (.iconst 0, 1) := by decide +kernel
theorem dX10_matching_72 : decode cX10_matching 72 = .ok (.istore_n 2, 1) := by decide +kernel
theorem dX10_matching_73 : decode cX10_matching 73 = .ok (.iload_n 2, 1) := by decide +kernel
theorem dX10_matching_74 : decode cX10_matching 74 = .ok (.ifCond .eq 38, 3) := by decide +kernel
theorem dX10_matching_77 : decode cX10_matching 77 = .ok (.aload_n 0, 1) := by decide +kernel
theorem dX10_matching_78 : decode cX10_matching 78 = .ok (.getfield 168, 3) := by decide +kernel
theorem dX10_matching_81 : decode cX10_matching 81 = .ok (.iconst 4, 1) := by decide +kernel
theorem dX10_matching_82 : decode cX10_matching 82 = .ok (.iaload, 1) := by decide +kernel
theorem dX10_matching_83 : decode cX10_matching 83 = .ok (.ifCond .eq 27, 3) := by decide +kernel
theorem dX10_matching_86 : decode cX10_matching 86 = .ok (.aload_n 0, 1) := by decide +kernel
theorem dX10_matching_87 : decode cX10_matching 87 = .ok (.getfield 131, 3) := by decide +kernel
theorem dX10_matching_90 : decode cX10_matching 90 = .ok (.iload_n 1, 1) := by decide +kernel
theorem dX10_matching_91 : decode cX10_matching 91 = .ok (.iaload, 1) := by decide +kernel
theorem dX10_matching_92 : decode cX10_matching 92 = .ok (.ifCond .eq 18, 3) := by decide +kernel
theorem dX10_matching_95 : decode cX10_matching 95 = .ok (.aload_n 0, 1) := by decide +kernel
theorem dX10_matching_96 : decode cX10_matching 96 = .ok (.getfield 168, 3) := by decide +kernel
theorem dX10_matching_99 : decode cX10_matching 99 = .ok (.iconst 4, 1) := by decide +kernel
theorem dX10_matching_100 : decode cX10_matching 100 = .ok (.iaload, 1) := by decide +kernel
theorem dX10_matching_101 : decode cX10_matching 101 = .ok (.aload_n 0, 1) := by decide +kernel
theorem dX10_matching_102 : decode cX10_matching 102 = .ok (.getfield 131, 3) := by decide +kernel
theorem dX10_matching_105 : decode cX10_matching 105 = .ok (.iload_n 1, 1) := by decide +kernel
theorem dX10_matching_106 : decode cX10_matching 106 = .ok (.iaload, 1) := by decide +kernel
theorem dX10_matching_107 : decode cX10_matching 107 = .ok (.if_icmp .ne 5, 3) := by decide +kernel
theorem dX10_matching_110 : decode cX10_matching 110 = .ok (.iload_n 1, 1) := by decide +kernel
theorem dX10_matching_111 : decode cX10_matching 111 = .ok (.ireturn, 1) := by decide +kernel
theorem dX10_matching_112 : decode cX10_matching 112 = .ok (.iinc 1 1, 3) := by decide +kernel
theorem dX10_matching_115 : decode cX10_matching 115 = .ok (.goto (-113), 3) := by decide +kernel
theorem dX10_matching_118 : decode cX10_matching 118 = .ok (.iconst (-1), 1) := by decide +kernel
theorem dX10_matching_119 : decode cX10_matching 119 = .ok (.ireturn, 1) := by decide +kernel
set_option maxRecDepth 20000 in
theorem ggX10_call_X10_beginText : GoodIn wsX10_call wsX10_beginText := goodIn_r _ [22, 23, 24, 25, 26, 78, 79, 80, 81, 82, 83, 84, 85, 86, 87, 88, 89, 90, 91, 92, 93, 94, 95, 96, 97, 98, 99, 100, 101, 102, 103, 104, 105, 106, 107, 108, 109, 110, 111, 112, 113, 114, 115, 116, 117, 118, 119, 120, 121, 122, 123, 124, 125, 126, 127, 128, 129, 130, 131, 132, 133, 134, 135, 136, 137, 138, 139, 140, 141, 142, 143, 144, 145, 146] (by decide +kernel) (by decide +kernel)
set_option maxRecDepth 20000 in
theorem gX10_call_X10_beginText : GoodIn wsX10_call (wsV RX10 284 RX10 yX10_beginText wsX10_beginText) := goodIn_app (goodIn_of _ (by decide +kernel)) ggX10_call_X10_beginText
set_option maxRecDepth 20000 in
theorem ggX10_call_X10_readCall : GoodIn wsX10_call wsX10_readCall := goodIn_r _ [30, 9, 6, 25, 24, 31, 32, 33, 21, 34, 17, 35, 36, 37, 38, 39, 40, 41, 42, 43, 44, 45, 46, 47, 48, 49, 50, 51, 52, 53, 54, 55, 56, 57, 58, 59, 60, 61, 62, 63, 26, 64, 65, 66, 67, 68, 69, 70, 78, 79, 80, 81, 82, 83, 84, 85, 86, 87, 88, 89, 90, 91, 92, 93, 94, 95, 96, 97, 98, 99, 100, 101, 102, 103, 104, 105, 106, 107, 108, 109, 110, 111, 112, 113, 114, 115, 116, 117, 118, 119, 120, 121, 122, 123, 124, 125, 126, 127, 128, 129, 130, 131, 132, 133, 134, 135, 136, 137, 138, 139, 140, 141, 142, 143, 144, 145, 146] (by decide +kernel) (by decide +kernel)
set_option maxRecDepth 20000 in
theorem gX10_call_X10_readCall : GoodIn wsX10_call (wsV RX10 287 RX10 yX10_readCall wsX10_readCall) := goodIn_app (goodIn_of _ (by decide +kernel)) ggX10_call_X10_readCall
set_option maxRecDepth 20000 in
theorem ggX10_call_X10_matching : GoodIn wsX10_call wsX10_matching := goodIn_r _ [74, 3, 4, 5, 7, 6, 17, 16, 12, 75, 76, 21, 77, 78, 79, 80, 81, 82, 83, 84, 85, 86, 87, 88, 89, 90, 91, 92, 93, 94, 95, 96, 97, 98, 99, 100, 101, 102, 103, 104, 105, 106, 107, 108, 109, 110, 111, 112, 113, 114, 115, 116, 117, 118, 119, 120, 121, 122, 123, 124, 125, 126, 127, 128, 129, 130, 131, 132, 133, 134, 135, 136, 137, 138, 139, 140, 141, 142, 143, 144, 145, 146] (by decide +kernel) (by decide +kernel)
set_option maxRecDepth 20000 in
theorem gX10_call_X10_matching : GoodIn wsX10_call (wsV RX10 290 RX10 yX10_matching wsX10_matching) := goodIn_app (goodIn_of _ (by decide +kernel)) ggX10_call_X10_matching
theorem dX10_call_0 : decode cX10_call 0 = .ok (.aload_n 0, 1) := by decide +kernel
theorem dX10_call_1 : decode cX10_call 1 = .ok (.invokevirtual 284, 3) := by decide +kernel
theorem dX10_call_4 : decode cX10_call 4 = .ok (.aload_n 0, 1) := by decide +kernel
theorem dX10_call_5 : decode cX10_call 5 = .ok (.iconst 0, 1) := by decide +kernel
theorem dX10_call_6 : decode cX10_call 6 = .ok (.putfield 180, 3) := by decide +kernel
theorem dX10_call_9 : decode cX10_call 9 = .ok (.aload_n 0, 1) := by decide +kernel
theorem dX10_call_10 : decode cX10_call 10 = .ok (.invokevirtual 287, 3) := by decide +kernel
theorem dX10_call_13 : decode cX10_call 13 = .ok (.ifCond .ne 10, 3) := by decide +kernel
theorem dX10_call_16 : decode cX10_call 16 = .ok (.aload_n 0, 1) := by decide +kernel
theorem dX10_call_17 : decode cX10_call 17 = .ok (.iconst 1, 1) := by decide +kernel
theorem dX10_call_18 : decode cX10_call 18 = .ok (.putfield 180, 3) := by decide +kernel
theorem dX10_call_21 : decode cX10_call 21 = .ok (.iconst 0, 1) := by decide +kernel
theorem dX10_call_22 : decode cX10_call 22 = .ok (.ireturn, 1) := by decide +kernel
theorem dX10_call_23 : decode cX10_call 23 = .ok (.aload_n 0, 1) := by decide +kernel
theorem dX10_call_24 : decode cX10_call 24 = .ok (.invokevirtual 290, 3) := by decide +kernel
theorem dX10_call_27 : decode cX10_call 27 = .ok (.istore_n 1, 1) := by decide +kernel
theorem dX10_call_28 : decode cX10_call 28 = .ok (.aload_n 0, 1) := by decide +kernel
theorem dX10_call_29 : decode cX10_call 29 = .ok (.getfield 293, 3) := by decide +kernel
theorem dX10_call_32 : decode cX10_call 32 = .ok (.sipush 200, 3) := by decide +kernel
theorem dX10_call_35 : decode cX10_call 35 = .ok (.if_icmp .eq 17, 3) := by decide +kernel
theorem dX10_call_38 : decode cX10_call 38 = .ok (.iload_n 1, 1) := by decide +kernel
theorem dX10_call_39 : decode cX10_call 39 = .ok (.iconst (-1), 1) := by decide +kernel
theorem dX10_call_40 : decode cX10_call 40 = .ok (.if_icmp .ne 19, 3) := by decide +kernel
theorem dX10_call_43 : decode cX10_call 43 = .ok (.aload_n 0, 1) := by decide +kernel
theorem dX10_call_44 : decode cX10_call 44 = .ok (.getfield 192, 3) := by decide +kernel
theorem dX10_call_47 : decode cX10_call 47 = .ok (.bipush 60, 2) := by decide +kernel
theorem dX10_call_49 : decode cX10_call 49 = .ok (.if_icmp .ne 10, 3) := by decide +kernel
theorem dX10_call_52 : decode cX10_call 52 = .ok (.aload_n 0, 1) := by decide +kernel
theorem dX10_call_53 : decode cX10_call 53 = .ok (.iconst 2, 1) := by decide +kernel
theorem dX10_call_54 : decode cX10_call 54 = .ok (.putfield 180, 3) := by decide +kernel
theorem dX10_call_57 : decode cX10_call 57 = .ok (.iconst 0, 1) := by decide +kernel
theorem dX10_call_58 : decode cX10_call 58 = .ok (.ireturn, 1) := by decide +kernel
theorem dX10_call_59 : decode cX10_call 59 = .ok (.aload_n 0, 1) := by decide +kernel
theorem dX10_call_60 : decode cX10_call 60 = .ok (.dup, 1) := by decide +kernel
theorem dX10_call_61 : decode cX10_call 61 = .ok (.getfield 293, 3) := by decide +kernel
theorem dX10_call_64 : decode cX10_call 64 = .ok (.iconst 1, 1) := by decide +kernel
theorem dX10_call_65 : decode cX10_call 65 = .ok (.iadd, 1) := by decide +kernel
theorem dX10_call_66 : decode cX10_call 66 = .ok (.putfield 293, 3) := by decide +kernel
theorem dX10_call_69 : decode cX10_call 69 = .ok (.iload_n 1, 1) := by decide +kernel
theorem dX10_call_70 : decode cX10_call 70 = .ok (.iconst (-1), 1) := by decide +kernel
theorem dX10_call_71 : decode cX10_call 71 = .ok (.if_icmp .ne 114, 3) := by decide +kernel
theorem dX10_call_74 : decode cX10_call 74 = .ok (.aload_n 0, 1) := by decide +kernel
theorem dX10_call_75 : decode cX10_call 75 = .ok (.getfield 192, 3) := by decide +kernel
theorem dX10_call_78 : decode cX10_call 78 = .ok (.istore_n 1, 1) := by decide +kernel
theorem dX10_call_79 : decode cX10_call 79 = .ok (.aload_n 0, 1) := by decide +kernel
theorem dX10_call_80 : decode cX10_call 80 = .ok (.dup, 1) := by decide +kernel
theorem dX10_call_81 : decode cX10_call 81 = .ok (.getfield 192, 3) := by decide +kernel
theorem dX10_call_84 : decode cX10_call 84 = .ok (.iconst 1, 1) := by decide +kernel
theorem dX10_call_85 : decode cX10_call 85 = .ok (.iadd, 1) := by decide +kernel
theorem dX10_call_86 : decode cX10_call 86 = .ok (.putfield 192, 3) := by decide +kernel
theorem dX10_call_89 : decode cX10_call 89 = .ok (.aload_n 0, 1) := by decide +kernel
theorem dX10_call_90 : decode cX10_call 90 = .ok (.getfield 112, 3) := by decide +kernel
theorem dX10_call_93 : decode cX10_call 93 = .ok (.iload_n 1, 1) := by decide +kernel
theorem dX10_call_94 : decode cX10_call 94 = .ok (.iconst 0, 1) := by decide +kernel
theorem dX10_call_95 : decode cX10_call 95 = .ok (.iastore, 1) := by decide +kernel
theorem dX10_call_96 : decode cX10_call 96 = .ok (.aload_n 0, 1) := by decide +kernel
theorem dX10_call_97 : decode cX10_call 97 = .ok (.getfield 115, 3) := by decide +kernel
theorem dX10_call_100 : decode cX10_call 100 = .ok (.iload_n 1, 1) := by decide +kernel
theorem dX10_call_101 : decode cX10_call 101 = .ok (.aload_n 0, 1) := by decide +kernel
theorem dX10_call_102 : decode cX10_call 102 = .ok (.getfield 168, 3) := by decide +kernel
theorem dX10_call_105 : decode cX10_call 105 = .ok (.iconst 0, 1) := by decide +kernel
theorem dX10_call_106 : decode cX10_call 106 = .ok (.iaload, 1) := by decide +kernel
theorem dX10_call_107 : decode cX10_call 107 = .ok (.iastore, 1) := by decide +kernel
theorem dX10_call_108 : decode cX10_call 108 = .ok (.aload_n 0, 1) := by decide +kernel
theorem dX10_call_109 : decode cX10_call 109 = .ok (.getfield 118, 3) := by decide +kernel
theorem dX10_call_112 : decode cX10_call 112 = .ok (.iload_n 1, 1) := by decide +kernel
theorem dX10_call_113 : decode cX10_call 113 = .ok (.aload_n 0, 1) := by decide +kernel
theorem dX10_call_114 : decode cX10_call 114 = .ok (.getfield 168, 3) := by decide +kernel
theorem dX10_call_117 : decode cX10_call 117 = .ok (.iconst 1, 1) := by decide +kernel
theorem dX10_call_118 : decode cX10_call 118 = .ok (.iaload, 1) := by decide +kernel
theorem dX10_call_119 : decode cX10_call 119 = .ok (.iastore, 1) := by decide +kernel
theorem dX10_call_120 : decode cX10_call 120 = .ok (.aload_n 0, 1) := by decide +kernel
theorem dX10_call_121 : decode cX10_call 121 = .ok (.getfield 121, 3) := by decide +kernel
theorem dX10_call_124 : decode cX10_call 124 = .ok (.iload_n 1, 1) := by decide +kernel
theorem dX10_call_125 : decode cX10_call 125 = .ok (.aload_n 0, 1) := by decide +kernel
theorem dX10_call_126 : decode cX10_call 126 = .ok (.getfield 171, 3) := by decide +kernel
theorem dX10_call_129 : decode cX10_call 129 = .ok (.iconst 4, 1) := by decide +kernel
theorem dX10_call_130 : decode cX10_call 130 = .ok (.baload, 1) := by decide +kernel
theorem dX10_call_131 : decode cX10_call 131 = .ok (.ifCond .ne 7, 3) := by decide +kernel
theorem dX10_call_134 : decode cX10_call 134 = .ok (.iconst 1, 1) := by decide +kernel
theorem dX10_call_135 : decode cX10_call 135 = .ok (.goto 4, 3) := by decide +kernel
theorem dX10_call_138 : decode cX10_call 138 = .ok (.iconst 0, 1) := by decide +kernel
theorem dX10_call_139 : decode cX10_call 139 = .ok (.bastore, 1) := by decide +kernel
theorem dX10_call_140 : decode cX10_call 140 = .ok (.aload_n 0, 1) := by decide +kernel
theorem dX10_call_141 : decode cX10_call 141 = .ok (.getfield 125, 3) := by decide +kernel
theorem dX10_call_144 : decode cX10_call 144 = .ok (.iload_n 1, 1) := by decide +kernel
theorem dX10_call_145 : decode cX10_call 145 = .ok (.iconst 0, 1) := by decide +kernel
theorem dX10_call_146 : decode cX10_call 146 = .ok (.iastore, 1) := by decide +kernel
theorem dX10_call_147 : decode cX10_call 147 = .ok (.aload_n 0, 1) := by decide +kernel
theorem dX10_call_148 : decode cX10_call 148 = .ok (.getfield 128, 3) := by decide +kernel
theorem dX10_call_151 : decode cX10_call 151 = .ok (.iload_n 1, 1) := by decide +kernel
theorem dX10_call_152 : decode cX10_call 152 = .ok (.iconst (-1), 1) := by decide +kernel
theorem dX10_call_153 : decode cX10_call 153 = .ok (.iastore, 1) := by decide +kernel
theorem dX10_call_154 : decode cX10_call 154 = .ok (.aload_n 0, 1) := by decide +kernel
theorem dX10_call_155 : decode cX10_call 155 = .ok (.getfield 131, 3) := by decide +kernel
theorem dX10_call_158 : decode cX10_call 158 = .ok (.iload_n 1, 1) := by decide +kernel
theorem dX10_call_159 : decode cX10_call 159 = .ok (.iconst 0, 1) := by decide +kernel
theorem dX10_call_160 : decode cX10_call 160 = .ok (.iastore, 1) := by decide +kernel
theorem dX10_call_161 : decode cX10_call 161 = .ok (.aload_n 0, 1) := by decide +kernel
theorem dX10_call_162 : decode cX10_call 162 = .ok (.getfield 134, 3) := by decide +kernel
theorem dX10_call_165 : decode cX10_call 165 = .ok (.iload_n 1, 1) := by decide +kernel
theorem dX10_call_166 : decode cX10_call 166 = .ok (.iconst 0, 1) := by decide +kernel
theorem dX10_call_167 : decode cX10_call 167 = .ok (.iastore, 1) := by decide +kernel
theorem dX10_call_168 : decode cX10_call 168 = .ok (.aload_n 0, 1) := by decide +kernel
theorem dX10_call_169 : decode cX10_call 169 = .ok (.getfield 140, 3) := by decide +kernel
theorem dX10_call_172 : decode cX10_call 172 = .ok (.iload_n 1, 1) := by decide +kernel
theorem dX10_call_173 : decode cX10_call 173 = .ok (.iconst (-1), 1) := by decide +kernel
theorem dX10_call_174 : decode cX10_call 174 = .ok (.iastore, 1) := by decide +kernel
theorem dX10_call_175 : decode cX10_call 175 = .ok (.aload_n 0, 1) := by decide +kernel
theorem dX10_call_176 : decode cX10_call 176 = .ok (.getfield 143, 3) := by decide +kernel
theorem dX10_call_179 : decode cX10_call 179 = .ok (.iload_n 1, 1) := by decide +kernel
theorem dX10_call_180 : decode cX10_call 180 = .ok (.iconst (-1), 1) := by decide +kernel
theorem dX10_call_181 : decode cX10_call 181 = .ok (.iastore, 1) := by decide +kernel
theorem dX10_call_182 : decode cX10_call 182 = .ok (.goto 52, 3) := by decide +kernel
theorem dX10_call_185 : decode cX10_call 185 = .ok (.aload_n 0, 1) := by decide +kernel
theorem dX10_call_186 : decode cX10_call 186 = .ok (.getfield 121, 3) := by decide +kernel
theorem dX10_call_189 : decode cX10_call 189 = .ok (.iload_n 1, 1) := by decide +kernel
theorem dX10_call_190 : decode cX10_call 190 = .ok (.baload, 1) := by decide +kernel
theorem dX10_call_191 : decode cX10_call 191 = .ok (.ifCond .ne 43, 3) := by decide +kernel
theorem dX10_call_194 : decode cX10_call 194 = .ok (.aload_n 0, 1) := by decide +kernel
theorem dX10_call_195 : decode cX10_call 195 = .ok (.getfield 171, 3) := by decide +kernel
theorem dX10_call_198 : decode cX10_call 198 = .ok (.iconst 4, 1) := by decide +kernel
theorem dX10_call_199 : decode cX10_call 199 = .ok (.baload, 1) := by decide +kernel
theorem dX10_call_200 : decode cX10_call 200 = .ok (.ifCond .ne 34, 3) := by decide +kernel
theorem dX10_call_203 : decode cX10_call 203 = .ok (.aload_n 0, 1) := by decide +kernel
theorem dX10_call_204 : decode cX10_call 204 = .ok (.getfield 115, 3) := by decide +kernel
theorem dX10_call_207 : decode cX10_call 207 = .ok (.iload_n 1, 1) := by decide +kernel
theorem dX10_call_208 : decode cX10_call 208 = .ok (.aload_n 0, 1) := by decide +kernel
theorem dX10_call_209 : decode cX10_call 209 = .ok (.getfield 168, 3) := by decide +kernel
theorem dX10_call_212 : decode cX10_call 212 = .ok (.iconst 0, 1) := by decide +kernel
theorem dX10_call_213 : decode cX10_call 213 = .ok (.iaload, 1) := by decide +kernel
theorem dX10_call_214 : decode cX10_call 214 = .ok (.iastore, 1) := by decide +kernel
theorem dX10_call_215 : decode cX10_call 215 = .ok (.aload_n 0, 1) := by decide +kernel
theorem dX10_call_216 : decode cX10_call 216 = .ok (.getfield 118, 3) := by decide +kernel
theorem dX10_call_219 : decode cX10_call 219 = .ok (.iload_n 1, 1) := by decide +kernel
theorem dX10_call_220 : decode cX10_call 220 = .ok (.aload_n 0, 1) := by decide +kernel
theorem dX10_call_221 : decode cX10_call 221 = .ok (.getfield 168, 3) := by decide +kernel
theorem dX10_call_224 : decode cX10_call 224 = .ok (.iconst 1, 1) := by decide +kernel
theorem dX10_call_225 : decode cX10_call 225 = .ok (.iaload, 1) := by decide +kernel
theorem dX10_call_226 : decode cX10_call 226 = .ok (.iastore, 1) := by decide +kernel
theorem dX10_call_227 : decode cX10_call 227 = .ok (.aload_n 0, 1) := by decide +kernel
theorem dX10_call_228 : decode cX10_call 228 = .ok (.getfield 121, 3) := by decide +kernel
theorem dX10_call_231 : decode cX10_call 231 = .ok (.iload_n 1, 1) := by decide +kernel
theorem dX10_call_232 : decode cX10_call 232 = .ok (.iconst 1, 1) := by decide +kernel
theorem dX10_call_233 : decode cX10_call 233 = .ok (.bastore, 1) := by decide +kernel
theorem dX10_call_234 : decode cX10_call 234 = .ok (.aload_n 0, 1) := by decide +kernel
theorem dX10_call_235 : decode cX10_call 235 = .ok (.getfield 168, 3) := by decide +kernel
theorem dX10_call_238 : decode cX10_call 238 = .ok (.iconst 2, 1) := by decide +kernel
theorem dX10_call_239 : decode cX10_call 239 = .ok (.iaload, 1) := by decide +kernel
theorem dX10_call_240 : decode cX10_call 240 = .ok (.aload_n 0, 1) := by decide +kernel
theorem dX10_call_241 : decode cX10_call 241 = .ok (.getfield 125, 3) := by decide +kernel
theorem dX10_call_244 : decode cX10_call 244 = .ok (.iload_n 1, 1) := by decide +kernel
theorem dX10_call_245 : decode cX10_call 245 = .ok (.iaload, 1) := by decide +kernel
theorem dX10_call_246 : decode cX10_call 246 = .ok (.if_icmp .le 15, 3) := by decide +kernel
theorem dX10_call_249 : decode cX10_call 249 = .ok (.aload_n 0, 1) := by decide +kernel
theorem dX10_call_250 : decode cX10_call 250 = .ok (.getfield 125, 3) := by decide +kernel
theorem dX10_call_253 : decode cX10_call 253 = .ok (.iload_n 1, 1) := by decide +kernel
theorem dX10_call_254 : decode cX10_call 254 = .ok (.aload_n 0, 1) := by decide +kernel
theorem dX10_call_255 : decode cX10_call 255 = .ok (.getfield 168, 3) := by decide +kernel
theorem dX10_call_258 : decode cX10_call 258 = .ok (.iconst 2, 1) := by decide +kernel
theorem dX10_call_259 : decode cX10_call 259 = .ok (.iaload, 1) := by decide +kernel
theorem dX10_call_260 : decode cX10_call 260 = .ok (.iastore, 1) := by decide +kernel
theorem dX10_call_261 : decode cX10_call 261 = .ok (.aload_n 0, 1) := by decide +kernel
theorem dX10_call_262 : decode cX10_call 262 = .ok (.getfield 168, 3) := by decide +kernel
theorem dX10_call_265 : decode cX10_call 265 = .ok (.iconst 3, 1) := by decide +kernel
theorem dX10_call_266 : decode cX10_call 266 = .ok (.iaload, 1) := by decide +kernel
theorem dX10_call_267 : decode cX10_call 267 = .ok (.iconst (-1), 1) := by decide +kernel
theorem dX10_call_268 : decode cX10_call 268 = .ok (.if_icmp .eq 40, 3) := by decide +kernel
theorem dX10_call_271 : decode cX10_call 271 = .ok (.aload_n 0, 1) := by decide +kernel
theorem dX10_call_272 : decode cX10_call 272 = .ok (.getfield 128, 3) := by decide +kernel
theorem dX10_call_275 : decode cX10_call 275 = .ok (.iload_n 1, 1) := by decide +kernel
theorem dX10_call_276 : decode cX10_call 276 = .ok (.iaload, 1) := by decide +kernel
theorem dX10_call_277 : decode cX10_call 277 = .ok (.iconst (-1), 1) := by decide +kernel
theorem dX10_call_278 : decode cX10_call 278 = .ok (.if_icmp .eq 18, 3) := by decide +kernel
theorem dX10_call_281 : decode cX10_call 281 = .ok (.aload_n 0, 1) := by decide +kernel
theorem dX10_call_282 : decode cX10_call 282 = .ok (.getfield 168, 3) := by decide +kernel
theorem dX10_call_285 : decode cX10_call 285 = .ok (.iconst 3, 1) := by decide +kernel
theorem dX10_call_286 : decode cX10_call 286 = .ok (.iaload, 1) := by decide +kernel
theorem dX10_call_287 : decode cX10_call 287 = .ok (.aload_n 0, 1) := by decide +kernel
theorem dX10_call_288 : decode cX10_call 288 = .ok (.getfield 128, 3) := by decide +kernel
theorem dX10_call_291 : decode cX10_call 291 = .ok (.iload_n 1, 1) := by decide +kernel
theorem dX10_call_292 : decode cX10_call 292 = .ok (.iaload, 1) := by decide +kernel
theorem dX10_call_293 : decode cX10_call 293 = .ok (.if_icmp .ge 15, 3) := by decide +kernel
theorem dX10_call_296 : decode cX10_call 296 = .ok (.aload_n 0, 1) := by decide +kernel
theorem dX10_call_297 : decode cX10_call 297 = .ok (.getfield 128, 3) := by decide +kernel
theorem dX10_call_300 : decode cX10_call 300 = .ok (.iload_n 1, 1) := by decide +kernel
theorem dX10_call_301 : decode cX10_call 301 = .ok (.aload_n 0, 1) := by decide +kernel
theorem dX10_call_302 : decode cX10_call 302 = .ok (.getfield 168, 3) := by decide +kernel
theorem dX10_call_305 : decode cX10_call 305 = .ok (.iconst 3, 1) := by decide +kernel
theorem dX10_call_306 : decode cX10_call 306 = .ok (.iaload, 1) := by decide +kernel
theorem dX10_call_307 : decode cX10_call 307 = .ok (.iastore, 1) := by decide +kernel
theorem dX10_call_308 : decode cX10_call 308 = .ok (.aload_n 0, 1) := by decide +kernel
theorem dX10_call_309 : decode cX10_call 309 = .ok (.getfield 131, 3) := by decide +kernel
theorem dX10_call_312 : decode cX10_call 312 = .ok (.iload_n 1, 1) := by decide +kernel
theorem dX10_call_313 : decode cX10_call 313 = .ok (.iaload, 1) := by decide +kernel
theorem dX10_call_314 : decode cX10_call 314 = .ok (.ifCond .ne 15, 3) := by decide +kernel
theorem dX10_call_317 : decode cX10_call 317 = .ok (.aload_n 0, 1) := by decide +kernel
theorem dX10_call_318 : decode cX10_call 318 = .ok (.getfield 131, 3) := by decide +kernel
theorem dX10_call_321 : decode cX10_call 321 = .ok (.iload_n 1, 1) := by decide +kernel
theorem dX10_call_322 : decode cX10_call 322 = .ok (.aload_n 0, 1) := by decide +kernel
theorem dX10_call_323 : decode cX10_call 323 = .ok (.getfield 168, 3) := by decide +kernel
theorem dX10_call_326 : decode cX10_call 326 = .ok (.iconst 4, 1) := by decide +kernel
theorem dX10_call_327 : decode cX10_call 327 = .ok (.iaload, 1) := by decide +kernel
theorem dX10_call_328 : decode cX10_call 328 = .ok (.iastore, 1) := by decide +kernel
theorem dX10_call_329 : decode cX10_call 329 = .ok (.aload_n 0, 1) := by decide +kernel
theorem dX10_call_330 : decode cX10_call 330 = .ok (.getfield 134, 3) := by decide +kernel
theorem dX10_call_333 : decode cX10_call 333 = .ok (.iload_n 1, 1) := by decide +kernel
theorem dX10_call_334 : decode cX10_call 334 = .ok (.dup2, 1) := by decide +kernel
theorem dX10_call_335 : decode cX10_call 335 = .ok (.iaload, 1) := by decide +kernel
theorem dX10_call_336 : decode cX10_call 336 = .ok (.iconst 1, 1) := by decide +kernel
theorem dX10_call_337 : decode cX10_call 337 = .ok (.iadd, 1) := by decide +kernel
theorem dX10_call_338 : decode cX10_call 338 = .ok (.iastore, 1) := by decide +kernel
theorem dX10_call_339 : decode cX10_call 339 = .ok (.aload_n 0, 1) := by decide +kernel
theorem dX10_call_340 : decode cX10_call 340 = .ok (.getfield 137, 3) := by decide +kernel
theorem dX10_call_343 : decode cX10_call 343 = .ok (.iload_n 1, 1) := by decide +kernel
theorem dX10_call_344 : decode cX10_call 344 = .ok (.aload_n 0, 1) := by decide +kernel
theorem dX10_call_345 : decode cX10_call 345 = .ok (.getfield 206, 3) := by decide +kernel
theorem dX10_call_348 : decode cX10_call 348 = .ok (.iastore, 1) := by decide +kernel
theorem dX10_call_349 : decode cX10_call 349 = .ok (.iload_n 1, 1) := by decide +kernel
theorem dX10_call_350 : decode cX10_call 350 = .ok (.ireturn, 1) := by decide +kernel
set_option maxRecDepth 20000 in
theorem ggX10_readLine_X10_isWord : GoodIn wsX10_readLine wsX10_isWord := goodIn_r _ [13, 3, 14, 15, 16, 17, 12, 18, 19, 20, 21, 22, 23, 24, 25, 26, 39, 40, 41, 42, 43, 44, 45, 46, 47, 48, 49, 50, 51, 52, 53, 54, 55, 56, 57, 58, 59, 60, 61, 62, 63, 64, 65, 66, 67, 68, 69, 70, 71, 72, 73, 74, 75, 76, 77, 78, 79, 80, 81, 82, 83, 84, 85, 86, 87, 88, 89, 90, 91, 92, 93, 94, 95, 96, 97, 98, 99, 100, 101, 102, 103, 104, 105, 106, 107] (by decide +kernel) (by decide +kernel)
set_option maxRecDepth 20000 in
theorem gX10_readLine_X10_isWord : GoodIn wsX10_readLine (wsV RX10 262 RX10 yX10_isWord wsX10_isWord) := goodIn_app (goodIn_of _ (by decide +kernel)) ggX10_readLine_X10_isWord
set_option maxRecDepth 20000 in
theorem ggX10_readLine_X10_wrong : GoodIn wsX10_readLine wsX10_wrong := goodIn_r _ [30, 31, 39, 40, 41, 42, 43, 44, 45, 46, 47, 48, 49, 50, 51, 52, 53, 54, 55, 56, 57, 58, 59, 60, 61, 62, 63, 64, 65, 66, 67, 68, 69, 70, 71, 72, 73, 74, 75, 76, 77, 78, 79, 80, 81, 82, 83, 84, 85, 86, 87, 88, 89, 90, 91, 92, 93, 94, 95, 96, 97, 98, 99, 100, 101, 102, 103, 104, 105, 106, 107] (by decide +kernel) (by decide +kernel)
set_option maxRecDepth 20000 in
theorem gX10_readLine_X10_wrong : GoodIn wsX10_readLine (wsV RX10 257 RX10 yX10_wrong wsX10_wrong) := goodIn_app (goodIn_of _ (by decide +kernel)) ggX10_readLine_X10_wrong
set_option maxRecDepth 20000 in
theorem ggX10_readLine_X10_wordEnd : GoodIn wsX10_readLine wsX10_wordEnd := goodIn_r _ [23, 3, 19, 14, 24, 25, 12, 26, 39, 40, 41, 42, 43, 44, 45, 46, 47, 48, 49, 50, 51, 52, 53, 54, 55, 56, 57, 58, 59, 60, 61, 62, 63, 64, 65, 66, 67, 68, 69, 70, 71, 72, 73, 74, 75, 76, 77, 78, 79, 80, 81, 82, 83, 84, 85, 86, 87, 88, 89, 90, 91, 92, 93, 94, 95, 96, 97, 98, 99, 100, 101, 102, 103, 104, 105, 106, 107] (by decide +kernel) (by decide +kernel)
set_option maxRecDepth 20000 in
theorem gX10_readLine_X10_wordEnd : GoodIn wsX10_readLine (wsV RX10 251 RX10 yX10_wordEnd wsX10_wordEnd) := goodIn_app (goodIn_of _ (by decide +kernel)) ggX10_readLine_X10_wordEnd
set_option maxRecDepth 20000 in
theorem ggX10_readLine_X10_sign : GoodIn wsX10_readLine wsX10_sign := goodIn_r _ [18, 3, 19, 14, 39, 40, 41, 42, 43, 44, 45, 46, 47, 48, 49, 50, 51, 52, 53, 54, 55, 56, 57, 58, 59, 60, 61, 62, 63, 64, 65, 66, 67, 68, 69, 70, 71, 72, 73, 74, 75, 76, 77, 78, 79, 80, 81, 82, 83, 84, 85, 86, 87, 88, 89, 90, 91, 92, 93, 94, 95, 96, 97, 98, 99, 100, 101, 102, 103, 104, 105, 106, 107] (by decide +kernel) (by decide +kernel)
set_option maxRecDepth 20000 in
theorem gX10_readLine_X10_sign : GoodIn wsX10_readLine (wsV RX10 247 RX10 yX10_sign wsX10_sign) := goodIn_app (goodIn_of _ (by decide +kernel)) ggX10_readLine_X10_sign
set_option maxRecDepth 20000 in
theorem ggX10_readLine_X10_number : GoodIn wsX10_readLine wsX10_number := goodIn_r _ [35, 3, 19, 14, 4, 15, 16, 17, 12, 18, 36, 37, 38, 27, 28, 29, 30, 31, 39, 40, 41, 42, 43, 44, 45, 46, 47, 48, 49, 50, 51, 52, 53, 54, 55, 56, 57, 58, 59, 60, 61, 62, 63, 64, 65, 66, 67, 68, 69, 70, 71, 72, 73, 74, 75, 76, 77, 78, 79, 80, 81, 82, 83, 84, 85, 86, 87, 88, 89, 90, 91, 92, 93, 94, 95, 96, 97, 98, 99, 100, 101, 102, 103, 104, 105, 106, 107] (by decide +kernel) (by decide +kernel)
set_option maxRecDepth 20000 in
theorem gX10_readLine_X10_number : GoodIn wsX10_readLine (wsV RX10 277 RX10 yX10_number wsX10_number) := goodIn_app (goodIn_of _ (by decide +kernel)) ggX10_readLine_X10_number
set_option maxRecDepth 20000 in
theorem ggX10_readLine_X10_isDigit : GoodIn wsX10_readLine wsX10_isDigit := goodIn_r _ [38] (by decide +kernel) (by decide +kernel)
set_option maxRecDepth 20000 in
theorem gX10_readLine_X10_isDigit : GoodIn wsX10_readLine (va_wsS RX10 254 yX10_isDigit wsX10_isDigit) := goodIn_app (goodIn_of _ (by decide +kernel)) ggX10_readLine_X10_isDigit
theorem dX10_readLine_0 : decode cX10_readLine 0 = .ok (.aload_n 0, 1) := by decide +kernel
theorem dX10_readLine_1 : decode cX10_readLine 1 = .ok (.ldc2_w 296, 3) := by decide +kernel
theorem dX10_readLine_4 : decode cX10_readLine 4 = .ok (.invokevirtual 262, 3) := by decide +kernel
theorem dX10_readLine_7 : decode cX10_readLine 7 = .ok (.istore_n 2, 1) := by decide +kernel
theorem dX10_readLine_8 : decode cX10_readLine 8 = .ok (.iload_n 2, 1) := by decide +kernel
theorem dX10_readLine_9 : decode cX10_readLine 9 = .ok (.ifCond .ne 22, 3) := by decide +kernel
theorem dX10_readLine_12 : decode cX10_readLine 12 = .ok (.aload_n 0, 1) := by decide +kernel
theorem dX10_readLine_13 : decode cX10_readLine 13 = .ok (.ldc2_w 298, 3) := by decide +kernel
theorem dX10_readLine_16 : decode cX10_readLine 16 = .ok (.invokevirtual 262, 3) := by decide +kernel
theorem dX10_readLine_19 : decode cX10_readLine 19 = .ok (.ifCond .ne 12, 3) := by decide +kernel
theorem dX10_readLine_22 : decode cX10_readLine 22 = .ok (.aload_n 0, 1) := by decide +kernel
theorem dX10_readLine_23 : decode cX10_readLine 23 = .ok (.aload_n 0, 1) := by decide +kernel
theorem dX10_readLine_24 : decode cX10_readLine 24 = .ok (.getfield 238, 3) := by decide +kernel
theorem dX10_readLine_27 : decode cX10_readLine 27 = .ok (.invokevirtual 257, 3) := by decide +kernel
theorem dX10_readLine_30 : decode cX10_readLine 30 = .ok (.ireturn, 1) := by decide +kernel
theorem dX10_readLine_31 : decode cX10_readLine 31 = .ok (.aload_n 0, 1) := by decide +kernel
theorem dX10_readLine_32 : decode cX10_readLine 32 = .ok (.getfield 238, 3) := by decide +kernel
theorem dX10_readLine_35 : decode cX10_readLine 35 = .ok (.istore_n 3, 1) := by decide +kernel
theorem dX10_readLine_36 : decode cX10_readLine 36 = .ok (.aload_n 0, 1) := by decide +kernel
theorem dX10_readLine_37 : decode cX10_readLine 37 = .ok (.aload_n 0, 1) := by decide +kernel
theorem dX10_readLine_38 : decode cX10_readLine 38 = .ok (.invokevirtual 251, 3) := by decide +kernel
theorem dX10_readLine_41 : decode cX10_readLine 41 = .ok (.putfield 238, 3) := by decide +kernel
theorem dX10_readLine_44 : decode cX10_readLine 44 = .ok (.aload_n 0, 1) := by decide +kernel
theorem dX10_readLine_45 : decode cX10_readLine 45 = .ok (.getfield 168, 3) := by decide +kernel
theorem dX10_readLine_48 : decode cX10_readLine 48 = .ok (.iconst 0, 1) := by decide +kernel
theorem dX10_readLine_49 : decode cX10_readLine 49 = .ok (.bipush 16, 2) := by decide +kernel
theorem dX10_readLine_51 : decode cX10_readLine 51 = .ok (.iastore, 1) := by decide +kernel
theorem dX10_readLine_52 : decode cX10_readLine 52 = .ok (.iload_n 3, 1) := by decide +kernel
theorem dX10_readLine_53 : decode cX10_readLine 53 = .ok (.istore 4, 2) := by decide +kernel
theorem dX10_readLine_55 : decode cX10_readLine 55 = .ok (.iload_n 2, 1) := by decide +kernel
theorem dX10_readLine_56 : decode cX10_readLine 56 = .ok (.ifCond .ne 28, 3) := by decide +kernel
theorem dX10_readLine_59 : decode cX10_readLine 59 = .ok (.aload_n 0, 1) := by decide +kernel
theorem dX10_readLine_60 : decode cX10_readLine 60 = .ok (.invokevirtual 247, 3) := by decide +kernel
theorem dX10_readLine_63 : decode cX10_readLine 63 = .ok (.istore 5, 2) := by decide +kernel
theorem dX10_readLine_65 : decode cX10_readLine 65 = .ok (.aload_n 0, 1) := by decide +kernel
theorem dX10_readLine_66 : decode cX10_readLine 66 = .ok (.getfield 238, 3) := by decide +kernel
theorem dX10_readLine_69 : decode cX10_readLine 69 = .ok (.istore 4, 2) := by decide +kernel
theorem dX10_readLine_71 : decode cX10_readLine 71 = .ok (.aload_n 0, 1) := by decide +kernel
theorem dX10_readLine_72 : decode cX10_readLine 72 = .ok (.iconst 0, 1) := by decide +kernel
theorem dX10_readLine_73 : decode cX10_readLine 73 = .ok (.iconst 0, 1) := by decide +kernel
theorem dX10_readLine_74 : decode cX10_readLine 74 = .ok (.bipush 15, 2) := by decide +kernel
theorem dX10_readLine_76 : decode cX10_readLine 76 = .ok (.invokevirtual 277, 3) := by decide +kernel
theorem dX10_readLine_79 : decode cX10_readLine 79 = .ok (.ifCond .ne 5, 3) := by decide +kernel
theorem dX10_readLine_82 : decode cX10_readLine 82 = .ok (.iconst 0, 1) := by decide +kernel
theorem dX10_readLine_83 : decode cX10_readLine 83 = .ok (.ireturn, 1) := by decide +kernel
theorem dX10_readLine_84 : decode cX10_readLine 84 = .ok (.bipush 10, 2) := by decide +kernel
theorem dX10_readLine_86 : decode cX10_readLine 86 = .ok (.istore 5, 2) := by decide +kernel
theorem dX10_readLine_88 : decode cX10_readLine 88 = .ok (.iload 5, 2) := by decide +kernel
theorem dX10_readLine_90 : decode cX10_readLine 90 = .ok (.iload_n 1, 1) := by decide +kernel
theorem dX10_readLine_91 : decode cX10_readLine 91 = .ok (.if_icmp .ge 32, 3) := by decide +kernel
theorem dX10_readLine_94 : decode cX10_readLine 94 = .ok (.aload_n 0, 1) := by decide +kernel
theorem dX10_readLine_95 : decode cX10_readLine 95 = .ok (.getfield 146, 3) := by decide +kernel
theorem dX10_readLine_98 : decode cX10_readLine 98 = .ok (.iload 5, 2) := by decide +kernel
theorem dX10_readLine_100 : decode cX10_readLine 100 = .ok (.iaload, 1) := by decide +kernel
theorem dX10_readLine_101 : decode cX10_readLine 101 = .ok (.aload_n 0, 1) := by decide +kernel
theorem dX10_readLine_102 : decode cX10_readLine 102 = .ok (.getfield 168, 3) := by decide +kernel
theorem dX10_readLine_105 : decode cX10_readLine 105 = .ok (.iconst 0, 1) := by decide +kernel
theorem dX10_readLine_106 : decode cX10_readLine 106 = .ok (.iaload, 1) := by decide +kernel
theorem dX10_readLine_107 : decode cX10_readLine 107 = .ok (.if_icmp .ne 10, 3) := by decide +kernel
theorem dX10_readLine_110 : decode cX10_readLine 110 = .ok (.aload_n 0, 1) := by decide +kernel
theorem dX10_readLine_111 : decode cX10_readLine 111 = .ok (.iload 4, 2) := by decide +kernel
theorem dX10_readLine_113 : decode cX10_readLine 113 = .ok (.invokevirtual 257, 3) := by decide +kernel
theorem dX10_readLine_116 : decode cX10_readLine 116 = .ok (.ireturn, 1) := by decide +kernel
theorem dX10_readLine_117 : decode cX10_readLine 117 = .ok (.iinc 5 1, 3) := by decide +kernel
theorem dX10_readLine_120 : decode cX10_readLine 120 = .ok (.goto (-32), 3) := by decide +kernel
theorem dX10_readLine_123 : decode cX10_readLine 123 = .ok (.aload_n 0, 1) := by decide +kernel
theorem dX10_readLine_124 : decode cX10_readLine 124 = .ok (.getfield 146, 3) := by decide +kernel
theorem dX10_readLine_127 : decode cX10_readLine 127 = .ok (.iload_n 1, 1) := by decide +kernel
theorem dX10_readLine_128 : decode cX10_readLine 128 = .ok (.aload_n 0, 1) := by decide +kernel
theorem dX10_readLine_129 : decode cX10_readLine 129 = .ok (.getfield 168, 3) := by decide +kernel
theorem dX10_readLine_132 : decode cX10_readLine 132 = .ok (.iconst 0, 1) := by decide +kernel
theorem dX10_readLine_133 : decode cX10_readLine 133 = .ok (.iaload, 1) := by decide +kernel
theorem dX10_readLine_134 : decode cX10_readLine 134 = .ok (.iastore, 1) := by decide +kernel
theorem dX10_readLine_135 : decode cX10_readLine 135 = .ok (.aload_n 0, 1) := by decide +kernel
theorem dX10_readLine_136 : decode cX10_readLine 136 = .ok (.getfield 149, 3) := by decide +kernel
theorem dX10_readLine_139 : decode cX10_readLine 139 = .ok (.iload_n 1, 1) := by decide +kernel
theorem dX10_readLine_140 : decode cX10_readLine 140 = .ok (.iconst 0, 1) := by decide +kernel
theorem dX10_readLine_141 : decode cX10_readLine 141 = .ok (.iastore, 1) := by decide +kernel
theorem dX10_readLine_142 : decode cX10_readLine 142 = .ok (.aload_n 0, 1) := by decide +kernel
theorem dX10_readLine_143 : decode cX10_readLine 143 = .ok (.invokevirtual 247, 3) := by decide +kernel
theorem dX10_readLine_146 : decode cX10_readLine 146 = .ok (.bipush 58, 2) := by decide +kernel
theorem dX10_readLine_148 : decode cX10_readLine 148 = .ok (.if_icmp .eq 12, 3) := by decide +kernel
theorem dX10_readLine_151 : decode cX10_readLine 151 = .ok (.aload_n 0, 1) := by decide +kernel
theorem dX10_readLine_152 : decode cX10_readLine 152 = .ok (.aload_n 0, 1) := by decide +kernel
theorem dX10_readLine_153 : decode cX10_readLine 153 = .ok (.getfield 238, 3) := by decide +kernel
theorem dX10_readLine_156 : decode cX10_readLine 156 = .ok (.invokevirtual 257, 3) := by decide +kernel
theorem dX10_readLine_159 : decode cX10_readLine 159 = .ok (.ireturn, 1) := by decide +kernel
theorem dX10_readLine_160 : decode cX10_readLine 160 = .ok (.aload_n 0, 1) := by decide +kernel
theorem dX10_readLine_161 : decode cX10_readLine 161 = .ok (.dup, 1) := by decide +kernel
theorem dX10_readLine_162 : decode cX10_readLine 162 = .ok (.getfield 238, 3) := by decide +kernel
theorem dX10_readLine_165 : decode cX10_readLine 165 = .ok (.iconst 1, 1) := by decide +kernel
theorem dX10_readLine_166 : decode cX10_readLine 166 = .ok (.iadd, 1) := by decide +kernel
theorem dX10_readLine_167 : decode cX10_readLine 167 = .ok (.putfield 238, 3) := by decide +kernel
theorem dX10_readLine_170 : decode cX10_readLine 170 = .ok (.iconst 1, 1) := by decide +kernel
theorem dX10_readLine_171 : decode cX10_readLine 171 = .ok (.istore 5, 2) := by decide +kernel
theorem dX10_readLine_173 : decode cX10_readLine 173 = .ok (.iload 5, 2) := by decide +kernel
theorem dX10_readLine_175 : decode cX10_readLine 175 = .ok (.ifCond .eq 124, 3) := by decide +kernel
theorem dX10_readLine_178 : decode cX10_readLine 178 = .ok (.aload_n 0, 1) := by decide +kernel
theorem dX10_readLine_179 : decode cX10_readLine 179 = .ok (.invokevirtual 247, 3) := by decide +kernel
theorem dX10_readLine_182 : decode cX10_readLine 182 = .ok (.istore 6, 2) := by decide +kernel
theorem dX10_readLine_184 : decode cX10_readLine 184 = .ok (.aload_n 0, 1) := by decide +kernel
theorem dX10_readLine_185 : decode cX10_readLine 185 = .ok (.getfield 238, 3) := by decide +kernel
theorem dX10_readLine_188 : decode cX10_readLine 188 = .ok (.istore 7, 2) := by decide +kernel
theorem dX10_readLine_190 : decode cX10_readLine 190 = .ok (.aload_n 0, 1) := by decide +kernel
theorem dX10_readLine_191 : decode cX10_readLine 191 = .ok (.iconst 1, 1) := by decide +kernel
theorem dX10_readLine_192 : decode cX10_readLine 192 = .ok (.iconst 0, 1) := by decide +kernel
theorem dX10_readLine_193 : decode cX10_readLine 193 = .ok (.aload_n 0, 1) := by decide +kernel
theorem dX10_readLine_194 : decode cX10_readLine 194 = .ok (.getfield 189, 3) := by decide +kernel
theorem dX10_readLine_197 : decode cX10_readLine 197 = .ok (.iconst 1, 1) := by decide +kernel
theorem dX10_readLine_198 : decode cX10_readLine 198 = .ok (.isub, 1) := by decide +kernel
theorem dX10_readLine_199 : decode cX10_readLine 199 = .ok (.invokevirtual 277, 3) := by decide +kernel
theorem dX10_readLine_202 : decode cX10_readLine 202 = .ok (.ifCond .ne 5, 3) := by decide +kernel
theorem dX10_readLine_205 : decode cX10_readLine 205 = .ok (.iconst 0, 1) := by decide +kernel
theorem dX10_readLine_206 : decode cX10_readLine 206 = .ok (.ireturn, 1) := by decide +kernel
theorem dX10_readLine_207 : decode cX10_readLine 207 = .ok (.iconst 0, 1) := by decide +kernel
theorem dX10_readLine_208 : decode cX10_readLine 208 = .ok (.istore 8, 2) := by decide +kernel
theorem dX10_readLine_210 : decode cX10_readLine 210 = .ok (.iload 8, 2) := by decide +kernel
theorem dX10_readLine_212 : decode cX10_readLine 212 = .ok (.aload_n 0, 1) := by decide +kernel
theorem dX10_readLine_213 : decode cX10_readLine 213 = .ok (.getfield 149, 3) := by decide +kernel
theorem dX10_readLine_216 : decode cX10_readLine 216 = .ok (.iload_n 1, 1) := by decide +kernel
theorem dX10_readLine_217 : decode cX10_readLine 217 = .ok (.iaload, 1) := by decide +kernel
theorem dX10_readLine_218 : decode cX10_readLine 218 = .ok (.if_icmp .ge 37, 3) := by decide +kernel
theorem dX10_readLine_221 : decode cX10_readLine 221 = .ok (.aload_n 0, 1) := by decide +kernel
theorem dX10_readLine_222 : decode cX10_readLine 222 = .ok (.getfield 152, 3) := by decide +kernel
theorem dX10_readLine_225 : decode cX10_readLine 225 = .ok (.bipush 12, 2) := by decide +kernel
theorem dX10_readLine_227 : decode cX10_readLine 227 = .ok (.iload_n 1, 1) := by decide +kernel
theorem dX10_readLine_228 : decode cX10_readLine 228 = .ok (.imul, 1) := by decide +kernel
theorem dX10_readLine_229 : decode cX10_readLine 229 = .ok (.iload 8, 2) := by decide +kernel
theorem dX10_readLine_231 : decode cX10_readLine 231 = .ok (.iadd, 1) := by decide +kernel
theorem dX10_readLine_232 : decode cX10_readLine 232 = .ok (.iaload, 1) := by decide +kernel
theorem dX10_readLine_233 : decode cX10_readLine 233 = .ok (.aload_n 0, 1) := by decide +kernel
theorem dX10_readLine_234 : decode cX10_readLine 234 = .ok (.getfield 168, 3) := by decide +kernel
theorem dX10_readLine_237 : decode cX10_readLine 237 = .ok (.iconst 1, 1) := by decide +kernel
theorem dX10_readLine_238 : decode cX10_readLine 238 = .ok (.iaload, 1) := by decide +kernel
theorem dX10_readLine_239 : decode cX10_readLine 239 = .ok (.if_icmp .ne 10, 3) := by decide +kernel
theorem dX10_readLine_242 : decode cX10_readLine 242 = .ok (.aload_n 0, 1) := by decide +kernel
theorem dX10_readLine_243 : decode cX10_readLine 243 = .ok (.iload 7, 2) := by decide +kernel
theorem dX10_readLine_245 : decode cX10_readLine 245 = .ok (.invokevirtual 257, 3) := by decide +kernel
theorem dX10_readLine_248 : decode cX10_readLine 248 = .ok (.ireturn, 1) := by decide +kernel
theorem dX10_readLine_249 : decode cX10_readLine 249 = .ok (.iinc 8 1, 3) := by decide +kernel
theorem dX10_readLine_252 : decode cX10_readLine 252 = .ok (.goto (-42), 3) := by decide +kernel
theorem dX10_readLine_255 : decode cX10_readLine 255 = .ok (.aload_n 0, 1) := by decide +kernel
theorem dX10_readLine_256 : decode cX10_readLine 256 = .ok (.getfield 152, 3) := by decide +kernel
theorem dX10_readLine_259 : decode cX10_readLine 259 = .ok (.bipush 12, 2) := by decide +kernel
theorem dX10_readLine_261 : decode cX10_readLine 261 = .ok (.iload_n 1, 1) := by decide +kernel
theorem dX10_readLine_262 : decode cX10_readLine 262 = .ok (.imul, 1) := by decide +kernel
theorem dX10_readLine_263 : decode cX10_readLine 263 = .ok (.aload_n 0, 1) := by decide +kernel
theorem dX10_readLine_264 : decode cX10_readLine 264 = .ok (.getfield 149, 3) := by decide +kernel
theorem dX10_readLine_267 : decode cX10_readLine 267 = .ok (.iload_n 1, 1) := by decide +kernel
theorem dX10_readLine_268 : decode cX10_readLine 268 = .ok (.iaload, 1) := by decide +kernel
theorem dX10_readLine_269 : decode cX10_readLine 269 = .ok (.iadd, 1) := by decide +kernel
theorem dX10_readLine_270 : decode cX10_readLine 270 = .ok (.aload_n 0, 1) := by decide +kernel
theorem dX10_readLine_271 : decode cX10_readLine 271 = .ok (.getfield 168, 3) := by decide +kernel
theorem dX10_readLine_274 : decode cX10_readLine 274 = .ok (.iconst 1, 1) := by decide +kernel
theorem dX10_readLine_275 : decode cX10_readLine 275 = .ok (.iaload, 1) := by decide +kernel
theorem dX10_readLine_276 : decode cX10_readLine 276 = .ok (.iastore, 1) := by decide +kernel
theorem dX10_readLine_277 : decode cX10_readLine 277 = .ok (.aload_n 0, 1) := by decide +kernel
theorem dX10_readLine_278 : decode cX10_readLine 278 = .ok (.getfield 149, 3) := by decide +kernel
theorem dX10_readLine_281 : decode cX10_readLine 281 = .ok (.iload_n 1, 1) := by decide +kernel
theorem dX10_readLine_282 : decode cX10_readLine 282 = .ok (.dup2, 1) := by decide +kernel
theorem dX10_readLine_283 : decode cX10_readLine 283 = .ok (.iaload, 1) := by decide +kernel
theorem dX10_readLine_284 : decode cX10_readLine 284 = .ok (.iconst 1, 1) := by decide +kernel
theorem dX10_readLine_285 : decode cX10_readLine 285 = .ok (.iadd, 1) := by decide +kernel
theorem dX10_readLine_286 : decode cX10_readLine 286 = .ok (.iastore, 1) := by decide +kernel
theorem dX10_readLine_287 : decode cX10_readLine 287 = .ok (.aload_n 0, 1) := by decide +kernel
theorem dX10_readLine_288 : decode cX10_readLine 288 = .ok (.invokevirtual 247, 3) := by decide +kernel
theorem dX10_readLine_291 : decode cX10_readLine 291 = .ok (.invokestatic 254, 3) := by decide +kernel
theorem dX10_readLine_294 : decode cX10_readLine 294 = .ok (.istore 5, 2) := by decide +kernel
theorem dX10_readLine_296 : decode cX10_readLine 296 = .ok (.goto (-123), 3) := by decide +kernel
theorem dX10_readLine_299 : decode cX10_readLine 299 = .ok (.iconst 1, 1) := by decide +kernel
theorem dX10_readLine_300 : decode cX10_readLine 300 = .ok (.ireturn, 1) := by decide +kernel
set_option maxRecDepth 20000 in
theorem ggX10_readTurns_X10_sign : GoodIn wsX10_readTurns wsX10_sign := goodIn_r _ [7, 2, 8, 9, 44, 45, 46, 47, 48, 49, 50, 51, 52, 53, 54, 55, 56, 57, 58, 59, 60, 61, 62, 63, 64, 65, 66, 67, 68, 69, 70, 71, 72, 73, 74, 75, 76, 77, 78, 79, 80, 81, 82, 83, 84, 85, 86, 87, 88, 89, 90, 91, 92, 93, 94, 95, 96, 97, 98, 99, 100, 101, 102, 103, 104, 105, 106, 107, 108, 109, 110, 111, 112] (by decide +kernel) (by decide +kernel)
set_option maxRecDepth 20000 in
theorem gX10_readTurns_X10_sign : GoodIn wsX10_readTurns (wsV RX10 247 RX10 yX10_sign wsX10_sign) := goodIn_app (goodIn_of _ (by decide +kernel)) ggX10_readTurns_X10_sign
set_option maxRecDepth 20000 in
theorem ggX10_readTurns_X10_wrong : GoodIn wsX10_readTurns wsX10_wrong := goodIn_r _ [13, 14, 44, 45, 46, 47, 48, 49, 50, 51, 52, 53, 54, 55, 56, 57, 58, 59, 60, 61, 62, 63, 64, 65, 66, 67, 68, 69, 70, 71, 72, 73, 74, 75, 76, 77, 78, 79, 80, 81, 82, 83, 84, 85, 86, 87, 88, 89, 90, 91, 92, 93, 94, 95, 96, 97, 98, 99, 100, 101, 102, 103, 104, 105, 106, 107, 108, 109, 110, 111, 112] (by decide +kernel) (by decide +kernel)
set_option maxRecDepth 20000 in
theorem gX10_readTurns_X10_wrong : GoodIn wsX10_readTurns (wsV RX10 257 RX10 yX10_wrong wsX10_wrong) := goodIn_app (goodIn_of _ (by decide +kernel)) ggX10_readTurns_X10_wrong
set_option maxRecDepth 20000 in
theorem ggX10_readTurns_X10_readLine : GoodIn wsX10_readTurns wsX10_readLine := goodIn_r _ [18, 19, 20, 2, 21, 22, 23, 24, 25, 26, 27, 28, 6, 29, 9, 3, 4, 5, 7, 8, 30, 31, 32, 33, 34, 35, 36, 10, 11, 12, 13, 14, 37, 38, 39, 40, 41, 42, 43, 44, 45, 46, 47, 48, 49, 50, 51, 52, 53, 54, 55, 56, 57, 58, 59, 60, 61, 62, 63, 64, 65, 66, 67, 68, 69, 70, 71, 72, 73, 74, 75, 76, 77, 78, 79, 80, 81, 82, 83, 84, 85, 86, 87, 88, 89, 90, 91, 92, 93, 94, 95, 96, 97, 98, 99, 100, 101, 102, 103, 104, 105, 106, 107, 108, 109, 110, 111, 112] (by decide +kernel) (by decide +kernel)
set_option maxRecDepth 20000 in
theorem gX10_readTurns_X10_readLine : GoodIn wsX10_readTurns (wsV RX10 303 RX10 yX10_readLine wsX10_readLine) := goodIn_app (goodIn_of _ (by decide +kernel)) ggX10_readTurns_X10_readLine
theorem dX10_readTurns_0 : decode cX10_readTurns 0 = .ok (.aload_n 0, 1) := by decide +kernel
theorem dX10_readTurns_1 : decode cX10_readTurns 1 = .ok (.iconst 0, 1) := by decide +kernel
theorem dX10_readTurns_2 : decode cX10_readTurns 2 = .ok (.putfield 300, 3) := by decide +kernel
theorem dX10_readTurns_5 : decode cX10_readTurns 5 = .ok (.iconst 1, 1) := by decide +kernel
theorem dX10_readTurns_6 : decode cX10_readTurns 6 = .ok (.istore_n 1, 1) := by decide +kernel
theorem dX10_readTurns_7 : decode cX10_readTurns 7 = .ok (.iload_n 1, 1) := by decide +kernel
theorem dX10_readTurns_8 : decode cX10_readTurns 8 = .ok (.ifCond .eq 84, 3) := by decide +kernel
theorem dX10_readTurns_11 : decode cX10_readTurns 11 = .ok (.aload_n 0, 1) := by decide +kernel
theorem dX10_readTurns_12 : decode cX10_readTurns 12 = .ok (.invokevirtual 247, 3) := by decide +kernel
theorem dX10_readTurns_15 : decode cX10_readTurns 15 = .ok (.istore_n 2, 1) := by decide +kernel
theorem dX10_readTurns_16 : decode cX10_readTurns 16 = .ok (.aload_n 0, 1) := by decide +kernel
theorem dX10_readTurns_17 : decode cX10_readTurns 17 = .ok (.getfield 300, 3) := by decide +kernel
theorem dX10_readTurns_20 : decode cX10_readTurns 20 = .ok (.bipush 10, 2) := by decide +kernel
theorem dX10_readTurns_22 : decode cX10_readTurns 22 = .ok (.if_icmp .ne 12, 3) := by decide +kernel
theorem dX10_readTurns_25 : decode cX10_readTurns 25 = .ok (.aload_n 0, 1) := by decide +kernel
theorem dX10_readTurns_26 : decode cX10_readTurns 26 = .ok (.aload_n 0, 1) := by decide +kernel
theorem dX10_readTurns_27 : decode cX10_readTurns 27 = .ok (.getfield 238, 3) := by decide +kernel
theorem dX10_readTurns_30 : decode cX10_readTurns 30 = .ok (.invokevirtual 257, 3) := by decide +kernel
theorem dX10_readTurns_33 : decode cX10_readTurns 33 = .ok (.ireturn, 1) := by decide +kernel
theorem dX10_readTurns_34 : decode cX10_readTurns 34 = .ok (.aload_n 0, 1) := by decide +kernel
theorem dX10_readTurns_35 : decode cX10_readTurns 35 = .ok (.bipush 10, 2) := by decide +kernel
theorem dX10_readTurns_37 : decode cX10_readTurns 37 = .ok (.aload_n 0, 1) := by decide +kernel
theorem dX10_readTurns_38 : decode cX10_readTurns 38 = .ok (.getfield 300, 3) := by decide +kernel
theorem dX10_readTurns_41 : decode cX10_readTurns 41 = .ok (.iadd, 1) := by decide +kernel
theorem dX10_readTurns_42 : decode cX10_readTurns 42 = .ok (.invokevirtual 303, 3) := by decide +kernel
theorem dX10_readTurns_45 : decode cX10_readTurns 45 = .ok (.ifCond .ne 5, 3) := by decide +kernel
theorem dX10_readTurns_48 : decode cX10_readTurns 48 = .ok (.iconst 0, 1) := by decide +kernel
theorem dX10_readTurns_49 : decode cX10_readTurns 49 = .ok (.ireturn, 1) := by decide +kernel
theorem dX10_readTurns_50 : decode cX10_readTurns 50 = .ok (.aload_n 0, 1) := by decide +kernel
theorem dX10_readTurns_51 : decode cX10_readTurns 51 = .ok (.dup, 1) := by decide +kernel
theorem dX10_readTurns_52 : decode cX10_readTurns 52 = .ok (.getfield 300, 3) := by decide +kernel
theorem dX10_readTurns_55 : decode cX10_readTurns 55 = .ok (.iconst 1, 1) := by decide +kernel
theorem dX10_readTurns_56 : decode cX10_readTurns 56 = .ok (.iadd, 1) := by decide +kernel
theorem dX10_readTurns_57 : decode cX10_readTurns 57 = .ok (.putfield 300, 3) := by decide +kernel
