theorem dX12_init_29 : decode cX12_init 29 = .ok (.putfield 19, 3) := by decide +kernel
theorem dX12_init_32 : decode cX12_init 32 = .ok (.aload_n 0, 1) := by decide +kernel
theorem dX12_init_33 : decode cX12_init 33 = .ok (.iconst 4, 1) := by decide +kernel
theorem dX12_init_34 : decode cX12_init 34 = .ok (.newarray .int, 2) := by decide +kernel
theorem dX12_init_36 : decode cX12_init 36 = .ok (.putfield 22, 3) := by decide +kernel
theorem dX12_init_39 : decode cX12_init 39 = .ok (.aload_n 0, 1) := by decide +kernel
theorem dX12_init_40 : decode cX12_init 40 = .ok (.bipush 6, 2) := by decide +kernel
theorem dX12_init_42 : decode cX12_init 42 = .ok (.newarray .int, 2) := by decide +kernel
theorem dX12_init_44 : decode cX12_init 44 = .ok (.putfield 25, 3) := by decide +kernel
theorem dX12_init_47 : decode cX12_init 47 = .ok (.aload_n 0, 1) := by decide +kernel
theorem dX12_init_48 : decode cX12_init 48 = .ok (.iconst 3, 1) := by decide +kernel
theorem dX12_init_49 : decode cX12_init 49 = .ok (.newarray .int, 2) := by decide +kernel
theorem dX12_init_51 : decode cX12_init 51 = .ok (.putfield 28, 3) := by decide +kernel
theorem dX12_init_54 : decode cX12_init 54 = .ok (.aload_n 0, 1) := by decide +kernel
theorem dX12_init_55 : decode cX12_init 55 = .ok (.iconst 3, 1) := by decide +kernel
theorem dX12_init_56 : decode cX12_init 56 = .ok (.newarray .int, 2) := by decide +kernel
theorem dX12_init_58 : decode cX12_init 58 = .ok (.putfield 31, 3) := by decide +kernel
theorem dX12_init_61 : decode cX12_init 61 = .ok (.aload_n 0, 1) := by decide +kernel
theorem dX12_init_62 : decode cX12_init 62 = .ok (.iconst 4, 1) := by decide +kernel
theorem dX12_init_63 : decode cX12_init 63 = .ok (.newarray .int, 2) := by decide +kernel
theorem dX12_init_65 : decode cX12_init 65 = .ok (.putfield 34, 3) := by decide +kernel
theorem dX12_init_68 : decode cX12_init 68 = .ok (.aload_n 0, 1) := by decide +kernel
theorem dX12_init_69 : decode cX12_init 69 = .ok (.iconst 4, 1) := by decide +kernel
theorem dX12_init_70 : decode cX12_init 70 = .ok (.newarray .int, 2) := by decide +kernel
theorem dX12_init_72 : decode cX12_init 72 = .ok (.putfield 37, 3) := by decide +kernel
theorem dX12_init_75 : decode cX12_init 75 = .ok (.aload_n 0, 1) := by decide +kernel
theorem dX12_init_76 : decode cX12_init 76 = .ok (.bipush 32, 2) := by decide +kernel
theorem dX12_init_78 : decode cX12_init 78 = .ok (.newarray .int, 2) := by decide +kernel
theorem dX12_init_80 : decode cX12_init 80 = .ok (.putfield 40, 3) := by decide +kernel
theorem dX12_init_83 : decode cX12_init 83 = .ok (.aload_n 0, 1) := by decide +kernel
theorem dX12_init_84 : decode cX12_init 84 = .ok (.bipush 32, 2) := by decide +kernel
theorem dX12_init_86 : decode cX12_init 86 = .ok (.newarray .int, 2) := by decide +kernel
theorem dX12_init_88 : decode cX12_init 88 = .ok (.putfield 43, 3) := by decide +kernel
theorem dX12_init_91 : decode cX12_init 91 = .ok (.aload_n 0, 1) := by decide +kernel
theorem dX12_init_92 : decode cX12_init 92 = .ok (.bipush 32, 2) := by decide +kernel
theorem dX12_init_94 : decode cX12_init 94 = .ok (.newarray .int, 2) := by decide +kernel
theorem dX12_init_96 : decode cX12_init 96 = .ok (.putfield 46, 3) := by decide +kernel
theorem dX12_init_99 : decode cX12_init 99 = .ok (.aload_n 0, 1) := by decide +kernel
theorem dX12_init_100 : decode cX12_init 100 = .ok (.bipush 16, 2) := by decide +kernel
theorem dX12_init_102 : decode cX12_init 102 = .ok (.newarray .int, 2) := by decide +kernel
theorem dX12_init_104 : decode cX12_init 104 = .ok (.putfield 49, 3) := by decide +kernel
theorem dX12_init_107 : decode cX12_init 107 = .ok (.aload_n 0, 1) := by decide +kernel
theorem dX12_init_108 : decode cX12_init 108 = .ok (.bipush 16, 2) := by decide +kernel
theorem dX12_init_110 : decode cX12_init 110 = .ok (.newarray .int, 2) := by decide +kernel
theorem dX12_init_112 : decode cX12_init 112 = .ok (.putfield 52, 3) := by decide +kernel
theorem dX12_init_115 : decode cX12_init 115 = .ok (.aload_n 0, 1) := by decide +kernel
theorem dX12_init_116 : decode cX12_init 116 = .ok (.bipush 16, 2) := by decide +kernel
theorem dX12_init_118 : decode cX12_init 118 = .ok (.newarray .int, 2) := by decide +kernel
theorem dX12_init_120 : decode cX12_init 120 = .ok (.putfield 55, 3) := by decide +kernel
theorem dX12_init_123 : decode cX12_init 123 = .ok (.aload_n 0, 1) := by decide +kernel
theorem dX12_init_124 : decode cX12_init 124 = .ok (.bipush 16, 2) := by decide +kernel
theorem dX12_init_126 : decode cX12_init 126 = .ok (.newarray .long, 2) := by decide +kernel
theorem dX12_init_128 : decode cX12_init 128 = .ok (.putfield 58, 3) := by decide +kernel
theorem dX12_init_131 : decode cX12_init 131 = .ok (.aload_n 0, 1) := by decide +kernel
theorem dX12_init_132 : decode cX12_init 132 = .ok (.bipush 16, 2) := by decide +kernel
theorem dX12_init_134 : decode cX12_init 134 = .ok (.newarray .int, 2) := by decide +kernel
theorem dX12_init_136 : decode cX12_init 136 = .ok (.putfield 62, 3) := by decide +kernel
theorem dX12_init_139 : decode cX12_init 139 = .ok (.aload_n 0, 1) := by decide +kernel
theorem dX12_init_140 : decode cX12_init 140 = .ok (.bipush 16, 2) := by decide +kernel
theorem dX12_init_142 : decode cX12_init 142 = .ok (.newarray .int, 2) := by decide +kernel
theorem dX12_init_144 : decode cX12_init 144 = .ok (.putfield 65, 3) := by decide +kernel
theorem dX12_init_147 : decode cX12_init 147 = .ok (.aload_n 0, 1) := by decide +kernel
theorem dX12_init_148 : decode cX12_init 148 = .ok (.bipush 16, 2) := by decide +kernel
theorem dX12_init_150 : decode cX12_init 150 = .ok (.newarray .boolean, 2) := by decide +kernel
theorem dX12_init_152 : decode cX12_init 152 = .ok (.putfield 68, 3) := by decide +kernel
theorem dX12_init_155 : decode cX12_init 155 = .ok (.aload_n 0, 1) := by decide +kernel
theorem dX12_init_156 : decode cX12_init 156 = .ok (.bipush 6, 2) := by decide +kernel
theorem dX12_init_158 : decode cX12_init 158 = .ok (.newarray .int, 2) := by decide +kernel
theorem dX12_init_160 : decode cX12_init 160 = .ok (.putfield 72, 3) := by decide +kernel
theorem dX12_init_163 : decode cX12_init 163 = .ok (.aload_n 0, 1) := by decide +kernel
theorem dX12_init_164 : decode cX12_init 164 = .ok (.bipush 6, 2) := by decide +kernel
theorem dX12_init_166 : decode cX12_init 166 = .ok (.newarray .int, 2) := by decide +kernel
theorem dX12_init_168 : decode cX12_init 168 = .ok (.putfield 75, 3) := by decide +kernel
theorem dX12_init_171 : decode cX12_init 171 = .ok (.aload_n 0, 1) := by decide +kernel
theorem dX12_init_172 : decode cX12_init 172 = .ok (.bipush 6, 2) := by decide +kernel
theorem dX12_init_174 : decode cX12_init 174 = .ok (.newarray .int, 2) := by decide +kernel
theorem dX12_init_176 : decode cX12_init 176 = .ok (.putfield 78, 3) := by decide +kernel
theorem dX12_init_179 : decode cX12_init 179 = .ok (.aload_n 0, 1) := by decide +kernel
theorem dX12_init_180 : decode cX12_init 180 = .ok (.bipush 6, 2) := by decide +kernel
theorem dX12_init_182 : decode cX12_init 182 = .ok (.newarray .int, 2) := by decide +kernel
theorem dX12_init_184 : decode cX12_init 184 = .ok (.putfield 81, 3) := by decide +kernel
theorem dX12_init_187 : decode cX12_init 187 = .ok (.aload_n 0, 1) := by decide +kernel
theorem dX12_init_188 : decode cX12_init 188 = .ok (.bipush 6, 2) := by decide +kernel
theorem dX12_init_190 : decode cX12_init 190 = .ok (.newarray .boolean, 2) := by decide +kernel
theorem dX12_init_192 : decode cX12_init 192 = .ok (.putfield 84, 3) := by decide +kernel
theorem dX12_init_195 : decode cX12_init 195 = .ok (.aload_n 0, 1) := by decide +kernel
theorem dX12_init_196 : decode cX12_init 196 = .ok (.bipush 60, 2) := by decide +kernel
theorem dX12_init_198 : decode cX12_init 198 = .ok (.newarray .int, 2) := by decide +kernel
theorem dX12_init_200 : decode cX12_init 200 = .ok (.putfield 87, 3) := by decide +kernel
theorem dX12_init_203 : decode cX12_init 203 = .ok (.aload_n 0, 1) := by decide +kernel
theorem dX12_init_204 : decode cX12_init 204 = .ok (.bipush 60, 2) := by decide +kernel
theorem dX12_init_206 : decode cX12_init 206 = .ok (.newarray .boolean, 2) := by decide +kernel
theorem dX12_init_208 : decode cX12_init 208 = .ok (.putfield 90, 3) := by decide +kernel
theorem dX12_init_211 : decode cX12_init 211 = .ok (.aload_n 0, 1) := by decide +kernel
theorem dX12_init_212 : decode cX12_init 212 = .ok (.sipush 909, 3) := by decide +kernel
theorem dX12_init_215 : decode cX12_init 215 = .ok (.newarray .int, 2) := by decide +kernel
theorem dX12_init_217 : decode cX12_init 217 = .ok (.putfield 93, 3) := by decide +kernel
theorem dX12_init_220 : decode cX12_init 220 = .ok (.aload_n 0, 1) := by decide +kernel
theorem dX12_init_221 : decode cX12_init 221 = .ok (.sipush 909, 3) := by decide +kernel
theorem dX12_init_224 : decode cX12_init 224 = .ok (.newarray .int, 2) := by decide +kernel
theorem dX12_init_226 : decode cX12_init 226 = .ok (.putfield 96, 3) := by decide +kernel
theorem dX12_init_229 : decode cX12_init 229 = .ok (.aload_n 0, 1) := by decide +kernel
theorem dX12_init_230 : decode cX12_init 230 = .ok (.bipush 9, 2) := by decide +kernel
theorem dX12_init_232 : decode cX12_init 232 = .ok (.newarray .int, 2) := by decide +kernel
theorem dX12_init_234 : decode cX12_init 234 = .ok (.putfield 99, 3) := by decide +kernel
theorem dX12_init_237 : decode cX12_init 237 = .ok (.aload_n 0, 1) := by decide +kernel
theorem dX12_init_238 : decode cX12_init 238 = .ok (.bipush 9, 2) := by decide +kernel
theorem dX12_init_240 : decode cX12_init 240 = .ok (.newarray .boolean, 2) := by decide +kernel
theorem dX12_init_242 : decode cX12_init 242 = .ok (.putfield 102, 3) := by decide +kernel
theorem dX12_init_245 : decode cX12_init 245 = .ok (.aload_n 0, 1) := by decide +kernel
theorem dX12_init_246 : decode cX12_init 246 = .ok (.sipush 400, 3) := by decide +kernel
theorem dX12_init_249 : decode cX12_init 249 = .ok (.newarray .int, 2) := by decide +kernel
theorem dX12_init_251 : decode cX12_init 251 = .ok (.putfield 105, 3) := by decide +kernel
theorem dX12_init_254 : decode cX12_init 254 = .ok (.aload_n 0, 1) := by decide +kernel
theorem dX12_init_255 : decode cX12_init 255 = .ok (.bipush 7, 2) := by decide +kernel
theorem dX12_init_257 : decode cX12_init 257 = .ok (.newarray .int, 2) := by decide +kernel
theorem dX12_init_259 : decode cX12_init 259 = .ok (.putfield 108, 3) := by decide +kernel
theorem dX12_init_262 : decode cX12_init 262 = .ok (.aload_n 0, 1) := by decide +kernel
theorem dX12_init_263 : decode cX12_init 263 = .ok (.bipush 6, 2) := by decide +kernel
theorem dX12_init_265 : decode cX12_init 265 = .ok (.newarray .int, 2) := by decide +kernel
theorem dX12_init_267 : decode cX12_init 267 = .ok (.putfield 111, 3) := by decide +kernel
theorem dX12_init_270 : decode cX12_init 270 = .ok (.aload_n 0, 1) := by decide +kernel
theorem dX12_init_271 : decode cX12_init 271 = .ok (.bipush 16, 2) := by decide +kernel
theorem dX12_init_273 : decode cX12_init 273 = .ok (.newarray .int, 2) := by decide +kernel
theorem dX12_init_275 : decode cX12_init 275 = .ok (.putfield 114, 3) := by decide +kernel
theorem dX12_init_278 : decode cX12_init 278 = .ok (.aload_n 0, 1) := by decide +kernel
theorem dX12_init_279 : decode cX12_init 279 = .ok (.bipush 17, 2) := by decide +kernel
theorem dX12_init_281 : decode cX12_init 281 = .ok (.newarray .int, 2) := by decide +kernel
theorem dX12_init_283 : decode cX12_init 283 = .ok (.putfield 117, 3) := by decide +kernel
theorem dX12_init_286 : decode cX12_init 286 = .ok (.aload_n 0, 1) := by decide +kernel
theorem dX12_init_287 : decode cX12_init 287 = .ok (.bipush 61, 2) := by decide +kernel
theorem dX12_init_289 : decode cX12_init 289 = .ok (.newarray .long, 2) := by decide +kernel
theorem dX12_init_291 : decode cX12_init 291 = .ok (.putfield 120, 3) := by decide +kernel
theorem dX12_init_294 : decode cX12_init 294 = .ok (.iconst 0, 1) := by decide +kernel
theorem dX12_init_295 : decode cX12_init 295 = .ok (.istore_n 1, 1) := by decide +kernel
theorem dX12_init_296 : decode cX12_init 296 = .ok (.iload_n 1, 1) := by decide +kernel
theorem dX12_init_297 : decode cX12_init 297 = .ok (.iconst 4, 1) := by decide +kernel
theorem dX12_init_298 : decode cX12_init 298 = .ok (.if_icmp .ge 48, 3) := by decide +kernel
theorem dX12_init_301 : decode cX12_init 301 = .ok (.aload_n 0, 1) := by decide +kernel
theorem dX12_init_302 : decode cX12_init 302 = .ok (.getfield 7, 3) := by decide +kernel
theorem dX12_init_305 : decode cX12_init 305 = .ok (.iload_n 1, 1) := by decide +kernel
theorem dX12_init_306 : decode cX12_init 306 = .ok (.bipush 100, 2) := by decide +kernel
theorem dX12_init_308 : decode cX12_init 308 = .ok (.iastore, 1) := by decide +kernel
theorem dX12_init_309 : decode cX12_init 309 = .ok (.aload_n 0, 1) := by decide +kernel
theorem dX12_init_310 : decode cX12_init 310 = .ok (.getfield 13, 3) := by decide +kernel
theorem dX12_init_313 : decode cX12_init 313 = .ok (.iload_n 1, 1) := by decide +kernel
theorem dX12_init_314 : decode cX12_init 314 = .ok (.bipush 100, 2) := by decide +kernel
theorem dX12_init_316 : decode cX12_init 316 = .ok (.iastore, 1) := by decide +kernel
theorem dX12_init_317 : decode cX12_init 317 = .ok (.aload_n 0, 1) := by decide +kernel
theorem dX12_init_318 : decode cX12_init 318 = .ok (.getfield 16, 3) := by decide +kernel
theorem dX12_init_321 : decode cX12_init 321 = .ok (.iload_n 1, 1) := by decide +kernel
theorem dX12_init_322 : decode cX12_init 322 = .ok (.bipush 60, 2) := by decide +kernel
theorem dX12_init_324 : decode cX12_init 324 = .ok (.iastore, 1) := by decide +kernel
theorem dX12_init_325 : decode cX12_init 325 = .ok (.aload_n 0, 1) := by decide +kernel
theorem dX12_init_326 : decode cX12_init 326 = .ok (.getfield 19, 3) := by decide +kernel
theorem dX12_init_329 : decode cX12_init 329 = .ok (.iload_n 1, 1) := by decide +kernel
theorem dX12_init_330 : decode cX12_init 330 = .ok (.bipush 10, 2) := by decide +kernel
theorem dX12_init_332 : decode cX12_init 332 = .ok (.iastore, 1) := by decide +kernel
theorem dX12_init_333 : decode cX12_init 333 = .ok (.aload_n 0, 1) := by decide +kernel
theorem dX12_init_334 : decode cX12_init 334 = .ok (.getfield 22, 3) := by decide +kernel
theorem dX12_init_337 : decode cX12_init 337 = .ok (.iload_n 1, 1) := by decide +kernel
theorem dX12_init_338 : decode cX12_init 338 = .ok (.iconst 5, 1) := by decide +kernel
theorem dX12_init_339 : decode cX12_init 339 = .ok (.iastore, 1) := by decide +kernel
theorem dX12_init_340 : decode cX12_init 340 = .ok (.iinc 1 1, 3) := by decide +kernel
theorem dX12_init_343 : decode cX12_init 343 = .ok (.goto (-47), 3) := by decide +kernel
theorem dX12_init_346 : decode cX12_init 346 = .ok (.iconst 0, 1) := by decide +kernel
theorem dX12_init_347 : decode cX12_init 347 = .ok (.istore_n 1, 1) := by decide +kernel
theorem dX12_init_348 : decode cX12_init 348 = .ok (.iload_n 1, 1) := by decide +kernel
theorem dX12_init_349 : decode cX12_init 349 = .ok (.iconst 3, 1) := by decide +kernel
theorem dX12_init_350 : decode cX12_init 350 = .ok (.if_icmp .ge 17, 3) := by decide +kernel
theorem dX12_init_353 : decode cX12_init 353 = .ok (.aload_n 0, 1) := by decide +kernel
theorem dX12_init_354 : decode cX12_init 354 = .ok (.getfield 31, 3) := by decide +kernel
theorem dX12_init_357 : decode cX12_init 357 = .ok (.iload_n 1, 1) := by decide +kernel
theorem dX12_init_358 : decode cX12_init 358 = .ok (.bipush 10, 2) := by decide +kernel
theorem dX12_init_360 : decode cX12_init 360 = .ok (.iastore, 1) := by decide +kernel
theorem dX12_init_361 : decode cX12_init 361 = .ok (.iinc 1 1, 3) := by decide +kernel
theorem dX12_init_364 : decode cX12_init 364 = .ok (.goto (-16), 3) := by decide +kernel
theorem dX12_init_367 : decode cX12_init 367 = .ok (.aload_n 0, 1) := by decide +kernel
theorem dX12_init_368 : decode cX12_init 368 = .ok (.getfield 25, 3) := by decide +kernel
theorem dX12_init_371 : decode cX12_init 371 = .ok (.iconst 0, 1) := by decide +kernel
theorem dX12_init_372 : decode cX12_init 372 = .ok (.bipush 20, 2) := by decide +kernel
theorem dX12_init_374 : decode cX12_init 374 = .ok (.iastore, 1) := by decide +kernel
theorem dX12_init_375 : decode cX12_init 375 = .ok (.aload_n 0, 1) := by decide +kernel
theorem dX12_init_376 : decode cX12_init 376 = .ok (.getfield 25, 3) := by decide +kernel
theorem dX12_init_379 : decode cX12_init 379 = .ok (.iconst 1, 1) := by decide +kernel
theorem dX12_init_380 : decode cX12_init 380 = .ok (.bipush 80, 2) := by decide +kernel
theorem dX12_init_382 : decode cX12_init 382 = .ok (.iastore, 1) := by decide +kernel
theorem dX12_init_383 : decode cX12_init 383 = .ok (.aload_n 0, 1) := by decide +kernel
theorem dX12_init_384 : decode cX12_init 384 = .ok (.getfield 25, 3) := by decide +kernel
theorem dX12_init_387 : decode cX12_init 387 = .ok (.iconst 2, 1) := by decide +kernel
theorem dX12_init_388 : decode cX12_init 388 = .ok (.bipush 10, 2) := by decide +kernel
theorem dX12_init_390 : decode cX12_init 390 = .ok (.iastore, 1) := by decide +kernel
theorem dX12_init_391 : decode cX12_init 391 = .ok (.aload_n 0, 1) := by decide +kernel
theorem dX12_init_392 : decode cX12_init 392 = .ok (.getfield 25, 3) := by decide +kernel
theorem dX12_init_395 : decode cX12_init 395 = .ok (.iconst 3, 1) := by decide +kernel
theorem dX12_init_396 : decode cX12_init 396 = .ok (.bipush 60, 2) := by decide +kernel
theorem dX12_init_398 : decode cX12_init 398 = .ok (.iastore, 1) := by decide +kernel
theorem dX12_init_399 : decode cX12_init 399 = .ok (.aload_n 0, 1) := by decide +kernel
theorem dX12_init_400 : decode cX12_init 400 = .ok (.getfield 25, 3) := by decide +kernel
theorem dX12_init_403 : decode cX12_init 403 = .ok (.iconst 4, 1) := by decide +kernel
theorem dX12_init_404 : decode cX12_init 404 = .ok (.iconst 2, 1) := by decide +kernel
theorem dX12_init_405 : decode cX12_init 405 = .ok (.iastore, 1) := by decide +kernel
theorem dX12_init_406 : decode cX12_init 406 = .ok (.aload_n 0, 1) := by decide +kernel
theorem dX12_init_407 : decode cX12_init 407 = .ok (.getfield 25, 3) := by decide +kernel
theorem dX12_init_410 : decode cX12_init 410 = .ok (.iconst 5, 1) := by decide +kernel
theorem dX12_init_411 : decode cX12_init 411 = .ok (.iconst 5, 1) := by decide +kernel
theorem dX12_init_412 : decode cX12_init 412 = .ok (.iastore, 1) := by decide +kernel
theorem dX12_init_413 : decode cX12_init 413 = .ok (.return_, 1) := by decide +kernel
theorem dX12_within_0 : decode cX12_within 0 = .ok (.iload_n 0, 1) := by decide +kernel
theorem dX12_within_1 : decode cX12_within 1 = .ok (.iload_n 1, 1) := by decide +kernel
theorem dX12_within_2 : decode cX12_within 2 = .ok (.if_icmp .lt 12, 3) := by decide +kernel
theorem dX12_within_5 : decode cX12_within 5 = .ok (.iload_n 0, 1) := by decide +kernel
theorem dX12_within_6 : decode cX12_within 6 = .ok (.iload_n 2, 1) := by decide +kernel
theorem dX12_within_7 : decode cX12_within 7 = .ok (.if_icmp .gt 7, 3) := by decide +kernel
theorem dX12_within_10 : decode cX12_within 10 = .ok (.iconst 1, 1) := by decide +kernel
theorem dX12_within_11 : decode cX12_within 11 = .ok (.goto 4, 3) := by decide +kernel
theorem dX12_within_14 : decode cX12_within 14 = .ok (.iconst 0, 1) := by decide +kernel
theorem dX12_within_15 : decode cX12_within 15 = .ok (.ireturn, 1) := by decide +kernel
theorem dX12_isMetal_0 : decode cX12_isMetal 0 = .ok (.iload_n 0, 1) := by decide +kernel
theorem dX12_isMetal_1 : decode cX12_isMetal 1 = .ok (.iconst 0, 1) := by decide +kernel
theorem dX12_isMetal_2 : decode cX12_isMetal 2 = .ok (.iconst 3, 1) := by decide +kernel
theorem dX12_isMetal_3 : decode cX12_isMetal 3 = .ok (.invokestatic 123, 3) := by decide +kernel
theorem dX12_isMetal_6 : decode cX12_isMetal 6 = .ok (.ireturn, 1) := by decide +kernel
theorem dX12_isCoil_0 : decode cX12_isCoil 0 = .ok (.iload_n 1, 1) := by decide +kernel
theorem dX12_isCoil_1 : decode cX12_isCoil 1 = .ok (.iconst 0, 1) := by decide +kernel
theorem dX12_isCoil_2 : decode cX12_isCoil 2 = .ok (.aload_n 0, 1) := by decide +kernel
theorem dX12_isCoil_3 : decode cX12_isCoil 3 = .ok (.getfield 127, 3) := by decide +kernel
theorem dX12_isCoil_6 : decode cX12_isCoil 6 = .ok (.iconst 1, 1) := by decide +kernel
theorem dX12_isCoil_7 : decode cX12_isCoil 7 = .ok (.isub, 1) := by decide +kernel
theorem dX12_isCoil_8 : decode cX12_isCoil 8 = .ok (.invokestatic 123, 3) := by decide +kernel
theorem dX12_isCoil_11 : decode cX12_isCoil 11 = .ok (.ifCond .eq 18, 3) := by decide +kernel
theorem dX12_isCoil_14 : decode cX12_isCoil 14 = .ok (.aload_n 0, 1) := by decide +kernel
theorem dX12_isCoil_15 : decode cX12_isCoil 15 = .ok (.getfield 58, 3) := by decide +kernel
theorem dX12_isCoil_18 : decode cX12_isCoil 18 = .ok (.iload_n 1, 1) := by decide +kernel
theorem dX12_isCoil_19 : decode cX12_isCoil 19 = .ok (.laload, 1) := by decide +kernel
theorem dX12_isCoil_20 : decode cX12_isCoil 20 = .ok (.lconst 0, 1) := by decide +kernel
theorem dX12_isCoil_21 : decode cX12_isCoil 21 = .ok (.lcmp, 1) := by decide +kernel
theorem dX12_isCoil_22 : decode cX12_isCoil 22 = .ok (.ifCond .le 7, 3) := by decide +kernel
theorem dX12_isCoil_25 : decode cX12_isCoil 25 = .ok (.iconst 1, 1) := by decide +kernel
theorem dX12_isCoil_26 : decode cX12_isCoil 26 = .ok (.goto 4, 3) := by decide +kernel
theorem dX12_isCoil_29 : decode cX12_isCoil 29 = .ok (.iconst 0, 1) := by decide +kernel
theorem dX12_isCoil_30 : decode cX12_isCoil 30 = .ok (.ireturn, 1) := by decide +kernel
theorem dX12_isHole_0 : decode cX12_isHole 0 = .ok (.iload_n 1, 1) := by decide +kernel
theorem dX12_isHole_1 : decode cX12_isHole 1 = .ok (.iconst 0, 1) := by decide +kernel
theorem dX12_isHole_2 : decode cX12_isHole 2 = .ok (.iconst 3, 1) := by decide +kernel
theorem dX12_isHole_3 : decode cX12_isHole 3 = .ok (.invokestatic 123, 3) := by decide +kernel
theorem dX12_isHole_6 : decode cX12_isHole 6 = .ok (.ifCond .eq 23, 3) := by decide +kernel
theorem dX12_isHole_9 : decode cX12_isHole 9 = .ok (.iload_n 2, 1) := by decide +kernel
theorem dX12_isHole_10 : decode cX12_isHole 10 = .ok (.iconst 0, 1) := by decide +kernel
theorem dX12_isHole_11 : decode cX12_isHole 11 = .ok (.aload_n 0, 1) := by decide +kernel
theorem dX12_isHole_12 : decode cX12_isHole 12 = .ok (.getfield 37, 3) := by decide +kernel
theorem dX12_isHole_15 : decode cX12_isHole 15 = .ok (.iload_n 1, 1) := by decide +kernel
theorem dX12_isHole_16 : decode cX12_isHole 16 = .ok (.iaload, 1) := by decide +kernel
theorem dX12_isHole_17 : decode cX12_isHole 17 = .ok (.iconst 1, 1) := by decide +kernel
theorem dX12_isHole_18 : decode cX12_isHole 18 = .ok (.isub, 1) := by decide +kernel
theorem dX12_isHole_19 : decode cX12_isHole 19 = .ok (.invokestatic 123, 3) := by decide +kernel
theorem dX12_isHole_22 : decode cX12_isHole 22 = .ok (.ifCond .eq 7, 3) := by decide +kernel
theorem dX12_isHole_25 : decode cX12_isHole 25 = .ok (.iconst 1, 1) := by decide +kernel
theorem dX12_isHole_26 : decode cX12_isHole 26 = .ok (.goto 4, 3) := by decide +kernel
theorem dX12_isHole_29 : decode cX12_isHole 29 = .ok (.iconst 0, 1) := by decide +kernel
theorem dX12_isHole_30 : decode cX12_isHole 30 = .ok (.ireturn, 1) := by decide +kernel
theorem dX12_isPuller_0 : decode cX12_isPuller 0 = .ok (.iload_n 0, 1) := by decide +kernel
theorem dX12_isPuller_1 : decode cX12_isPuller 1 = .ok (.iconst 0, 1) := by decide +kernel
theorem dX12_isPuller_2 : decode cX12_isPuller 2 = .ok (.iconst 2, 1) := by decide +kernel
theorem dX12_isPuller_3 : decode cX12_isPuller 3 = .ok (.invokestatic 123, 3) := by decide +kernel
theorem dX12_isPuller_6 : decode cX12_isPuller 6 = .ok (.ireturn, 1) := by decide +kernel
theorem dX12_isSize_0 : decode cX12_isSize 0 = .ok (.iload_n 0, 1) := by decide +kernel
theorem dX12_isSize_1 : decode cX12_isSize 1 = .ok (.bipush 20, 2) := by decide +kernel
theorem dX12_isSize_3 : decode cX12_isSize 3 = .ok (.sipush 1000, 3) := by decide +kernel
theorem dX12_isSize_6 : decode cX12_isSize 6 = .ok (.invokestatic 123, 3) := by decide +kernel
theorem dX12_isSize_9 : decode cX12_isSize 9 = .ok (.ireturn, 1) := by decide +kernel
theorem dX12_metal_0 : decode cX12_metal 0 = .ok (.iload_n 1, 1) := by decide +kernel
theorem dX12_metal_1 : decode cX12_metal 1 = .ok (.invokestatic 131, 3) := by decide +kernel
theorem dX12_metal_4 : decode cX12_metal 4 = .ok (.ifCond .ne 6, 3) := by decide +kernel
theorem dX12_metal_7 : decode cX12_metal 7 = .ok (.bipush (-2), 2) := by decide +kernel
theorem dX12_metal_9 : decode cX12_metal 9 = .ok (.ireturn, 1) := by decide +kernel
theorem dX12_metal_10 : decode cX12_metal 10 = .ok (.iload_n 2, 1) := by decide +kernel
theorem dX12_metal_11 : decode cX12_metal 11 = .ok (.iconst 1, 1) := by decide +kernel
theorem dX12_metal_12 : decode cX12_metal 12 = .ok (.sipush 200, 3) := by decide +kernel
theorem dX12_metal_15 : decode cX12_metal 15 = .ok (.invokestatic 123, 3) := by decide +kernel
theorem dX12_metal_18 : decode cX12_metal 18 = .ok (.ifCond .eq 47, 3) := by decide +kernel
theorem dX12_metal_21 : decode cX12_metal 21 = .ok (.iload_n 3, 1) := by decide +kernel
theorem dX12_metal_22 : decode cX12_metal 22 = .ok (.iconst 0, 1) := by decide +kernel
theorem dX12_metal_23 : decode cX12_metal 23 = .ok (.sipush 300, 3) := by decide +kernel
theorem dX12_metal_26 : decode cX12_metal 26 = .ok (.invokestatic 123, 3) := by decide +kernel
theorem dX12_metal_29 : decode cX12_metal 29 = .ok (.ifCond .eq 36, 3) := by decide +kernel
theorem dX12_metal_32 : decode cX12_metal 32 = .ok (.iload 4, 2) := by decide +kernel
theorem dX12_metal_34 : decode cX12_metal 34 = .ok (.iconst 1, 1) := by decide +kernel
theorem dX12_metal_35 : decode cX12_metal 35 = .ok (.bipush 100, 2) := by decide +kernel
theorem dX12_metal_37 : decode cX12_metal 37 = .ok (.invokestatic 123, 3) := by decide +kernel
theorem dX12_metal_40 : decode cX12_metal 40 = .ok (.ifCond .eq 25, 3) := by decide +kernel
theorem dX12_metal_43 : decode cX12_metal 43 = .ok (.iload 5, 2) := by decide +kernel
theorem dX12_metal_45 : decode cX12_metal 45 = .ok (.iconst 0, 1) := by decide +kernel
theorem dX12_metal_46 : decode cX12_metal 46 = .ok (.bipush 50, 2) := by decide +kernel
theorem dX12_metal_48 : decode cX12_metal 48 = .ok (.invokestatic 123, 3) := by decide +kernel
theorem dX12_metal_51 : decode cX12_metal 51 = .ok (.ifCond .eq 14, 3) := by decide +kernel
theorem dX12_metal_54 : decode cX12_metal 54 = .ok (.iload 6, 2) := by decide +kernel
theorem dX12_metal_56 : decode cX12_metal 56 = .ok (.iconst 0, 1) := by decide +kernel
theorem dX12_metal_57 : decode cX12_metal 57 = .ok (.bipush 50, 2) := by decide +kernel
theorem dX12_metal_59 : decode cX12_metal 59 = .ok (.invokestatic 123, 3) := by decide +kernel
theorem dX12_metal_62 : decode cX12_metal 62 = .ok (.ifCond .ne 6, 3) := by decide +kernel
theorem dX12_metal_65 : decode cX12_metal 65 = .ok (.bipush (-3), 2) := by decide +kernel
theorem dX12_metal_67 : decode cX12_metal 67 = .ok (.ireturn, 1) := by decide +kernel
theorem dX12_metal_68 : decode cX12_metal 68 = .ok (.aload_n 0, 1) := by decide +kernel
theorem dX12_metal_69 : decode cX12_metal 69 = .ok (.getfield 7, 3) := by decide +kernel
theorem dX12_metal_72 : decode cX12_metal 72 = .ok (.iload_n 1, 1) := by decide +kernel
theorem dX12_metal_73 : decode cX12_metal 73 = .ok (.iload_n 2, 1) := by decide +kernel
theorem dX12_metal_74 : decode cX12_metal 74 = .ok (.iastore, 1) := by decide +kernel
theorem dX12_metal_75 : decode cX12_metal 75 = .ok (.aload_n 0, 1) := by decide +kernel
theorem dX12_metal_76 : decode cX12_metal 76 = .ok (.getfield 13, 3) := by decide +kernel
theorem dX12_metal_79 : decode cX12_metal 79 = .ok (.iload_n 1, 1) := by decide +kernel
theorem dX12_metal_80 : decode cX12_metal 80 = .ok (.iload_n 3, 1) := by decide +kernel
theorem dX12_metal_81 : decode cX12_metal 81 = .ok (.iastore, 1) := by decide +kernel
theorem dX12_metal_82 : decode cX12_metal 82 = .ok (.aload_n 0, 1) := by decide +kernel
theorem dX12_metal_83 : decode cX12_metal 83 = .ok (.getfield 16, 3) := by decide +kernel
theorem dX12_metal_86 : decode cX12_metal 86 = .ok (.iload_n 1, 1) := by decide +kernel
theorem dX12_metal_87 : decode cX12_metal 87 = .ok (.iload 4, 2) := by decide +kernel
theorem dX12_metal_89 : decode cX12_metal 89 = .ok (.iastore, 1) := by decide +kernel
theorem dX12_metal_90 : decode cX12_metal 90 = .ok (.aload_n 0, 1) := by decide +kernel
theorem dX12_metal_91 : decode cX12_metal 91 = .ok (.getfield 19, 3) := by decide +kernel
theorem dX12_metal_94 : decode cX12_metal 94 = .ok (.iload_n 1, 1) := by decide +kernel
theorem dX12_metal_95 : decode cX12_metal 95 = .ok (.iload 5, 2) := by decide +kernel
theorem dX12_metal_97 : decode cX12_metal 97 = .ok (.iastore, 1) := by decide +kernel
theorem dX12_metal_98 : decode cX12_metal 98 = .ok (.aload_n 0, 1) := by decide +kernel
theorem dX12_metal_99 : decode cX12_metal 99 = .ok (.getfield 22, 3) := by decide +kernel
theorem dX12_metal_102 : decode cX12_metal 102 = .ok (.iload_n 1, 1) := by decide +kernel
theorem dX12_metal_103 : decode cX12_metal 103 = .ok (.iload 6, 2) := by decide +kernel
theorem dX12_metal_105 : decode cX12_metal 105 = .ok (.iastore, 1) := by decide +kernel
theorem dX12_metal_106 : decode cX12_metal 106 = .ok (.iconst 1, 1) := by decide +kernel
theorem dX12_metal_107 : decode cX12_metal 107 = .ok (.ireturn, 1) := by decide +kernel
theorem dX12_leastOf_0 : decode cX12_leastOf 0 = .ok (.iload_n 0, 1) := by decide +kernel
theorem dX12_leastOf_1 : decode cX12_leastOf 1 = .ok (.iconst 1, 1) := by decide +kernel
theorem dX12_leastOf_2 : decode cX12_leastOf 2 = .ok (.if_icmp .ne 8, 3) := by decide +kernel
theorem dX12_leastOf_5 : decode cX12_leastOf 5 = .ok (.bipush 10, 2) := by decide +kernel
theorem dX12_leastOf_7 : decode cX12_leastOf 7 = .ok (.goto 18, 3) := by decide +kernel
theorem dX12_leastOf_10 : decode cX12_leastOf 10 = .ok (.iload_n 0, 1) := by decide +kernel
theorem dX12_leastOf_11 : decode cX12_leastOf 11 = .ok (.iconst 3, 1) := by decide +kernel
theorem dX12_leastOf_12 : decode cX12_leastOf 12 = .ok (.if_icmp .eq 8, 3) := by decide +kernel
theorem dX12_leastOf_15 : decode cX12_leastOf 15 = .ok (.iload_n 0, 1) := by decide +kernel
theorem dX12_leastOf_16 : decode cX12_leastOf 16 = .ok (.iconst 5, 1) := by decide +kernel
theorem dX12_leastOf_17 : decode cX12_leastOf 17 = .ok (.if_icmp .ne 7, 3) := by decide +kernel
theorem dX12_leastOf_20 : decode cX12_leastOf 20 = .ok (.iconst 1, 1) := by decide +kernel
theorem dX12_leastOf_21 : decode cX12_leastOf 21 = .ok (.goto 4, 3) := by decide +kernel
theorem dX12_leastOf_24 : decode cX12_leastOf 24 = .ok (.iconst 0, 1) := by decide +kernel
theorem dX12_leastOf_25 : decode cX12_leastOf 25 = .ok (.ireturn, 1) := by decide +kernel
theorem dX12_mostOf_0 : decode cX12_mostOf 0 = .ok (.iload_n 0, 1) := by decide +kernel
theorem dX12_mostOf_1 : decode cX12_mostOf 1 = .ok (.iconst 2, 1) := by decide +kernel
theorem dX12_mostOf_2 : decode cX12_mostOf 2 = .ok (.if_icmp .ne 8, 3) := by decide +kernel
theorem dX12_mostOf_5 : decode cX12_mostOf 5 = .ok (.bipush 10, 2) := by decide +kernel
theorem dX12_mostOf_7 : decode cX12_mostOf 7 = .ok (.goto 26, 3) := by decide +kernel
theorem dX12_mostOf_10 : decode cX12_mostOf 10 = .ok (.iload_n 0, 1) := by decide +kernel
theorem dX12_mostOf_11 : decode cX12_mostOf 11 = .ok (.iconst 3, 1) := by decide +kernel
theorem dX12_mostOf_12 : decode cX12_mostOf 12 = .ok (.if_icmp .ne 9, 3) := by decide +kernel
theorem dX12_mostOf_15 : decode cX12_mostOf 15 = .ok (.sipush 500, 3) := by decide +kernel
theorem dX12_mostOf_18 : decode cX12_mostOf 18 = .ok (.goto 15, 3) := by decide +kernel
theorem dX12_mostOf_21 : decode cX12_mostOf 21 = .ok (.iload_n 0, 1) := by decide +kernel
theorem dX12_mostOf_22 : decode cX12_mostOf 22 = .ok (.iconst 4, 1) := by decide +kernel
theorem dX12_mostOf_23 : decode cX12_mostOf 23 = .ok (.if_icmp .ne 8, 3) := by decide +kernel
theorem dX12_mostOf_26 : decode cX12_mostOf 26 = .ok (.bipush 20, 2) := by decide +kernel
theorem dX12_mostOf_28 : decode cX12_mostOf 28 = .ok (.goto 5, 3) := by decide +kernel
theorem dX12_mostOf_31 : decode cX12_mostOf 31 = .ok (.bipush 100, 2) := by decide +kernel
theorem dX12_mostOf_33 : decode cX12_mostOf 33 = .ok (.ireturn, 1) := by decide +kernel
theorem dX12_set_0 : decode cX12_set 0 = .ok (.iload_n 1, 1) := by decide +kernel
theorem dX12_set_1 : decode cX12_set 1 = .ok (.iconst 0, 1) := by decide +kernel
theorem dX12_set_2 : decode cX12_set 2 = .ok (.iconst 5, 1) := by decide +kernel
theorem dX12_set_3 : decode cX12_set 3 = .ok (.invokestatic 123, 3) := by decide +kernel
theorem dX12_set_6 : decode cX12_set 6 = .ok (.ifCond .eq 18, 3) := by decide +kernel
theorem dX12_set_9 : decode cX12_set 9 = .ok (.iload_n 2, 1) := by decide +kernel
theorem dX12_set_10 : decode cX12_set 10 = .ok (.iload_n 1, 1) := by decide +kernel
theorem dX12_set_11 : decode cX12_set 11 = .ok (.invokestatic 135, 3) := by decide +kernel
theorem dX12_set_14 : decode cX12_set 14 = .ok (.iload_n 1, 1) := by decide +kernel
theorem dX12_set_15 : decode cX12_set 15 = .ok (.invokestatic 139, 3) := by decide +kernel
theorem dX12_set_18 : decode cX12_set 18 = .ok (.invokestatic 123, 3) := by decide +kernel
theorem dX12_set_21 : decode cX12_set 21 = .ok (.ifCond .ne 6, 3) := by decide +kernel
theorem dX12_set_24 : decode cX12_set 24 = .ok (.bipush (-3), 2) := by decide +kernel
theorem dX12_set_26 : decode cX12_set 26 = .ok (.ireturn, 1) := by decide +kernel
theorem dX12_set_27 : decode cX12_set 27 = .ok (.aload_n 0, 1) := by decide +kernel
theorem dX12_set_28 : decode cX12_set 28 = .ok (.getfield 25, 3) := by decide +kernel
theorem dX12_set_31 : decode cX12_set 31 = .ok (.iload_n 1, 1) := by decide +kernel
theorem dX12_set_32 : decode cX12_set 32 = .ok (.iaload, 1) := by decide +kernel
theorem dX12_set_33 : decode cX12_set 33 = .ok (.istore_n 3, 1) := by decide +kernel
theorem dX12_set_34 : decode cX12_set 34 = .ok (.aload_n 0, 1) := by decide +kernel
theorem dX12_set_35 : decode cX12_set 35 = .ok (.getfield 25, 3) := by decide +kernel
theorem dX12_set_38 : decode cX12_set 38 = .ok (.iload_n 1, 1) := by decide +kernel
theorem dX12_set_39 : decode cX12_set 39 = .ok (.iload_n 2, 1) := by decide +kernel
theorem dX12_set_40 : decode cX12_set 40 = .ok (.iastore, 1) := by decide +kernel
theorem dX12_set_41 : decode cX12_set 41 = .ok (.iload_n 3, 1) := by decide +kernel
theorem dX12_set_42 : decode cX12_set 42 = .ok (.ireturn, 1) := by decide +kernel
theorem dX12_puller_0 : decode cX12_puller 0 = .ok (.iload_n 1, 1) := by decide +kernel
theorem dX12_puller_1 : decode cX12_puller 1 = .ok (.invokestatic 142, 3) := by decide +kernel
theorem dX12_puller_4 : decode cX12_puller 4 = .ok (.ifCond .ne 6, 3) := by decide +kernel
theorem dX12_puller_7 : decode cX12_puller 7 = .ok (.bipush (-2), 2) := by decide +kernel
theorem dX12_puller_9 : decode cX12_puller 9 = .ok (.ireturn, 1) := by decide +kernel
theorem dX12_puller_10 : decode cX12_puller 10 = .ok (.iload_n 2, 1) := by decide +kernel
theorem dX12_puller_11 : decode cX12_puller 11 = .ok (.iconst 0, 1) := by decide +kernel
theorem dX12_puller_12 : decode cX12_puller 12 = .ok (.ldc 145, 2) := by decide +kernel
theorem dX12_puller_14 : decode cX12_puller 14 = .ok (.invokestatic 123, 3) := by decide +kernel
theorem dX12_puller_17 : decode cX12_puller 17 = .ok (.ifCond .eq 15, 3) := by decide +kernel
theorem dX12_puller_20 : decode cX12_puller 20 = .ok (.iload_n 3, 1) := by decide +kernel
theorem dX12_puller_21 : decode cX12_puller 21 = .ok (.bipush 10, 2) := by decide +kernel
theorem dX12_puller_23 : decode cX12_puller 23 = .ok (.sipush 1000, 3) := by decide +kernel
theorem dX12_puller_26 : decode cX12_puller 26 = .ok (.invokestatic 123, 3) := by decide +kernel
theorem dX12_puller_29 : decode cX12_puller 29 = .ok (.ifCond .ne 6, 3) := by decide +kernel
theorem dX12_puller_32 : decode cX12_puller 32 = .ok (.bipush (-3), 2) := by decide +kernel
theorem dX12_puller_34 : decode cX12_puller 34 = .ok (.ireturn, 1) := by decide +kernel
theorem dX12_puller_35 : decode cX12_puller 35 = .ok (.aload_n 0, 1) := by decide +kernel
theorem dX12_puller_36 : decode cX12_puller 36 = .ok (.getfield 28, 3) := by decide +kernel
theorem dX12_puller_39 : decode cX12_puller 39 = .ok (.iload_n 1, 1) := by decide +kernel
theorem dX12_puller_40 : decode cX12_puller 40 = .ok (.iload_n 2, 1) := by decide +kernel
theorem dX12_puller_41 : decode cX12_puller 41 = .ok (.iastore, 1) := by decide +kernel
theorem dX12_puller_42 : decode cX12_puller 42 = .ok (.aload_n 0, 1) := by decide +kernel
theorem dX12_puller_43 : decode cX12_puller 43 = .ok (.getfield 31, 3) := by decide +kernel
theorem dX12_puller_46 : decode cX12_puller 46 = .ok (.iload_n 1, 1) := by decide +kernel
theorem dX12_puller_47 : decode cX12_puller 47 = .ok (.iload_n 3, 1) := by decide +kernel
theorem dX12_puller_48 : decode cX12_puller 48 = .ok (.iastore, 1) := by decide +kernel
theorem dX12_puller_49 : decode cX12_puller 49 = .ok (.iconst 1, 1) := by decide +kernel
theorem dX12_puller_50 : decode cX12_puller 50 = .ok (.ireturn, 1) := by decide +kernel
theorem dX12_hole_0 : decode cX12_hole 0 = .ok (.iload_n 1, 1) := by decide +kernel
theorem dX12_hole_1 : decode cX12_hole 1 = .ok (.iconst 0, 1) := by decide +kernel
theorem dX12_hole_2 : decode cX12_hole 2 = .ok (.iconst 3, 1) := by decide +kernel
theorem dX12_hole_3 : decode cX12_hole 3 = .ok (.invokestatic 123, 3) := by decide +kernel
theorem dX12_hole_6 : decode cX12_hole 6 = .ok (.ifCond .ne 6, 3) := by decide +kernel
theorem dX12_hole_9 : decode cX12_hole 9 = .ok (.bipush (-2), 2) := by decide +kernel
theorem dX12_hole_11 : decode cX12_hole 11 = .ok (.ireturn, 1) := by decide +kernel
theorem dX12_hole_12 : decode cX12_hole 12 = .ok (.iload_n 2, 1) := by decide +kernel
theorem dX12_hole_13 : decode cX12_hole 13 = .ok (.invokestatic 146, 3) := by decide +kernel
theorem dX12_hole_16 : decode cX12_hole 16 = .ok (.ifCond .ne 6, 3) := by decide +kernel
theorem dX12_hole_19 : decode cX12_hole 19 = .ok (.bipush (-3), 2) := by decide +kernel
theorem dX12_hole_21 : decode cX12_hole 21 = .ok (.ireturn, 1) := by decide +kernel
theorem dX12_hole_22 : decode cX12_hole 22 = .ok (.aload_n 0, 1) := by decide +kernel
theorem dX12_hole_23 : decode cX12_hole 23 = .ok (.getfield 37, 3) := by decide +kernel
theorem dX12_hole_26 : decode cX12_hole 26 = .ok (.iload_n 1, 1) := by decide +kernel
theorem dX12_hole_27 : decode cX12_hole 27 = .ok (.iaload, 1) := by decide +kernel
theorem dX12_hole_28 : decode cX12_hole 28 = .ok (.bipush 8, 2) := by decide +kernel
theorem dX12_hole_30 : decode cX12_hole 30 = .ok (.if_icmp .ne 6, 3) := by decide +kernel
theorem dX12_hole_33 : decode cX12_hole 33 = .ok (.bipush (-8), 2) := by decide +kernel
theorem dX12_hole_35 : decode cX12_hole 35 = .ok (.ireturn, 1) := by decide +kernel
theorem dX12_hole_36 : decode cX12_hole 36 = .ok (.bipush 8, 2) := by decide +kernel
theorem dX12_hole_38 : decode cX12_hole 38 = .ok (.iload_n 1, 1) := by decide +kernel
theorem dX12_hole_39 : decode cX12_hole 39 = .ok (.imul, 1) := by decide +kernel
theorem dX12_hole_40 : decode cX12_hole 40 = .ok (.aload_n 0, 1) := by decide +kernel
theorem dX12_hole_41 : decode cX12_hole 41 = .ok (.getfield 37, 3) := by decide +kernel
theorem dX12_hole_44 : decode cX12_hole 44 = .ok (.iload_n 1, 1) := by decide +kernel
theorem dX12_hole_45 : decode cX12_hole 45 = .ok (.iaload, 1) := by decide +kernel
theorem dX12_hole_46 : decode cX12_hole 46 = .ok (.iadd, 1) := by decide +kernel
theorem dX12_hole_47 : decode cX12_hole 47 = .ok (.istore_n 3, 1) := by decide +kernel
theorem dX12_hole_48 : decode cX12_hole 48 = .ok (.aload_n 0, 1) := by decide +kernel
theorem dX12_hole_49 : decode cX12_hole 49 = .ok (.getfield 40, 3) := by decide +kernel
theorem dX12_hole_52 : decode cX12_hole 52 = .ok (.iload_n 3, 1) := by decide +kernel
theorem dX12_hole_53 : decode cX12_hole 53 = .ok (.iload_n 2, 1) := by decide +kernel
theorem dX12_hole_54 : decode cX12_hole 54 = .ok (.iastore, 1) := by decide +kernel
theorem dX12_hole_55 : decode cX12_hole 55 = .ok (.aload_n 0, 1) := by decide +kernel
theorem dX12_hole_56 : decode cX12_hole 56 = .ok (.getfield 43, 3) := by decide +kernel
theorem dX12_hole_59 : decode cX12_hole 59 = .ok (.iload_n 3, 1) := by decide +kernel
theorem dX12_hole_60 : decode cX12_hole 60 = .ok (.iconst 0, 1) := by decide +kernel
theorem dX12_hole_61 : decode cX12_hole 61 = .ok (.iastore, 1) := by decide +kernel
theorem dX12_hole_62 : decode cX12_hole 62 = .ok (.aload_n 0, 1) := by decide +kernel
theorem dX12_hole_63 : decode cX12_hole 63 = .ok (.getfield 46, 3) := by decide +kernel
theorem dX12_hole_66 : decode cX12_hole 66 = .ok (.iload_n 3, 1) := by decide +kernel
theorem dX12_hole_67 : decode cX12_hole 67 = .ok (.iconst 0, 1) := by decide +kernel
theorem dX12_hole_68 : decode cX12_hole 68 = .ok (.iastore, 1) := by decide +kernel
theorem dX12_hole_69 : decode cX12_hole 69 = .ok (.aload_n 0, 1) := by decide +kernel
theorem dX12_hole_70 : decode cX12_hole 70 = .ok (.getfield 37, 3) := by decide +kernel
theorem dX12_hole_73 : decode cX12_hole 73 = .ok (.iload_n 1, 1) := by decide +kernel
theorem dX12_hole_74 : decode cX12_hole 74 = .ok (.dup2, 1) := by decide +kernel
theorem dX12_hole_75 : decode cX12_hole 75 = .ok (.iaload, 1) := by decide +kernel
theorem dX12_hole_76 : decode cX12_hole 76 = .ok (.iconst 1, 1) := by decide +kernel
theorem dX12_hole_77 : decode cX12_hole 77 = .ok (.iadd, 1) := by decide +kernel
theorem dX12_hole_78 : decode cX12_hole 78 = .ok (.iastore, 1) := by decide +kernel
theorem dX12_hole_79 : decode cX12_hole 79 = .ok (.aload_n 0, 1) := by decide +kernel
theorem dX12_hole_80 : decode cX12_hole 80 = .ok (.getfield 37, 3) := by decide +kernel
theorem dX12_hole_83 : decode cX12_hole 83 = .ok (.iload_n 1, 1) := by decide +kernel
theorem dX12_hole_84 : decode cX12_hole 84 = .ok (.iaload, 1) := by decide +kernel
theorem dX12_hole_85 : decode cX12_hole 85 = .ok (.iconst 1, 1) := by decide +kernel
theorem dX12_hole_86 : decode cX12_hole 86 = .ok (.isub, 1) := by decide +kernel
theorem dX12_hole_87 : decode cX12_hole 87 = .ok (.ireturn, 1) := by decide +kernel
theorem dX12_wide_0 : decode cX12_wide 0 = .ok (.aload_n 0, 1) := by decide +kernel
theorem dX12_wide_1 : decode cX12_wide 1 = .ok (.getfield 40, 3) := by decide +kernel
theorem dX12_wide_4 : decode cX12_wide 4 = .ok (.iload_n 1, 1) := by decide +kernel
theorem dX12_wide_5 : decode cX12_wide 5 = .ok (.iaload, 1) := by decide +kernel
theorem dX12_wide_6 : decode cX12_wide 6 = .ok (.aload_n 0, 1) := by decide +kernel
theorem dX12_wide_7 : decode cX12_wide 7 = .ok (.getfield 43, 3) := by decide +kernel
theorem dX12_wide_10 : decode cX12_wide 10 = .ok (.iload_n 1, 1) := by decide +kernel
theorem dX12_wide_11 : decode cX12_wide 11 = .ok (.iaload, 1) := by decide +kernel
theorem dX12_wide_12 : decode cX12_wide 12 = .ok (.sipush 1000, 3) := by decide +kernel
theorem dX12_wide_15 : decode cX12_wide 15 = .ok (.idiv, 1) := by decide +kernel
theorem dX12_wide_16 : decode cX12_wide 16 = .ok (.iadd, 1) := by decide +kernel
theorem dX12_wide_17 : decode cX12_wide 17 = .ok (.ireturn, 1) := by decide +kernel
theorem dX12_isSpent_0 : decode cX12_isSpent 0 = .ok (.aload_n 0, 1) := by decide +kernel
theorem dX12_isSpent_1 : decode cX12_isSpent 1 = .ok (.iload_n 1, 1) := by decide +kernel
theorem dX12_isSpent_2 : decode cX12_isSpent 2 = .ok (.invokevirtual 149, 3) := by decide +kernel
theorem dX12_isSpent_5 : decode cX12_isSpent 5 = .ok (.aload_n 0, 1) := by decide +kernel
theorem dX12_isSpent_6 : decode cX12_isSpent 6 = .ok (.getfield 40, 3) := by decide +kernel
theorem dX12_isSpent_9 : decode cX12_isSpent 9 = .ok (.iload_n 1, 1) := by decide +kernel
theorem dX12_isSpent_10 : decode cX12_isSpent 10 = .ok (.iaload, 1) := by decide +kernel
theorem dX12_isSpent_11 : decode cX12_isSpent 11 = .ok (.bipush 50, 2) := by decide +kernel
theorem dX12_isSpent_13 : decode cX12_isSpent 13 = .ok (.iadd, 1) := by decide +kernel
theorem dX12_isSpent_14 : decode cX12_isSpent 14 = .ok (.if_icmp .le 7, 3) := by decide +kernel
theorem dX12_isSpent_17 : decode cX12_isSpent 17 = .ok (.iconst 1, 1) := by decide +kernel
theorem dX12_isSpent_18 : decode cX12_isSpent 18 = .ok (.goto 4, 3) := by decide +kernel
theorem dX12_isSpent_21 : decode cX12_isSpent 21 = .ok (.iconst 0, 1) := by decide +kernel
theorem dX12_isSpent_22 : decode cX12_isSpent 22 = .ok (.ireturn, 1) := by decide +kernel
theorem dX12_told_0 : decode cX12_told 0 = .ok (.aload_n 0, 1) := by decide +kernel
theorem dX12_told_1 : decode cX12_told 1 = .ok (.iload_n 1, 1) := by decide +kernel
theorem dX12_told_2 : decode cX12_told 2 = .ok (.iload_n 2, 1) := by decide +kernel
theorem dX12_told_3 : decode cX12_told 3 = .ok (.invokevirtual 152, 3) := by decide +kernel
theorem dX12_told_6 : decode cX12_told 6 = .ok (.ifCond .ne 6, 3) := by decide +kernel
theorem dX12_told_9 : decode cX12_told 9 = .ok (.bipush (-2), 2) := by decide +kernel
theorem dX12_told_11 : decode cX12_told 11 = .ok (.ireturn, 1) := by decide +kernel
theorem dX12_told_12 : decode cX12_told 12 = .ok (.bipush 8, 2) := by decide +kernel
theorem dX12_told_14 : decode cX12_told 14 = .ok (.iload_n 1, 1) := by decide +kernel
theorem dX12_told_15 : decode cX12_told 15 = .ok (.imul, 1) := by decide +kernel
theorem dX12_told_16 : decode cX12_told 16 = .ok (.iload_n 2, 1) := by decide +kernel
theorem dX12_told_17 : decode cX12_told 17 = .ok (.iadd, 1) := by decide +kernel
theorem dX12_told_18 : decode cX12_told 18 = .ok (.istore 4, 2) := by decide +kernel
theorem dX12_told_20 : decode cX12_told 20 = .ok (.iload_n 3, 1) := by decide +kernel
theorem dX12_told_21 : decode cX12_told 21 = .ok (.ifCond .ne 13, 3) := by decide +kernel
theorem dX12_told_24 : decode cX12_told 24 = .ok (.aload_n 0, 1) := by decide +kernel
theorem dX12_told_25 : decode cX12_told 25 = .ok (.getfield 40, 3) := by decide +kernel
theorem dX12_told_28 : decode cX12_told 28 = .ok (.iload 4, 2) := by decide +kernel
theorem dX12_told_30 : decode cX12_told 30 = .ok (.iaload, 1) := by decide +kernel
theorem dX12_told_31 : decode cX12_told 31 = .ok (.goto 71, 3) := by decide +kernel
theorem dX12_told_34 : decode cX12_told 34 = .ok (.iload_n 3, 1) := by decide +kernel
theorem dX12_told_35 : decode cX12_told 35 = .ok (.iconst 1, 1) := by decide +kernel
theorem dX12_told_36 : decode cX12_told 36 = .ok (.if_icmp .ne 13, 3) := by decide +kernel
theorem dX12_told_39 : decode cX12_told 39 = .ok (.aload_n 0, 1) := by decide +kernel
theorem dX12_told_40 : decode cX12_told 40 = .ok (.getfield 43, 3) := by decide +kernel
theorem dX12_told_43 : decode cX12_told 43 = .ok (.iload 4, 2) := by decide +kernel
theorem dX12_told_45 : decode cX12_told 45 = .ok (.iaload, 1) := by decide +kernel
theorem dX12_told_46 : decode cX12_told 46 = .ok (.goto 56, 3) := by decide +kernel
theorem dX12_told_49 : decode cX12_told 49 = .ok (.iload_n 3, 1) := by decide +kernel
theorem dX12_told_50 : decode cX12_told 50 = .ok (.iconst 2, 1) := by decide +kernel
theorem dX12_told_51 : decode cX12_told 51 = .ok (.if_icmp .ne 12, 3) := by decide +kernel
theorem dX12_told_54 : decode cX12_told 54 = .ok (.aload_n 0, 1) := by decide +kernel
theorem dX12_told_55 : decode cX12_told 55 = .ok (.iload 4, 2) := by decide +kernel
theorem dX12_told_57 : decode cX12_told 57 = .ok (.invokevirtual 149, 3) := by decide +kernel
theorem dX12_told_60 : decode cX12_told 60 = .ok (.goto 42, 3) := by decide +kernel
theorem dX12_told_63 : decode cX12_told 63 = .ok (.iload_n 3, 1) := by decide +kernel
theorem dX12_told_64 : decode cX12_told 64 = .ok (.iconst 3, 1) := by decide +kernel
theorem dX12_told_65 : decode cX12_told 65 = .ok (.if_icmp .ne 13, 3) := by decide +kernel
theorem dX12_told_68 : decode cX12_told 68 = .ok (.aload_n 0, 1) := by decide +kernel
theorem dX12_told_69 : decode cX12_told 69 = .ok (.getfield 46, 3) := by decide +kernel
theorem dX12_told_72 : decode cX12_told 72 = .ok (.iload 4, 2) := by decide +kernel
theorem dX12_told_74 : decode cX12_told 74 = .ok (.iaload, 1) := by decide +kernel
theorem dX12_told_75 : decode cX12_told 75 = .ok (.goto 27, 3) := by decide +kernel
theorem dX12_told_78 : decode cX12_told 78 = .ok (.iload_n 3, 1) := by decide +kernel
theorem dX12_told_79 : decode cX12_told 79 = .ok (.iconst 4, 1) := by decide +kernel
theorem dX12_told_80 : decode cX12_told 80 = .ok (.if_icmp .ne 20, 3) := by decide +kernel
theorem dX12_told_83 : decode cX12_told 83 = .ok (.aload_n 0, 1) := by decide +kernel
theorem dX12_told_84 : decode cX12_told 84 = .ok (.iload 4, 2) := by decide +kernel
theorem dX12_told_86 : decode cX12_told 86 = .ok (.invokevirtual 156, 3) := by decide +kernel
theorem dX12_told_89 : decode cX12_told 89 = .ok (.ifCond .eq 7, 3) := by decide +kernel
theorem dX12_told_92 : decode cX12_told 92 = .ok (.iconst 1, 1) := by decide +kernel
theorem dX12_told_93 : decode cX12_told 93 = .ok (.goto 9, 3) := by decide +kernel
theorem dX12_told_96 : decode cX12_told 96 = .ok (.iconst 0, 1) := by decide +kernel
theorem dX12_told_97 : decode cX12_told 97 = .ok (.goto 5, 3) := by decide +kernel
theorem dX12_told_100 : decode cX12_told 100 = .ok (.bipush (-3), 2) := by decide +kernel
theorem dX12_told_102 : decode cX12_told 102 = .ok (.ireturn, 1) := by decide +kernel
theorem dX12_gauge_0 : decode cX12_gauge 0 = .ok (.aload_n 0, 1) := by decide +kernel
theorem dX12_gauge_1 : decode cX12_gauge 1 = .ok (.iload_n 1, 1) := by decide +kernel
theorem dX12_gauge_2 : decode cX12_gauge 2 = .ok (.iload_n 2, 1) := by decide +kernel
theorem dX12_gauge_3 : decode cX12_gauge 3 = .ok (.invokevirtual 152, 3) := by decide +kernel
theorem dX12_gauge_6 : decode cX12_gauge 6 = .ok (.ifCond .eq 28, 3) := by decide +kernel
theorem dX12_gauge_9 : decode cX12_gauge 9 = .ok (.aload_n 0, 1) := by decide +kernel
theorem dX12_gauge_10 : decode cX12_gauge 10 = .ok (.bipush 8, 2) := by decide +kernel
theorem dX12_gauge_12 : decode cX12_gauge 12 = .ok (.iload_n 1, 1) := by decide +kernel
theorem dX12_gauge_13 : decode cX12_gauge 13 = .ok (.imul, 1) := by decide +kernel
theorem dX12_gauge_14 : decode cX12_gauge 14 = .ok (.iload_n 2, 1) := by decide +kernel
theorem dX12_gauge_15 : decode cX12_gauge 15 = .ok (.iadd, 1) := by decide +kernel
theorem dX12_gauge_16 : decode cX12_gauge 16 = .ok (.invokevirtual 149, 3) := by decide +kernel
theorem dX12_gauge_19 : decode cX12_gauge 19 = .ok (.aload_n 0, 1) := by decide +kernel
theorem dX12_gauge_20 : decode cX12_gauge 20 = .ok (.getfield 40, 3) := by decide +kernel
theorem dX12_gauge_23 : decode cX12_gauge 23 = .ok (.bipush 8, 2) := by decide +kernel
theorem dX12_gauge_25 : decode cX12_gauge 25 = .ok (.iload_n 1, 1) := by decide +kernel
theorem dX12_gauge_26 : decode cX12_gauge 26 = .ok (.imul, 1) := by decide +kernel
theorem dX12_gauge_27 : decode cX12_gauge 27 = .ok (.iload_n 2, 1) := by decide +kernel
theorem dX12_gauge_28 : decode cX12_gauge 28 = .ok (.iadd, 1) := by decide +kernel
theorem dX12_gauge_29 : decode cX12_gauge 29 = .ok (.iaload, 1) := by decide +kernel
theorem dX12_gauge_30 : decode cX12_gauge 30 = .ok (.isub, 1) := by decide +kernel
theorem dX12_gauge_31 : decode cX12_gauge 31 = .ok (.goto 5, 3) := by decide +kernel
theorem dX12_gauge_34 : decode cX12_gauge 34 = .ok (.bipush (-2), 2) := by decide +kernel
theorem dX12_gauge_36 : decode cX12_gauge 36 = .ok (.ireturn, 1) := by decide +kernel
theorem dX12_ream_0 : decode cX12_ream 0 = .ok (.aload_n 0, 1) := by decide +kernel
theorem dX12_ream_1 : decode cX12_ream 1 = .ok (.iload_n 1, 1) := by decide +kernel
theorem dX12_ream_2 : decode cX12_ream 2 = .ok (.iload_n 2, 1) := by decide +kernel
theorem dX12_ream_3 : decode cX12_ream 3 = .ok (.invokevirtual 152, 3) := by decide +kernel
theorem dX12_ream_6 : decode cX12_ream 6 = .ok (.ifCond .ne 6, 3) := by decide +kernel
theorem dX12_ream_9 : decode cX12_ream 9 = .ok (.bipush (-2), 2) := by decide +kernel
theorem dX12_ream_11 : decode cX12_ream 11 = .ok (.ireturn, 1) := by decide +kernel
theorem dX12_ream_12 : decode cX12_ream 12 = .ok (.iload_n 3, 1) := by decide +kernel
theorem dX12_ream_13 : decode cX12_ream 13 = .ok (.iconst 1, 1) := by decide +kernel
theorem dX12_ream_14 : decode cX12_ream 14 = .ok (.bipush 50, 2) := by decide +kernel
theorem dX12_ream_16 : decode cX12_ream 16 = .ok (.invokestatic 123, 3) := by decide +kernel
theorem dX12_ream_19 : decode cX12_ream 19 = .ok (.ifCond .ne 6, 3) := by decide +kernel
theorem dX12_ream_22 : decode cX12_ream 22 = .ok (.bipush (-3), 2) := by decide +kernel
theorem dX12_ream_24 : decode cX12_ream 24 = .ok (.ireturn, 1) := by decide +kernel
theorem dX12_ream_25 : decode cX12_ream 25 = .ok (.bipush 8, 2) := by decide +kernel
theorem dX12_ream_27 : decode cX12_ream 27 = .ok (.iload_n 1, 1) := by decide +kernel
theorem dX12_ream_28 : decode cX12_ream 28 = .ok (.imul, 1) := by decide +kernel
theorem dX12_ream_29 : decode cX12_ream 29 = .ok (.iload_n 2, 1) := by decide +kernel
theorem dX12_ream_30 : decode cX12_ream 30 = .ok (.iadd, 1) := by decide +kernel
theorem dX12_ream_31 : decode cX12_ream 31 = .ok (.istore 4, 2) := by decide +kernel
theorem dX12_ream_33 : decode cX12_ream 33 = .ok (.aload_n 0, 1) := by decide +kernel
theorem dX12_ream_34 : decode cX12_ream 34 = .ok (.getfield 46, 3) := by decide +kernel
theorem dX12_ream_37 : decode cX12_ream 37 = .ok (.iload 4, 2) := by decide +kernel
theorem dX12_ream_39 : decode cX12_ream 39 = .ok (.iaload, 1) := by decide +kernel
theorem dX12_ream_40 : decode cX12_ream 40 = .ok (.iconst 2, 1) := by decide +kernel
theorem dX12_ream_41 : decode cX12_ream 41 = .ok (.if_icmp .eq 17, 3) := by decide +kernel
theorem dX12_ream_44 : decode cX12_ream 44 = .ok (.aload_n 0, 1) := by decide +kernel
theorem dX12_ream_45 : decode cX12_ream 45 = .ok (.iload 4, 2) := by decide +kernel
theorem dX12_ream_47 : decode cX12_ream 47 = .ok (.invokevirtual 149, 3) := by decide +kernel
theorem dX12_ream_50 : decode cX12_ream 50 = .ok (.iload_n 3, 1) := by decide +kernel
theorem dX12_ream_51 : decode cX12_ream 51 = .ok (.iadd, 1) := by decide +kernel
theorem dX12_ream_52 : decode cX12_ream 52 = .ok (.sipush 1000, 3) := by decide +kernel
theorem dX12_ream_55 : decode cX12_ream 55 = .ok (.if_icmp .le 6, 3) := by decide +kernel
theorem dX12_ream_58 : decode cX12_ream 58 = .ok (.bipush (-4), 2) := by decide +kernel
theorem dX12_ream_60 : decode cX12_ream 60 = .ok (.ireturn, 1) := by decide +kernel
theorem dX12_ream_61 : decode cX12_ream 61 = .ok (.aload_n 0, 1) := by decide +kernel
theorem dX12_ream_62 : decode cX12_ream 62 = .ok (.getfield 40, 3) := by decide +kernel
theorem dX12_ream_65 : decode cX12_ream 65 = .ok (.iload 4, 2) := by decide +kernel
theorem dX12_ream_67 : decode cX12_ream 67 = .ok (.aload_n 0, 1) := by decide +kernel
theorem dX12_ream_68 : decode cX12_ream 68 = .ok (.iload 4, 2) := by decide +kernel
theorem dX12_ream_70 : decode cX12_ream 70 = .ok (.invokevirtual 149, 3) := by decide +kernel
theorem dX12_ream_73 : decode cX12_ream 73 = .ok (.iload_n 3, 1) := by decide +kernel
theorem dX12_ream_74 : decode cX12_ream 74 = .ok (.iadd, 1) := by decide +kernel
theorem dX12_ream_75 : decode cX12_ream 75 = .ok (.iastore, 1) := by decide +kernel
theorem dX12_ream_76 : decode cX12_ream 76 = .ok (.aload_n 0, 1) := by decide +kernel
theorem dX12_ream_77 : decode cX12_ream 77 = .ok (.getfield 43, 3) := by decide +kernel
theorem dX12_ream_80 : decode cX12_ream 80 = .ok (.iload 4, 2) := by decide +kernel
theorem dX12_ream_82 : decode cX12_ream 82 = .ok (.iconst 0, 1) := by decide +kernel
theorem dX12_ream_83 : decode cX12_ream 83 = .ok (.iastore, 1) := by decide +kernel
theorem dX12_ream_84 : decode cX12_ream 84 = .ok (.aload_n 0, 1) := by decide +kernel
theorem dX12_ream_85 : decode cX12_ream 85 = .ok (.getfield 46, 3) := by decide +kernel
theorem dX12_ream_88 : decode cX12_ream 88 = .ok (.iload 4, 2) := by decide +kernel
theorem dX12_ream_90 : decode cX12_ream 90 = .ok (.dup2, 1) := by decide +kernel
theorem dX12_ream_91 : decode cX12_ream 91 = .ok (.iaload, 1) := by decide +kernel
theorem dX12_ream_92 : decode cX12_ream 92 = .ok (.iconst 1, 1) := by decide +kernel
theorem dX12_ream_93 : decode cX12_ream 93 = .ok (.iadd, 1) := by decide +kernel
theorem dX12_ream_94 : decode cX12_ream 94 = .ok (.iastore, 1) := by decide +kernel
theorem dX12_ream_95 : decode cX12_ream 95 = .ok (.aload_n 0, 1) := by decide +kernel
theorem dX12_ream_96 : decode cX12_ream 96 = .ok (.getfield 40, 3) := by decide +kernel
theorem dX12_ream_99 : decode cX12_ream 99 = .ok (.iload 4, 2) := by decide +kernel
theorem dX12_ream_101 : decode cX12_ream 101 = .ok (.iaload, 1) := by decide +kernel
theorem dX12_ream_102 : decode cX12_ream 102 = .ok (.ireturn, 1) := by decide +kernel
theorem dX12_newCoil_0 : decode cX12_newCoil 0 = .ok (.aload_n 0, 1) := by decide +kernel
theorem dX12_newCoil_1 : decode cX12_newCoil 1 = .ok (.getfield 49, 3) := by decide +kernel
theorem dX12_newCoil_4 : decode cX12_newCoil 4 = .ok (.aload_n 0, 1) := by decide +kernel
theorem dX12_newCoil_5 : decode cX12_newCoil 5 = .ok (.getfield 127, 3) := by decide +kernel
theorem dX12_newCoil_8 : decode cX12_newCoil 8 = .ok (.iload_n 1, 1) := by decide +kernel
theorem dX12_newCoil_9 : decode cX12_newCoil 9 = .ok (.iastore, 1) := by decide +kernel
theorem dX12_newCoil_10 : decode cX12_newCoil 10 = .ok (.aload_n 0, 1) := by decide +kernel
theorem dX12_newCoil_11 : decode cX12_newCoil 11 = .ok (.getfield 52, 3) := by decide +kernel
theorem dX12_newCoil_14 : decode cX12_newCoil 14 = .ok (.aload_n 0, 1) := by decide +kernel
theorem dX12_newCoil_15 : decode cX12_newCoil 15 = .ok (.getfield 127, 3) := by decide +kernel
theorem dX12_newCoil_18 : decode cX12_newCoil 18 = .ok (.iload_n 2, 1) := by decide +kernel
theorem dX12_newCoil_19 : decode cX12_newCoil 19 = .ok (.iastore, 1) := by decide +kernel
theorem dX12_newCoil_20 : decode cX12_newCoil 20 = .ok (.aload_n 0, 1) := by decide +kernel
theorem dX12_newCoil_21 : decode cX12_newCoil 21 = .ok (.getfield 55, 3) := by decide +kernel
theorem dX12_newCoil_24 : decode cX12_newCoil 24 = .ok (.aload_n 0, 1) := by decide +kernel
theorem dX12_newCoil_25 : decode cX12_newCoil 25 = .ok (.getfield 127, 3) := by decide +kernel
theorem dX12_newCoil_28 : decode cX12_newCoil 28 = .ok (.iconst 0, 1) := by decide +kernel
theorem dX12_newCoil_29 : decode cX12_newCoil 29 = .ok (.iastore, 1) := by decide +kernel
theorem dX12_newCoil_30 : decode cX12_newCoil 30 = .ok (.aload_n 0, 1) := by decide +kernel
theorem dX12_newCoil_31 : decode cX12_newCoil 31 = .ok (.getfield 58, 3) := by decide +kernel
theorem dX12_newCoil_34 : decode cX12_newCoil 34 = .ok (.aload_n 0, 1) := by decide +kernel
theorem dX12_newCoil_35 : decode cX12_newCoil 35 = .ok (.getfield 127, 3) := by decide +kernel
theorem dX12_newCoil_38 : decode cX12_newCoil 38 = .ok (.lload_n 3, 1) := by decide +kernel
theorem dX12_newCoil_39 : decode cX12_newCoil 39 = .ok (.lastore, 1) := by decide +kernel
theorem dX12_newCoil_40 : decode cX12_newCoil 40 = .ok (.aload_n 0, 1) := by decide +kernel
theorem dX12_newCoil_41 : decode cX12_newCoil 41 = .ok (.getfield 62, 3) := by decide +kernel
theorem dX12_newCoil_44 : decode cX12_newCoil 44 = .ok (.aload_n 0, 1) := by decide +kernel
theorem dX12_newCoil_45 : decode cX12_newCoil 45 = .ok (.getfield 127, 3) := by decide +kernel
theorem dX12_newCoil_48 : decode cX12_newCoil 48 = .ok (.iconst 0, 1) := by decide +kernel
theorem dX12_newCoil_49 : decode cX12_newCoil 49 = .ok (.iastore, 1) := by decide +kernel
theorem dX12_newCoil_50 : decode cX12_newCoil 50 = .ok (.aload_n 0, 1) := by decide +kernel
theorem dX12_newCoil_51 : decode cX12_newCoil 51 = .ok (.getfield 65, 3) := by decide +kernel
theorem dX12_newCoil_54 : decode cX12_newCoil 54 = .ok (.aload_n 0, 1) := by decide +kernel
theorem dX12_newCoil_55 : decode cX12_newCoil 55 = .ok (.getfield 127, 3) := by decide +kernel
theorem dX12_newCoil_58 : decode cX12_newCoil 58 = .ok (.iconst 0, 1) := by decide +kernel
theorem dX12_newCoil_59 : decode cX12_newCoil 59 = .ok (.iastore, 1) := by decide +kernel
theorem dX12_newCoil_60 : decode cX12_newCoil 60 = .ok (.aload_n 0, 1) := by decide +kernel
theorem dX12_newCoil_61 : decode cX12_newCoil 61 = .ok (.getfield 68, 3) := by decide +kernel
theorem dX12_newCoil_64 : decode cX12_newCoil 64 = .ok (.aload_n 0, 1) := by decide +kernel
theorem dX12_newCoil_65 : decode cX12_newCoil 65 = .ok (.getfield 127, 3) := by decide +kernel
theorem dX12_newCoil_68 : decode cX12_newCoil 68 = .ok (.iconst 0, 1) := by decide +kernel
theorem dX12_newCoil_69 : decode cX12_newCoil 69 = .ok (.bastore, 1) := by decide +kernel
theorem dX12_newCoil_70 : decode cX12_newCoil 70 = .ok (.aload_n 0, 1) := by decide +kernel
theorem dX12_newCoil_71 : decode cX12_newCoil 71 = .ok (.dup, 1) := by decide +kernel
theorem dX12_newCoil_72 : decode cX12_newCoil 72 = .ok (.getfield 127, 3) := by decide +kernel
theorem dX12_newCoil_75 : decode cX12_newCoil 75 = .ok (.iconst 1, 1) := by decide +kernel
theorem dX12_newCoil_76 : decode cX12_newCoil 76 = .ok (.iadd, 1) := by decide +kernel
theorem dX12_newCoil_77 : decode cX12_newCoil 77 = .ok (.putfield 127, 3) := by decide +kernel
theorem dX12_newCoil_80 : decode cX12_newCoil 80 = .ok (.aload_n 0, 1) := by decide +kernel
theorem dX12_newCoil_81 : decode cX12_newCoil 81 = .ok (.getfield 127, 3) := by decide +kernel
theorem dX12_newCoil_84 : decode cX12_newCoil 84 = .ok (.iconst 1, 1) := by decide +kernel
theorem dX12_newCoil_85 : decode cX12_newCoil 85 = .ok (.isub, 1) := by decide +kernel
theorem dX12_newCoil_86 : decode cX12_newCoil 86 = .ok (.ireturn, 1) := by decide +kernel
theorem dX12_coil_0 : decode cX12_coil 0 = .ok (.iload_n 1, 1) := by decide +kernel
theorem dX12_coil_1 : decode cX12_coil 1 = .ok (.invokestatic 131, 3) := by decide +kernel
theorem dX12_coil_4 : decode cX12_coil 4 = .ok (.ifCond .ne 6, 3) := by decide +kernel
theorem dX12_coil_7 : decode cX12_coil 7 = .ok (.bipush (-2), 2) := by decide +kernel
theorem dX12_coil_9 : decode cX12_coil 9 = .ok (.ireturn, 1) := by decide +kernel
theorem dX12_coil_10 : decode cX12_coil 10 = .ok (.iload_n 2, 1) := by decide +kernel
theorem dX12_coil_11 : decode cX12_coil 11 = .ok (.invokestatic 146, 3) := by decide +kernel
theorem dX12_coil_14 : decode cX12_coil 14 = .ok (.ifCond .eq 14, 3) := by decide +kernel
theorem dX12_coil_17 : decode cX12_coil 17 = .ok (.iload_n 3, 1) := by decide +kernel
theorem dX12_coil_18 : decode cX12_coil 18 = .ok (.iconst 1, 1) := by decide +kernel
theorem dX12_coil_19 : decode cX12_coil 19 = .ok (.sipush 1000, 3) := by decide +kernel
theorem dX12_coil_22 : decode cX12_coil 22 = .ok (.invokestatic 123, 3) := by decide +kernel
theorem dX12_coil_25 : decode cX12_coil 25 = .ok (.ifCond .ne 6, 3) := by decide +kernel
theorem dX12_coil_28 : decode cX12_coil 28 = .ok (.bipush (-3), 2) := by decide +kernel
theorem dX12_coil_30 : decode cX12_coil 30 = .ok (.ireturn, 1) := by decide +kernel
theorem dX12_coil_31 : decode cX12_coil 31 = .ok (.aload_n 0, 1) := by decide +kernel
theorem dX12_coil_32 : decode cX12_coil 32 = .ok (.getfield 127, 3) := by decide +kernel
theorem dX12_coil_35 : decode cX12_coil 35 = .ok (.bipush 16, 2) := by decide +kernel
theorem dX12_coil_37 : decode cX12_coil 37 = .ok (.if_icmp .ne 6, 3) := by decide +kernel
theorem dX12_coil_40 : decode cX12_coil 40 = .ok (.bipush (-8), 2) := by decide +kernel
theorem dX12_coil_42 : decode cX12_coil 42 = .ok (.ireturn, 1) := by decide +kernel
theorem dX12_coil_43 : decode cX12_coil 43 = .ok (.iload_n 2, 1) := by decide +kernel
theorem dX12_coil_44 : decode cX12_coil 44 = .ok (.i2l, 1) := by decide +kernel
theorem dX12_coil_45 : decode cX12_coil 45 = .ok (.iload_n 2, 1) := by decide +kernel
theorem dX12_coil_46 : decode cX12_coil 46 = .ok (.i2l, 1) := by decide +kernel
theorem dX12_coil_47 : decode cX12_coil 47 = .ok (.lmul, 1) := by decide +kernel
theorem dX12_coil_48 : decode cX12_coil 48 = .ok (.iload_n 3, 1) := by decide +kernel
theorem dX12_coil_49 : decode cX12_coil 49 = .ok (.i2l, 1) := by decide +kernel
theorem dX12_coil_50 : decode cX12_coil 50 = .ok (.lmul, 1) := by decide +kernel
theorem dX12_coil_51 : decode cX12_coil 51 = .ok (.lstore 5, 2) := by decide +kernel
theorem dX12_coil_53 : decode cX12_coil 53 = .ok (.aload_n 0, 1) := by decide +kernel
theorem dX12_coil_54 : decode cX12_coil 54 = .ok (.dup, 1) := by decide +kernel
theorem dX12_coil_55 : decode cX12_coil 55 = .ok (.getfield 159, 3) := by decide +kernel
theorem dX12_coil_58 : decode cX12_coil 58 = .ok (.lload 5, 2) := by decide +kernel
theorem dX12_coil_60 : decode cX12_coil 60 = .ok (.ladd, 1) := by decide +kernel
theorem dX12_coil_61 : decode cX12_coil 61 = .ok (.putfield 159, 3) := by decide +kernel
theorem dX12_coil_64 : decode cX12_coil 64 = .ok (.aload_n 0, 1) := by decide +kernel
theorem dX12_coil_65 : decode cX12_coil 65 = .ok (.iload_n 1, 1) := by decide +kernel
theorem dX12_coil_66 : decode cX12_coil 66 = .ok (.iload_n 2, 1) := by decide +kernel
theorem dX12_coil_67 : decode cX12_coil 67 = .ok (.lload 5, 2) := by decide +kernel
theorem dX12_coil_69 : decode cX12_coil 69 = .ok (.invokevirtual 163, 3) := by decide +kernel
theorem dX12_coil_72 : decode cX12_coil 72 = .ok (.istore 7, 2) := by decide +kernel
theorem dX12_coil_74 : decode cX12_coil 74 = .ok (.aload_n 0, 1) := by decide +kernel
theorem dX12_coil_75 : decode cX12_coil 75 = .ok (.getfield 68, 3) := by decide +kernel
theorem dX12_coil_78 : decode cX12_coil 78 = .ok (.iload 7, 2) := by decide +kernel
theorem dX12_coil_80 : decode cX12_coil 80 = .ok (.iload 4, 2) := by decide +kernel
theorem dX12_coil_82 : decode cX12_coil 82 = .ok (.bastore, 1) := by decide +kernel
theorem dX12_coil_83 : decode cX12_coil 83 = .ok (.iload 7, 2) := by decide +kernel
theorem dX12_coil_85 : decode cX12_coil 85 = .ok (.ireturn, 1) := by decide +kernel
theorem dX12_feetOf_0 : decode cX12_feetOf 0 = .ok (.aload_n 0, 1) := by decide +kernel
theorem dX12_feetOf_1 : decode cX12_feetOf 1 = .ok (.getfield 58, 3) := by decide +kernel
theorem dX12_feetOf_4 : decode cX12_feetOf 4 = .ok (.iload_n 1, 1) := by decide +kernel
theorem dX12_feetOf_5 : decode cX12_feetOf 5 = .ok (.laload, 1) := by decide +kernel
theorem dX12_feetOf_6 : decode cX12_feetOf 6 = .ok (.aload_n 0, 1) := by decide +kernel
theorem dX12_feetOf_7 : decode cX12_feetOf 7 = .ok (.getfield 52, 3) := by decide +kernel
theorem dX12_feetOf_10 : decode cX12_feetOf 10 = .ok (.iload_n 1, 1) := by decide +kernel
theorem dX12_feetOf_11 : decode cX12_feetOf 11 = .ok (.iaload, 1) := by decide +kernel
theorem dX12_feetOf_12 : decode cX12_feetOf 12 = .ok (.i2l, 1) := by decide +kernel
theorem dX12_feetOf_13 : decode cX12_feetOf 13 = .ok (.aload_n 0, 1) := by decide +kernel
theorem dX12_feetOf_14 : decode cX12_feetOf 14 = .ok (.getfield 52, 3) := by decide +kernel
theorem dX12_feetOf_17 : decode cX12_feetOf 17 = .ok (.iload_n 1, 1) := by decide +kernel
theorem dX12_feetOf_18 : decode cX12_feetOf 18 = .ok (.iaload, 1) := by decide +kernel
theorem dX12_feetOf_19 : decode cX12_feetOf 19 = .ok (.i2l, 1) := by decide +kernel
theorem dX12_feetOf_20 : decode cX12_feetOf 20 = .ok (.lmul, 1) := by decide +kernel
theorem dX12_feetOf_21 : decode cX12_feetOf 21 = .ok (.ldiv, 1) := by decide +kernel
theorem dX12_feetOf_22 : decode cX12_feetOf 22 = .ok (.l2i, 1) := by decide +kernel
theorem dX12_feetOf_23 : decode cX12_feetOf 23 = .ok (.ireturn, 1) := by decide +kernel
theorem dX12_tidy_0 : decode cX12_tidy 0 = .ok (.aload_n 0, 1) := by decide +kernel
theorem dX12_tidy_1 : decode cX12_tidy 1 = .ok (.iload_n 1, 1) := by decide +kernel
theorem dX12_tidy_2 : decode cX12_tidy 2 = .ok (.invokevirtual 167, 3) := by decide +kernel
theorem dX12_tidy_5 : decode cX12_tidy 5 = .ok (.ifCond .ne 25, 3) := by decide +kernel
theorem dX12_tidy_8 : decode cX12_tidy 8 = .ok (.aload_n 0, 1) := by decide +kernel
theorem dX12_tidy_9 : decode cX12_tidy 9 = .ok (.dup, 1) := by decide +kernel
theorem dX12_tidy_10 : decode cX12_tidy 10 = .ok (.getfield 170, 3) := by decide +kernel
theorem dX12_tidy_13 : decode cX12_tidy 13 = .ok (.aload_n 0, 1) := by decide +kernel
theorem dX12_tidy_14 : decode cX12_tidy 14 = .ok (.getfield 58, 3) := by decide +kernel
theorem dX12_tidy_17 : decode cX12_tidy 17 = .ok (.iload_n 1, 1) := by decide +kernel
theorem dX12_tidy_18 : decode cX12_tidy 18 = .ok (.laload, 1) := by decide +kernel
theorem dX12_tidy_19 : decode cX12_tidy 19 = .ok (.ladd, 1) := by decide +kernel
theorem dX12_tidy_20 : decode cX12_tidy 20 = .ok (.putfield 170, 3) := by decide +kernel
theorem dX12_tidy_23 : decode cX12_tidy 23 = .ok (.aload_n 0, 1) := by decide +kernel
theorem dX12_tidy_24 : decode cX12_tidy 24 = .ok (.getfield 58, 3) := by decide +kernel
theorem dX12_tidy_27 : decode cX12_tidy 27 = .ok (.iload_n 1, 1) := by decide +kernel
theorem dX12_tidy_28 : decode cX12_tidy 28 = .ok (.lconst 0, 1) := by decide +kernel
theorem dX12_tidy_29 : decode cX12_tidy 29 = .ok (.lastore, 1) := by decide +kernel
theorem dX12_tidy_30 : decode cX12_tidy 30 = .ok (.return_, 1) := by decide +kernel
theorem dX12_at_0 : decode cX12_at 0 = .ok (.aload_n 0, 1) := by decide +kernel
theorem dX12_at_1 : decode cX12_at 1 = .ok (.iload_n 1, 1) := by decide +kernel
theorem dX12_at_2 : decode cX12_at 2 = .ok (.invokevirtual 173, 3) := by decide +kernel
theorem dX12_at_5 : decode cX12_at 5 = .ok (.ifCond .ne 6, 3) := by decide +kernel
theorem dX12_at_8 : decode cX12_at 8 = .ok (.bipush (-2), 2) := by decide +kernel
theorem dX12_at_10 : decode cX12_at 10 = .ok (.ireturn, 1) := by decide +kernel
theorem dX12_at_11 : decode cX12_at 11 = .ok (.iload_n 2, 1) := by decide +kernel
theorem dX12_at_12 : decode cX12_at 12 = .ok (.tableswitch 100 0 6 #[44, 51, 58, 65, 71, 78, 85], 44) := by decide +kernel
theorem dX12_at_56 : decode cX12_at 56 = .ok (.aload_n 0, 1) := by decide +kernel
theorem dX12_at_57 : decode cX12_at 57 = .ok (.getfield 49, 3) := by decide +kernel
theorem dX12_at_60 : decode cX12_at 60 = .ok (.iload_n 1, 1) := by decide +kernel
theorem dX12_at_61 : decode cX12_at 61 = .ok (.iaload, 1) := by decide +kernel
theorem dX12_at_62 : decode cX12_at 62 = .ok (.ireturn, 1) := by decide +kernel
theorem dX12_at_63 : decode cX12_at 63 = .ok (.aload_n 0, 1) := by decide +kernel
theorem dX12_at_64 : decode cX12_at 64 = .ok (.getfield 52, 3) := by decide +kernel
theorem dX12_at_67 : decode cX12_at 67 = .ok (.iload_n 1, 1) := by decide +kernel
theorem dX12_at_68 : decode cX12_at 68 = .ok (.iaload, 1) := by decide +kernel
theorem dX12_at_69 : decode cX12_at 69 = .ok (.ireturn, 1) := by decide +kernel
theorem dX12_at_70 : decode cX12_at 70 = .ok (.aload_n 0, 1) := by decide +kernel
theorem dX12_at_71 : decode cX12_at 71 = .ok (.getfield 55, 3) := by decide +kernel
theorem dX12_at_74 : decode cX12_at 74 = .ok (.iload_n 1, 1) := by decide +kernel
theorem dX12_at_75 : decode cX12_at 75 = .ok (.iaload, 1) := by decide +kernel
theorem dX12_at_76 : decode cX12_at 76 = .ok (.ireturn, 1) := by decide +kernel
theorem dX12_at_77 : decode cX12_at 77 = .ok (.aload_n 0, 1) := by decide +kernel
theorem dX12_at_78 : decode cX12_at 78 = .ok (.iload_n 1, 1) := by decide +kernel
theorem dX12_at_79 : decode cX12_at 79 = .ok (.invokevirtual 167, 3) := by decide +kernel
theorem dX12_at_82 : decode cX12_at 82 = .ok (.ireturn, 1) := by decide +kernel
theorem dX12_at_83 : decode cX12_at 83 = .ok (.aload_n 0, 1) := by decide +kernel
theorem dX12_at_84 : decode cX12_at 84 = .ok (.getfield 62, 3) := by decide +kernel
theorem dX12_at_87 : decode cX12_at 87 = .ok (.iload_n 1, 1) := by decide +kernel
theorem dX12_at_88 : decode cX12_at 88 = .ok (.iaload, 1) := by decide +kernel
theorem dX12_at_89 : decode cX12_at 89 = .ok (.ireturn, 1) := by decide +kernel
theorem dX12_at_90 : decode cX12_at 90 = .ok (.aload_n 0, 1) := by decide +kernel
theorem dX12_at_91 : decode cX12_at 91 = .ok (.getfield 65, 3) := by decide +kernel
theorem dX12_at_94 : decode cX12_at 94 = .ok (.iload_n 1, 1) := by decide +kernel
theorem dX12_at_95 : decode cX12_at 95 = .ok (.iaload, 1) := by decide +kernel
theorem dX12_at_96 : decode cX12_at 96 = .ok (.ireturn, 1) := by decide +kernel
theorem dX12_at_97 : decode cX12_at 97 = .ok (.aload_n 0, 1) := by decide +kernel
theorem dX12_at_98 : decode cX12_at 98 = .ok (.getfield 68, 3) := by decide +kernel
theorem dX12_at_101 : decode cX12_at 101 = .ok (.iload_n 1, 1) := by decide +kernel
theorem dX12_at_102 : decode cX12_at 102 = .ok (.baload, 1) := by decide +kernel
theorem dX12_at_103 : decode cX12_at 103 = .ok (.ifCond .eq 7, 3) := by decide +kernel
theorem dX12_at_106 : decode cX12_at 106 = .ok (.iconst 1, 1) := by decide +kernel
theorem dX12_at_107 : decode cX12_at 107 = .ok (.goto 4, 3) := by decide +kernel
theorem dX12_at_110 : decode cX12_at 110 = .ok (.iconst 0, 1) := by decide +kernel
theorem dX12_at_111 : decode cX12_at 111 = .ok (.ireturn, 1) := by decide +kernel
theorem dX12_at_112 : decode cX12_at 112 = .ok (.bipush (-3), 2) := by decide +kernel
theorem dX12_at_114 : decode cX12_at 114 = .ok (.ireturn, 1) := by decide +kernel
theorem dX12_stuff_0 : decode cX12_stuff 0 = .ok (.aload_n 0, 1) := by decide +kernel
theorem dX12_stuff_1 : decode cX12_stuff 1 = .ok (.iload_n 1, 1) := by decide +kernel
theorem dX12_stuff_2 : decode cX12_stuff 2 = .ok (.invokevirtual 173, 3) := by decide +kernel
theorem dX12_stuff_5 : decode cX12_stuff 5 = .ok (.ifCond .eq 12, 3) := by decide +kernel
theorem dX12_stuff_8 : decode cX12_stuff 8 = .ok (.aload_n 0, 1) := by decide +kernel
theorem dX12_stuff_9 : decode cX12_stuff 9 = .ok (.getfield 58, 3) := by decide +kernel
theorem dX12_stuff_12 : decode cX12_stuff 12 = .ok (.iload_n 1, 1) := by decide +kernel
theorem dX12_stuff_13 : decode cX12_stuff 13 = .ok (.laload, 1) := by decide +kernel
theorem dX12_stuff_14 : decode cX12_stuff 14 = .ok (.goto 6, 3) := by decide +kernel
theorem dX12_stuff_17 : decode cX12_stuff 17 = .ok (.ldc2_w 176, 3) := by decide +kernel
theorem dX12_stuff_20 : decode cX12_stuff 20 = .ok (.lreturn, 1) := by decide +kernel
theorem dX12_thinner_0 : decode cX12_thinner 0 = .ok (.sipush 1000, 3) := by decide +kernel
theorem dX12_thinner_3 : decode cX12_thinner 3 = .ok (.ldc2_w 178, 3) := by decide +kernel
theorem dX12_thinner_6 : decode cX12_thinner 6 = .ok (.iload_n 1, 1) := by decide +kernel
theorem dX12_thinner_7 : decode cX12_thinner 7 = .ok (.i2l, 1) := by decide +kernel
theorem dX12_thinner_8 : decode cX12_thinner 8 = .ok (.lmul, 1) := by decide +kernel
theorem dX12_thinner_9 : decode cX12_thinner 9 = .ok (.iload_n 1, 1) := by decide +kernel
theorem dX12_thinner_10 : decode cX12_thinner 10 = .ok (.i2l, 1) := by decide +kernel
theorem dX12_thinner_11 : decode cX12_thinner 11 = .ok (.lmul, 1) := by decide +kernel
theorem dX12_thinner_12 : decode cX12_thinner 12 = .ok (.iload_n 0, 1) := by decide +kernel
theorem dX12_thinner_13 : decode cX12_thinner 13 = .ok (.i2l, 1) := by decide +kernel
theorem dX12_thinner_14 : decode cX12_thinner 14 = .ok (.iload_n 0, 1) := by decide +kernel
theorem dX12_thinner_15 : decode cX12_thinner 15 = .ok (.i2l, 1) := by decide +kernel
theorem dX12_thinner_16 : decode cX12_thinner 16 = .ok (.lmul, 1) := by decide +kernel
theorem dX12_thinner_17 : decode cX12_thinner 17 = .ok (.ldiv, 1) := by decide +kernel
theorem dX12_thinner_18 : decode cX12_thinner 18 = .ok (.l2i, 1) := by decide +kernel
theorem dX12_thinner_19 : decode cX12_thinner 19 = .ok (.isub, 1) := by decide +kernel
theorem dX12_thinner_20 : decode cX12_thinner 20 = .ok (.ireturn, 1) := by decide +kernel
theorem dX12_harder_0 : decode cX12_harder 0 = .ok (.iload_n 3, 1) := by decide +kernel
theorem dX12_harder_1 : decode cX12_harder 1 = .ok (.aload_n 0, 1) := by decide +kernel
theorem dX12_harder_2 : decode cX12_harder 2 = .ok (.getfield 13, 3) := by decide +kernel
theorem dX12_harder_5 : decode cX12_harder 5 = .ok (.iload_n 1, 1) := by decide +kernel
theorem dX12_harder_6 : decode cX12_harder 6 = .ok (.iaload, 1) := by decide +kernel
theorem dX12_harder_7 : decode cX12_harder 7 = .ok (.iload_n 2, 1) := by decide +kernel
theorem dX12_harder_8 : decode cX12_harder 8 = .ok (.iload 4, 2) := by decide +kernel
theorem dX12_harder_10 : decode cX12_harder 10 = .ok (.invokestatic 180, 3) := by decide +kernel
theorem dX12_harder_13 : decode cX12_harder 13 = .ok (.imul, 1) := by decide +kernel
theorem dX12_harder_14 : decode cX12_harder 14 = .ok (.sipush 1000, 3) := by decide +kernel
theorem dX12_harder_17 : decode cX12_harder 17 = .ok (.idiv, 1) := by decide +kernel
theorem dX12_harder_18 : decode cX12_harder 18 = .ok (.iadd, 1) := by decide +kernel
theorem dX12_harder_19 : decode cX12_harder 19 = .ok (.ireturn, 1) := by decide +kernel
theorem dX12_asksOf_0 : decode cX12_asksOf 0 = .ok (.iload_n 2, 1) := by decide +kernel
theorem dX12_asksOf_1 : decode cX12_asksOf 1 = .ok (.i2l, 1) := by decide +kernel
theorem dX12_asksOf_2 : decode cX12_asksOf 2 = .ok (.iload_n 2, 1) := by decide +kernel
theorem dX12_asksOf_3 : decode cX12_asksOf 3 = .ok (.i2l, 1) := by decide +kernel
theorem dX12_asksOf_4 : decode cX12_asksOf 4 = .ok (.lmul, 1) := by decide +kernel
theorem dX12_asksOf_5 : decode cX12_asksOf 5 = .ok (.iload 4, 2) := by decide +kernel
theorem dX12_asksOf_7 : decode cX12_asksOf 7 = .ok (.i2l, 1) := by decide +kernel
theorem dX12_asksOf_8 : decode cX12_asksOf 8 = .ok (.iload 4, 2) := by decide +kernel
theorem dX12_asksOf_10 : decode cX12_asksOf 10 = .ok (.i2l, 1) := by decide +kernel
theorem dX12_asksOf_11 : decode cX12_asksOf 11 = .ok (.lmul, 1) := by decide +kernel
theorem dX12_asksOf_12 : decode cX12_asksOf 12 = .ok (.lsub, 1) := by decide +kernel
theorem dX12_asksOf_13 : decode cX12_asksOf 13 = .ok (.aload_n 0, 1) := by decide +kernel
theorem dX12_asksOf_14 : decode cX12_asksOf 14 = .ok (.getfield 7, 3) := by decide +kernel
theorem dX12_asksOf_17 : decode cX12_asksOf 17 = .ok (.iload_n 1, 1) := by decide +kernel
theorem dX12_asksOf_18 : decode cX12_asksOf 18 = .ok (.iaload, 1) := by decide +kernel
theorem dX12_asksOf_19 : decode cX12_asksOf 19 = .ok (.i2l, 1) := by decide +kernel
theorem dX12_asksOf_20 : decode cX12_asksOf 20 = .ok (.lmul, 1) := by decide +kernel
theorem dX12_asksOf_21 : decode cX12_asksOf 21 = .ok (.bipush 100, 2) := by decide +kernel
theorem dX12_asksOf_23 : decode cX12_asksOf 23 = .ok (.iload_n 3, 1) := by decide +kernel
theorem dX12_asksOf_24 : decode cX12_asksOf 24 = .ok (.iadd, 1) := by decide +kernel
theorem dX12_asksOf_25 : decode cX12_asksOf 25 = .ok (.i2l, 1) := by decide +kernel
theorem dX12_asksOf_26 : decode cX12_asksOf 26 = .ok (.lmul, 1) := by decide +kernel
theorem dX12_asksOf_27 : decode cX12_asksOf 27 = .ok (.ldc2_w 184, 3) := by decide +kernel
theorem dX12_asksOf_30 : decode cX12_asksOf 30 = .ok (.ldiv, 1) := by decide +kernel
theorem dX12_asksOf_31 : decode cX12_asksOf 31 = .ok (.lstore 5, 2) := by decide +kernel
theorem dX12_asksOf_33 : decode cX12_asksOf 33 = .ok (.lload 5, 2) := by decide +kernel
theorem dX12_asksOf_35 : decode cX12_asksOf 35 = .ok (.lload 5, 2) := by decide +kernel
theorem dX12_asksOf_37 : decode cX12_asksOf 37 = .ok (.aload_n 0, 1) := by decide +kernel
theorem dX12_asksOf_38 : decode cX12_asksOf 38 = .ok (.getfield 25, 3) := by decide +kernel
theorem dX12_asksOf_41 : decode cX12_asksOf 41 = .ok (.iconst 0, 1) := by decide +kernel
theorem dX12_asksOf_42 : decode cX12_asksOf 42 = .ok (.iaload, 1) := by decide +kernel
theorem dX12_asksOf_43 : decode cX12_asksOf 43 = .ok (.i2l, 1) := by decide +kernel
theorem dX12_asksOf_44 : decode cX12_asksOf 44 = .ok (.lmul, 1) := by decide +kernel
theorem dX12_asksOf_45 : decode cX12_asksOf 45 = .ok (.ldc2_w 184, 3) := by decide +kernel
theorem dX12_asksOf_48 : decode cX12_asksOf 48 = .ok (.ldiv, 1) := by decide +kernel
theorem dX12_asksOf_49 : decode cX12_asksOf 49 = .ok (.ladd, 1) := by decide +kernel
theorem dX12_asksOf_50 : decode cX12_asksOf 50 = .ok (.lreturn, 1) := by decide +kernel
theorem dX12_bearsOf_0 : decode cX12_bearsOf 0 = .ok (.iload 4, 2) := by decide +kernel
theorem dX12_bearsOf_2 : decode cX12_bearsOf 2 = .ok (.i2l, 1) := by decide +kernel
theorem dX12_bearsOf_3 : decode cX12_bearsOf 3 = .ok (.iload 4, 2) := by decide +kernel
theorem dX12_bearsOf_5 : decode cX12_bearsOf 5 = .ok (.i2l, 1) := by decide +kernel
theorem dX12_bearsOf_6 : decode cX12_bearsOf 6 = .ok (.lmul, 1) := by decide +kernel
theorem dX12_bearsOf_7 : decode cX12_bearsOf 7 = .ok (.aload_n 0, 1) := by decide +kernel
theorem dX12_bearsOf_8 : decode cX12_bearsOf 8 = .ok (.getfield 7, 3) := by decide +kernel
theorem dX12_bearsOf_11 : decode cX12_bearsOf 11 = .ok (.iload_n 1, 1) := by decide +kernel
theorem dX12_bearsOf_12 : decode cX12_bearsOf 12 = .ok (.iaload, 1) := by decide +kernel
theorem dX12_bearsOf_13 : decode cX12_bearsOf 13 = .ok (.i2l, 1) := by decide +kernel
theorem dX12_bearsOf_14 : decode cX12_bearsOf 14 = .ok (.lmul, 1) := by decide +kernel
theorem dX12_bearsOf_15 : decode cX12_bearsOf 15 = .ok (.bipush 100, 2) := by decide +kernel
theorem dX12_bearsOf_17 : decode cX12_bearsOf 17 = .ok (.aload_n 0, 1) := by decide +kernel
theorem dX12_bearsOf_18 : decode cX12_bearsOf 18 = .ok (.iload_n 1, 1) := by decide +kernel
theorem dX12_bearsOf_19 : decode cX12_bearsOf 19 = .ok (.iload_n 2, 1) := by decide +kernel
theorem dX12_bearsOf_20 : decode cX12_bearsOf 20 = .ok (.iload_n 3, 1) := by decide +kernel
theorem dX12_bearsOf_21 : decode cX12_bearsOf 21 = .ok (.iload 4, 2) := by decide +kernel
theorem dX12_bearsOf_23 : decode cX12_bearsOf 23 = .ok (.invokevirtual 186, 3) := by decide +kernel
theorem dX12_bearsOf_26 : decode cX12_bearsOf 26 = .ok (.iadd, 1) := by decide +kernel
theorem dX12_bearsOf_27 : decode cX12_bearsOf 27 = .ok (.i2l, 1) := by decide +kernel
theorem dX12_bearsOf_28 : decode cX12_bearsOf 28 = .ok (.lmul, 1) := by decide +kernel
theorem dX12_bearsOf_29 : decode cX12_bearsOf 29 = .ok (.ldc2_w 184, 3) := by decide +kernel
theorem dX12_bearsOf_32 : decode cX12_bearsOf 32 = .ok (.ldiv, 1) := by decide +kernel
theorem dX12_bearsOf_33 : decode cX12_bearsOf 33 = .ok (.lstore 6, 2) := by decide +kernel
theorem dX12_bearsOf_35 : decode cX12_bearsOf 35 = .ok (.iload 5, 2) := by decide +kernel
theorem dX12_bearsOf_37 : decode cX12_bearsOf 37 = .ok (.ifCond .le 16, 3) := by decide +kernel
theorem dX12_bearsOf_40 : decode cX12_bearsOf 40 = .ok (.lload 6, 2) := by decide +kernel
theorem dX12_bearsOf_42 : decode cX12_bearsOf 42 = .ok (.ldc2_w 190, 3) := by decide +kernel
theorem dX12_bearsOf_45 : decode cX12_bearsOf 45 = .ok (.lmul, 1) := by decide +kernel
theorem dX12_bearsOf_46 : decode cX12_bearsOf 46 = .ok (.ldc2_w 192, 3) := by decide +kernel
theorem dX12_bearsOf_49 : decode cX12_bearsOf 49 = .ok (.ldiv, 1) := by decide +kernel
theorem dX12_bearsOf_50 : decode cX12_bearsOf 50 = .ok (.goto 5, 3) := by decide +kernel
theorem dX12_bearsOf_53 : decode cX12_bearsOf 53 = .ok (.lload 6, 2) := by decide +kernel
theorem dX12_bearsOf_55 : decode cX12_bearsOf 55 = .ok (.lstore 6, 2) := by decide +kernel
theorem dX12_bearsOf_57 : decode cX12_bearsOf 57 = .ok (.lload 6, 2) := by decide +kernel
theorem dX12_bearsOf_59 : decode cX12_bearsOf 59 = .ok (.aload_n 0, 1) := by decide +kernel
theorem dX12_bearsOf_60 : decode cX12_bearsOf 60 = .ok (.getfield 25, 3) := by decide +kernel
theorem dX12_bearsOf_63 : decode cX12_bearsOf 63 = .ok (.iconst 1, 1) := by decide +kernel
theorem dX12_bearsOf_64 : decode cX12_bearsOf 64 = .ok (.iaload, 1) := by decide +kernel
theorem dX12_bearsOf_65 : decode cX12_bearsOf 65 = .ok (.i2l, 1) := by decide +kernel
theorem dX12_bearsOf_66 : decode cX12_bearsOf 66 = .ok (.lmul, 1) := by decide +kernel
theorem dX12_bearsOf_67 : decode cX12_bearsOf 67 = .ok (.ldc2_w 184, 3) := by decide +kernel
theorem dX12_bearsOf_70 : decode cX12_bearsOf 70 = .ok (.ldiv, 1) := by decide +kernel
theorem dX12_bearsOf_71 : decode cX12_bearsOf 71 = .ok (.lreturn, 1) := by decide +kernel
theorem dX12_asks_0 : decode cX12_asks 0 = .ok (.aload_n 0, 1) := by decide +kernel
theorem dX12_asks_1 : decode cX12_asks 1 = .ok (.iload_n 1, 1) := by decide +kernel
theorem dX12_asks_2 : decode cX12_asks 2 = .ok (.invokevirtual 173, 3) := by decide +kernel
theorem dX12_asks_5 : decode cX12_asks 5 = .ok (.ifCond .eq 12, 3) := by decide +kernel
theorem dX12_asks_8 : decode cX12_asks 8 = .ok (.aload_n 0, 1) := by decide +kernel
theorem dX12_asks_9 : decode cX12_asks 9 = .ok (.iload_n 2, 1) := by decide +kernel
theorem dX12_asks_10 : decode cX12_asks 10 = .ok (.iload_n 3, 1) := by decide +kernel
theorem dX12_asks_11 : decode cX12_asks 11 = .ok (.invokevirtual 152, 3) := by decide +kernel
theorem dX12_asks_14 : decode cX12_asks 14 = .ok (.ifCond .ne 6, 3) := by decide +kernel
theorem dX12_asks_17 : decode cX12_asks 17 = .ok (.bipush (-2), 2) := by decide +kernel
theorem dX12_asks_19 : decode cX12_asks 19 = .ok (.ireturn, 1) := by decide +kernel
theorem dX12_asks_20 : decode cX12_asks 20 = .ok (.iload 4, 2) := by decide +kernel
theorem dX12_asks_22 : decode cX12_asks 22 = .ok (.iconst 0, 1) := by decide +kernel
theorem dX12_asks_23 : decode cX12_asks 23 = .ok (.iconst 3, 1) := by decide +kernel
theorem dX12_asks_24 : decode cX12_asks 24 = .ok (.invokestatic 123, 3) := by decide +kernel
theorem dX12_asks_27 : decode cX12_asks 27 = .ok (.ifCond .ne 6, 3) := by decide +kernel
theorem dX12_asks_30 : decode cX12_asks 30 = .ok (.bipush (-3), 2) := by decide +kernel
theorem dX12_asks_32 : decode cX12_asks 32 = .ok (.ireturn, 1) := by decide +kernel
theorem dX12_asks_33 : decode cX12_asks 33 = .ok (.aload_n 0, 1) := by decide +kernel
theorem dX12_asks_34 : decode cX12_asks 34 = .ok (.bipush 8, 2) := by decide +kernel
theorem dX12_asks_36 : decode cX12_asks 36 = .ok (.iload_n 2, 1) := by decide +kernel
theorem dX12_asks_37 : decode cX12_asks 37 = .ok (.imul, 1) := by decide +kernel
theorem dX12_asks_38 : decode cX12_asks 38 = .ok (.iload_n 3, 1) := by decide +kernel
theorem dX12_asks_39 : decode cX12_asks 39 = .ok (.iadd, 1) := by decide +kernel
theorem dX12_asks_40 : decode cX12_asks 40 = .ok (.invokevirtual 149, 3) := by decide +kernel
theorem dX12_asks_43 : decode cX12_asks 43 = .ok (.istore 5, 2) := by decide +kernel
theorem dX12_asks_45 : decode cX12_asks 45 = .ok (.iload 5, 2) := by decide +kernel
theorem dX12_asks_47 : decode cX12_asks 47 = .ok (.aload_n 0, 1) := by decide +kernel
theorem dX12_asks_48 : decode cX12_asks 48 = .ok (.getfield 52, 3) := by decide +kernel
theorem dX12_asks_51 : decode cX12_asks 51 = .ok (.iload_n 1, 1) := by decide +kernel
theorem dX12_asks_52 : decode cX12_asks 52 = .ok (.iaload, 1) := by decide +kernel
theorem dX12_asks_53 : decode cX12_asks 53 = .ok (.if_icmp .lt 6, 3) := by decide +kernel
theorem dX12_asks_56 : decode cX12_asks 56 = .ok (.bipush (-4), 2) := by decide +kernel
theorem dX12_asks_58 : decode cX12_asks 58 = .ok (.ireturn, 1) := by decide +kernel
theorem dX12_asks_59 : decode cX12_asks 59 = .ok (.iload 4, 2) := by decide +kernel
theorem dX12_asks_61 : decode cX12_asks 61 = .ok (.ifCond .ne 31, 3) := by decide +kernel
theorem dX12_asks_64 : decode cX12_asks 64 = .ok (.aload_n 0, 1) := by decide +kernel
theorem dX12_asks_65 : decode cX12_asks 65 = .ok (.aload_n 0, 1) := by decide +kernel
theorem dX12_asks_66 : decode cX12_asks 66 = .ok (.getfield 49, 3) := by decide +kernel
theorem dX12_asks_69 : decode cX12_asks 69 = .ok (.iload_n 1, 1) := by decide +kernel
theorem dX12_asks_70 : decode cX12_asks 70 = .ok (.iaload, 1) := by decide +kernel
theorem dX12_asks_71 : decode cX12_asks 71 = .ok (.aload_n 0, 1) := by decide +kernel
theorem dX12_asks_72 : decode cX12_asks 72 = .ok (.getfield 52, 3) := by decide +kernel
theorem dX12_asks_75 : decode cX12_asks 75 = .ok (.iload_n 1, 1) := by decide +kernel
theorem dX12_asks_76 : decode cX12_asks 76 = .ok (.iaload, 1) := by decide +kernel
theorem dX12_asks_77 : decode cX12_asks 77 = .ok (.aload_n 0, 1) := by decide +kernel
theorem dX12_asks_78 : decode cX12_asks 78 = .ok (.getfield 55, 3) := by decide +kernel
theorem dX12_asks_81 : decode cX12_asks 81 = .ok (.iload_n 1, 1) := by decide +kernel
theorem dX12_asks_82 : decode cX12_asks 82 = .ok (.iaload, 1) := by decide +kernel
theorem dX12_asks_83 : decode cX12_asks 83 = .ok (.iload 5, 2) := by decide +kernel
theorem dX12_asks_85 : decode cX12_asks 85 = .ok (.invokevirtual 194, 3) := by decide +kernel
theorem dX12_asks_88 : decode cX12_asks 88 = .ok (.l2i, 1) := by decide +kernel
theorem dX12_asks_89 : decode cX12_asks 89 = .ok (.goto 87, 3) := by decide +kernel
theorem dX12_asks_92 : decode cX12_asks 92 = .ok (.iload 4, 2) := by decide +kernel
theorem dX12_asks_94 : decode cX12_asks 94 = .ok (.iconst 1, 1) := by decide +kernel
theorem dX12_asks_95 : decode cX12_asks 95 = .ok (.if_icmp .ne 37, 3) := by decide +kernel
theorem dX12_asks_98 : decode cX12_asks 98 = .ok (.aload_n 0, 1) := by decide +kernel
theorem dX12_asks_99 : decode cX12_asks 99 = .ok (.aload_n 0, 1) := by decide +kernel
theorem dX12_asks_100 : decode cX12_asks 100 = .ok (.getfield 49, 3) := by decide +kernel
theorem dX12_asks_103 : decode cX12_asks 103 = .ok (.iload_n 1, 1) := by decide +kernel
theorem dX12_asks_104 : decode cX12_asks 104 = .ok (.iaload, 1) := by decide +kernel
theorem dX12_asks_105 : decode cX12_asks 105 = .ok (.aload_n 0, 1) := by decide +kernel
theorem dX12_asks_106 : decode cX12_asks 106 = .ok (.getfield 52, 3) := by decide +kernel
theorem dX12_asks_109 : decode cX12_asks 109 = .ok (.iload_n 1, 1) := by decide +kernel
theorem dX12_asks_110 : decode cX12_asks 110 = .ok (.iaload, 1) := by decide +kernel
theorem dX12_asks_111 : decode cX12_asks 111 = .ok (.aload_n 0, 1) := by decide +kernel
theorem dX12_asks_112 : decode cX12_asks 112 = .ok (.getfield 55, 3) := by decide +kernel
theorem dX12_asks_115 : decode cX12_asks 115 = .ok (.iload_n 1, 1) := by decide +kernel
theorem dX12_asks_116 : decode cX12_asks 116 = .ok (.iaload, 1) := by decide +kernel
theorem dX12_asks_117 : decode cX12_asks 117 = .ok (.iload 5, 2) := by decide +kernel
theorem dX12_asks_119 : decode cX12_asks 119 = .ok (.aload_n 0, 1) := by decide +kernel
theorem dX12_asks_120 : decode cX12_asks 120 = .ok (.getfield 62, 3) := by decide +kernel
theorem dX12_asks_123 : decode cX12_asks 123 = .ok (.iload_n 1, 1) := by decide +kernel
theorem dX12_asks_124 : decode cX12_asks 124 = .ok (.iaload, 1) := by decide +kernel
theorem dX12_asks_125 : decode cX12_asks 125 = .ok (.invokevirtual 198, 3) := by decide +kernel
theorem dX12_asks_128 : decode cX12_asks 128 = .ok (.l2i, 1) := by decide +kernel
theorem dX12_asks_129 : decode cX12_asks 129 = .ok (.goto 47, 3) := by decide +kernel
theorem dX12_asks_132 : decode cX12_asks 132 = .ok (.iload 4, 2) := by decide +kernel
theorem dX12_asks_134 : decode cX12_asks 134 = .ok (.iconst 2, 1) := by decide +kernel
theorem dX12_asks_135 : decode cX12_asks 135 = .ok (.if_icmp .ne 30, 3) := by decide +kernel
theorem dX12_asks_138 : decode cX12_asks 138 = .ok (.aload_n 0, 1) := by decide +kernel
theorem dX12_asks_139 : decode cX12_asks 139 = .ok (.aload_n 0, 1) := by decide +kernel
theorem dX12_asks_140 : decode cX12_asks 140 = .ok (.getfield 49, 3) := by decide +kernel
theorem dX12_asks_143 : decode cX12_asks 143 = .ok (.iload_n 1, 1) := by decide +kernel
theorem dX12_asks_144 : decode cX12_asks 144 = .ok (.iaload, 1) := by decide +kernel
theorem dX12_asks_145 : decode cX12_asks 145 = .ok (.aload_n 0, 1) := by decide +kernel
theorem dX12_asks_146 : decode cX12_asks 146 = .ok (.getfield 52, 3) := by decide +kernel
theorem dX12_asks_149 : decode cX12_asks 149 = .ok (.iload_n 1, 1) := by decide +kernel
theorem dX12_asks_150 : decode cX12_asks 150 = .ok (.iaload, 1) := by decide +kernel
theorem dX12_asks_151 : decode cX12_asks 151 = .ok (.aload_n 0, 1) := by decide +kernel
theorem dX12_asks_152 : decode cX12_asks 152 = .ok (.getfield 55, 3) := by decide +kernel
theorem dX12_asks_155 : decode cX12_asks 155 = .ok (.iload_n 1, 1) := by decide +kernel
theorem dX12_asks_156 : decode cX12_asks 156 = .ok (.iaload, 1) := by decide +kernel
theorem dX12_asks_157 : decode cX12_asks 157 = .ok (.iload 5, 2) := by decide +kernel
theorem dX12_asks_159 : decode cX12_asks 159 = .ok (.invokevirtual 186, 3) := by decide +kernel
theorem dX12_asks_162 : decode cX12_asks 162 = .ok (.goto 14, 3) := by decide +kernel
theorem dX12_asks_165 : decode cX12_asks 165 = .ok (.aload_n 0, 1) := by decide +kernel
theorem dX12_asks_166 : decode cX12_asks 166 = .ok (.getfield 52, 3) := by decide +kernel
theorem dX12_asks_169 : decode cX12_asks 169 = .ok (.iload_n 1, 1) := by decide +kernel
theorem dX12_asks_170 : decode cX12_asks 170 = .ok (.iaload, 1) := by decide +kernel
theorem dX12_asks_171 : decode cX12_asks 171 = .ok (.iload 5, 2) := by decide +kernel
theorem dX12_asks_173 : decode cX12_asks 173 = .ok (.invokestatic 180, 3) := by decide +kernel
theorem dX12_asks_176 : decode cX12_asks 176 = .ok (.ireturn, 1) := by decide +kernel
theorem dX12_pullOf_0 : decode cX12_pullOf 0 = .ok (.iload_n 1, 1) := by decide +kernel
theorem dX12_pullOf_1 : decode cX12_pullOf 1 = .ok (.ifCond .ne 25, 3) := by decide +kernel
theorem dX12_pullOf_4 : decode cX12_pullOf 4 = .ok (.aload_n 0, 1) := by decide +kernel
theorem dX12_pullOf_5 : decode cX12_pullOf 5 = .ok (.getfield 28, 3) := by decide +kernel
theorem dX12_pullOf_8 : decode cX12_pullOf 8 = .ok (.iconst 0, 1) := by decide +kernel
theorem dX12_pullOf_9 : decode cX12_pullOf 9 = .ok (.iaload, 1) := by decide +kernel
theorem dX12_pullOf_10 : decode cX12_pullOf 10 = .ok (.i2l, 1) := by decide +kernel
theorem dX12_pullOf_11 : decode cX12_pullOf 11 = .ok (.aload_n 0, 1) := by decide +kernel
theorem dX12_pullOf_12 : decode cX12_pullOf 12 = .ok (.getfield 25, 3) := by decide +kernel
theorem dX12_pullOf_15 : decode cX12_pullOf 15 = .ok (.iconst 2, 1) := by decide +kernel
theorem dX12_pullOf_16 : decode cX12_pullOf 16 = .ok (.iaload, 1) := by decide +kernel
theorem dX12_pullOf_17 : decode cX12_pullOf 17 = .ok (.i2l, 1) := by decide +kernel
theorem dX12_pullOf_18 : decode cX12_pullOf 18 = .ok (.lmul, 1) := by decide +kernel
theorem dX12_pullOf_19 : decode cX12_pullOf 19 = .ok (.ldc2_w 192, 3) := by decide +kernel
theorem dX12_pullOf_22 : decode cX12_pullOf 22 = .ok (.ldiv, 1) := by decide +kernel
theorem dX12_pullOf_23 : decode cX12_pullOf 23 = .ok (.goto 10, 3) := by decide +kernel
theorem dX12_pullOf_26 : decode cX12_pullOf 26 = .ok (.aload_n 0, 1) := by decide +kernel
theorem dX12_pullOf_27 : decode cX12_pullOf 27 = .ok (.getfield 28, 3) := by decide +kernel
theorem dX12_pullOf_30 : decode cX12_pullOf 30 = .ok (.iload_n 1, 1) := by decide +kernel
theorem dX12_pullOf_31 : decode cX12_pullOf 31 = .ok (.iaload, 1) := by decide +kernel
theorem dX12_pullOf_32 : decode cX12_pullOf 32 = .ok (.i2l, 1) := by decide +kernel
theorem dX12_pullOf_33 : decode cX12_pullOf 33 = .ok (.lreturn, 1) := by decide +kernel
theorem dX12_against_0 : decode cX12_against 0 = .ok (.aload_n 0, 1) := by decide +kernel
theorem dX12_against_1 : decode cX12_against 1 = .ok (.iload 4, 2) := by decide +kernel
theorem dX12_against_3 : decode cX12_against 3 = .ok (.invokevirtual 149, 3) := by decide +kernel
theorem dX12_against_6 : decode cX12_against 6 = .ok (.istore 6, 2) := by decide +kernel
theorem dX12_against_8 : decode cX12_against 8 = .ok (.aload_n 0, 1) := by decide +kernel
theorem dX12_against_9 : decode cX12_against 9 = .ok (.getfield 49, 3) := by decide +kernel
theorem dX12_against_12 : decode cX12_against 12 = .ok (.iload_n 1, 1) := by decide +kernel
theorem dX12_against_13 : decode cX12_against 13 = .ok (.iaload, 1) := by decide +kernel
theorem dX12_against_14 : decode cX12_against 14 = .ok (.istore 7, 2) := by decide +kernel
theorem dX12_against_16 : decode cX12_against 16 = .ok (.aload_n 0, 1) := by decide +kernel
theorem dX12_against_17 : decode cX12_against 17 = .ok (.iload 4, 2) := by decide +kernel
theorem dX12_against_19 : decode cX12_against 19 = .ok (.invokevirtual 156, 3) := by decide +kernel
theorem dX12_against_22 : decode cX12_against 22 = .ok (.ifCond .ne 9, 3) := by decide +kernel
theorem dX12_against_25 : decode cX12_against 25 = .ok (.iload 6, 2) := by decide +kernel
theorem dX12_against_27 : decode cX12_against 27 = .ok (.iload_n 2, 1) := by decide +kernel
theorem dX12_against_28 : decode cX12_against 28 = .ok (.if_icmp .lt 6, 3) := by decide +kernel
theorem dX12_against_31 : decode cX12_against 31 = .ok (.bipush (-4), 2) := by decide +kernel
theorem dX12_against_33 : decode cX12_against 33 = .ok (.ireturn, 1) := by decide +kernel
theorem dX12_against_34 : decode cX12_against 34 = .ok (.aload_n 0, 1) := by decide +kernel
theorem dX12_against_35 : decode cX12_against 35 = .ok (.iload 7, 2) := by decide +kernel
theorem dX12_against_37 : decode cX12_against 37 = .ok (.iload_n 2, 1) := by decide +kernel
theorem dX12_against_38 : decode cX12_against 38 = .ok (.iload_n 3, 1) := by decide +kernel
theorem dX12_against_39 : decode cX12_against 39 = .ok (.iload 6, 2) := by decide +kernel
theorem dX12_against_41 : decode cX12_against 41 = .ok (.invokevirtual 186, 3) := by decide +kernel
theorem dX12_against_44 : decode cX12_against 44 = .ok (.aload_n 0, 1) := by decide +kernel
theorem dX12_against_45 : decode cX12_against 45 = .ok (.getfield 16, 3) := by decide +kernel
theorem dX12_against_48 : decode cX12_against 48 = .ok (.iload 7, 2) := by decide +kernel
theorem dX12_against_50 : decode cX12_against 50 = .ok (.iaload, 1) := by decide +kernel
theorem dX12_against_51 : decode cX12_against 51 = .ok (.if_icmp .le 6, 3) := by decide +kernel
theorem dX12_against_54 : decode cX12_against 54 = .ok (.bipush (-5), 2) := by decide +kernel
theorem dX12_against_56 : decode cX12_against 56 = .ok (.ireturn, 1) := by decide +kernel
theorem dX12_against_57 : decode cX12_against 57 = .ok (.aload_n 0, 1) := by decide +kernel
theorem dX12_against_58 : decode cX12_against 58 = .ok (.iload 7, 2) := by decide +kernel
theorem dX12_against_60 : decode cX12_against 60 = .ok (.iload_n 2, 1) := by decide +kernel
theorem dX12_against_61 : decode cX12_against 61 = .ok (.iload_n 3, 1) := by decide +kernel
theorem dX12_against_62 : decode cX12_against 62 = .ok (.iload 6, 2) := by decide +kernel
theorem dX12_against_64 : decode cX12_against 64 = .ok (.invokevirtual 194, 3) := by decide +kernel
theorem dX12_against_67 : decode cX12_against 67 = .ok (.aload_n 0, 1) := by decide +kernel
theorem dX12_against_68 : decode cX12_against 68 = .ok (.iload 7, 2) := by decide +kernel
theorem dX12_against_70 : decode cX12_against 70 = .ok (.iload_n 2, 1) := by decide +kernel
theorem dX12_against_71 : decode cX12_against 71 = .ok (.iload_n 3, 1) := by decide +kernel
theorem dX12_against_72 : decode cX12_against 72 = .ok (.iload 6, 2) := by decide +kernel
theorem dX12_against_74 : decode cX12_against 74 = .ok (.aload_n 0, 1) := by decide +kernel
theorem dX12_against_75 : decode cX12_against 75 = .ok (.getfield 62, 3) := by decide +kernel
theorem dX12_against_78 : decode cX12_against 78 = .ok (.iload_n 1, 1) := by decide +kernel
theorem dX12_against_79 : decode cX12_against 79 = .ok (.iaload, 1) := by decide +kernel
theorem dX12_against_80 : decode cX12_against 80 = .ok (.invokevirtual 198, 3) := by decide +kernel
theorem dX12_against_83 : decode cX12_against 83 = .ok (.lcmp, 1) := by decide +kernel
theorem dX12_against_84 : decode cX12_against 84 = .ok (.ifCond .le 6, 3) := by decide +kernel
theorem dX12_against_87 : decode cX12_against 87 = .ok (.bipush (-6), 2) := by decide +kernel
theorem dX12_against_89 : decode cX12_against 89 = .ok (.ireturn, 1) := by decide +kernel
theorem dX12_against_90 : decode cX12_against 90 = .ok (.aload_n 0, 1) := by decide +kernel
theorem dX12_against_91 : decode cX12_against 91 = .ok (.iload 7, 2) := by decide +kernel
theorem dX12_against_93 : decode cX12_against 93 = .ok (.iload_n 2, 1) := by decide +kernel
theorem dX12_against_94 : decode cX12_against 94 = .ok (.iload_n 3, 1) := by decide +kernel
theorem dX12_against_95 : decode cX12_against 95 = .ok (.iload 6, 2) := by decide +kernel
theorem dX12_against_97 : decode cX12_against 97 = .ok (.invokevirtual 194, 3) := by decide +kernel
theorem dX12_against_100 : decode cX12_against 100 = .ok (.aload_n 0, 1) := by decide +kernel
theorem dX12_against_101 : decode cX12_against 101 = .ok (.iload 5, 2) := by decide +kernel
theorem dX12_against_103 : decode cX12_against 103 = .ok (.invokevirtual 202, 3) := by decide +kernel
theorem dX12_against_106 : decode cX12_against 106 = .ok (.lcmp, 1) := by decide +kernel
theorem dX12_against_107 : decode cX12_against 107 = .ok (.ifCond .le 8, 3) := by decide +kernel
theorem dX12_against_110 : decode cX12_against 110 = .ok (.bipush (-7), 2) := by decide +kernel
theorem dX12_against_112 : decode cX12_against 112 = .ok (.goto 4, 3) := by decide +kernel
theorem dX12_against_115 : decode cX12_against 115 = .ok (.iconst 1, 1) := by decide +kernel
theorem dX12_against_116 : decode cX12_against 116 = .ok (.ireturn, 1) := by decide +kernel
theorem dX12_draw_0 : decode cX12_draw 0 = .ok (.aload_n 0, 1) := by decide +kernel
theorem dX12_draw_1 : decode cX12_draw 1 = .ok (.iload_n 1, 1) := by decide +kernel
theorem dX12_draw_2 : decode cX12_draw 2 = .ok (.invokevirtual 173, 3) := by decide +kernel
theorem dX12_draw_5 : decode cX12_draw 5 = .ok (.ifCond .eq 20, 3) := by decide +kernel
theorem dX12_draw_8 : decode cX12_draw 8 = .ok (.aload_n 0, 1) := by decide +kernel
theorem dX12_draw_9 : decode cX12_draw 9 = .ok (.iload_n 2, 1) := by decide +kernel
theorem dX12_draw_10 : decode cX12_draw 10 = .ok (.iload_n 3, 1) := by decide +kernel
theorem dX12_draw_11 : decode cX12_draw 11 = .ok (.invokevirtual 152, 3) := by decide +kernel
theorem dX12_draw_14 : decode cX12_draw 14 = .ok (.ifCond .eq 11, 3) := by decide +kernel
theorem dX12_draw_17 : decode cX12_draw 17 = .ok (.iload 4, 2) := by decide +kernel
theorem dX12_draw_19 : decode cX12_draw 19 = .ok (.invokestatic 142, 3) := by decide +kernel
theorem dX12_draw_22 : decode cX12_draw 22 = .ok (.ifCond .ne 6, 3) := by decide +kernel
theorem dX12_draw_25 : decode cX12_draw 25 = .ok (.bipush (-2), 2) := by decide +kernel
theorem dX12_draw_27 : decode cX12_draw 27 = .ok (.ireturn, 1) := by decide +kernel
theorem dX12_draw_28 : decode cX12_draw 28 = .ok (.bipush 8, 2) := by decide +kernel
theorem dX12_draw_30 : decode cX12_draw 30 = .ok (.iload_n 2, 1) := by decide +kernel
theorem dX12_draw_31 : decode cX12_draw 31 = .ok (.imul, 1) := by decide +kernel
theorem dX12_draw_32 : decode cX12_draw 32 = .ok (.iload_n 3, 1) := by decide +kernel
theorem dX12_draw_33 : decode cX12_draw 33 = .ok (.iadd, 1) := by decide +kernel
theorem dX12_draw_34 : decode cX12_draw 34 = .ok (.istore 5, 2) := by decide +kernel
theorem dX12_draw_36 : decode cX12_draw 36 = .ok (.aload_n 0, 1) := by decide +kernel
theorem dX12_draw_37 : decode cX12_draw 37 = .ok (.iload_n 1, 1) := by decide +kernel
theorem dX12_draw_38 : decode cX12_draw 38 = .ok (.aload_n 0, 1) := by decide +kernel
theorem dX12_draw_39 : decode cX12_draw 39 = .ok (.getfield 52, 3) := by decide +kernel
theorem dX12_draw_42 : decode cX12_draw 42 = .ok (.iload_n 1, 1) := by decide +kernel
theorem dX12_draw_43 : decode cX12_draw 43 = .ok (.iaload, 1) := by decide +kernel
theorem dX12_draw_44 : decode cX12_draw 44 = .ok (.aload_n 0, 1) := by decide +kernel
theorem dX12_draw_45 : decode cX12_draw 45 = .ok (.getfield 55, 3) := by decide +kernel
theorem dX12_draw_48 : decode cX12_draw 48 = .ok (.iload_n 1, 1) := by decide +kernel
theorem dX12_draw_49 : decode cX12_draw 49 = .ok (.iaload, 1) := by decide +kernel
theorem dX12_draw_50 : decode cX12_draw 50 = .ok (.iload 5, 2) := by decide +kernel
theorem dX12_draw_52 : decode cX12_draw 52 = .ok (.iload 4, 2) := by decide +kernel
theorem dX12_draw_54 : decode cX12_draw 54 = .ok (.invokevirtual 206, 3) := by decide +kernel
theorem dX12_draw_57 : decode cX12_draw 57 = .ok (.istore 6, 2) := by decide +kernel
theorem dX12_draw_59 : decode cX12_draw 59 = .ok (.iload 6, 2) := by decide +kernel
theorem dX12_draw_61 : decode cX12_draw 61 = .ok (.iconst 1, 1) := by decide +kernel
theorem dX12_draw_62 : decode cX12_draw 62 = .ok (.if_icmp .eq 6, 3) := by decide +kernel
theorem dX12_draw_65 : decode cX12_draw 65 = .ok (.iload 6, 2) := by decide +kernel
theorem dX12_draw_67 : decode cX12_draw 67 = .ok (.ireturn, 1) := by decide +kernel
theorem dX12_draw_68 : decode cX12_draw 68 = .ok (.aload_n 0, 1) := by decide +kernel
theorem dX12_draw_69 : decode cX12_draw 69 = .ok (.iload 5, 2) := by decide +kernel
theorem dX12_draw_71 : decode cX12_draw 71 = .ok (.invokevirtual 149, 3) := by decide +kernel
theorem dX12_draw_74 : decode cX12_draw 74 = .ok (.istore 7, 2) := by decide +kernel
theorem dX12_draw_76 : decode cX12_draw 76 = .ok (.aload_n 0, 1) := by decide +kernel
theorem dX12_draw_77 : decode cX12_draw 77 = .ok (.getfield 55, 3) := by decide +kernel
theorem dX12_draw_80 : decode cX12_draw 80 = .ok (.iload_n 1, 1) := by decide +kernel
theorem dX12_draw_81 : decode cX12_draw 81 = .ok (.iaload, 1) := by decide +kernel
theorem dX12_draw_82 : decode cX12_draw 82 = .ok (.istore 8, 2) := by decide +kernel
theorem dX12_draw_84 : decode cX12_draw 84 = .ok (.aload_n 0, 1) := by decide +kernel
theorem dX12_draw_85 : decode cX12_draw 85 = .ok (.getfield 55, 3) := by decide +kernel
theorem dX12_draw_88 : decode cX12_draw 88 = .ok (.iload_n 1, 1) := by decide +kernel
theorem dX12_draw_89 : decode cX12_draw 89 = .ok (.aload_n 0, 1) := by decide +kernel
theorem dX12_draw_90 : decode cX12_draw 90 = .ok (.aload_n 0, 1) := by decide +kernel
theorem dX12_draw_91 : decode cX12_draw 91 = .ok (.getfield 49, 3) := by decide +kernel
theorem dX12_draw_94 : decode cX12_draw 94 = .ok (.iload_n 1, 1) := by decide +kernel
theorem dX12_draw_95 : decode cX12_draw 95 = .ok (.iaload, 1) := by decide +kernel
theorem dX12_draw_96 : decode cX12_draw 96 = .ok (.aload_n 0, 1) := by decide +kernel
theorem dX12_draw_97 : decode cX12_draw 97 = .ok (.getfield 52, 3) := by decide +kernel
theorem dX12_draw_100 : decode cX12_draw 100 = .ok (.iload_n 1, 1) := by decide +kernel
theorem dX12_draw_101 : decode cX12_draw 101 = .ok (.iaload, 1) := by decide +kernel
theorem dX12_draw_102 : decode cX12_draw 102 = .ok (.iload 8, 2) := by decide +kernel
theorem dX12_draw_104 : decode cX12_draw 104 = .ok (.iload 7, 2) := by decide +kernel
theorem dX12_draw_106 : decode cX12_draw 106 = .ok (.invokevirtual 186, 3) := by decide +kernel
theorem dX12_draw_109 : decode cX12_draw 109 = .ok (.iastore, 1) := by decide +kernel
theorem dX12_draw_110 : decode cX12_draw 110 = .ok (.aload_n 0, 1) := by decide +kernel
theorem dX12_draw_111 : decode cX12_draw 111 = .ok (.getfield 52, 3) := by decide +kernel
theorem dX12_draw_114 : decode cX12_draw 114 = .ok (.iload_n 1, 1) := by decide +kernel
theorem dX12_draw_115 : decode cX12_draw 115 = .ok (.iload 7, 2) := by decide +kernel
theorem dX12_draw_117 : decode cX12_draw 117 = .ok (.iastore, 1) := by decide +kernel
theorem dX12_draw_118 : decode cX12_draw 118 = .ok (.aload_n 0, 1) := by decide +kernel
theorem dX12_draw_119 : decode cX12_draw 119 = .ok (.iload_n 1, 1) := by decide +kernel
theorem dX12_draw_120 : decode cX12_draw 120 = .ok (.invokevirtual 167, 3) := by decide +kernel
theorem dX12_draw_123 : decode cX12_draw 123 = .ok (.istore 9, 2) := by decide +kernel
theorem dX12_draw_125 : decode cX12_draw 125 = .ok (.aload_n 0, 1) := by decide +kernel
theorem dX12_draw_126 : decode cX12_draw 126 = .ok (.getfield 43, 3) := by decide +kernel
theorem dX12_draw_129 : decode cX12_draw 129 = .ok (.iload 5, 2) := by decide +kernel
theorem dX12_draw_131 : decode cX12_draw 131 = .ok (.dup2, 1) := by decide +kernel
theorem dX12_draw_132 : decode cX12_draw 132 = .ok (.iaload, 1) := by decide +kernel
theorem dX12_draw_133 : decode cX12_draw 133 = .ok (.iload 9, 2) := by decide +kernel
theorem dX12_draw_135 : decode cX12_draw 135 = .ok (.i2l, 1) := by decide +kernel
theorem dX12_draw_136 : decode cX12_draw 136 = .ok (.aload_n 0, 1) := by decide +kernel
theorem dX12_draw_137 : decode cX12_draw 137 = .ok (.getfield 19, 3) := by decide +kernel
theorem dX12_draw_140 : decode cX12_draw 140 = .ok (.aload_n 0, 1) := by decide +kernel
theorem dX12_draw_141 : decode cX12_draw 141 = .ok (.getfield 49, 3) := by decide +kernel
theorem dX12_draw_144 : decode cX12_draw 144 = .ok (.iload_n 1, 1) := by decide +kernel
theorem dX12_draw_145 : decode cX12_draw 145 = .ok (.iaload, 1) := by decide +kernel
theorem dX12_draw_146 : decode cX12_draw 146 = .ok (.iaload, 1) := by decide +kernel
theorem dX12_draw_147 : decode cX12_draw 147 = .ok (.i2l, 1) := by decide +kernel
theorem dX12_draw_148 : decode cX12_draw 148 = .ok (.lmul, 1) := by decide +kernel
theorem dX12_draw_149 : decode cX12_draw 149 = .ok (.bipush 100, 2) := by decide +kernel
theorem dX12_draw_151 : decode cX12_draw 151 = .ok (.iload 8, 2) := by decide +kernel
theorem dX12_draw_153 : decode cX12_draw 153 = .ok (.iadd, 1) := by decide +kernel
theorem dX12_draw_154 : decode cX12_draw 154 = .ok (.i2l, 1) := by decide +kernel
theorem dX12_draw_155 : decode cX12_draw 155 = .ok (.lmul, 1) := by decide +kernel
theorem dX12_draw_156 : decode cX12_draw 156 = .ok (.ldc2_w 210, 3) := by decide +kernel
theorem dX12_draw_159 : decode cX12_draw 159 = .ok (.ldiv, 1) := by decide +kernel
theorem dX12_draw_160 : decode cX12_draw 160 = .ok (.l2i, 1) := by decide +kernel
theorem dX12_draw_161 : decode cX12_draw 161 = .ok (.iadd, 1) := by decide +kernel
theorem dX12_draw_162 : decode cX12_draw 162 = .ok (.iastore, 1) := by decide +kernel
theorem dX12_draw_163 : decode cX12_draw 163 = .ok (.aload_n 0, 1) := by decide +kernel
theorem dX12_draw_164 : decode cX12_draw 164 = .ok (.getfield 65, 3) := by decide +kernel
theorem dX12_draw_167 : decode cX12_draw 167 = .ok (.iload_n 1, 1) := by decide +kernel
theorem dX12_draw_168 : decode cX12_draw 168 = .ok (.iaload, 1) := by decide +kernel
theorem dX12_draw_169 : decode cX12_draw 169 = .ok (.aload_n 0, 1) := by decide +kernel
theorem dX12_draw_170 : decode cX12_draw 170 = .ok (.getfield 34, 3) := by decide +kernel
theorem dX12_draw_173 : decode cX12_draw 173 = .ok (.iload 4, 2) := by decide +kernel
theorem dX12_draw_175 : decode cX12_draw 175 = .ok (.iaload, 1) := by decide +kernel
theorem dX12_draw_176 : decode cX12_draw 176 = .ok (.if_icmp .le 12, 3) := by decide +kernel
theorem dX12_draw_179 : decode cX12_draw 179 = .ok (.aload_n 0, 1) := by decide +kernel
theorem dX12_draw_180 : decode cX12_draw 180 = .ok (.getfield 65, 3) := by decide +kernel
theorem dX12_draw_183 : decode cX12_draw 183 = .ok (.iload_n 1, 1) := by decide +kernel
theorem dX12_draw_184 : decode cX12_draw 184 = .ok (.iaload, 1) := by decide +kernel
theorem dX12_draw_185 : decode cX12_draw 185 = .ok (.goto 10, 3) := by decide +kernel
theorem dX12_draw_188 : decode cX12_draw 188 = .ok (.aload_n 0, 1) := by decide +kernel
theorem dX12_draw_189 : decode cX12_draw 189 = .ok (.getfield 34, 3) := by decide +kernel
theorem dX12_draw_192 : decode cX12_draw 192 = .ok (.iload 4, 2) := by decide +kernel
theorem dX12_draw_194 : decode cX12_draw 194 = .ok (.iaload, 1) := by decide +kernel
theorem dX12_draw_195 : decode cX12_draw 195 = .ok (.istore 10, 2) := by decide +kernel
theorem dX12_draw_197 : decode cX12_draw 197 = .ok (.aload_n 0, 1) := by decide +kernel
theorem dX12_draw_198 : decode cX12_draw 198 = .ok (.getfield 34, 3) := by decide +kernel
theorem dX12_draw_201 : decode cX12_draw 201 = .ok (.iload 4, 2) := by decide +kernel
theorem dX12_draw_203 : decode cX12_draw 203 = .ok (.iload 10, 2) := by decide +kernel
theorem dX12_draw_205 : decode cX12_draw 205 = .ok (.iload 9, 2) := by decide +kernel
theorem dX12_draw_207 : decode cX12_draw 207 = .ok (.aload_n 0, 1) := by decide +kernel
theorem dX12_draw_208 : decode cX12_draw 208 = .ok (.getfield 31, 3) := by decide +kernel
theorem dX12_draw_211 : decode cX12_draw 211 = .ok (.iload 4, 2) := by decide +kernel
theorem dX12_draw_213 : decode cX12_draw 213 = .ok (.iaload, 1) := by decide +kernel
theorem dX12_draw_214 : decode cX12_draw 214 = .ok (.iadd, 1) := by decide +kernel
theorem dX12_draw_215 : decode cX12_draw 215 = .ok (.iconst 1, 1) := by decide +kernel
theorem dX12_draw_216 : decode cX12_draw 216 = .ok (.isub, 1) := by decide +kernel
theorem dX12_draw_217 : decode cX12_draw 217 = .ok (.aload_n 0, 1) := by decide +kernel
theorem dX12_draw_218 : decode cX12_draw 218 = .ok (.getfield 31, 3) := by decide +kernel
theorem dX12_draw_221 : decode cX12_draw 221 = .ok (.iload 4, 2) := by decide +kernel
theorem dX12_draw_223 : decode cX12_draw 223 = .ok (.iaload, 1) := by decide +kernel
theorem dX12_draw_224 : decode cX12_draw 224 = .ok (.idiv, 1) := by decide +kernel
theorem dX12_draw_225 : decode cX12_draw 225 = .ok (.iadd, 1) := by decide +kernel
theorem dX12_draw_226 : decode cX12_draw 226 = .ok (.iconst 1, 1) := by decide +kernel
theorem dX12_draw_227 : decode cX12_draw 227 = .ok (.iadd, 1) := by decide +kernel
theorem dX12_draw_228 : decode cX12_draw 228 = .ok (.iastore, 1) := by decide +kernel
theorem dX12_draw_229 : decode cX12_draw 229 = .ok (.aload_n 0, 1) := by decide +kernel
theorem dX12_draw_230 : decode cX12_draw 230 = .ok (.getfield 65, 3) := by decide +kernel
theorem dX12_draw_233 : decode cX12_draw 233 = .ok (.iload_n 1, 1) := by decide +kernel
theorem dX12_draw_234 : decode cX12_draw 234 = .ok (.aload_n 0, 1) := by decide +kernel
theorem dX12_draw_235 : decode cX12_draw 235 = .ok (.getfield 34, 3) := by decide +kernel
theorem dX12_draw_238 : decode cX12_draw 238 = .ok (.iload 4, 2) := by decide +kernel
theorem dX12_draw_240 : decode cX12_draw 240 = .ok (.iaload, 1) := by decide +kernel
theorem dX12_draw_241 : decode cX12_draw 241 = .ok (.iastore, 1) := by decide +kernel
theorem dX12_draw_242 : decode cX12_draw 242 = .ok (.aload_n 0, 1) := by decide +kernel
theorem dX12_draw_243 : decode cX12_draw 243 = .ok (.dup, 1) := by decide +kernel
theorem dX12_draw_244 : decode cX12_draw 244 = .ok (.getfield 212, 3) := by decide +kernel
theorem dX12_draw_247 : decode cX12_draw 247 = .ok (.iconst 1, 1) := by decide +kernel
theorem dX12_draw_248 : decode cX12_draw 248 = .ok (.iadd, 1) := by decide +kernel
theorem dX12_draw_249 : decode cX12_draw 249 = .ok (.putfield 212, 3) := by decide +kernel
theorem dX12_draw_252 : decode cX12_draw 252 = .ok (.iload 9, 2) := by decide +kernel
theorem dX12_draw_254 : decode cX12_draw 254 = .ok (.ireturn, 1) := by decide +kernel
theorem dX12_fire_0 : decode cX12_fire 0 = .ok (.aload_n 0, 1) := by decide +kernel
theorem dX12_fire_1 : decode cX12_fire 1 = .ok (.iload_n 1, 1) := by decide +kernel
theorem dX12_fire_2 : decode cX12_fire 2 = .ok (.invokevirtual 173, 3) := by decide +kernel
theorem dX12_fire_5 : decode cX12_fire 5 = .ok (.ifCond .ne 6, 3) := by decide +kernel
theorem dX12_fire_8 : decode cX12_fire 8 = .ok (.bipush (-2), 2) := by decide +kernel
theorem dX12_fire_10 : decode cX12_fire 10 = .ok (.ireturn, 1) := by decide +kernel
theorem dX12_fire_11 : decode cX12_fire 11 = .ok (.aload_n 0, 1) := by decide +kernel
theorem dX12_fire_12 : decode cX12_fire 12 = .ok (.getfield 55, 3) := by decide +kernel
theorem dX12_fire_15 : decode cX12_fire 15 = .ok (.iload_n 1, 1) := by decide +kernel
theorem dX12_fire_16 : decode cX12_fire 16 = .ok (.iaload, 1) := by decide +kernel
theorem dX12_fire_17 : decode cX12_fire 17 = .ok (.ifCond .ne 6, 3) := by decide +kernel
theorem dX12_fire_20 : decode cX12_fire 20 = .ok (.bipush (-4), 2) := by decide +kernel
theorem dX12_fire_22 : decode cX12_fire 22 = .ok (.ireturn, 1) := by decide +kernel
theorem dX12_fire_23 : decode cX12_fire 23 = .ok (.aload_n 0, 1) := by decide +kernel
theorem dX12_fire_24 : decode cX12_fire 24 = .ok (.getfield 55, 3) := by decide +kernel
theorem dX12_fire_27 : decode cX12_fire 27 = .ok (.iload_n 1, 1) := by decide +kernel
theorem dX12_fire_28 : decode cX12_fire 28 = .ok (.iconst 0, 1) := by decide +kernel
theorem dX12_fire_29 : decode cX12_fire 29 = .ok (.iastore, 1) := by decide +kernel
theorem dX12_fire_30 : decode cX12_fire 30 = .ok (.aload_n 0, 1) := by decide +kernel
theorem dX12_fire_31 : decode cX12_fire 31 = .ok (.getfield 58, 3) := by decide +kernel
theorem dX12_fire_34 : decode cX12_fire 34 = .ok (.iload_n 1, 1) := by decide +kernel
theorem dX12_fire_35 : decode cX12_fire 35 = .ok (.laload, 1) := by decide +kernel
theorem dX12_fire_36 : decode cX12_fire 36 = .ok (.aload_n 0, 1) := by decide +kernel
theorem dX12_fire_37 : decode cX12_fire 37 = .ok (.getfield 22, 3) := by decide +kernel
theorem dX12_fire_40 : decode cX12_fire 40 = .ok (.aload_n 0, 1) := by decide +kernel
theorem dX12_fire_41 : decode cX12_fire 41 = .ok (.getfield 49, 3) := by decide +kernel
theorem dX12_fire_44 : decode cX12_fire 44 = .ok (.iload_n 1, 1) := by decide +kernel
theorem dX12_fire_45 : decode cX12_fire 45 = .ok (.iaload, 1) := by decide +kernel
theorem dX12_fire_46 : decode cX12_fire 46 = .ok (.iaload, 1) := by decide +kernel
theorem dX12_fire_47 : decode cX12_fire 47 = .ok (.i2l, 1) := by decide +kernel
theorem dX12_fire_48 : decode cX12_fire 48 = .ok (.lmul, 1) := by decide +kernel
theorem dX12_fire_49 : decode cX12_fire 49 = .ok (.ldc2_w 178, 3) := by decide +kernel
theorem dX12_fire_52 : decode cX12_fire 52 = .ok (.ldiv, 1) := by decide +kernel
theorem dX12_fire_53 : decode cX12_fire 53 = .ok (.lstore_n 2, 1) := by decide +kernel
theorem dX12_fire_54 : decode cX12_fire 54 = .ok (.aload_n 0, 1) := by decide +kernel
theorem dX12_fire_55 : decode cX12_fire 55 = .ok (.getfield 58, 3) := by decide +kernel
theorem dX12_fire_58 : decode cX12_fire 58 = .ok (.iload_n 1, 1) := by decide +kernel
theorem dX12_fire_59 : decode cX12_fire 59 = .ok (.dup2, 1) := by decide +kernel
theorem dX12_fire_60 : decode cX12_fire 60 = .ok (.laload, 1) := by decide +kernel
theorem dX12_fire_61 : decode cX12_fire 61 = .ok (.lload_n 2, 1) := by decide +kernel
theorem dX12_fire_62 : decode cX12_fire 62 = .ok (.lsub, 1) := by decide +kernel
theorem dX12_fire_63 : decode cX12_fire 63 = .ok (.lastore, 1) := by decide +kernel
theorem dX12_fire_64 : decode cX12_fire 64 = .ok (.aload_n 0, 1) := by decide +kernel
theorem dX12_fire_65 : decode cX12_fire 65 = .ok (.dup, 1) := by decide +kernel
theorem dX12_fire_66 : decode cX12_fire 66 = .ok (.getfield 215, 3) := by decide +kernel
theorem dX12_fire_69 : decode cX12_fire 69 = .ok (.lload_n 2, 1) := by decide +kernel
theorem dX12_fire_70 : decode cX12_fire 70 = .ok (.ladd, 1) := by decide +kernel
theorem dX12_fire_71 : decode cX12_fire 71 = .ok (.putfield 215, 3) := by decide +kernel
theorem dX12_fire_74 : decode cX12_fire 74 = .ok (.aload_n 0, 1) := by decide +kernel
theorem dX12_fire_75 : decode cX12_fire 75 = .ok (.getfield 65, 3) := by decide +kernel
theorem dX12_fire_78 : decode cX12_fire 78 = .ok (.iload_n 1, 1) := by decide +kernel
theorem dX12_fire_79 : decode cX12_fire 79 = .ok (.iaload, 1) := by decide +kernel
theorem dX12_fire_80 : decode cX12_fire 80 = .ok (.aload_n 0, 1) := by decide +kernel
theorem dX12_fire_81 : decode cX12_fire 81 = .ok (.getfield 34, 3) := by decide +kernel
theorem dX12_fire_84 : decode cX12_fire 84 = .ok (.iconst 3, 1) := by decide +kernel
theorem dX12_fire_85 : decode cX12_fire 85 = .ok (.iaload, 1) := by decide +kernel
theorem dX12_fire_86 : decode cX12_fire 86 = .ok (.if_icmp .le 12, 3) := by decide +kernel
theorem dX12_fire_89 : decode cX12_fire 89 = .ok (.aload_n 0, 1) := by decide +kernel
theorem dX12_fire_90 : decode cX12_fire 90 = .ok (.getfield 65, 3) := by decide +kernel
theorem dX12_fire_93 : decode cX12_fire 93 = .ok (.iload_n 1, 1) := by decide +kernel
theorem dX12_fire_94 : decode cX12_fire 94 = .ok (.iaload, 1) := by decide +kernel
theorem dX12_fire_95 : decode cX12_fire 95 = .ok (.goto 9, 3) := by decide +kernel
theorem dX12_fire_98 : decode cX12_fire 98 = .ok (.aload_n 0, 1) := by decide +kernel
theorem dX12_fire_99 : decode cX12_fire 99 = .ok (.getfield 34, 3) := by decide +kernel
theorem dX12_fire_102 : decode cX12_fire 102 = .ok (.iconst 3, 1) := by decide +kernel
theorem dX12_fire_103 : decode cX12_fire 103 = .ok (.iaload, 1) := by decide +kernel
theorem dX12_fire_104 : decode cX12_fire 104 = .ok (.istore 4, 2) := by decide +kernel
theorem dX12_fire_106 : decode cX12_fire 106 = .ok (.aload_n 0, 1) := by decide +kernel
theorem dX12_fire_107 : decode cX12_fire 107 = .ok (.getfield 34, 3) := by decide +kernel
theorem dX12_fire_110 : decode cX12_fire 110 = .ok (.iconst 3, 1) := by decide +kernel
theorem dX12_fire_111 : decode cX12_fire 111 = .ok (.iload 4, 2) := by decide +kernel
theorem dX12_fire_113 : decode cX12_fire 113 = .ok (.aload_n 0, 1) := by decide +kernel
theorem dX12_fire_114 : decode cX12_fire 114 = .ok (.getfield 25, 3) := by decide +kernel
theorem dX12_fire_117 : decode cX12_fire 117 = .ok (.iconst 3, 1) := by decide +kernel
theorem dX12_fire_118 : decode cX12_fire 118 = .ok (.iaload, 1) := by decide +kernel
theorem dX12_fire_119 : decode cX12_fire 119 = .ok (.iadd, 1) := by decide +kernel
theorem dX12_fire_120 : decode cX12_fire 120 = .ok (.iastore, 1) := by decide +kernel
theorem dX12_fire_121 : decode cX12_fire 121 = .ok (.aload_n 0, 1) := by decide +kernel
theorem dX12_fire_122 : decode cX12_fire 122 = .ok (.getfield 65, 3) := by decide +kernel
theorem dX12_fire_125 : decode cX12_fire 125 = .ok (.iload_n 1, 1) := by decide +kernel
theorem dX12_fire_126 : decode cX12_fire 126 = .ok (.aload_n 0, 1) := by decide +kernel
theorem dX12_fire_127 : decode cX12_fire 127 = .ok (.getfield 34, 3) := by decide +kernel
theorem dX12_fire_130 : decode cX12_fire 130 = .ok (.iconst 3, 1) := by decide +kernel
theorem dX12_fire_131 : decode cX12_fire 131 = .ok (.iaload, 1) := by decide +kernel
theorem dX12_fire_132 : decode cX12_fire 132 = .ok (.iastore, 1) := by decide +kernel
theorem dX12_fire_133 : decode cX12_fire 133 = .ok (.aload_n 0, 1) := by decide +kernel
theorem dX12_fire_134 : decode cX12_fire 134 = .ok (.dup, 1) := by decide +kernel
theorem dX12_fire_135 : decode cX12_fire 135 = .ok (.getfield 218, 3) := by decide +kernel
theorem dX12_fire_138 : decode cX12_fire 138 = .ok (.iconst 1, 1) := by decide +kernel
theorem dX12_fire_139 : decode cX12_fire 139 = .ok (.iadd, 1) := by decide +kernel
theorem dX12_fire_140 : decode cX12_fire 140 = .ok (.putfield 218, 3) := by decide +kernel
theorem dX12_fire_143 : decode cX12_fire 143 = .ok (.aload_n 0, 1) := by decide +kernel
theorem dX12_fire_144 : decode cX12_fire 144 = .ok (.iload_n 1, 1) := by decide +kernel
theorem dX12_fire_145 : decode cX12_fire 145 = .ok (.invokevirtual 221, 3) := by decide +kernel
theorem dX12_fire_148 : decode cX12_fire 148 = .ok (.aload_n 0, 1) := by decide +kernel
theorem dX12_fire_149 : decode cX12_fire 149 = .ok (.getfield 34, 3) := by decide +kernel
theorem dX12_fire_152 : decode cX12_fire 152 = .ok (.iconst 3, 1) := by decide +kernel
theorem dX12_fire_153 : decode cX12_fire 153 = .ok (.iaload, 1) := by decide +kernel
theorem dX12_fire_154 : decode cX12_fire 154 = .ok (.ireturn, 1) := by decide +kernel
theorem dX12_part_0 : decode cX12_part 0 = .ok (.aload_n 0, 1) := by decide +kernel
theorem dX12_part_1 : decode cX12_part 1 = .ok (.iload_n 1, 1) := by decide +kernel
theorem dX12_part_2 : decode cX12_part 2 = .ok (.invokevirtual 173, 3) := by decide +kernel
theorem dX12_part_5 : decode cX12_part 5 = .ok (.ifCond .ne 6, 3) := by decide +kernel
theorem dX12_part_8 : decode cX12_part 8 = .ok (.bipush (-2), 2) := by decide +kernel
theorem dX12_part_10 : decode cX12_part 10 = .ok (.ireturn, 1) := by decide +kernel
theorem dX12_part_11 : decode cX12_part 11 = .ok (.iload_n 2, 1) := by decide +kernel
theorem dX12_part_12 : decode cX12_part 12 = .ok (.iconst 1, 1) := by decide +kernel
theorem dX12_part_13 : decode cX12_part 13 = .ok (.aload_n 0, 1) := by decide +kernel
theorem dX12_part_14 : decode cX12_part 14 = .ok (.iload_n 1, 1) := by decide +kernel
theorem dX12_part_15 : decode cX12_part 15 = .ok (.invokevirtual 167, 3) := by decide +kernel
theorem dX12_part_18 : decode cX12_part 18 = .ok (.iconst 1, 1) := by decide +kernel
theorem dX12_part_19 : decode cX12_part 19 = .ok (.isub, 1) := by decide +kernel
theorem dX12_part_20 : decode cX12_part 20 = .ok (.invokestatic 123, 3) := by decide +kernel
theorem dX12_part_23 : decode cX12_part 23 = .ok (.ifCond .ne 6, 3) := by decide +kernel
theorem dX12_part_26 : decode cX12_part 26 = .ok (.bipush (-3), 2) := by decide +kernel
theorem dX12_part_28 : decode cX12_part 28 = .ok (.ireturn, 1) := by decide +kernel
theorem dX12_part_29 : decode cX12_part 29 = .ok (.aload_n 0, 1) := by decide +kernel
theorem dX12_part_30 : decode cX12_part 30 = .ok (.getfield 127, 3) := by decide +kernel
theorem dX12_part_33 : decode cX12_part 33 = .ok (.bipush 16, 2) := by decide +kernel
theorem dX12_part_35 : decode cX12_part 35 = .ok (.if_icmp .ne 6, 3) := by decide +kernel
theorem dX12_part_38 : decode cX12_part 38 = .ok (.bipush (-8), 2) := by decide +kernel
theorem dX12_part_40 : decode cX12_part 40 = .ok (.ireturn, 1) := by decide +kernel
theorem dX12_part_41 : decode cX12_part 41 = .ok (.aload_n 0, 1) := by decide +kernel
theorem dX12_part_42 : decode cX12_part 42 = .ok (.getfield 52, 3) := by decide +kernel
theorem dX12_part_45 : decode cX12_part 45 = .ok (.iload_n 1, 1) := by decide +kernel
theorem dX12_part_46 : decode cX12_part 46 = .ok (.iaload, 1) := by decide +kernel
theorem dX12_part_47 : decode cX12_part 47 = .ok (.i2l, 1) := by decide +kernel
theorem dX12_part_48 : decode cX12_part 48 = .ok (.aload_n 0, 1) := by decide +kernel
theorem dX12_part_49 : decode cX12_part 49 = .ok (.getfield 52, 3) := by decide +kernel
theorem dX12_part_52 : decode cX12_part 52 = .ok (.iload_n 1, 1) := by decide +kernel
theorem dX12_part_53 : decode cX12_part 53 = .ok (.iaload, 1) := by decide +kernel
theorem dX12_part_54 : decode cX12_part 54 = .ok (.i2l, 1) := by decide +kernel
theorem dX12_part_55 : decode cX12_part 55 = .ok (.lmul, 1) := by decide +kernel
theorem dX12_part_56 : decode cX12_part 56 = .ok (.iload_n 2, 1) := by decide +kernel
theorem dX12_part_57 : decode cX12_part 57 = .ok (.i2l, 1) := by decide +kernel
theorem dX12_part_58 : decode cX12_part 58 = .ok (.lmul, 1) := by decide +kernel
theorem dX12_part_59 : decode cX12_part 59 = .ok (.lstore_n 3, 1) := by decide +kernel
theorem dX12_part_60 : decode cX12_part 60 = .ok (.aload_n 0, 1) := by decide +kernel
theorem dX12_part_61 : decode cX12_part 61 = .ok (.aload_n 0, 1) := by decide +kernel
theorem dX12_part_62 : decode cX12_part 62 = .ok (.getfield 49, 3) := by decide +kernel
theorem dX12_part_65 : decode cX12_part 65 = .ok (.iload_n 1, 1) := by decide +kernel
theorem dX12_part_66 : decode cX12_part 66 = .ok (.iaload, 1) := by decide +kernel
theorem dX12_part_67 : decode cX12_part 67 = .ok (.aload_n 0, 1) := by decide +kernel
theorem dX12_part_68 : decode cX12_part 68 = .ok (.getfield 52, 3) := by decide +kernel
theorem dX12_part_71 : decode cX12_part 71 = .ok (.iload_n 1, 1) := by decide +kernel
theorem dX12_part_72 : decode cX12_part 72 = .ok (.iaload, 1) := by decide +kernel
theorem dX12_part_73 : decode cX12_part 73 = .ok (.aload_n 0, 1) := by decide +kernel
theorem dX12_part_74 : decode cX12_part 74 = .ok (.getfield 58, 3) := by decide +kernel
theorem dX12_part_77 : decode cX12_part 77 = .ok (.iload_n 1, 1) := by decide +kernel
theorem dX12_part_78 : decode cX12_part 78 = .ok (.laload, 1) := by decide +kernel
theorem dX12_part_79 : decode cX12_part 79 = .ok (.lload_n 3, 1) := by decide +kernel
theorem dX12_part_80 : decode cX12_part 80 = .ok (.lsub, 1) := by decide +kernel
theorem dX12_part_81 : decode cX12_part 81 = .ok (.invokevirtual 163, 3) := by decide +kernel
theorem dX12_part_84 : decode cX12_part 84 = .ok (.istore 5, 2) := by decide +kernel
theorem dX12_part_86 : decode cX12_part 86 = .ok (.aload_n 0, 1) := by decide +kernel
theorem dX12_part_87 : decode cX12_part 87 = .ok (.getfield 55, 3) := by decide +kernel
theorem dX12_part_90 : decode cX12_part 90 = .ok (.iload 5, 2) := by decide +kernel
theorem dX12_part_92 : decode cX12_part 92 = .ok (.aload_n 0, 1) := by decide +kernel
theorem dX12_part_93 : decode cX12_part 93 = .ok (.getfield 55, 3) := by decide +kernel
theorem dX12_part_96 : decode cX12_part 96 = .ok (.iload_n 1, 1) := by decide +kernel
theorem dX12_part_97 : decode cX12_part 97 = .ok (.iaload, 1) := by decide +kernel
theorem dX12_part_98 : decode cX12_part 98 = .ok (.iastore, 1) := by decide +kernel
theorem dX12_part_99 : decode cX12_part 99 = .ok (.aload_n 0, 1) := by decide +kernel
theorem dX12_part_100 : decode cX12_part 100 = .ok (.getfield 62, 3) := by decide +kernel
theorem dX12_part_103 : decode cX12_part 103 = .ok (.iload 5, 2) := by decide +kernel
theorem dX12_part_105 : decode cX12_part 105 = .ok (.aload_n 0, 1) := by decide +kernel
theorem dX12_part_106 : decode cX12_part 106 = .ok (.getfield 62, 3) := by decide +kernel
theorem dX12_part_109 : decode cX12_part 109 = .ok (.iload_n 1, 1) := by decide +kernel
theorem dX12_part_110 : decode cX12_part 110 = .ok (.iaload, 1) := by decide +kernel
theorem dX12_part_111 : decode cX12_part 111 = .ok (.iastore, 1) := by decide +kernel
theorem dX12_part_112 : decode cX12_part 112 = .ok (.aload_n 0, 1) := by decide +kernel
theorem dX12_part_113 : decode cX12_part 113 = .ok (.getfield 65, 3) := by decide +kernel
theorem dX12_part_116 : decode cX12_part 116 = .ok (.iload 5, 2) := by decide +kernel
theorem dX12_part_118 : decode cX12_part 118 = .ok (.aload_n 0, 1) := by decide +kernel
theorem dX12_part_119 : decode cX12_part 119 = .ok (.getfield 65, 3) := by decide +kernel
theorem dX12_part_122 : decode cX12_part 122 = .ok (.iload_n 1, 1) := by decide +kernel
theorem dX12_part_123 : decode cX12_part 123 = .ok (.iaload, 1) := by decide +kernel
theorem dX12_part_124 : decode cX12_part 124 = .ok (.iastore, 1) := by decide +kernel
theorem dX12_part_125 : decode cX12_part 125 = .ok (.aload_n 0, 1) := by decide +kernel
theorem dX12_part_126 : decode cX12_part 126 = .ok (.getfield 68, 3) := by decide +kernel
theorem dX12_part_129 : decode cX12_part 129 = .ok (.iload 5, 2) := by decide +kernel
theorem dX12_part_131 : decode cX12_part 131 = .ok (.aload_n 0, 1) := by decide +kernel
theorem dX12_part_132 : decode cX12_part 132 = .ok (.getfield 68, 3) := by decide +kernel
theorem dX12_part_135 : decode cX12_part 135 = .ok (.iload_n 1, 1) := by decide +kernel
theorem dX12_part_136 : decode cX12_part 136 = .ok (.baload, 1) := by decide +kernel
theorem dX12_part_137 : decode cX12_part 137 = .ok (.bastore, 1) := by decide +kernel
theorem dX12_part_138 : decode cX12_part 138 = .ok (.aload_n 0, 1) := by decide +kernel
theorem dX12_part_139 : decode cX12_part 139 = .ok (.getfield 58, 3) := by decide +kernel
theorem dX12_part_142 : decode cX12_part 142 = .ok (.iload_n 1, 1) := by decide +kernel
theorem dX12_part_143 : decode cX12_part 143 = .ok (.lload_n 3, 1) := by decide +kernel
theorem dX12_part_144 : decode cX12_part 144 = .ok (.lastore, 1) := by decide +kernel
theorem dX12_part_145 : decode cX12_part 145 = .ok (.iload 5, 2) := by decide +kernel
theorem dX12_part_147 : decode cX12_part 147 = .ok (.ireturn, 1) := by decide +kernel
theorem dX12_join_0 : decode cX12_join 0 = .ok (.aload_n 0, 1) := by decide +kernel
theorem dX12_join_1 : decode cX12_join 1 = .ok (.iload_n 1, 1) := by decide +kernel
theorem dX12_join_2 : decode cX12_join 2 = .ok (.invokevirtual 173, 3) := by decide +kernel
theorem dX12_join_5 : decode cX12_join 5 = .ok (.ifCond .eq 11, 3) := by decide +kernel
theorem dX12_join_8 : decode cX12_join 8 = .ok (.aload_n 0, 1) := by decide +kernel
theorem dX12_join_9 : decode cX12_join 9 = .ok (.iload_n 2, 1) := by decide +kernel
theorem dX12_join_10 : decode cX12_join 10 = .ok (.invokevirtual 173, 3) := by decide +kernel
theorem dX12_join_13 : decode cX12_join 13 = .ok (.ifCond .ne 6, 3) := by decide +kernel
