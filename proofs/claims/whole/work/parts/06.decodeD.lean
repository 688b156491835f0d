theorem dX12_init_0 : decode cX12_init 0 = .ok (.aload_n 0, 1) := by decide +kernel
theorem dX12_init_1 : decode cX12_init 1 = .ok (.invokespecial 1, 3) := by decide +kernel
theorem dX12_init_4 : decode cX12_init 4 = .ok (.aload_n 0, 1) := by decide +kernel
theorem dX12_init_5 : decode cX12_init 5 = .ok (.bipush 16, 2) := by decide +kernel
theorem dX12_init_7 : decode cX12_init 7 = .ok (.newarray .int, 2) := by decide +kernel
theorem dX12_init_9 : decode cX12_init 9 = .ok (.putfield 7, 3) := by decide +kernel
theorem dX12_init_12 : decode cX12_init 12 = .ok (.aload_n 0, 1) := by decide +kernel
theorem dX12_init_13 : decode cX12_init 13 = .ok (.bipush 16, 2) := by decide +kernel
theorem dX12_init_15 : decode cX12_init 15 = .ok (.newarray .int, 2) := by decide +kernel
theorem dX12_init_17 : decode cX12_init 17 = .ok (.putfield 13, 3) := by decide +kernel
theorem dX12_init_20 : decode cX12_init 20 = .ok (.aload_n 0, 1) := by decide +kernel
theorem dX12_init_21 : decode cX12_init 21 = .ok (.bipush 16, 2) := by decide +kernel
theorem dX12_init_23 : decode cX12_init 23 = .ok (.newarray .int, 2) := by decide +kernel
theorem dX12_init_25 : decode cX12_init 25 = .ok (.putfield 16, 3) := by decide +kernel
theorem dX12_init_28 : decode cX12_init 28 = .ok (.aload_n 0, 1) := by decide +kernel
theorem dX12_init_29 : decode cX12_init 29 = .ok (.bipush 20, 2) := by decide +kernel
theorem dX12_init_31 : decode cX12_init 31 = .ok (.newarray .int, 2) := by decide +kernel
theorem dX12_init_33 : decode cX12_init 33 = .ok (.putfield 19, 3) := by decide +kernel
theorem dX12_init_36 : decode cX12_init 36 = .ok (.aload_n 0, 1) := by decide +kernel
theorem dX12_init_37 : decode cX12_init 37 = .ok (.bipush 10, 2) := by decide +kernel
theorem dX12_init_39 : decode cX12_init 39 = .ok (.newarray .int, 2) := by decide +kernel
theorem dX12_init_41 : decode cX12_init 41 = .ok (.putfield 22, 3) := by decide +kernel
theorem dX12_init_44 : decode cX12_init 44 = .ok (.aload_n 0, 1) := by decide +kernel
theorem dX12_init_45 : decode cX12_init 45 = .ok (.sipush 600, 3) := by decide +kernel
theorem dX12_init_48 : decode cX12_init 48 = .ok (.newarray .int, 2) := by decide +kernel
theorem dX12_init_50 : decode cX12_init 50 = .ok (.putfield 25, 3) := by decide +kernel
theorem dX12_init_53 : decode cX12_init 53 = .ok (.aload_n 0, 1) := by decide +kernel
theorem dX12_init_54 : decode cX12_init 54 = .ok (.sipush 600, 3) := by decide +kernel
theorem dX12_init_57 : decode cX12_init 57 = .ok (.newarray .int, 2) := by decide +kernel
theorem dX12_init_59 : decode cX12_init 59 = .ok (.putfield 28, 3) := by decide +kernel
theorem dX12_init_62 : decode cX12_init 62 = .ok (.aload_n 0, 1) := by decide +kernel
theorem dX12_init_63 : decode cX12_init 63 = .ok (.sipush 600, 3) := by decide +kernel
theorem dX12_init_66 : decode cX12_init 66 = .ok (.newarray .boolean, 2) := by decide +kernel
theorem dX12_init_68 : decode cX12_init 68 = .ok (.putfield 31, 3) := by decide +kernel
theorem dX12_init_71 : decode cX12_init 71 = .ok (.aload_n 0, 1) := by decide +kernel
theorem dX12_init_72 : decode cX12_init 72 = .ok (.sipush 600, 3) := by decide +kernel
theorem dX12_init_75 : decode cX12_init 75 = .ok (.newarray .int, 2) := by decide +kernel
theorem dX12_init_77 : decode cX12_init 77 = .ok (.putfield 35, 3) := by decide +kernel
theorem dX12_init_80 : decode cX12_init 80 = .ok (.aload_n 0, 1) := by decide +kernel
theorem dX12_init_81 : decode cX12_init 81 = .ok (.iconst 2, 1) := by decide +kernel
theorem dX12_init_82 : decode cX12_init 82 = .ok (.putfield 38, 3) := by decide +kernel
theorem dX12_init_85 : decode cX12_init 85 = .ok (.aload_n 0, 1) := by decide +kernel
theorem dX12_init_86 : decode cX12_init 86 = .ok (.bipush 6, 2) := by decide +kernel
theorem dX12_init_88 : decode cX12_init 88 = .ok (.putfield 42, 3) := by decide +kernel
theorem dX12_init_91 : decode cX12_init 91 = .ok (.aload_n 0, 1) := by decide +kernel
theorem dX12_init_92 : decode cX12_init 92 = .ok (.iconst 2, 1) := by decide +kernel
theorem dX12_init_93 : decode cX12_init 93 = .ok (.newarray .int, 2) := by decide +kernel
theorem dX12_init_95 : decode cX12_init 95 = .ok (.putfield 45, 3) := by decide +kernel
theorem dX12_init_98 : decode cX12_init 98 = .ok (.aload_n 0, 1) := by decide +kernel
theorem dX12_init_99 : decode cX12_init 99 = .ok (.iconst 2, 1) := by decide +kernel
theorem dX12_init_100 : decode cX12_init 100 = .ok (.newarray .int, 2) := by decide +kernel
theorem dX12_init_102 : decode cX12_init 102 = .ok (.putfield 48, 3) := by decide +kernel
theorem dX12_init_105 : decode cX12_init 105 = .ok (.aload_n 0, 1) := by decide +kernel
theorem dX12_init_106 : decode cX12_init 106 = .ok (.iconst 2, 1) := by decide +kernel
theorem dX12_init_107 : decode cX12_init 107 = .ok (.newarray .int, 2) := by decide +kernel
theorem dX12_init_109 : decode cX12_init 109 = .ok (.dup, 1) := by decide +kernel
theorem dX12_init_110 : decode cX12_init 110 = .ok (.iconst 0, 1) := by decide +kernel
theorem dX12_init_111 : decode cX12_init 111 = .ok (.iconst 1, 1) := by decide +kernel
theorem dX12_init_112 : decode cX12_init 112 = .ok (.iastore, 1) := by decide +kernel
theorem dX12_init_113 : decode cX12_init 113 = .ok (.dup, 1) := by decide +kernel
theorem dX12_init_114 : decode cX12_init 114 = .ok (.iconst 1, 1) := by decide +kernel
theorem dX12_init_115 : decode cX12_init 115 = .ok (.iconst 1, 1) := by decide +kernel
theorem dX12_init_116 : decode cX12_init 116 = .ok (.iastore, 1) := by decide +kernel
theorem dX12_init_117 : decode cX12_init 117 = .ok (.putfield 51, 3) := by decide +kernel
theorem dX12_init_120 : decode cX12_init 120 = .ok (.aload_n 0, 1) := by decide +kernel
theorem dX12_init_121 : decode cX12_init 121 = .ok (.iconst 2, 1) := by decide +kernel
theorem dX12_init_122 : decode cX12_init 122 = .ok (.newarray .int, 2) := by decide +kernel
theorem dX12_init_124 : decode cX12_init 124 = .ok (.dup, 1) := by decide +kernel
theorem dX12_init_125 : decode cX12_init 125 = .ok (.iconst 0, 1) := by decide +kernel
theorem dX12_init_126 : decode cX12_init 126 = .ok (.iconst 1, 1) := by decide +kernel
theorem dX12_init_127 : decode cX12_init 127 = .ok (.iastore, 1) := by decide +kernel
theorem dX12_init_128 : decode cX12_init 128 = .ok (.dup, 1) := by decide +kernel
theorem dX12_init_129 : decode cX12_init 129 = .ok (.iconst 1, 1) := by decide +kernel
theorem dX12_init_130 : decode cX12_init 130 = .ok (.iconst 1, 1) := by decide +kernel
theorem dX12_init_131 : decode cX12_init 131 = .ok (.iastore, 1) := by decide +kernel
theorem dX12_init_132 : decode cX12_init 132 = .ok (.putfield 54, 3) := by decide +kernel
theorem dX12_init_135 : decode cX12_init 135 = .ok (.aload_n 0, 1) := by decide +kernel
theorem dX12_init_136 : decode cX12_init 136 = .ok (.iconst 2, 1) := by decide +kernel
theorem dX12_init_137 : decode cX12_init 137 = .ok (.newarray .int, 2) := by decide +kernel
theorem dX12_init_139 : decode cX12_init 139 = .ok (.putfield 57, 3) := by decide +kernel
theorem dX12_init_142 : decode cX12_init 142 = .ok (.aload_n 0, 1) := by decide +kernel
theorem dX12_init_143 : decode cX12_init 143 = .ok (.iconst 2, 1) := by decide +kernel
theorem dX12_init_144 : decode cX12_init 144 = .ok (.newarray .int, 2) := by decide +kernel
theorem dX12_init_146 : decode cX12_init 146 = .ok (.putfield 60, 3) := by decide +kernel
theorem dX12_init_149 : decode cX12_init 149 = .ok (.aload_n 0, 1) := by decide +kernel
theorem dX12_init_150 : decode cX12_init 150 = .ok (.iconst 2, 1) := by decide +kernel
theorem dX12_init_151 : decode cX12_init 151 = .ok (.newarray .long, 2) := by decide +kernel
theorem dX12_init_153 : decode cX12_init 153 = .ok (.putfield 63, 3) := by decide +kernel
theorem dX12_init_156 : decode cX12_init 156 = .ok (.aload_n 0, 1) := by decide +kernel
theorem dX12_init_157 : decode cX12_init 157 = .ok (.iconst 2, 1) := by decide +kernel
theorem dX12_init_158 : decode cX12_init 158 = .ok (.newarray .int, 2) := by decide +kernel
theorem dX12_init_160 : decode cX12_init 160 = .ok (.putfield 67, 3) := by decide +kernel
theorem dX12_init_163 : decode cX12_init 163 = .ok (.aload_n 0, 1) := by decide +kernel
theorem dX12_init_164 : decode cX12_init 164 = .ok (.iconst 2, 1) := by decide +kernel
theorem dX12_init_165 : decode cX12_init 165 = .ok (.newarray .int, 2) := by decide +kernel
theorem dX12_init_167 : decode cX12_init 167 = .ok (.putfield 70, 3) := by decide +kernel
theorem dX12_init_170 : decode cX12_init 170 = .ok (.aload_n 0, 1) := by decide +kernel
theorem dX12_init_171 : decode cX12_init 171 = .ok (.iconst 2, 1) := by decide +kernel
theorem dX12_init_172 : decode cX12_init 172 = .ok (.newarray .int, 2) := by decide +kernel
theorem dX12_init_174 : decode cX12_init 174 = .ok (.putfield 73, 3) := by decide +kernel
theorem dX12_init_177 : decode cX12_init 177 = .ok (.aload_n 0, 1) := by decide +kernel
theorem dX12_init_178 : decode cX12_init 178 = .ok (.iconst 2, 1) := by decide +kernel
theorem dX12_init_179 : decode cX12_init 179 = .ok (.newarray .int, 2) := by decide +kernel
theorem dX12_init_181 : decode cX12_init 181 = .ok (.putfield 76, 3) := by decide +kernel
theorem dX12_init_184 : decode cX12_init 184 = .ok (.aload_n 0, 1) := by decide +kernel
theorem dX12_init_185 : decode cX12_init 185 = .ok (.bipush 40, 2) := by decide +kernel
theorem dX12_init_187 : decode cX12_init 187 = .ok (.newarray .int, 2) := by decide +kernel
theorem dX12_init_189 : decode cX12_init 189 = .ok (.putfield 79, 3) := by decide +kernel
theorem dX12_init_192 : decode cX12_init 192 = .ok (.aload_n 0, 1) := by decide +kernel
theorem dX12_init_193 : decode cX12_init 193 = .ok (.bipush 40, 2) := by decide +kernel
theorem dX12_init_195 : decode cX12_init 195 = .ok (.newarray .int, 2) := by decide +kernel
theorem dX12_init_197 : decode cX12_init 197 = .ok (.putfield 82, 3) := by decide +kernel
theorem dX12_init_200 : decode cX12_init 200 = .ok (.aload_n 0, 1) := by decide +kernel
theorem dX12_init_201 : decode cX12_init 201 = .ok (.bipush 40, 2) := by decide +kernel
theorem dX12_init_203 : decode cX12_init 203 = .ok (.newarray .boolean, 2) := by decide +kernel
theorem dX12_init_205 : decode cX12_init 205 = .ok (.putfield 85, 3) := by decide +kernel
theorem dX12_init_208 : decode cX12_init 208 = .ok (.aload_n 0, 1) := by decide +kernel
theorem dX12_init_209 : decode cX12_init 209 = .ok (.bipush 40, 2) := by decide +kernel
theorem dX12_init_211 : decode cX12_init 211 = .ok (.newarray .int, 2) := by decide +kernel
theorem dX12_init_213 : decode cX12_init 213 = .ok (.putfield 88, 3) := by decide +kernel
theorem dX12_init_216 : decode cX12_init 216 = .ok (.aload_n 0, 1) := by decide +kernel
theorem dX12_init_217 : decode cX12_init 217 = .ok (.sipush 160, 3) := by decide +kernel
theorem dX12_init_220 : decode cX12_init 220 = .ok (.newarray .int, 2) := by decide +kernel
theorem dX12_init_222 : decode cX12_init 222 = .ok (.putfield 91, 3) := by decide +kernel
theorem dX12_init_225 : decode cX12_init 225 = .ok (.aload_n 0, 1) := by decide +kernel
theorem dX12_init_226 : decode cX12_init 226 = .ok (.bipush 40, 2) := by decide +kernel
theorem dX12_init_228 : decode cX12_init 228 = .ok (.newarray .int, 2) := by decide +kernel
theorem dX12_init_230 : decode cX12_init 230 = .ok (.putfield 94, 3) := by decide +kernel
theorem dX12_init_233 : decode cX12_init 233 = .ok (.aload_n 0, 1) := by decide +kernel
theorem dX12_init_234 : decode cX12_init 234 = .ok (.bipush 40, 2) := by decide +kernel
theorem dX12_init_236 : decode cX12_init 236 = .ok (.newarray .long, 2) := by decide +kernel
theorem dX12_init_238 : decode cX12_init 238 = .ok (.putfield 97, 3) := by decide +kernel
theorem dX12_init_241 : decode cX12_init 241 = .ok (.aload_n 0, 1) := by decide +kernel
theorem dX12_init_242 : decode cX12_init 242 = .ok (.sipush 160, 3) := by decide +kernel
theorem dX12_init_245 : decode cX12_init 245 = .ok (.newarray .int, 2) := by decide +kernel
theorem dX12_init_247 : decode cX12_init 247 = .ok (.putfield 100, 3) := by decide +kernel
theorem dX12_init_250 : decode cX12_init 250 = .ok (.aload_n 0, 1) := by decide +kernel
theorem dX12_init_251 : decode cX12_init 251 = .ok (.bipush 20, 2) := by decide +kernel
theorem dX12_init_253 : decode cX12_init 253 = .ok (.newarray .int, 2) := by decide +kernel
theorem dX12_init_255 : decode cX12_init 255 = .ok (.putfield 103, 3) := by decide +kernel
theorem dX12_init_258 : decode cX12_init 258 = .ok (.aload_n 0, 1) := by decide +kernel
theorem dX12_init_259 : decode cX12_init 259 = .ok (.bipush 20, 2) := by decide +kernel
theorem dX12_init_261 : decode cX12_init 261 = .ok (.newarray .int, 2) := by decide +kernel
theorem dX12_init_263 : decode cX12_init 263 = .ok (.putfield 106, 3) := by decide +kernel
theorem dX12_init_266 : decode cX12_init 266 = .ok (.aload_n 0, 1) := by decide +kernel
theorem dX12_init_267 : decode cX12_init 267 = .ok (.bipush 20, 2) := by decide +kernel
theorem dX12_init_269 : decode cX12_init 269 = .ok (.newarray .int, 2) := by decide +kernel
theorem dX12_init_271 : decode cX12_init 271 = .ok (.putfield 109, 3) := by decide +kernel
theorem dX12_init_274 : decode cX12_init 274 = .ok (.aload_n 0, 1) := by decide +kernel
theorem dX12_init_275 : decode cX12_init 275 = .ok (.bipush 20, 2) := by decide +kernel
theorem dX12_init_277 : decode cX12_init 277 = .ok (.newarray .int, 2) := by decide +kernel
theorem dX12_init_279 : decode cX12_init 279 = .ok (.putfield 112, 3) := by decide +kernel
theorem dX12_init_282 : decode cX12_init 282 = .ok (.aload_n 0, 1) := by decide +kernel
theorem dX12_init_283 : decode cX12_init 283 = .ok (.bipush 20, 2) := by decide +kernel
theorem dX12_init_285 : decode cX12_init 285 = .ok (.newarray .int, 2) := by decide +kernel
theorem dX12_init_287 : decode cX12_init 287 = .ok (.putfield 115, 3) := by decide +kernel
theorem dX12_init_290 : decode cX12_init 290 = .ok (.aload_n 0, 1) := by decide +kernel
theorem dX12_init_291 : decode cX12_init 291 = .ok (.bipush 20, 2) := by decide +kernel
theorem dX12_init_293 : decode cX12_init 293 = .ok (.newarray .boolean, 2) := by decide +kernel
theorem dX12_init_295 : decode cX12_init 295 = .ok (.putfield 118, 3) := by decide +kernel
theorem dX12_init_298 : decode cX12_init 298 = .ok (.aload_n 0, 1) := by decide +kernel
theorem dX12_init_299 : decode cX12_init 299 = .ok (.bipush 20, 2) := by decide +kernel
theorem dX12_init_301 : decode cX12_init 301 = .ok (.newarray .int, 2) := by decide +kernel
theorem dX12_init_303 : decode cX12_init 303 = .ok (.putfield 121, 3) := by decide +kernel
theorem dX12_init_306 : decode cX12_init 306 = .ok (.aload_n 0, 1) := by decide +kernel
theorem dX12_init_307 : decode cX12_init 307 = .ok (.bipush 20, 2) := by decide +kernel
theorem dX12_init_309 : decode cX12_init 309 = .ok (.newarray .long, 2) := by decide +kernel
theorem dX12_init_311 : decode cX12_init 311 = .ok (.putfield 124, 3) := by decide +kernel
theorem dX12_init_314 : decode cX12_init 314 = .ok (.aload_n 0, 1) := by decide +kernel
theorem dX12_init_315 : decode cX12_init 315 = .ok (.bipush 20, 2) := by decide +kernel
theorem dX12_init_317 : decode cX12_init 317 = .ok (.newarray .int, 2) := by decide +kernel
theorem dX12_init_319 : decode cX12_init 319 = .ok (.putfield 127, 3) := by decide +kernel
theorem dX12_init_322 : decode cX12_init 322 = .ok (.aload_n 0, 1) := by decide +kernel
theorem dX12_init_323 : decode cX12_init 323 = .ok (.bipush 20, 2) := by decide +kernel
theorem dX12_init_325 : decode cX12_init 325 = .ok (.newarray .boolean, 2) := by decide +kernel
theorem dX12_init_327 : decode cX12_init 327 = .ok (.putfield 130, 3) := by decide +kernel
theorem dX12_init_330 : decode cX12_init 330 = .ok (.aload_n 0, 1) := by decide +kernel
theorem dX12_init_331 : decode cX12_init 331 = .ok (.bipush 8, 2) := by decide +kernel
theorem dX12_init_333 : decode cX12_init 333 = .ok (.newarray .long, 2) := by decide +kernel
theorem dX12_init_335 : decode cX12_init 335 = .ok (.putfield 133, 3) := by decide +kernel
theorem dX12_init_338 : decode cX12_init 338 = .ok (.aload_n 0, 1) := by decide +kernel
theorem dX12_init_339 : decode cX12_init 339 = .ok (.bipush 32, 2) := by decide +kernel
theorem dX12_init_341 : decode cX12_init 341 = .ok (.newarray .int, 2) := by decide +kernel
theorem dX12_init_343 : decode cX12_init 343 = .ok (.putfield 136, 3) := by decide +kernel
theorem dX12_init_346 : decode cX12_init 346 = .ok (.aload_n 0, 1) := by decide +kernel
theorem dX12_init_347 : decode cX12_init 347 = .ok (.bipush 32, 2) := by decide +kernel
theorem dX12_init_349 : decode cX12_init 349 = .ok (.newarray .int, 2) := by decide +kernel
theorem dX12_init_351 : decode cX12_init 351 = .ok (.putfield 139, 3) := by decide +kernel
theorem dX12_init_354 : decode cX12_init 354 = .ok (.aload_n 0, 1) := by decide +kernel
theorem dX12_init_355 : decode cX12_init 355 = .ok (.bipush 32, 2) := by decide +kernel
theorem dX12_init_357 : decode cX12_init 357 = .ok (.newarray .int, 2) := by decide +kernel
theorem dX12_init_359 : decode cX12_init 359 = .ok (.putfield 142, 3) := by decide +kernel
theorem dX12_init_362 : decode cX12_init 362 = .ok (.aload_n 0, 1) := by decide +kernel
theorem dX12_init_363 : decode cX12_init 363 = .ok (.sipush 3000, 3) := by decide +kernel
theorem dX12_init_366 : decode cX12_init 366 = .ok (.newarray .int, 2) := by decide +kernel
theorem dX12_init_368 : decode cX12_init 368 = .ok (.putfield 145, 3) := by decide +kernel
theorem dX12_init_371 : decode cX12_init 371 = .ok (.aload_n 0, 1) := by decide +kernel
theorem dX12_init_372 : decode cX12_init 372 = .ok (.sipush 300, 3) := by decide +kernel
theorem dX12_init_375 : decode cX12_init 375 = .ok (.newarray .int, 2) := by decide +kernel
theorem dX12_init_377 : decode cX12_init 377 = .ok (.putfield 148, 3) := by decide +kernel
theorem dX12_init_380 : decode cX12_init 380 = .ok (.aload_n 0, 1) := by decide +kernel
theorem dX12_init_381 : decode cX12_init 381 = .ok (.iconst 4, 1) := by decide +kernel
theorem dX12_init_382 : decode cX12_init 382 = .ok (.newarray .long, 2) := by decide +kernel
theorem dX12_init_384 : decode cX12_init 384 = .ok (.putfield 151, 3) := by decide +kernel
theorem dX12_init_387 : decode cX12_init 387 = .ok (.aload_n 0, 1) := by decide +kernel
theorem dX12_init_388 : decode cX12_init 388 = .ok (.iconst 4, 1) := by decide +kernel
theorem dX12_init_389 : decode cX12_init 389 = .ok (.newarray .long, 2) := by decide +kernel
theorem dX12_init_391 : decode cX12_init 391 = .ok (.putfield 154, 3) := by decide +kernel
theorem dX12_init_394 : decode cX12_init 394 = .ok (.aload_n 0, 1) := by decide +kernel
theorem dX12_init_395 : decode cX12_init 395 = .ok (.bipush 80, 2) := by decide +kernel
theorem dX12_init_397 : decode cX12_init 397 = .ok (.newarray .int, 2) := by decide +kernel
theorem dX12_init_399 : decode cX12_init 399 = .ok (.putfield 157, 3) := by decide +kernel
theorem dX12_init_402 : decode cX12_init 402 = .ok (.aload_n 0, 1) := by decide +kernel
theorem dX12_init_403 : decode cX12_init 403 = .ok (.bipush 8, 2) := by decide +kernel
theorem dX12_init_405 : decode cX12_init 405 = .ok (.newarray .int, 2) := by decide +kernel
theorem dX12_init_407 : decode cX12_init 407 = .ok (.putfield 160, 3) := by decide +kernel
theorem dX12_init_410 : decode cX12_init 410 = .ok (.aload_n 0, 1) := by decide +kernel
theorem dX12_init_411 : decode cX12_init 411 = .ok (.bipush 8, 2) := by decide +kernel
theorem dX12_init_413 : decode cX12_init 413 = .ok (.newarray .int, 2) := by decide +kernel
theorem dX12_init_415 : decode cX12_init 415 = .ok (.putfield 163, 3) := by decide +kernel
theorem dX12_init_418 : decode cX12_init 418 = .ok (.aload_n 0, 1) := by decide +kernel
theorem dX12_init_419 : decode cX12_init 419 = .ok (.bipush 8, 2) := by decide +kernel
theorem dX12_init_421 : decode cX12_init 421 = .ok (.newarray .int, 2) := by decide +kernel
theorem dX12_init_423 : decode cX12_init 423 = .ok (.putfield 166, 3) := by decide +kernel
theorem dX12_init_426 : decode cX12_init 426 = .ok (.aload_n 0, 1) := by decide +kernel
theorem dX12_init_427 : decode cX12_init 427 = .ok (.bipush 8, 2) := by decide +kernel
theorem dX12_init_429 : decode cX12_init 429 = .ok (.newarray .int, 2) := by decide +kernel
theorem dX12_init_431 : decode cX12_init 431 = .ok (.putfield 169, 3) := by decide +kernel
theorem dX12_init_434 : decode cX12_init 434 = .ok (.aload_n 0, 1) := by decide +kernel
theorem dX12_init_435 : decode cX12_init 435 = .ok (.sipush 480, 3) := by decide +kernel
theorem dX12_init_438 : decode cX12_init 438 = .ok (.newarray .int, 2) := by decide +kernel
theorem dX12_init_440 : decode cX12_init 440 = .ok (.putfield 172, 3) := by decide +kernel
theorem dX12_init_443 : decode cX12_init 443 = .ok (.aload_n 0, 1) := by decide +kernel
theorem dX12_init_444 : decode cX12_init 444 = .ok (.bipush 60, 2) := by decide +kernel
theorem dX12_init_446 : decode cX12_init 446 = .ok (.newarray .int, 2) := by decide +kernel
theorem dX12_init_448 : decode cX12_init 448 = .ok (.putfield 175, 3) := by decide +kernel
theorem dX12_init_451 : decode cX12_init 451 = .ok (.aload_n 0, 1) := by decide +kernel
theorem dX12_init_452 : decode cX12_init 452 = .ok (.iconst 2, 1) := by decide +kernel
theorem dX12_init_453 : decode cX12_init 453 = .ok (.iload_n 1, 1) := by decide +kernel
theorem dX12_init_454 : decode cX12_init 454 = .ok (.iconst 3, 1) := by decide +kernel
theorem dX12_init_455 : decode cX12_init 455 = .ok (.invokestatic 178, 3) := by decide +kernel
theorem dX12_init_458 : decode cX12_init 458 = .ok (.iadd, 1) := by decide +kernel
theorem dX12_init_459 : decode cX12_init 459 = .ok (.putfield 182, 3) := by decide +kernel
theorem dX12_init_462 : decode cX12_init 462 = .ok (.aload_n 0, 1) := by decide +kernel
theorem dX12_init_463 : decode cX12_init 463 = .ok (.iconst 1, 1) := by decide +kernel
theorem dX12_init_464 : decode cX12_init 464 = .ok (.iload_n 2, 1) := by decide +kernel
theorem dX12_init_465 : decode cX12_init 465 = .ok (.iconst 3, 1) := by decide +kernel
theorem dX12_init_466 : decode cX12_init 466 = .ok (.invokestatic 178, 3) := by decide +kernel
theorem dX12_init_469 : decode cX12_init 469 = .ok (.iadd, 1) := by decide +kernel
theorem dX12_init_470 : decode cX12_init 470 = .ok (.putfield 185, 3) := by decide +kernel
theorem dX12_init_473 : decode cX12_init 473 = .ok (.aload_n 0, 1) := by decide +kernel
theorem dX12_init_474 : decode cX12_init 474 = .ok (.iconst 4, 1) := by decide +kernel
theorem dX12_init_475 : decode cX12_init 475 = .ok (.iload_n 3, 1) := by decide +kernel
theorem dX12_init_476 : decode cX12_init 476 = .ok (.bipush 9, 2) := by decide +kernel
theorem dX12_init_478 : decode cX12_init 478 = .ok (.invokestatic 178, 3) := by decide +kernel
theorem dX12_init_481 : decode cX12_init 481 = .ok (.iadd, 1) := by decide +kernel
theorem dX12_init_482 : decode cX12_init 482 = .ok (.putfield 188, 3) := by decide +kernel
theorem dX12_init_485 : decode cX12_init 485 = .ok (.iconst 0, 1) := by decide +kernel
theorem dX12_init_486 : decode cX12_init 486 = .ok (.istore 4, 2) := by decide +kernel
theorem dX12_init_488 : decode cX12_init 488 = .ok (.iload 4, 2) := by decide +kernel
theorem dX12_init_490 : decode cX12_init 490 = .ok (.bipush 16, 2) := by decide +kernel
theorem dX12_init_492 : decode cX12_init 492 = .ok (.if_icmp .ge 40, 3) := by decide +kernel
theorem dX12_init_495 : decode cX12_init 495 = .ok (.aload_n 0, 1) := by decide +kernel
theorem dX12_init_496 : decode cX12_init 496 = .ok (.getfield 7, 3) := by decide +kernel
theorem dX12_init_499 : decode cX12_init 499 = .ok (.iload 4, 2) := by decide +kernel
theorem dX12_init_501 : decode cX12_init 501 = .ok (.iload 4, 2) := by decide +kernel
theorem dX12_init_503 : decode cX12_init 503 = .ok (.iconst 4, 1) := by decide +kernel
theorem dX12_init_504 : decode cX12_init 504 = .ok (.idiv, 1) := by decide +kernel
theorem dX12_init_505 : decode cX12_init 505 = .ok (.iload 4, 2) := by decide +kernel
theorem dX12_init_507 : decode cX12_init 507 = .ok (.iconst 4, 1) := by decide +kernel
theorem dX12_init_508 : decode cX12_init 508 = .ok (.irem, 1) := by decide +kernel
theorem dX12_init_509 : decode cX12_init 509 = .ok (.if_icmp .ne 7, 3) := by decide +kernel
theorem dX12_init_512 : decode cX12_init 512 = .ok (.iconst 0, 1) := by decide +kernel
theorem dX12_init_513 : decode cX12_init 513 = .ok (.goto 4, 3) := by decide +kernel
theorem dX12_init_516 : decode cX12_init 516 = .ok (.iconst 2, 1) := by decide +kernel
theorem dX12_init_517 : decode cX12_init 517 = .ok (.iastore, 1) := by decide +kernel
theorem dX12_init_518 : decode cX12_init 518 = .ok (.aload_n 0, 1) := by decide +kernel
theorem dX12_init_519 : decode cX12_init 519 = .ok (.getfield 13, 3) := by decide +kernel
theorem dX12_init_522 : decode cX12_init 522 = .ok (.iload 4, 2) := by decide +kernel
theorem dX12_init_524 : decode cX12_init 524 = .ok (.iconst 2, 1) := by decide +kernel
theorem dX12_init_525 : decode cX12_init 525 = .ok (.iastore, 1) := by decide +kernel
theorem dX12_init_526 : decode cX12_init 526 = .ok (.iinc 4 1, 3) := by decide +kernel
theorem dX12_init_529 : decode cX12_init 529 = .ok (.goto (-41), 3) := by decide +kernel
theorem dX12_init_532 : decode cX12_init 532 = .ok (.aload_n 0, 1) := by decide +kernel
theorem dX12_init_533 : decode cX12_init 533 = .ok (.invokevirtual 191, 3) := by decide +kernel
theorem dX12_init_536 : decode cX12_init 536 = .ok (.return_, 1) := by decide +kernel
theorem dX12_mod_0 : decode cX12_mod 0 = .ok (.iload_n 0, 1) := by decide +kernel
theorem dX12_mod_1 : decode cX12_mod 1 = .ok (.iload_n 1, 1) := by decide +kernel
theorem dX12_mod_2 : decode cX12_mod 2 = .ok (.irem, 1) := by decide +kernel
theorem dX12_mod_3 : decode cX12_mod 3 = .ok (.istore_n 2, 1) := by decide +kernel
theorem dX12_mod_4 : decode cX12_mod 4 = .ok (.iload_n 2, 1) := by decide +kernel
theorem dX12_mod_5 : decode cX12_mod 5 = .ok (.ifCond .ge 9, 3) := by decide +kernel
theorem dX12_mod_8 : decode cX12_mod 8 = .ok (.iload_n 2, 1) := by decide +kernel
theorem dX12_mod_9 : decode cX12_mod 9 = .ok (.iload_n 1, 1) := by decide +kernel
theorem dX12_mod_10 : decode cX12_mod 10 = .ok (.iadd, 1) := by decide +kernel
theorem dX12_mod_11 : decode cX12_mod 11 = .ok (.goto 4, 3) := by decide +kernel
theorem dX12_mod_14 : decode cX12_mod 14 = .ok (.iload_n 2, 1) := by decide +kernel
theorem dX12_mod_15 : decode cX12_mod 15 = .ok (.ireturn, 1) := by decide +kernel
theorem dX12_thrown_0 : decode cX12_thrown 0 = .ok (.aload_n 0, 1) := by decide +kernel
theorem dX12_thrown_1 : decode cX12_thrown 1 = .ok (.getfield 194, 3) := by decide +kernel
theorem dX12_thrown_4 : decode cX12_thrown 4 = .ok (.ireturn, 1) := by decide +kernel
theorem dX12_isIn_0 : decode cX12_isIn 0 = .ok (.lload_n 0, 1) := by decide +kernel
theorem dX12_isIn_1 : decode cX12_isIn 1 = .ok (.lload_n 2, 1) := by decide +kernel
theorem dX12_isIn_2 : decode cX12_isIn 2 = .ok (.lcmp, 1) := by decide +kernel
theorem dX12_isIn_3 : decode cX12_isIn 3 = .ok (.ifCond .lt 14, 3) := by decide +kernel
theorem dX12_isIn_6 : decode cX12_isIn 6 = .ok (.lload_n 0, 1) := by decide +kernel
theorem dX12_isIn_7 : decode cX12_isIn 7 = .ok (.lload 4, 2) := by decide +kernel
theorem dX12_isIn_9 : decode cX12_isIn 9 = .ok (.lcmp, 1) := by decide +kernel
theorem dX12_isIn_10 : decode cX12_isIn 10 = .ok (.ifCond .gt 7, 3) := by decide +kernel
theorem dX12_isIn_13 : decode cX12_isIn 13 = .ok (.iconst 1, 1) := by decide +kernel
theorem dX12_isIn_14 : decode cX12_isIn 14 = .ok (.goto 4, 3) := by decide +kernel
theorem dX12_isIn_17 : decode cX12_isIn 17 = .ok (.iconst 0, 1) := by decide +kernel
theorem dX12_isIn_18 : decode cX12_isIn 18 = .ok (.ireturn, 1) := by decide +kernel
theorem dX12_isNode_0 : decode cX12_isNode 0 = .ok (.iload_n 1, 1) := by decide +kernel
theorem dX12_isNode_1 : decode cX12_isNode 1 = .ok (.ifCond .lt 15, 3) := by decide +kernel
theorem dX12_isNode_4 : decode cX12_isNode 4 = .ok (.iload_n 1, 1) := by decide +kernel
theorem dX12_isNode_5 : decode cX12_isNode 5 = .ok (.aload_n 0, 1) := by decide +kernel
theorem dX12_isNode_6 : decode cX12_isNode 6 = .ok (.getfield 182, 3) := by decide +kernel
theorem dX12_isNode_9 : decode cX12_isNode 9 = .ok (.if_icmp .ge 7, 3) := by decide +kernel
theorem dX12_isNode_12 : decode cX12_isNode 12 = .ok (.iconst 1, 1) := by decide +kernel
theorem dX12_isNode_13 : decode cX12_isNode 13 = .ok (.goto 4, 3) := by decide +kernel
theorem dX12_isNode_16 : decode cX12_isNode 16 = .ok (.iconst 0, 1) := by decide +kernel
theorem dX12_isNode_17 : decode cX12_isNode 17 = .ok (.ireturn, 1) := by decide +kernel
theorem dX12_isPage_0 : decode cX12_isPage 0 = .ok (.iload_n 1, 1) := by decide +kernel
theorem dX12_isPage_1 : decode cX12_isPage 1 = .ok (.ifCond .lt 15, 3) := by decide +kernel
theorem dX12_isPage_4 : decode cX12_isPage 4 = .ok (.iload_n 1, 1) := by decide +kernel
theorem dX12_isPage_5 : decode cX12_isPage 5 = .ok (.aload_n 0, 1) := by decide +kernel
theorem dX12_isPage_6 : decode cX12_isPage 6 = .ok (.getfield 197, 3) := by decide +kernel
theorem dX12_isPage_9 : decode cX12_isPage 9 = .ok (.if_icmp .ge 7, 3) := by decide +kernel
theorem dX12_isPage_12 : decode cX12_isPage 12 = .ok (.iconst 1, 1) := by decide +kernel
theorem dX12_isPage_13 : decode cX12_isPage 13 = .ok (.goto 4, 3) := by decide +kernel
theorem dX12_isPage_16 : decode cX12_isPage 16 = .ok (.iconst 0, 1) := by decide +kernel
theorem dX12_isPage_17 : decode cX12_isPage 17 = .ok (.ireturn, 1) := by decide +kernel
theorem dX12_isThread_0 : decode cX12_isThread 0 = .ok (.iload_n 1, 1) := by decide +kernel
theorem dX12_isThread_1 : decode cX12_isThread 1 = .ok (.ifCond .lt 15, 3) := by decide +kernel
theorem dX12_isThread_4 : decode cX12_isThread 4 = .ok (.iload_n 1, 1) := by decide +kernel
theorem dX12_isThread_5 : decode cX12_isThread 5 = .ok (.aload_n 0, 1) := by decide +kernel
theorem dX12_isThread_6 : decode cX12_isThread 6 = .ok (.getfield 200, 3) := by decide +kernel
theorem dX12_isThread_9 : decode cX12_isThread 9 = .ok (.if_icmp .ge 7, 3) := by decide +kernel
theorem dX12_isThread_12 : decode cX12_isThread 12 = .ok (.iconst 1, 1) := by decide +kernel
theorem dX12_isThread_13 : decode cX12_isThread 13 = .ok (.goto 4, 3) := by decide +kernel
theorem dX12_isThread_16 : decode cX12_isThread 16 = .ok (.iconst 0, 1) := by decide +kernel
theorem dX12_isThread_17 : decode cX12_isThread 17 = .ok (.ireturn, 1) := by decide +kernel
theorem dX12_measure_0 : decode cX12_measure 0 = .ok (.iconst 0, 1) := by decide +kernel
theorem dX12_measure_1 : decode cX12_measure 1 = .ok (.istore_n 1, 1) := by decide +kernel
theorem dX12_measure_2 : decode cX12_measure 2 = .ok (.iload_n 1, 1) := by decide +kernel
theorem dX12_measure_3 : decode cX12_measure 3 = .ok (.bipush 16, 2) := by decide +kernel
theorem dX12_measure_5 : decode cX12_measure 5 = .ok (.if_icmp .ge 48, 3) := by decide +kernel
theorem dX12_measure_8 : decode cX12_measure 8 = .ok (.aload_n 0, 1) := by decide +kernel
theorem dX12_measure_9 : decode cX12_measure 9 = .ok (.getfield 16, 3) := by decide +kernel
theorem dX12_measure_12 : decode cX12_measure 12 = .ok (.iload_n 1, 1) := by decide +kernel
theorem dX12_measure_13 : decode cX12_measure 13 = .ok (.iload_n 1, 1) := by decide +kernel
theorem dX12_measure_14 : decode cX12_measure 14 = .ok (.iconst 4, 1) := by decide +kernel
theorem dX12_measure_15 : decode cX12_measure 15 = .ok (.idiv, 1) := by decide +kernel
theorem dX12_measure_16 : decode cX12_measure 16 = .ok (.iload_n 1, 1) := by decide +kernel
theorem dX12_measure_17 : decode cX12_measure 17 = .ok (.iconst 4, 1) := by decide +kernel
theorem dX12_measure_18 : decode cX12_measure 18 = .ok (.irem, 1) := by decide +kernel
theorem dX12_measure_19 : decode cX12_measure 19 = .ok (.if_icmp .ne 7, 3) := by decide +kernel
theorem dX12_measure_22 : decode cX12_measure 22 = .ok (.iconst 0, 1) := by decide +kernel
theorem dX12_measure_23 : decode cX12_measure 23 = .ok (.goto 23, 3) := by decide +kernel
theorem dX12_measure_26 : decode cX12_measure 26 = .ok (.aload_n 0, 1) := by decide +kernel
theorem dX12_measure_27 : decode cX12_measure 27 = .ok (.getfield 7, 3) := by decide +kernel
theorem dX12_measure_30 : decode cX12_measure 30 = .ok (.iload_n 1, 1) := by decide +kernel
theorem dX12_measure_31 : decode cX12_measure 31 = .ok (.iaload, 1) := by decide +kernel
theorem dX12_measure_32 : decode cX12_measure 32 = .ok (.ifCond .le 12, 3) := by decide +kernel
theorem dX12_measure_35 : decode cX12_measure 35 = .ok (.aload_n 0, 1) := by decide +kernel
theorem dX12_measure_36 : decode cX12_measure 36 = .ok (.getfield 7, 3) := by decide +kernel
theorem dX12_measure_39 : decode cX12_measure 39 = .ok (.iload_n 1, 1) := by decide +kernel
theorem dX12_measure_40 : decode cX12_measure 40 = .ok (.iaload, 1) := by decide +kernel
theorem dX12_measure_41 : decode cX12_measure 41 = .ok (.goto 5, 3) := by decide +kernel
theorem dX12_measure_44 : decode cX12_measure 44 = .ok (.ldc 203, 2) := by decide +kernel
theorem dX12_measure_46 : decode cX12_measure 46 = .ok (.iastore, 1) := by decide +kernel
theorem dX12_measure_47 : decode cX12_measure 47 = .ok (.iinc 1 1, 3) := by decide +kernel
theorem dX12_measure_50 : decode cX12_measure 50 = .ok (.goto (-48), 3) := by decide +kernel
theorem dX12_measure_53 : decode cX12_measure 53 = .ok (.iconst 0, 1) := by decide +kernel
theorem dX12_measure_54 : decode cX12_measure 54 = .ok (.istore_n 1, 1) := by decide +kernel
theorem dX12_measure_55 : decode cX12_measure 55 = .ok (.iload_n 1, 1) := by decide +kernel
theorem dX12_measure_56 : decode cX12_measure 56 = .ok (.aload_n 0, 1) := by decide +kernel
theorem dX12_measure_57 : decode cX12_measure 57 = .ok (.getfield 182, 3) := by decide +kernel
theorem dX12_measure_60 : decode cX12_measure 60 = .ok (.if_icmp .ge 104, 3) := by decide +kernel
theorem dX12_measure_63 : decode cX12_measure 63 = .ok (.iconst 0, 1) := by decide +kernel
theorem dX12_measure_64 : decode cX12_measure 64 = .ok (.istore_n 2, 1) := by decide +kernel
theorem dX12_measure_65 : decode cX12_measure 65 = .ok (.iload_n 2, 1) := by decide +kernel
theorem dX12_measure_66 : decode cX12_measure 66 = .ok (.aload_n 0, 1) := by decide +kernel
theorem dX12_measure_67 : decode cX12_measure 67 = .ok (.getfield 182, 3) := by decide +kernel
theorem dX12_measure_70 : decode cX12_measure 70 = .ok (.if_icmp .ge 88, 3) := by decide +kernel
theorem dX12_measure_73 : decode cX12_measure 73 = .ok (.iconst 0, 1) := by decide +kernel
theorem dX12_measure_74 : decode cX12_measure 74 = .ok (.istore_n 3, 1) := by decide +kernel
theorem dX12_measure_75 : decode cX12_measure 75 = .ok (.iload_n 3, 1) := by decide +kernel
theorem dX12_measure_76 : decode cX12_measure 76 = .ok (.aload_n 0, 1) := by decide +kernel
theorem dX12_measure_77 : decode cX12_measure 77 = .ok (.getfield 182, 3) := by decide +kernel
theorem dX12_measure_80 : decode cX12_measure 80 = .ok (.if_icmp .ge 72, 3) := by decide +kernel
theorem dX12_measure_83 : decode cX12_measure 83 = .ok (.aload_n 0, 1) := by decide +kernel
theorem dX12_measure_84 : decode cX12_measure 84 = .ok (.getfield 16, 3) := by decide +kernel
theorem dX12_measure_87 : decode cX12_measure 87 = .ok (.iconst 4, 1) := by decide +kernel
theorem dX12_measure_88 : decode cX12_measure 88 = .ok (.iload_n 2, 1) := by decide +kernel
theorem dX12_measure_89 : decode cX12_measure 89 = .ok (.imul, 1) := by decide +kernel
theorem dX12_measure_90 : decode cX12_measure 90 = .ok (.iload_n 1, 1) := by decide +kernel
theorem dX12_measure_91 : decode cX12_measure 91 = .ok (.iadd, 1) := by decide +kernel
theorem dX12_measure_92 : decode cX12_measure 92 = .ok (.iaload, 1) := by decide +kernel
theorem dX12_measure_93 : decode cX12_measure 93 = .ok (.aload_n 0, 1) := by decide +kernel
theorem dX12_measure_94 : decode cX12_measure 94 = .ok (.getfield 16, 3) := by decide +kernel
theorem dX12_measure_97 : decode cX12_measure 97 = .ok (.iconst 4, 1) := by decide +kernel
theorem dX12_measure_98 : decode cX12_measure 98 = .ok (.iload_n 1, 1) := by decide +kernel
theorem dX12_measure_99 : decode cX12_measure 99 = .ok (.imul, 1) := by decide +kernel
theorem dX12_measure_100 : decode cX12_measure 100 = .ok (.iload_n 3, 1) := by decide +kernel
theorem dX12_measure_101 : decode cX12_measure 101 = .ok (.iadd, 1) := by decide +kernel
theorem dX12_measure_102 : decode cX12_measure 102 = .ok (.iaload, 1) := by decide +kernel
theorem dX12_measure_103 : decode cX12_measure 103 = .ok (.iadd, 1) := by decide +kernel
theorem dX12_measure_104 : decode cX12_measure 104 = .ok (.istore 4, 2) := by decide +kernel
theorem dX12_measure_106 : decode cX12_measure 106 = .ok (.aload_n 0, 1) := by decide +kernel
theorem dX12_measure_107 : decode cX12_measure 107 = .ok (.getfield 16, 3) := by decide +kernel
theorem dX12_measure_110 : decode cX12_measure 110 = .ok (.iconst 4, 1) := by decide +kernel
theorem dX12_measure_111 : decode cX12_measure 111 = .ok (.iload_n 2, 1) := by decide +kernel
theorem dX12_measure_112 : decode cX12_measure 112 = .ok (.imul, 1) := by decide +kernel
theorem dX12_measure_113 : decode cX12_measure 113 = .ok (.iload_n 3, 1) := by decide +kernel
theorem dX12_measure_114 : decode cX12_measure 114 = .ok (.iadd, 1) := by decide +kernel
theorem dX12_measure_115 : decode cX12_measure 115 = .ok (.iload 4, 2) := by decide +kernel
theorem dX12_measure_117 : decode cX12_measure 117 = .ok (.aload_n 0, 1) := by decide +kernel
theorem dX12_measure_118 : decode cX12_measure 118 = .ok (.getfield 16, 3) := by decide +kernel
theorem dX12_measure_121 : decode cX12_measure 121 = .ok (.iconst 4, 1) := by decide +kernel
theorem dX12_measure_122 : decode cX12_measure 122 = .ok (.iload_n 2, 1) := by decide +kernel
theorem dX12_measure_123 : decode cX12_measure 123 = .ok (.imul, 1) := by decide +kernel
theorem dX12_measure_124 : decode cX12_measure 124 = .ok (.iload_n 3, 1) := by decide +kernel
theorem dX12_measure_125 : decode cX12_measure 125 = .ok (.iadd, 1) := by decide +kernel
theorem dX12_measure_126 : decode cX12_measure 126 = .ok (.iaload, 1) := by decide +kernel
theorem dX12_measure_127 : decode cX12_measure 127 = .ok (.if_icmp .ge 8, 3) := by decide +kernel
theorem dX12_measure_130 : decode cX12_measure 130 = .ok (.iload 4, 2) := by decide +kernel
theorem dX12_measure_132 : decode cX12_measure 132 = .ok (.goto 13, 3) := by decide +kernel
theorem dX12_measure_135 : decode cX12_measure 135 = .ok (.aload_n 0, 1) := by decide +kernel
theorem dX12_measure_136 : decode cX12_measure 136 = .ok (.getfield 16, 3) := by decide +kernel
theorem dX12_measure_139 : decode cX12_measure 139 = .ok (.iconst 4, 1) := by decide +kernel
theorem dX12_measure_140 : decode cX12_measure 140 = .ok (.iload_n 2, 1) := by decide +kernel
theorem dX12_measure_141 : decode cX12_measure 141 = .ok (.imul, 1) := by decide +kernel
theorem dX12_measure_142 : decode cX12_measure 142 = .ok (.iload_n 3, 1) := by decide +kernel
theorem dX12_measure_143 : decode cX12_measure 143 = .ok (.iadd, 1) := by decide +kernel
theorem dX12_measure_144 : decode cX12_measure 144 = .ok (.iaload, 1) := by decide +kernel
theorem dX12_measure_145 : decode cX12_measure 145 = .ok (.iastore, 1) := by decide +kernel
theorem dX12_measure_146 : decode cX12_measure 146 = .ok (.iinc 3 1, 3) := by decide +kernel
theorem dX12_measure_149 : decode cX12_measure 149 = .ok (.goto (-74), 3) := by decide +kernel
theorem dX12_measure_152 : decode cX12_measure 152 = .ok (.iinc 2 1, 3) := by decide +kernel
theorem dX12_measure_155 : decode cX12_measure 155 = .ok (.goto (-90), 3) := by decide +kernel
theorem dX12_measure_158 : decode cX12_measure 158 = .ok (.iinc 1 1, 3) := by decide +kernel
theorem dX12_measure_161 : decode cX12_measure 161 = .ok (.goto (-106), 3) := by decide +kernel
theorem dX12_measure_164 : decode cX12_measure 164 = .ok (.return_, 1) := by decide +kernel
theorem dX12_areLinked_0 : decode cX12_areLinked 0 = .ok (.aload_n 0, 1) := by decide +kernel
theorem dX12_areLinked_1 : decode cX12_areLinked 1 = .ok (.iload_n 1, 1) := by decide +kernel
theorem dX12_areLinked_2 : decode cX12_areLinked 2 = .ok (.invokevirtual 204, 3) := by decide +kernel
theorem dX12_areLinked_5 : decode cX12_areLinked 5 = .ok (.ifCond .eq 20, 3) := by decide +kernel
theorem dX12_areLinked_8 : decode cX12_areLinked 8 = .ok (.aload_n 0, 1) := by decide +kernel
theorem dX12_areLinked_9 : decode cX12_areLinked 9 = .ok (.iload_n 2, 1) := by decide +kernel
theorem dX12_areLinked_10 : decode cX12_areLinked 10 = .ok (.invokevirtual 204, 3) := by decide +kernel
theorem dX12_areLinked_13 : decode cX12_areLinked 13 = .ok (.ifCond .eq 12, 3) := by decide +kernel
theorem dX12_areLinked_16 : decode cX12_areLinked 16 = .ok (.iload_n 1, 1) := by decide +kernel
theorem dX12_areLinked_17 : decode cX12_areLinked 17 = .ok (.iload_n 2, 1) := by decide +kernel
theorem dX12_areLinked_18 : decode cX12_areLinked 18 = .ok (.if_icmp .eq 7, 3) := by decide +kernel
theorem dX12_areLinked_21 : decode cX12_areLinked 21 = .ok (.iconst 1, 1) := by decide +kernel
theorem dX12_areLinked_22 : decode cX12_areLinked 22 = .ok (.goto 4, 3) := by decide +kernel
theorem dX12_areLinked_25 : decode cX12_areLinked 25 = .ok (.iconst 0, 1) := by decide +kernel
theorem dX12_areLinked_26 : decode cX12_areLinked 26 = .ok (.ireturn, 1) := by decide +kernel
theorem dX12_link_0 : decode cX12_link 0 = .ok (.aload_n 0, 1) := by decide +kernel
theorem dX12_link_1 : decode cX12_link 1 = .ok (.iconst 0, 1) := by decide +kernel
theorem dX12_link_2 : decode cX12_link 2 = .ok (.putfield 194, 3) := by decide +kernel
theorem dX12_link_5 : decode cX12_link 5 = .ok (.aload_n 0, 1) := by decide +kernel
theorem dX12_link_6 : decode cX12_link 6 = .ok (.iload_n 1, 1) := by decide +kernel
theorem dX12_link_7 : decode cX12_link 7 = .ok (.iload_n 2, 1) := by decide +kernel
theorem dX12_link_8 : decode cX12_link 8 = .ok (.invokevirtual 208, 3) := by decide +kernel
theorem dX12_link_11 : decode cX12_link 11 = .ok (.ifCond .eq 28, 3) := by decide +kernel
theorem dX12_link_14 : decode cX12_link 14 = .ok (.iload_n 3, 1) := by decide +kernel
theorem dX12_link_15 : decode cX12_link 15 = .ok (.i2l, 1) := by decide +kernel
theorem dX12_link_16 : decode cX12_link 16 = .ok (.lconst 0, 1) := by decide +kernel
theorem dX12_link_17 : decode cX12_link 17 = .ok (.ldc2_w 212, 3) := by decide +kernel
theorem dX12_link_20 : decode cX12_link 20 = .ok (.invokestatic 214, 3) := by decide +kernel
theorem dX12_link_23 : decode cX12_link 23 = .ok (.ifCond .eq 16, 3) := by decide +kernel
theorem dX12_link_26 : decode cX12_link 26 = .ok (.iload 4, 2) := by decide +kernel
theorem dX12_link_28 : decode cX12_link 28 = .ok (.i2l, 1) := by decide +kernel
theorem dX12_link_29 : decode cX12_link 29 = .ok (.lconst 1, 1) := by decide +kernel
theorem dX12_link_30 : decode cX12_link 30 = .ok (.ldc2_w 218, 3) := by decide +kernel
theorem dX12_link_33 : decode cX12_link 33 = .ok (.invokestatic 214, 3) := by decide +kernel
theorem dX12_link_36 : decode cX12_link 36 = .ok (.ifCond .ne 5, 3) := by decide +kernel
theorem dX12_link_39 : decode cX12_link 39 = .ok (.iconst (-1), 1) := by decide +kernel
theorem dX12_link_40 : decode cX12_link 40 = .ok (.ireturn, 1) := by decide +kernel
theorem dX12_link_41 : decode cX12_link 41 = .ok (.aload_n 0, 1) := by decide +kernel
theorem dX12_link_42 : decode cX12_link 42 = .ok (.getfield 54, 3) := by decide +kernel
theorem dX12_link_45 : decode cX12_link 45 = .ok (.iconst 0, 1) := by decide +kernel
theorem dX12_link_46 : decode cX12_link 46 = .ok (.iaload, 1) := by decide +kernel
theorem dX12_link_47 : decode cX12_link 47 = .ok (.iconst 1, 1) := by decide +kernel
theorem dX12_link_48 : decode cX12_link 48 = .ok (.if_icmp .le 6, 3) := by decide +kernel
theorem dX12_link_51 : decode cX12_link 51 = .ok (.bipush (-3), 2) := by decide +kernel
theorem dX12_link_53 : decode cX12_link 53 = .ok (.ireturn, 1) := by decide +kernel
theorem dX12_link_54 : decode cX12_link 54 = .ok (.aload_n 0, 1) := by decide +kernel
theorem dX12_link_55 : decode cX12_link 55 = .ok (.getfield 7, 3) := by decide +kernel
theorem dX12_link_58 : decode cX12_link 58 = .ok (.iconst 4, 1) := by decide +kernel
theorem dX12_link_59 : decode cX12_link 59 = .ok (.iload_n 1, 1) := by decide +kernel
theorem dX12_link_60 : decode cX12_link 60 = .ok (.imul, 1) := by decide +kernel
theorem dX12_link_61 : decode cX12_link 61 = .ok (.iload_n 2, 1) := by decide +kernel
theorem dX12_link_62 : decode cX12_link 62 = .ok (.iadd, 1) := by decide +kernel
theorem dX12_link_63 : decode cX12_link 63 = .ok (.iaload, 1) := by decide +kernel
theorem dX12_link_64 : decode cX12_link 64 = .ok (.istore 5, 2) := by decide +kernel
theorem dX12_link_66 : decode cX12_link 66 = .ok (.aload_n 0, 1) := by decide +kernel
theorem dX12_link_67 : decode cX12_link 67 = .ok (.getfield 7, 3) := by decide +kernel
theorem dX12_link_70 : decode cX12_link 70 = .ok (.iconst 4, 1) := by decide +kernel
theorem dX12_link_71 : decode cX12_link 71 = .ok (.iload_n 1, 1) := by decide +kernel
theorem dX12_link_72 : decode cX12_link 72 = .ok (.imul, 1) := by decide +kernel
theorem dX12_link_73 : decode cX12_link 73 = .ok (.iload_n 2, 1) := by decide +kernel
theorem dX12_link_74 : decode cX12_link 74 = .ok (.iadd, 1) := by decide +kernel
theorem dX12_link_75 : decode cX12_link 75 = .ok (.iload_n 3, 1) := by decide +kernel
theorem dX12_link_76 : decode cX12_link 76 = .ok (.iastore, 1) := by decide +kernel
theorem dX12_link_77 : decode cX12_link 77 = .ok (.aload_n 0, 1) := by decide +kernel
theorem dX12_link_78 : decode cX12_link 78 = .ok (.getfield 7, 3) := by decide +kernel
theorem dX12_link_81 : decode cX12_link 81 = .ok (.iconst 4, 1) := by decide +kernel
theorem dX12_link_82 : decode cX12_link 82 = .ok (.iload_n 2, 1) := by decide +kernel
theorem dX12_link_83 : decode cX12_link 83 = .ok (.imul, 1) := by decide +kernel
theorem dX12_link_84 : decode cX12_link 84 = .ok (.iload_n 1, 1) := by decide +kernel
theorem dX12_link_85 : decode cX12_link 85 = .ok (.iadd, 1) := by decide +kernel
theorem dX12_link_86 : decode cX12_link 86 = .ok (.iload_n 3, 1) := by decide +kernel
theorem dX12_link_87 : decode cX12_link 87 = .ok (.iastore, 1) := by decide +kernel
theorem dX12_link_88 : decode cX12_link 88 = .ok (.aload_n 0, 1) := by decide +kernel
theorem dX12_link_89 : decode cX12_link 89 = .ok (.getfield 13, 3) := by decide +kernel
theorem dX12_link_92 : decode cX12_link 92 = .ok (.iconst 4, 1) := by decide +kernel
theorem dX12_link_93 : decode cX12_link 93 = .ok (.iload_n 1, 1) := by decide +kernel
theorem dX12_link_94 : decode cX12_link 94 = .ok (.imul, 1) := by decide +kernel
theorem dX12_link_95 : decode cX12_link 95 = .ok (.iload_n 2, 1) := by decide +kernel
theorem dX12_link_96 : decode cX12_link 96 = .ok (.iadd, 1) := by decide +kernel
theorem dX12_link_97 : decode cX12_link 97 = .ok (.iload 4, 2) := by decide +kernel
theorem dX12_link_99 : decode cX12_link 99 = .ok (.iastore, 1) := by decide +kernel
theorem dX12_link_100 : decode cX12_link 100 = .ok (.aload_n 0, 1) := by decide +kernel
theorem dX12_link_101 : decode cX12_link 101 = .ok (.getfield 13, 3) := by decide +kernel
theorem dX12_link_104 : decode cX12_link 104 = .ok (.iconst 4, 1) := by decide +kernel
theorem dX12_link_105 : decode cX12_link 105 = .ok (.iload_n 2, 1) := by decide +kernel
theorem dX12_link_106 : decode cX12_link 106 = .ok (.imul, 1) := by decide +kernel
theorem dX12_link_107 : decode cX12_link 107 = .ok (.iload_n 1, 1) := by decide +kernel
theorem dX12_link_108 : decode cX12_link 108 = .ok (.iadd, 1) := by decide +kernel
theorem dX12_link_109 : decode cX12_link 109 = .ok (.iload 4, 2) := by decide +kernel
theorem dX12_link_111 : decode cX12_link 111 = .ok (.iastore, 1) := by decide +kernel
theorem dX12_link_112 : decode cX12_link 112 = .ok (.aload_n 0, 1) := by decide +kernel
theorem dX12_link_113 : decode cX12_link 113 = .ok (.invokevirtual 191, 3) := by decide +kernel
theorem dX12_link_116 : decode cX12_link 116 = .ok (.iload 5, 2) := by decide +kernel
theorem dX12_link_118 : decode cX12_link 118 = .ok (.ireturn, 1) := by decide +kernel
theorem dX12_isWay_0 : decode cX12_isWay 0 = .ok (.aload_n 0, 1) := by decide +kernel
theorem dX12_isWay_1 : decode cX12_isWay 1 = .ok (.getfield 16, 3) := by decide +kernel
theorem dX12_isWay_4 : decode cX12_isWay 4 = .ok (.iconst 4, 1) := by decide +kernel
theorem dX12_isWay_5 : decode cX12_isWay 5 = .ok (.iload_n 1, 1) := by decide +kernel
theorem dX12_isWay_6 : decode cX12_isWay 6 = .ok (.imul, 1) := by decide +kernel
theorem dX12_isWay_7 : decode cX12_isWay 7 = .ok (.iload_n 2, 1) := by decide +kernel
theorem dX12_isWay_8 : decode cX12_isWay 8 = .ok (.iadd, 1) := by decide +kernel
theorem dX12_isWay_9 : decode cX12_isWay 9 = .ok (.iaload, 1) := by decide +kernel
theorem dX12_isWay_10 : decode cX12_isWay 10 = .ok (.ldc 203, 2) := by decide +kernel
theorem dX12_isWay_12 : decode cX12_isWay 12 = .ok (.if_icmp .ge 7, 3) := by decide +kernel
theorem dX12_isWay_15 : decode cX12_isWay 15 = .ok (.iconst 1, 1) := by decide +kernel
theorem dX12_isWay_16 : decode cX12_isWay 16 = .ok (.goto 4, 3) := by decide +kernel
theorem dX12_isWay_19 : decode cX12_isWay 19 = .ok (.iconst 0, 1) := by decide +kernel
theorem dX12_isWay_20 : decode cX12_isWay 20 = .ok (.ireturn, 1) := by decide +kernel
theorem dX12_far_0 : decode cX12_far 0 = .ok (.aload_n 0, 1) := by decide +kernel
theorem dX12_far_1 : decode cX12_far 1 = .ok (.iconst 0, 1) := by decide +kernel
theorem dX12_far_2 : decode cX12_far 2 = .ok (.putfield 194, 3) := by decide +kernel
theorem dX12_far_5 : decode cX12_far 5 = .ok (.aload_n 0, 1) := by decide +kernel
theorem dX12_far_6 : decode cX12_far 6 = .ok (.iload_n 1, 1) := by decide +kernel
theorem dX12_far_7 : decode cX12_far 7 = .ok (.invokevirtual 204, 3) := by decide +kernel
theorem dX12_far_10 : decode cX12_far 10 = .ok (.ifCond .eq 11, 3) := by decide +kernel
theorem dX12_far_13 : decode cX12_far 13 = .ok (.aload_n 0, 1) := by decide +kernel
theorem dX12_far_14 : decode cX12_far 14 = .ok (.iload_n 2, 1) := by decide +kernel
theorem dX12_far_15 : decode cX12_far 15 = .ok (.invokevirtual 204, 3) := by decide +kernel
theorem dX12_far_18 : decode cX12_far 18 = .ok (.ifCond .ne 7, 3) := by decide +kernel
theorem dX12_far_21 : decode cX12_far 21 = .ok (.iconst (-1), 1) := by decide +kernel
theorem dX12_far_22 : decode cX12_far 22 = .ok (.goto 27, 3) := by decide +kernel
theorem dX12_far_25 : decode cX12_far 25 = .ok (.aload_n 0, 1) := by decide +kernel
theorem dX12_far_26 : decode cX12_far 26 = .ok (.iload_n 1, 1) := by decide +kernel
theorem dX12_far_27 : decode cX12_far 27 = .ok (.iload_n 2, 1) := by decide +kernel
theorem dX12_far_28 : decode cX12_far 28 = .ok (.invokevirtual 220, 3) := by decide +kernel
theorem dX12_far_31 : decode cX12_far 31 = .ok (.ifCond .eq 16, 3) := by decide +kernel
theorem dX12_far_34 : decode cX12_far 34 = .ok (.aload_n 0, 1) := by decide +kernel
theorem dX12_far_35 : decode cX12_far 35 = .ok (.getfield 16, 3) := by decide +kernel
theorem dX12_far_38 : decode cX12_far 38 = .ok (.iconst 4, 1) := by decide +kernel
theorem dX12_far_39 : decode cX12_far 39 = .ok (.iload_n 1, 1) := by decide +kernel
theorem dX12_far_40 : decode cX12_far 40 = .ok (.imul, 1) := by decide +kernel
theorem dX12_far_41 : decode cX12_far 41 = .ok (.iload_n 2, 1) := by decide +kernel
theorem dX12_far_42 : decode cX12_far 42 = .ok (.iadd, 1) := by decide +kernel
theorem dX12_far_43 : decode cX12_far 43 = .ok (.iaload, 1) := by decide +kernel
theorem dX12_far_44 : decode cX12_far 44 = .ok (.goto 5, 3) := by decide +kernel
theorem dX12_far_47 : decode cX12_far 47 = .ok (.bipush (-2), 2) := by decide +kernel
theorem dX12_far_49 : decode cX12_far 49 = .ok (.ireturn, 1) := by decide +kernel
theorem dX12_behind_0 : decode cX12_behind 0 = .ok (.iconst 0, 1) := by decide +kernel
theorem dX12_behind_1 : decode cX12_behind 1 = .ok (.istore_n 3, 1) := by decide +kernel
theorem dX12_behind_2 : decode cX12_behind 2 = .ok (.iload_n 3, 1) := by decide +kernel
theorem dX12_behind_3 : decode cX12_behind 3 = .ok (.aload_n 0, 1) := by decide +kernel
theorem dX12_behind_4 : decode cX12_behind 4 = .ok (.getfield 182, 3) := by decide +kernel
theorem dX12_behind_7 : decode cX12_behind 7 = .ok (.if_icmp .ge 63, 3) := by decide +kernel
theorem dX12_behind_10 : decode cX12_behind 10 = .ok (.iload_n 3, 1) := by decide +kernel
theorem dX12_behind_11 : decode cX12_behind 11 = .ok (.iload_n 1, 1) := by decide +kernel
theorem dX12_behind_12 : decode cX12_behind 12 = .ok (.if_icmp .eq 52, 3) := by decide +kernel
theorem dX12_behind_15 : decode cX12_behind 15 = .ok (.aload_n 0, 1) := by decide +kernel
theorem dX12_behind_16 : decode cX12_behind 16 = .ok (.getfield 7, 3) := by decide +kernel
theorem dX12_behind_19 : decode cX12_behind 19 = .ok (.iconst 4, 1) := by decide +kernel
theorem dX12_behind_20 : decode cX12_behind 20 = .ok (.iload_n 1, 1) := by decide +kernel
theorem dX12_behind_21 : decode cX12_behind 21 = .ok (.imul, 1) := by decide +kernel
theorem dX12_behind_22 : decode cX12_behind 22 = .ok (.iload_n 3, 1) := by decide +kernel
theorem dX12_behind_23 : decode cX12_behind 23 = .ok (.iadd, 1) := by decide +kernel
theorem dX12_behind_24 : decode cX12_behind 24 = .ok (.iaload, 1) := by decide +kernel
theorem dX12_behind_25 : decode cX12_behind 25 = .ok (.ifCond .le 39, 3) := by decide +kernel
theorem dX12_behind_28 : decode cX12_behind 28 = .ok (.aload_n 0, 1) := by decide +kernel
theorem dX12_behind_29 : decode cX12_behind 29 = .ok (.getfield 7, 3) := by decide +kernel
theorem dX12_behind_32 : decode cX12_behind 32 = .ok (.iconst 4, 1) := by decide +kernel
theorem dX12_behind_33 : decode cX12_behind 33 = .ok (.iload_n 1, 1) := by decide +kernel
theorem dX12_behind_34 : decode cX12_behind 34 = .ok (.imul, 1) := by decide +kernel
theorem dX12_behind_35 : decode cX12_behind 35 = .ok (.iload_n 3, 1) := by decide +kernel
theorem dX12_behind_36 : decode cX12_behind 36 = .ok (.iadd, 1) := by decide +kernel
theorem dX12_behind_37 : decode cX12_behind 37 = .ok (.iaload, 1) := by decide +kernel
theorem dX12_behind_38 : decode cX12_behind 38 = .ok (.aload_n 0, 1) := by decide +kernel
theorem dX12_behind_39 : decode cX12_behind 39 = .ok (.getfield 16, 3) := by decide +kernel
theorem dX12_behind_42 : decode cX12_behind 42 = .ok (.iconst 4, 1) := by decide +kernel
theorem dX12_behind_43 : decode cX12_behind 43 = .ok (.iload_n 3, 1) := by decide +kernel
theorem dX12_behind_44 : decode cX12_behind 44 = .ok (.imul, 1) := by decide +kernel
theorem dX12_behind_45 : decode cX12_behind 45 = .ok (.iload_n 2, 1) := by decide +kernel
theorem dX12_behind_46 : decode cX12_behind 46 = .ok (.iadd, 1) := by decide +kernel
theorem dX12_behind_47 : decode cX12_behind 47 = .ok (.iaload, 1) := by decide +kernel
theorem dX12_behind_48 : decode cX12_behind 48 = .ok (.iadd, 1) := by decide +kernel
theorem dX12_behind_49 : decode cX12_behind 49 = .ok (.aload_n 0, 1) := by decide +kernel
theorem dX12_behind_50 : decode cX12_behind 50 = .ok (.getfield 16, 3) := by decide +kernel
theorem dX12_behind_53 : decode cX12_behind 53 = .ok (.iconst 4, 1) := by decide +kernel
theorem dX12_behind_54 : decode cX12_behind 54 = .ok (.iload_n 1, 1) := by decide +kernel
theorem dX12_behind_55 : decode cX12_behind 55 = .ok (.imul, 1) := by decide +kernel
theorem dX12_behind_56 : decode cX12_behind 56 = .ok (.iload_n 2, 1) := by decide +kernel
theorem dX12_behind_57 : decode cX12_behind 57 = .ok (.iadd, 1) := by decide +kernel
theorem dX12_behind_58 : decode cX12_behind 58 = .ok (.iaload, 1) := by decide +kernel
theorem dX12_behind_59 : decode cX12_behind 59 = .ok (.if_icmp .ne 5, 3) := by decide +kernel
theorem dX12_behind_62 : decode cX12_behind 62 = .ok (.iload_n 3, 1) := by decide +kernel
theorem dX12_behind_63 : decode cX12_behind 63 = .ok (.ireturn, 1) := by decide +kernel
theorem dX12_behind_64 : decode cX12_behind 64 = .ok (.iinc 3 1, 3) := by decide +kernel
theorem dX12_behind_67 : decode cX12_behind 67 = .ok (.goto (-65), 3) := by decide +kernel
theorem dX12_behind_70 : decode cX12_behind 70 = .ok (.iload_n 2, 1) := by decide +kernel
theorem dX12_behind_71 : decode cX12_behind 71 = .ok (.ireturn, 1) := by decide +kernel
theorem dX12_way_0 : decode cX12_way 0 = .ok (.aload_n 0, 1) := by decide +kernel
theorem dX12_way_1 : decode cX12_way 1 = .ok (.iconst 0, 1) := by decide +kernel
theorem dX12_way_2 : decode cX12_way 2 = .ok (.putfield 194, 3) := by decide +kernel
theorem dX12_way_5 : decode cX12_way 5 = .ok (.aload_n 0, 1) := by decide +kernel
theorem dX12_way_6 : decode cX12_way 6 = .ok (.iload_n 1, 1) := by decide +kernel
theorem dX12_way_7 : decode cX12_way 7 = .ok (.invokevirtual 204, 3) := by decide +kernel
theorem dX12_way_10 : decode cX12_way 10 = .ok (.ifCond .eq 15, 3) := by decide +kernel
theorem dX12_way_13 : decode cX12_way 13 = .ok (.aload_n 0, 1) := by decide +kernel
theorem dX12_way_14 : decode cX12_way 14 = .ok (.iload_n 2, 1) := by decide +kernel
theorem dX12_way_15 : decode cX12_way 15 = .ok (.invokevirtual 204, 3) := by decide +kernel
theorem dX12_way_18 : decode cX12_way 18 = .ok (.ifCond .eq 7, 3) := by decide +kernel
theorem dX12_way_21 : decode cX12_way 21 = .ok (.iload_n 3, 1) := by decide +kernel
theorem dX12_way_22 : decode cX12_way 22 = .ok (.ifCond .ge 5, 3) := by decide +kernel
theorem dX12_way_25 : decode cX12_way 25 = .ok (.iconst (-1), 1) := by decide +kernel
theorem dX12_way_26 : decode cX12_way 26 = .ok (.ireturn, 1) := by decide +kernel
theorem dX12_way_27 : decode cX12_way 27 = .ok (.aload_n 0, 1) := by decide +kernel
theorem dX12_way_28 : decode cX12_way 28 = .ok (.iload_n 1, 1) := by decide +kernel
theorem dX12_way_29 : decode cX12_way 29 = .ok (.iload_n 2, 1) := by decide +kernel
theorem dX12_way_30 : decode cX12_way 30 = .ok (.invokevirtual 220, 3) := by decide +kernel
theorem dX12_way_33 : decode cX12_way 33 = .ok (.ifCond .ne 6, 3) := by decide +kernel
theorem dX12_way_36 : decode cX12_way 36 = .ok (.bipush (-2), 2) := by decide +kernel
theorem dX12_way_38 : decode cX12_way 38 = .ok (.ireturn, 1) := by decide +kernel
theorem dX12_way_39 : decode cX12_way 39 = .ok (.iload_n 1, 1) := by decide +kernel
theorem dX12_way_40 : decode cX12_way 40 = .ok (.istore 4, 2) := by decide +kernel
theorem dX12_way_42 : decode cX12_way 42 = .ok (.iconst 0, 1) := by decide +kernel
theorem dX12_way_43 : decode cX12_way 43 = .ok (.istore 5, 2) := by decide +kernel
theorem dX12_way_45 : decode cX12_way 45 = .ok (.iload 5, 2) := by decide +kernel
theorem dX12_way_47 : decode cX12_way 47 = .ok (.iload_n 3, 1) := by decide +kernel
theorem dX12_way_48 : decode cX12_way 48 = .ok (.if_icmp .ge 26, 3) := by decide +kernel
theorem dX12_way_51 : decode cX12_way 51 = .ok (.iload 4, 2) := by decide +kernel
theorem dX12_way_53 : decode cX12_way 53 = .ok (.iload_n 2, 1) := by decide +kernel
theorem dX12_way_54 : decode cX12_way 54 = .ok (.if_icmp .ne 5, 3) := by decide +kernel
theorem dX12_way_57 : decode cX12_way 57 = .ok (.iconst (-1), 1) := by decide +kernel
theorem dX12_way_58 : decode cX12_way 58 = .ok (.ireturn, 1) := by decide +kernel
theorem dX12_way_59 : decode cX12_way 59 = .ok (.aload_n 0, 1) := by decide +kernel
theorem dX12_way_60 : decode cX12_way 60 = .ok (.iload 4, 2) := by decide +kernel
theorem dX12_way_62 : decode cX12_way 62 = .ok (.iload_n 2, 1) := by decide +kernel
theorem dX12_way_63 : decode cX12_way 63 = .ok (.invokevirtual 223, 3) := by decide +kernel
theorem dX12_way_66 : decode cX12_way 66 = .ok (.istore 4, 2) := by decide +kernel
theorem dX12_way_68 : decode cX12_way 68 = .ok (.iinc 5 1, 3) := by decide +kernel
theorem dX12_way_71 : decode cX12_way 71 = .ok (.goto (-26), 3) := by decide +kernel
theorem dX12_way_74 : decode cX12_way 74 = .ok (.iload 4, 2) := by decide +kernel
theorem dX12_way_76 : decode cX12_way 76 = .ok (.ireturn, 1) := by decide +kernel
theorem dX12_page_0 : decode cX12_page 0 = .ok (.aload_n 0, 1) := by decide +kernel
theorem dX12_page_1 : decode cX12_page 1 = .ok (.iconst 0, 1) := by decide +kernel
theorem dX12_page_2 : decode cX12_page 2 = .ok (.putfield 194, 3) := by decide +kernel
theorem dX12_page_5 : decode cX12_page 5 = .ok (.iload_n 1, 1) := by decide +kernel
theorem dX12_page_6 : decode cX12_page 6 = .ok (.i2l, 1) := by decide +kernel
theorem dX12_page_7 : decode cX12_page 7 = .ok (.lconst 0, 1) := by decide +kernel
theorem dX12_page_8 : decode cX12_page 8 = .ok (.ldc2_w 226, 3) := by decide +kernel
theorem dX12_page_11 : decode cX12_page 11 = .ok (.invokestatic 214, 3) := by decide +kernel
theorem dX12_page_14 : decode cX12_page 14 = .ok (.ifCond .ne 5, 3) := by decide +kernel
theorem dX12_page_17 : decode cX12_page 17 = .ok (.iconst (-1), 1) := by decide +kernel
theorem dX12_page_18 : decode cX12_page 18 = .ok (.ireturn, 1) := by decide +kernel
theorem dX12_page_19 : decode cX12_page 19 = .ok (.aload_n 0, 1) := by decide +kernel
theorem dX12_page_20 : decode cX12_page 20 = .ok (.getfield 197, 3) := by decide +kernel
theorem dX12_page_23 : decode cX12_page 23 = .ok (.bipush 20, 2) := by decide +kernel
theorem dX12_page_25 : decode cX12_page 25 = .ok (.if_icmp .ne 6, 3) := by decide +kernel
theorem dX12_page_28 : decode cX12_page 28 = .ok (.bipush (-2), 2) := by decide +kernel
theorem dX12_page_30 : decode cX12_page 30 = .ok (.ireturn, 1) := by decide +kernel
theorem dX12_page_31 : decode cX12_page 31 = .ok (.aload_n 0, 1) := by decide +kernel
theorem dX12_page_32 : decode cX12_page 32 = .ok (.getfield 19, 3) := by decide +kernel
theorem dX12_page_35 : decode cX12_page 35 = .ok (.aload_n 0, 1) := by decide +kernel
theorem dX12_page_36 : decode cX12_page 36 = .ok (.getfield 197, 3) := by decide +kernel
theorem dX12_page_39 : decode cX12_page 39 = .ok (.iload_n 1, 1) := by decide +kernel
theorem dX12_page_40 : decode cX12_page 40 = .ok (.iastore, 1) := by decide +kernel
theorem dX12_page_41 : decode cX12_page 41 = .ok (.aload_n 0, 1) := by decide +kernel
theorem dX12_page_42 : decode cX12_page 42 = .ok (.getfield 79, 3) := by decide +kernel
theorem dX12_page_45 : decode cX12_page 45 = .ok (.aload_n 0, 1) := by decide +kernel
theorem dX12_page_46 : decode cX12_page 46 = .ok (.getfield 197, 3) := by decide +kernel
theorem dX12_page_49 : decode cX12_page 49 = .ok (.bipush (-2), 2) := by decide +kernel
theorem dX12_page_51 : decode cX12_page 51 = .ok (.iastore, 1) := by decide +kernel
theorem dX12_page_52 : decode cX12_page 52 = .ok (.aload_n 0, 1) := by decide +kernel
theorem dX12_page_53 : decode cX12_page 53 = .ok (.dup, 1) := by decide +kernel
theorem dX12_page_54 : decode cX12_page 54 = .ok (.getfield 197, 3) := by decide +kernel
theorem dX12_page_57 : decode cX12_page 57 = .ok (.iconst 1, 1) := by decide +kernel
theorem dX12_page_58 : decode cX12_page 58 = .ok (.iadd, 1) := by decide +kernel
theorem dX12_page_59 : decode cX12_page 59 = .ok (.putfield 197, 3) := by decide +kernel
theorem dX12_page_62 : decode cX12_page 62 = .ok (.aload_n 0, 1) := by decide +kernel
theorem dX12_page_63 : decode cX12_page 63 = .ok (.getfield 197, 3) := by decide +kernel
theorem dX12_page_66 : decode cX12_page 66 = .ok (.iconst 1, 1) := by decide +kernel
theorem dX12_page_67 : decode cX12_page 67 = .ok (.isub, 1) := by decide +kernel
theorem dX12_page_68 : decode cX12_page 68 = .ok (.ireturn, 1) := by decide +kernel
theorem dX12_thread_0 : decode cX12_thread 0 = .ok (.aload_n 0, 1) := by decide +kernel
theorem dX12_thread_1 : decode cX12_thread 1 = .ok (.iconst 0, 1) := by decide +kernel
theorem dX12_thread_2 : decode cX12_thread 2 = .ok (.putfield 194, 3) := by decide +kernel
theorem dX12_thread_5 : decode cX12_thread 5 = .ok (.aload_n 0, 1) := by decide +kernel
theorem dX12_thread_6 : decode cX12_thread 6 = .ok (.iload_n 1, 1) := by decide +kernel
theorem dX12_thread_7 : decode cX12_thread 7 = .ok (.invokevirtual 204, 3) := by decide +kernel
theorem dX12_thread_10 : decode cX12_thread 10 = .ok (.ifCond .ne 5, 3) := by decide +kernel
theorem dX12_thread_13 : decode cX12_thread 13 = .ok (.iconst (-1), 1) := by decide +kernel
theorem dX12_thread_14 : decode cX12_thread 14 = .ok (.ireturn, 1) := by decide +kernel
theorem dX12_thread_15 : decode cX12_thread 15 = .ok (.aload_n 0, 1) := by decide +kernel
theorem dX12_thread_16 : decode cX12_thread 16 = .ok (.getfield 200, 3) := by decide +kernel
theorem dX12_thread_19 : decode cX12_thread 19 = .ok (.bipush 10, 2) := by decide +kernel
theorem dX12_thread_21 : decode cX12_thread 21 = .ok (.if_icmp .ne 6, 3) := by decide +kernel
theorem dX12_thread_24 : decode cX12_thread 24 = .ok (.bipush (-2), 2) := by decide +kernel
theorem dX12_thread_26 : decode cX12_thread 26 = .ok (.ireturn, 1) := by decide +kernel
theorem dX12_thread_27 : decode cX12_thread 27 = .ok (.aload_n 0, 1) := by decide +kernel
theorem dX12_thread_28 : decode cX12_thread 28 = .ok (.getfield 103, 3) := by decide +kernel
theorem dX12_thread_31 : decode cX12_thread 31 = .ok (.aload_n 0, 1) := by decide +kernel
theorem dX12_thread_32 : decode cX12_thread 32 = .ok (.getfield 200, 3) := by decide +kernel
theorem dX12_thread_35 : decode cX12_thread 35 = .ok (.iload_n 1, 1) := by decide +kernel
theorem dX12_thread_36 : decode cX12_thread 36 = .ok (.iastore, 1) := by decide +kernel
theorem dX12_thread_37 : decode cX12_thread 37 = .ok (.aload_n 0, 1) := by decide +kernel
theorem dX12_thread_38 : decode cX12_thread 38 = .ok (.getfield 106, 3) := by decide +kernel
theorem dX12_thread_41 : decode cX12_thread 41 = .ok (.aload_n 0, 1) := by decide +kernel
theorem dX12_thread_42 : decode cX12_thread 42 = .ok (.getfield 200, 3) := by decide +kernel
theorem dX12_thread_45 : decode cX12_thread 45 = .ok (.aload_n 0, 1) := by decide +kernel
theorem dX12_thread_46 : decode cX12_thread 46 = .ok (.getfield 76, 3) := by decide +kernel
theorem dX12_thread_49 : decode cX12_thread 49 = .ok (.iconst 0, 1) := by decide +kernel
theorem dX12_thread_50 : decode cX12_thread 50 = .ok (.iaload, 1) := by decide +kernel
theorem dX12_thread_51 : decode cX12_thread 51 = .ok (.iastore, 1) := by decide +kernel
theorem dX12_thread_52 : decode cX12_thread 52 = .ok (.aload_n 0, 1) := by decide +kernel
theorem dX12_thread_53 : decode cX12_thread 53 = .ok (.getfield 76, 3) := by decide +kernel
theorem dX12_thread_56 : decode cX12_thread 56 = .ok (.iconst 0, 1) := by decide +kernel
theorem dX12_thread_57 : decode cX12_thread 57 = .ok (.dup2, 1) := by decide +kernel
theorem dX12_thread_58 : decode cX12_thread 58 = .ok (.iaload, 1) := by decide +kernel
theorem dX12_thread_59 : decode cX12_thread 59 = .ok (.iconst 1, 1) := by decide +kernel
theorem dX12_thread_60 : decode cX12_thread 60 = .ok (.iadd, 1) := by decide +kernel
theorem dX12_thread_61 : decode cX12_thread 61 = .ok (.iastore, 1) := by decide +kernel
theorem dX12_thread_62 : decode cX12_thread 62 = .ok (.aload_n 0, 1) := by decide +kernel
theorem dX12_thread_63 : decode cX12_thread 63 = .ok (.dup, 1) := by decide +kernel
theorem dX12_thread_64 : decode cX12_thread 64 = .ok (.getfield 200, 3) := by decide +kernel
theorem dX12_thread_67 : decode cX12_thread 67 = .ok (.iconst 1, 1) := by decide +kernel
theorem dX12_thread_68 : decode cX12_thread 68 = .ok (.iadd, 1) := by decide +kernel
theorem dX12_thread_69 : decode cX12_thread 69 = .ok (.putfield 200, 3) := by decide +kernel
theorem dX12_thread_72 : decode cX12_thread 72 = .ok (.aload_n 0, 1) := by decide +kernel
theorem dX12_thread_73 : decode cX12_thread 73 = .ok (.getfield 200, 3) := by decide +kernel
theorem dX12_thread_76 : decode cX12_thread 76 = .ok (.iconst 1, 1) := by decide +kernel
theorem dX12_thread_77 : decode cX12_thread 77 = .ok (.isub, 1) := by decide +kernel
theorem dX12_thread_78 : decode cX12_thread 78 = .ok (.ireturn, 1) := by decide +kernel
theorem dX12_access_0 : decode cX12_access 0 = .ok (.aload_n 0, 1) := by decide +kernel
theorem dX12_access_1 : decode cX12_access 1 = .ok (.iconst 0, 1) := by decide +kernel
theorem dX12_access_2 : decode cX12_access 2 = .ok (.putfield 194, 3) := by decide +kernel
theorem dX12_access_5 : decode cX12_access 5 = .ok (.aload_n 0, 1) := by decide +kernel
theorem dX12_access_6 : decode cX12_access 6 = .ok (.iload_n 1, 1) := by decide +kernel
theorem dX12_access_7 : decode cX12_access 7 = .ok (.invokevirtual 228, 3) := by decide +kernel
theorem dX12_access_10 : decode cX12_access 10 = .ok (.ifCond .eq 36, 3) := by decide +kernel
theorem dX12_access_13 : decode cX12_access 13 = .ok (.aload_n 0, 1) := by decide +kernel
theorem dX12_access_14 : decode cX12_access 14 = .ok (.getfield 118, 3) := by decide +kernel
theorem dX12_access_17 : decode cX12_access 17 = .ok (.iload_n 1, 1) := by decide +kernel
theorem dX12_access_18 : decode cX12_access 18 = .ok (.baload, 1) := by decide +kernel
theorem dX12_access_19 : decode cX12_access 19 = .ok (.ifCond .ne 27, 3) := by decide +kernel
theorem dX12_access_22 : decode cX12_access 22 = .ok (.iload_n 2, 1) := by decide +kernel
theorem dX12_access_23 : decode cX12_access 23 = .ok (.i2l, 1) := by decide +kernel
theorem dX12_access_24 : decode cX12_access 24 = .ok (.lconst 0, 1) := by decide +kernel
theorem dX12_access_25 : decode cX12_access 25 = .ok (.ldc2_w 231, 3) := by decide +kernel
theorem dX12_access_28 : decode cX12_access 28 = .ok (.invokestatic 214, 3) := by decide +kernel
theorem dX12_access_31 : decode cX12_access 31 = .ok (.ifCond .eq 15, 3) := by decide +kernel
theorem dX12_access_34 : decode cX12_access 34 = .ok (.iload_n 3, 1) := by decide +kernel
theorem dX12_access_35 : decode cX12_access 35 = .ok (.i2l, 1) := by decide +kernel
theorem dX12_access_36 : decode cX12_access 36 = .ok (.lconst 0, 1) := by decide +kernel
theorem dX12_access_37 : decode cX12_access 37 = .ok (.ldc2_w 233, 3) := by decide +kernel
theorem dX12_access_40 : decode cX12_access 40 = .ok (.invokestatic 214, 3) := by decide +kernel
theorem dX12_access_43 : decode cX12_access 43 = .ok (.ifCond .ne 5, 3) := by decide +kernel
theorem dX12_access_46 : decode cX12_access 46 = .ok (.iconst (-1), 1) := by decide +kernel
theorem dX12_access_47 : decode cX12_access 47 = .ok (.ireturn, 1) := by decide +kernel
theorem dX12_access_48 : decode cX12_access 48 = .ok (.aload_n 0, 1) := by decide +kernel
theorem dX12_access_49 : decode cX12_access 49 = .ok (.getfield 22, 3) := by decide +kernel
theorem dX12_access_52 : decode cX12_access 52 = .ok (.iload_n 1, 1) := by decide +kernel
theorem dX12_access_53 : decode cX12_access 53 = .ok (.iaload, 1) := by decide +kernel
theorem dX12_access_54 : decode cX12_access 54 = .ok (.bipush 60, 2) := by decide +kernel
theorem dX12_access_56 : decode cX12_access 56 = .ok (.if_icmp .ne 6, 3) := by decide +kernel
theorem dX12_access_59 : decode cX12_access 59 = .ok (.bipush (-2), 2) := by decide +kernel
theorem dX12_access_61 : decode cX12_access 61 = .ok (.ireturn, 1) := by decide +kernel
theorem dX12_access_62 : decode cX12_access 62 = .ok (.bipush 60, 2) := by decide +kernel
theorem dX12_access_64 : decode cX12_access 64 = .ok (.iload_n 1, 1) := by decide +kernel
theorem dX12_access_65 : decode cX12_access 65 = .ok (.imul, 1) := by decide +kernel
theorem dX12_access_66 : decode cX12_access 66 = .ok (.aload_n 0, 1) := by decide +kernel
theorem dX12_access_67 : decode cX12_access 67 = .ok (.getfield 22, 3) := by decide +kernel
theorem dX12_access_70 : decode cX12_access 70 = .ok (.iload_n 1, 1) := by decide +kernel
theorem dX12_access_71 : decode cX12_access 71 = .ok (.iaload, 1) := by decide +kernel
theorem dX12_access_72 : decode cX12_access 72 = .ok (.iadd, 1) := by decide +kernel
theorem dX12_access_73 : decode cX12_access 73 = .ok (.istore 6, 2) := by decide +kernel
theorem dX12_access_75 : decode cX12_access 75 = .ok (.aload_n 0, 1) := by decide +kernel
theorem dX12_access_76 : decode cX12_access 76 = .ok (.getfield 25, 3) := by decide +kernel
theorem dX12_access_79 : decode cX12_access 79 = .ok (.iload 6, 2) := by decide +kernel
theorem dX12_access_81 : decode cX12_access 81 = .ok (.iload_n 2, 1) := by decide +kernel
theorem dX12_access_82 : decode cX12_access 82 = .ok (.iastore, 1) := by decide +kernel
theorem dX12_access_83 : decode cX12_access 83 = .ok (.aload_n 0, 1) := by decide +kernel
theorem dX12_access_84 : decode cX12_access 84 = .ok (.getfield 28, 3) := by decide +kernel
theorem dX12_access_87 : decode cX12_access 87 = .ok (.iload 6, 2) := by decide +kernel
theorem dX12_access_89 : decode cX12_access 89 = .ok (.iload_n 3, 1) := by decide +kernel
theorem dX12_access_90 : decode cX12_access 90 = .ok (.iastore, 1) := by decide +kernel
theorem dX12_access_91 : decode cX12_access 91 = .ok (.aload_n 0, 1) := by decide +kernel
theorem dX12_access_92 : decode cX12_access 92 = .ok (.getfield 31, 3) := by decide +kernel
theorem dX12_access_95 : decode cX12_access 95 = .ok (.iload 6, 2) := by decide +kernel
theorem dX12_access_97 : decode cX12_access 97 = .ok (.iload 4, 2) := by decide +kernel
theorem dX12_access_99 : decode cX12_access 99 = .ok (.bastore, 1) := by decide +kernel
theorem dX12_access_100 : decode cX12_access 100 = .ok (.aload_n 0, 1) := by decide +kernel
theorem dX12_access_101 : decode cX12_access 101 = .ok (.getfield 35, 3) := by decide +kernel
theorem dX12_access_104 : decode cX12_access 104 = .ok (.iload 6, 2) := by decide +kernel
theorem dX12_access_106 : decode cX12_access 106 = .ok (.iload 5, 2) := by decide +kernel
theorem dX12_access_108 : decode cX12_access 108 = .ok (.iastore, 1) := by decide +kernel
theorem dX12_access_109 : decode cX12_access 109 = .ok (.aload_n 0, 1) := by decide +kernel
theorem dX12_access_110 : decode cX12_access 110 = .ok (.getfield 22, 3) := by decide +kernel
theorem dX12_access_113 : decode cX12_access 113 = .ok (.iload_n 1, 1) := by decide +kernel
theorem dX12_access_114 : decode cX12_access 114 = .ok (.dup2, 1) := by decide +kernel
theorem dX12_access_115 : decode cX12_access 115 = .ok (.iaload, 1) := by decide +kernel
theorem dX12_access_116 : decode cX12_access 116 = .ok (.iconst 1, 1) := by decide +kernel
theorem dX12_access_117 : decode cX12_access 117 = .ok (.iadd, 1) := by decide +kernel
theorem dX12_access_118 : decode cX12_access 118 = .ok (.iastore, 1) := by decide +kernel
theorem dX12_access_119 : decode cX12_access 119 = .ok (.aload_n 0, 1) := by decide +kernel
theorem dX12_access_120 : decode cX12_access 120 = .ok (.getfield 22, 3) := by decide +kernel
theorem dX12_access_123 : decode cX12_access 123 = .ok (.iload_n 1, 1) := by decide +kernel
theorem dX12_access_124 : decode cX12_access 124 = .ok (.iaload, 1) := by decide +kernel
theorem dX12_access_125 : decode cX12_access 125 = .ok (.ireturn, 1) := by decide +kernel
theorem dX12_rule_0 : decode cX12_rule 0 = .ok (.aload_n 0, 1) := by decide +kernel
theorem dX12_rule_1 : decode cX12_rule 1 = .ok (.iconst 0, 1) := by decide +kernel
theorem dX12_rule_2 : decode cX12_rule 2 = .ok (.putfield 194, 3) := by decide +kernel
theorem dX12_rule_5 : decode cX12_rule 5 = .ok (.iload_n 1, 1) := by decide +kernel
theorem dX12_rule_6 : decode cX12_rule 6 = .ok (.i2l, 1) := by decide +kernel
theorem dX12_rule_7 : decode cX12_rule 7 = .ok (.lconst 0, 1) := by decide +kernel
theorem dX12_rule_8 : decode cX12_rule 8 = .ok (.ldc2_w 235, 3) := by decide +kernel
theorem dX12_rule_11 : decode cX12_rule 11 = .ok (.invokestatic 214, 3) := by decide +kernel
theorem dX12_rule_14 : decode cX12_rule 14 = .ok (.ifCond .eq 27, 3) := by decide +kernel
theorem dX12_rule_17 : decode cX12_rule 17 = .ok (.iload_n 2, 1) := by decide +kernel
theorem dX12_rule_18 : decode cX12_rule 18 = .ok (.i2l, 1) := by decide +kernel
theorem dX12_rule_19 : decode cX12_rule 19 = .ok (.lconst 0, 1) := by decide +kernel
theorem dX12_rule_20 : decode cX12_rule 20 = .ok (.ldc2_w 237, 3) := by decide +kernel
theorem dX12_rule_23 : decode cX12_rule 23 = .ok (.invokestatic 214, 3) := by decide +kernel
theorem dX12_rule_26 : decode cX12_rule 26 = .ok (.ifCond .eq 15, 3) := by decide +kernel
theorem dX12_rule_29 : decode cX12_rule 29 = .ok (.iload_n 3, 1) := by decide +kernel
theorem dX12_rule_30 : decode cX12_rule 30 = .ok (.i2l, 1) := by decide +kernel
theorem dX12_rule_31 : decode cX12_rule 31 = .ok (.lconst 1, 1) := by decide +kernel
theorem dX12_rule_32 : decode cX12_rule 32 = .ok (.ldc2_w 239, 3) := by decide +kernel
theorem dX12_rule_35 : decode cX12_rule 35 = .ok (.invokestatic 214, 3) := by decide +kernel
theorem dX12_rule_38 : decode cX12_rule 38 = .ok (.ifCond .ne 5, 3) := by decide +kernel
theorem dX12_rule_41 : decode cX12_rule 41 = .ok (.iconst (-1), 1) := by decide +kernel
theorem dX12_rule_42 : decode cX12_rule 42 = .ok (.ireturn, 1) := by decide +kernel
theorem dX12_rule_43 : decode cX12_rule 43 = .ok (.aload_n 0, 1) := by decide +kernel
theorem dX12_rule_44 : decode cX12_rule 44 = .ok (.getfield 45, 3) := by decide +kernel
theorem dX12_rule_47 : decode cX12_rule 47 = .ok (.iconst 0, 1) := by decide +kernel
theorem dX12_rule_48 : decode cX12_rule 48 = .ok (.iload_n 1, 1) := by decide +kernel
theorem dX12_rule_49 : decode cX12_rule 49 = .ok (.iastore, 1) := by decide +kernel
theorem dX12_rule_50 : decode cX12_rule 50 = .ok (.aload_n 0, 1) := by decide +kernel
theorem dX12_rule_51 : decode cX12_rule 51 = .ok (.getfield 48, 3) := by decide +kernel
theorem dX12_rule_54 : decode cX12_rule 54 = .ok (.iconst 0, 1) := by decide +kernel
theorem dX12_rule_55 : decode cX12_rule 55 = .ok (.iload_n 2, 1) := by decide +kernel
theorem dX12_rule_56 : decode cX12_rule 56 = .ok (.iastore, 1) := by decide +kernel
theorem dX12_rule_57 : decode cX12_rule 57 = .ok (.aload_n 0, 1) := by decide +kernel
theorem dX12_rule_58 : decode cX12_rule 58 = .ok (.getfield 51, 3) := by decide +kernel
theorem dX12_rule_61 : decode cX12_rule 61 = .ok (.iconst 0, 1) := by decide +kernel
theorem dX12_rule_62 : decode cX12_rule 62 = .ok (.iload_n 3, 1) := by decide +kernel
theorem dX12_rule_63 : decode cX12_rule 63 = .ok (.iastore, 1) := by decide +kernel
theorem dX12_rule_64 : decode cX12_rule 64 = .ok (.iconst 0, 1) := by decide +kernel
theorem dX12_rule_65 : decode cX12_rule 65 = .ok (.ireturn, 1) := by decide +kernel
theorem dX12_prices_0 : decode cX12_prices 0 = .ok (.aload_n 0, 1) := by decide +kernel
theorem dX12_prices_1 : decode cX12_prices 1 = .ok (.iconst 0, 1) := by decide +kernel
theorem dX12_prices_2 : decode cX12_prices 2 = .ok (.putfield 194, 3) := by decide +kernel
theorem dX12_prices_5 : decode cX12_prices 5 = .ok (.iload_n 1, 1) := by decide +kernel
theorem dX12_prices_6 : decode cX12_prices 6 = .ok (.i2l, 1) := by decide +kernel
theorem dX12_prices_7 : decode cX12_prices 7 = .ok (.lconst 0, 1) := by decide +kernel
theorem dX12_prices_8 : decode cX12_prices 8 = .ok (.ldc2_w 241, 3) := by decide +kernel
theorem dX12_prices_11 : decode cX12_prices 11 = .ok (.invokestatic 214, 3) := by decide +kernel
theorem dX12_prices_14 : decode cX12_prices 14 = .ok (.ifCond .eq 15, 3) := by decide +kernel
theorem dX12_prices_17 : decode cX12_prices 17 = .ok (.iload_n 2, 1) := by decide +kernel
theorem dX12_prices_18 : decode cX12_prices 18 = .ok (.i2l, 1) := by decide +kernel
theorem dX12_prices_19 : decode cX12_prices 19 = .ok (.lconst 0, 1) := by decide +kernel
theorem dX12_prices_20 : decode cX12_prices 20 = .ok (.ldc2_w 237, 3) := by decide +kernel
theorem dX12_prices_23 : decode cX12_prices 23 = .ok (.invokestatic 214, 3) := by decide +kernel
theorem dX12_prices_26 : decode cX12_prices 26 = .ok (.ifCond .ne 5, 3) := by decide +kernel
theorem dX12_prices_29 : decode cX12_prices 29 = .ok (.iconst (-1), 1) := by decide +kernel
theorem dX12_prices_30 : decode cX12_prices 30 = .ok (.ireturn, 1) := by decide +kernel
theorem dX12_prices_31 : decode cX12_prices 31 = .ok (.aload_n 0, 1) := by decide +kernel
theorem dX12_prices_32 : decode cX12_prices 32 = .ok (.iload_n 1, 1) := by decide +kernel
theorem dX12_prices_33 : decode cX12_prices 33 = .ok (.putfield 38, 3) := by decide +kernel
theorem dX12_prices_36 : decode cX12_prices 36 = .ok (.aload_n 0, 1) := by decide +kernel
theorem dX12_prices_37 : decode cX12_prices 37 = .ok (.iload_n 2, 1) := by decide +kernel
theorem dX12_prices_38 : decode cX12_prices 38 = .ok (.putfield 42, 3) := by decide +kernel
theorem dX12_prices_41 : decode cX12_prices 41 = .ok (.iconst 0, 1) := by decide +kernel
theorem dX12_prices_42 : decode cX12_prices 42 = .ok (.ireturn, 1) := by decide +kernel
theorem dX12_taken_0 : decode cX12_taken 0 = .ok (.iconst 0, 1) := by decide +kernel
theorem dX12_taken_1 : decode cX12_taken 1 = .ok (.istore_n 2, 1) := by decide +kernel
theorem dX12_taken_2 : decode cX12_taken 2 = .ok (.iconst 0, 1) := by decide +kernel
theorem dX12_taken_3 : decode cX12_taken 3 = .ok (.istore_n 3, 1) := by decide +kernel
theorem dX12_taken_4 : decode cX12_taken 4 = .ok (.iload_n 3, 1) := by decide +kernel
theorem dX12_taken_5 : decode cX12_taken 5 = .ok (.aload_n 0, 1) := by decide +kernel
theorem dX12_taken_6 : decode cX12_taken 6 = .ok (.getfield 197, 3) := by decide +kernel
theorem dX12_taken_9 : decode cX12_taken 9 = .ok (.if_icmp .ge 75, 3) := by decide +kernel
theorem dX12_taken_12 : decode cX12_taken 12 = .ok (.bipush 20, 2) := by decide +kernel
theorem dX12_taken_14 : decode cX12_taken 14 = .ok (.aload_n 0, 1) := by decide +kernel
theorem dX12_taken_15 : decode cX12_taken 15 = .ok (.getfield 243, 3) := by decide +kernel
theorem dX12_taken_18 : decode cX12_taken 18 = .ok (.imul, 1) := by decide +kernel
theorem dX12_taken_19 : decode cX12_taken 19 = .ok (.iload_n 3, 1) := by decide +kernel
theorem dX12_taken_20 : decode cX12_taken 20 = .ok (.iadd, 1) := by decide +kernel
theorem dX12_taken_21 : decode cX12_taken 21 = .ok (.istore 4, 2) := by decide +kernel
theorem dX12_taken_23 : decode cX12_taken 23 = .ok (.aload_n 0, 1) := by decide +kernel
theorem dX12_taken_24 : decode cX12_taken 24 = .ok (.getfield 79, 3) := by decide +kernel
theorem dX12_taken_27 : decode cX12_taken 27 = .ok (.iload 4, 2) := by decide +kernel
theorem dX12_taken_29 : decode cX12_taken 29 = .ok (.iaload, 1) := by decide +kernel
theorem dX12_taken_30 : decode cX12_taken 30 = .ok (.bipush (-2), 2) := by decide +kernel
theorem dX12_taken_32 : decode cX12_taken 32 = .ok (.if_icmp .eq 46, 3) := by decide +kernel
theorem dX12_taken_35 : decode cX12_taken 35 = .ok (.iload_n 2, 1) := by decide +kernel
theorem dX12_taken_36 : decode cX12_taken 36 = .ok (.aload_n 0, 1) := by decide +kernel
theorem dX12_taken_37 : decode cX12_taken 37 = .ok (.getfield 19, 3) := by decide +kernel
theorem dX12_taken_40 : decode cX12_taken 40 = .ok (.iload_n 3, 1) := by decide +kernel
theorem dX12_taken_41 : decode cX12_taken 41 = .ok (.iaload, 1) := by decide +kernel
theorem dX12_taken_42 : decode cX12_taken 42 = .ok (.iconst 2, 1) := by decide +kernel
theorem dX12_taken_43 : decode cX12_taken 43 = .ok (.if_icmp .eq 14, 3) := by decide +kernel
theorem dX12_taken_46 : decode cX12_taken 46 = .ok (.aload_n 0, 1) := by decide +kernel
theorem dX12_taken_47 : decode cX12_taken 47 = .ok (.getfield 79, 3) := by decide +kernel
theorem dX12_taken_50 : decode cX12_taken 50 = .ok (.iload 4, 2) := by decide +kernel
theorem dX12_taken_52 : decode cX12_taken 52 = .ok (.iaload, 1) := by decide +kernel
theorem dX12_taken_53 : decode cX12_taken 53 = .ok (.iload_n 1, 1) := by decide +kernel
theorem dX12_taken_54 : decode cX12_taken 54 = .ok (.if_icmp .ne 7, 3) := by decide +kernel
theorem dX12_taken_57 : decode cX12_taken 57 = .ok (.iconst 1, 1) := by decide +kernel
theorem dX12_taken_58 : decode cX12_taken 58 = .ok (.goto 4, 3) := by decide +kernel
theorem dX12_taken_61 : decode cX12_taken 61 = .ok (.iconst 0, 1) := by decide +kernel
theorem dX12_taken_62 : decode cX12_taken 62 = .ok (.iadd, 1) := by decide +kernel
theorem dX12_taken_63 : decode cX12_taken 63 = .ok (.istore_n 2, 1) := by decide +kernel
theorem dX12_taken_64 : decode cX12_taken 64 = .ok (.iload_n 2, 1) := by decide +kernel
theorem dX12_taken_65 : decode cX12_taken 65 = .ok (.aload_n 0, 1) := by decide +kernel
theorem dX12_taken_66 : decode cX12_taken 66 = .ok (.getfield 82, 3) := by decide +kernel
theorem dX12_taken_69 : decode cX12_taken 69 = .ok (.iload 4, 2) := by decide +kernel
theorem dX12_taken_71 : decode cX12_taken 71 = .ok (.iaload, 1) := by decide +kernel
theorem dX12_taken_72 : decode cX12_taken 72 = .ok (.iload_n 1, 1) := by decide +kernel
theorem dX12_taken_73 : decode cX12_taken 73 = .ok (.ishr, 1) := by decide +kernel
theorem dX12_taken_74 : decode cX12_taken 74 = .ok (.iconst 1, 1) := by decide +kernel
theorem dX12_taken_75 : decode cX12_taken 75 = .ok (.iand, 1) := by decide +kernel
theorem dX12_taken_76 : decode cX12_taken 76 = .ok (.iadd, 1) := by decide +kernel
theorem dX12_taken_77 : decode cX12_taken 77 = .ok (.istore_n 2, 1) := by decide +kernel
theorem dX12_taken_78 : decode cX12_taken 78 = .ok (.iinc 3 1, 3) := by decide +kernel
theorem dX12_taken_81 : decode cX12_taken 81 = .ok (.goto (-77), 3) := by decide +kernel
theorem dX12_taken_84 : decode cX12_taken 84 = .ok (.iload_n 2, 1) := by decide +kernel
theorem dX12_taken_85 : decode cX12_taken 85 = .ok (.ireturn, 1) := by decide +kernel
theorem dX12_hasRoom_0 : decode cX12_hasRoom 0 = .ok (.aload_n 0, 1) := by decide +kernel
theorem dX12_hasRoom_1 : decode cX12_hasRoom 1 = .ok (.iload_n 1, 1) := by decide +kernel
theorem dX12_hasRoom_2 : decode cX12_hasRoom 2 = .ok (.invokevirtual 246, 3) := by decide +kernel
theorem dX12_hasRoom_5 : decode cX12_hasRoom 5 = .ok (.aload_n 0, 1) := by decide +kernel
theorem dX12_hasRoom_6 : decode cX12_hasRoom 6 = .ok (.getfield 188, 3) := by decide +kernel
theorem dX12_hasRoom_9 : decode cX12_hasRoom 9 = .ok (.if_icmp .ge 7, 3) := by decide +kernel
theorem dX12_hasRoom_12 : decode cX12_hasRoom 12 = .ok (.iconst 1, 1) := by decide +kernel
theorem dX12_hasRoom_13 : decode cX12_hasRoom 13 = .ok (.goto 4, 3) := by decide +kernel
theorem dX12_hasRoom_16 : decode cX12_hasRoom 16 = .ok (.iconst 0, 1) := by decide +kernel
theorem dX12_hasRoom_17 : decode cX12_hasRoom 17 = .ok (.ireturn, 1) := by decide +kernel
theorem dX12_allHaveRoom_0 : decode cX12_allHaveRoom 0 = .ok (.iconst 1, 1) := by decide +kernel
theorem dX12_allHaveRoom_1 : decode cX12_allHaveRoom 1 = .ok (.istore_n 1, 1) := by decide +kernel
theorem dX12_allHaveRoom_2 : decode cX12_allHaveRoom 2 = .ok (.iconst 0, 1) := by decide +kernel
theorem dX12_allHaveRoom_3 : decode cX12_allHaveRoom 3 = .ok (.istore_n 2, 1) := by decide +kernel
theorem dX12_allHaveRoom_4 : decode cX12_allHaveRoom 4 = .ok (.iload_n 2, 1) := by decide +kernel
theorem dX12_allHaveRoom_5 : decode cX12_allHaveRoom 5 = .ok (.aload_n 0, 1) := by decide +kernel
theorem dX12_allHaveRoom_6 : decode cX12_allHaveRoom 6 = .ok (.getfield 182, 3) := by decide +kernel
theorem dX12_allHaveRoom_9 : decode cX12_allHaveRoom 9 = .ok (.if_icmp .ge 27, 3) := by decide +kernel
theorem dX12_allHaveRoom_12 : decode cX12_allHaveRoom 12 = .ok (.iload_n 1, 1) := by decide +kernel
theorem dX12_allHaveRoom_13 : decode cX12_allHaveRoom 13 = .ok (.ifCond .eq 15, 3) := by decide +kernel
theorem dX12_allHaveRoom_16 : decode cX12_allHaveRoom 16 = .ok (.aload_n 0, 1) := by decide +kernel
theorem dX12_allHaveRoom_17 : decode cX12_allHaveRoom 17 = .ok (.iload_n 2, 1) := by decide +kernel
theorem dX12_allHaveRoom_18 : decode cX12_allHaveRoom 18 = .ok (.invokevirtual 250, 3) := by decide +kernel
theorem dX12_allHaveRoom_21 : decode cX12_allHaveRoom 21 = .ok (.ifCond .eq 7, 3) := by decide +kernel
theorem dX12_allHaveRoom_24 : decode cX12_allHaveRoom 24 = .ok (.iconst 1, 1) := by decide +kernel
theorem dX12_allHaveRoom_25 : decode cX12_allHaveRoom 25 = .ok (.goto 4, 3) := by decide +kernel
theorem dX12_allHaveRoom_28 : decode cX12_allHaveRoom 28 = .ok (.iconst 0, 1) := by decide +kernel
theorem dX12_allHaveRoom_29 : decode cX12_allHaveRoom 29 = .ok (.istore_n 1, 1) := by decide +kernel
theorem dX12_allHaveRoom_30 : decode cX12_allHaveRoom 30 = .ok (.iinc 2 1, 3) := by decide +kernel
theorem dX12_allHaveRoom_33 : decode cX12_allHaveRoom 33 = .ok (.goto (-29), 3) := by decide +kernel
theorem dX12_allHaveRoom_36 : decode cX12_allHaveRoom 36 = .ok (.iload_n 1, 1) := by decide +kernel
theorem dX12_allHaveRoom_37 : decode cX12_allHaveRoom 37 = .ok (.ireturn, 1) := by decide +kernel
theorem dX12_place_0 : decode cX12_place 0 = .ok (.aload_n 0, 1) := by decide +kernel
theorem dX12_place_1 : decode cX12_place 1 = .ok (.iconst 0, 1) := by decide +kernel
theorem dX12_place_2 : decode cX12_place 2 = .ok (.putfield 194, 3) := by decide +kernel
theorem dX12_place_5 : decode cX12_place 5 = .ok (.aload_n 0, 1) := by decide +kernel
theorem dX12_place_6 : decode cX12_place 6 = .ok (.iload_n 1, 1) := by decide +kernel
theorem dX12_place_7 : decode cX12_place 7 = .ok (.invokevirtual 253, 3) := by decide +kernel
theorem dX12_place_10 : decode cX12_place 10 = .ok (.ifCond .eq 11, 3) := by decide +kernel
theorem dX12_place_13 : decode cX12_place 13 = .ok (.aload_n 0, 1) := by decide +kernel
theorem dX12_place_14 : decode cX12_place 14 = .ok (.iload_n 2, 1) := by decide +kernel
theorem dX12_place_15 : decode cX12_place 15 = .ok (.invokevirtual 204, 3) := by decide +kernel
theorem dX12_place_18 : decode cX12_place 18 = .ok (.ifCond .ne 5, 3) := by decide +kernel
theorem dX12_place_21 : decode cX12_place 21 = .ok (.iconst (-1), 1) := by decide +kernel
theorem dX12_place_22 : decode cX12_place 22 = .ok (.ireturn, 1) := by decide +kernel
theorem dX12_place_23 : decode cX12_place 23 = .ok (.aload_n 0, 1) := by decide +kernel
theorem dX12_place_24 : decode cX12_place 24 = .ok (.getfield 19, 3) := by decide +kernel
theorem dX12_place_27 : decode cX12_place 27 = .ok (.iload_n 1, 1) := by decide +kernel
theorem dX12_place_28 : decode cX12_place 28 = .ok (.iaload, 1) := by decide +kernel
theorem dX12_place_29 : decode cX12_place 29 = .ok (.iconst 2, 1) := by decide +kernel
theorem dX12_place_30 : decode cX12_place 30 = .ok (.if_icmp .ne 13, 3) := by decide +kernel
theorem dX12_place_33 : decode cX12_place 33 = .ok (.aload_n 0, 1) := by decide +kernel
theorem dX12_place_34 : decode cX12_place 34 = .ok (.invokevirtual 256, 3) := by decide +kernel
theorem dX12_place_37 : decode cX12_place 37 = .ok (.ifCond .ne 17, 3) := by decide +kernel
theorem dX12_place_40 : decode cX12_place 40 = .ok (.goto 11, 3) := by decide +kernel
theorem dX12_place_43 : decode cX12_place 43 = .ok (.aload_n 0, 1) := by decide +kernel
theorem dX12_place_44 : decode cX12_place 44 = .ok (.iload_n 2, 1) := by decide +kernel
theorem dX12_place_45 : decode cX12_place 45 = .ok (.invokevirtual 250, 3) := by decide +kernel
theorem dX12_place_48 : decode cX12_place 48 = .ok (.ifCond .ne 6, 3) := by decide +kernel
theorem dX12_place_51 : decode cX12_place 51 = .ok (.bipush (-2), 2) := by decide +kernel
theorem dX12_place_53 : decode cX12_place 53 = .ok (.ireturn, 1) := by decide +kernel
theorem dX12_place_54 : decode cX12_place 54 = .ok (.aload_n 0, 1) := by decide +kernel
theorem dX12_place_55 : decode cX12_place 55 = .ok (.getfield 79, 3) := by decide +kernel
theorem dX12_place_58 : decode cX12_place 58 = .ok (.iload_n 1, 1) := by decide +kernel
theorem dX12_place_59 : decode cX12_place 59 = .ok (.iaload, 1) := by decide +kernel
theorem dX12_place_60 : decode cX12_place 60 = .ok (.bipush (-2), 2) := by decide +kernel
theorem dX12_place_62 : decode cX12_place 62 = .ok (.if_icmp .eq 6, 3) := by decide +kernel
theorem dX12_place_65 : decode cX12_place 65 = .ok (.bipush (-3), 2) := by decide +kernel
theorem dX12_place_67 : decode cX12_place 67 = .ok (.ireturn, 1) := by decide +kernel
theorem dX12_place_68 : decode cX12_place 68 = .ok (.aload_n 0, 1) := by decide +kernel
theorem dX12_place_69 : decode cX12_place 69 = .ok (.getfield 79, 3) := by decide +kernel
theorem dX12_place_72 : decode cX12_place 72 = .ok (.iload_n 1, 1) := by decide +kernel
theorem dX12_place_73 : decode cX12_place 73 = .ok (.iload_n 2, 1) := by decide +kernel
theorem dX12_place_74 : decode cX12_place 74 = .ok (.iastore, 1) := by decide +kernel
theorem dX12_place_75 : decode cX12_place 75 = .ok (.iconst 0, 1) := by decide +kernel
theorem dX12_place_76 : decode cX12_place 76 = .ok (.ireturn, 1) := by decide +kernel
theorem dX12_settle_0 : decode cX12_settle 0 = .ok (.aload_n 0, 1) := by decide +kernel
theorem dX12_settle_1 : decode cX12_settle 1 = .ok (.iconst 0, 1) := by decide +kernel
theorem dX12_settle_2 : decode cX12_settle 2 = .ok (.putfield 194, 3) := by decide +kernel
theorem dX12_settle_5 : decode cX12_settle 5 = .ok (.aload_n 0, 1) := by decide +kernel
theorem dX12_settle_6 : decode cX12_settle 6 = .ok (.iload_n 1, 1) := by decide +kernel
theorem dX12_settle_7 : decode cX12_settle 7 = .ok (.invokevirtual 228, 3) := by decide +kernel
theorem dX12_settle_10 : decode cX12_settle 10 = .ok (.ifCond .eq 11, 3) := by decide +kernel
theorem dX12_settle_13 : decode cX12_settle 13 = .ok (.aload_n 0, 1) := by decide +kernel
theorem dX12_settle_14 : decode cX12_settle 14 = .ok (.iload_n 2, 1) := by decide +kernel
theorem dX12_settle_15 : decode cX12_settle 15 = .ok (.invokevirtual 204, 3) := by decide +kernel
theorem dX12_settle_18 : decode cX12_settle 18 = .ok (.ifCond .ne 5, 3) := by decide +kernel
theorem dX12_settle_21 : decode cX12_settle 21 = .ok (.iconst (-1), 1) := by decide +kernel
theorem dX12_settle_22 : decode cX12_settle 22 = .ok (.ireturn, 1) := by decide +kernel
theorem dX12_settle_23 : decode cX12_settle 23 = .ok (.aload_n 0, 1) := by decide +kernel
theorem dX12_settle_24 : decode cX12_settle 24 = .ok (.getfield 112, 3) := by decide +kernel
theorem dX12_settle_27 : decode cX12_settle 27 = .ok (.iload_n 1, 1) := by decide +kernel
theorem dX12_settle_28 : decode cX12_settle 28 = .ok (.iaload, 1) := by decide +kernel
theorem dX12_settle_29 : decode cX12_settle 29 = .ok (.ifCond .le 6, 3) := by decide +kernel
theorem dX12_settle_32 : decode cX12_settle 32 = .ok (.bipush (-3), 2) := by decide +kernel
theorem dX12_settle_34 : decode cX12_settle 34 = .ok (.ireturn, 1) := by decide +kernel
theorem dX12_settle_35 : decode cX12_settle 35 = .ok (.aload_n 0, 1) := by decide +kernel
theorem dX12_settle_36 : decode cX12_settle 36 = .ok (.getfield 103, 3) := by decide +kernel
theorem dX12_settle_39 : decode cX12_settle 39 = .ok (.iload_n 1, 1) := by decide +kernel
theorem dX12_settle_40 : decode cX12_settle 40 = .ok (.iaload, 1) := by decide +kernel
theorem dX12_settle_41 : decode cX12_settle 41 = .ok (.istore_n 3, 1) := by decide +kernel
theorem dX12_settle_42 : decode cX12_settle 42 = .ok (.aload_n 0, 1) := by decide +kernel
theorem dX12_settle_43 : decode cX12_settle 43 = .ok (.getfield 103, 3) := by decide +kernel
theorem dX12_settle_46 : decode cX12_settle 46 = .ok (.iload_n 1, 1) := by decide +kernel
theorem dX12_settle_47 : decode cX12_settle 47 = .ok (.iload_n 2, 1) := by decide +kernel
theorem dX12_settle_48 : decode cX12_settle 48 = .ok (.iastore, 1) := by decide +kernel
theorem dX12_settle_49 : decode cX12_settle 49 = .ok (.aload_n 0, 1) := by decide +kernel
theorem dX12_settle_50 : decode cX12_settle 50 = .ok (.getfield 106, 3) := by decide +kernel
theorem dX12_settle_53 : decode cX12_settle 53 = .ok (.iload_n 1, 1) := by decide +kernel
theorem dX12_settle_54 : decode cX12_settle 54 = .ok (.aload_n 0, 1) := by decide +kernel
theorem dX12_settle_55 : decode cX12_settle 55 = .ok (.getfield 76, 3) := by decide +kernel
theorem dX12_settle_58 : decode cX12_settle 58 = .ok (.iconst 0, 1) := by decide +kernel
theorem dX12_settle_59 : decode cX12_settle 59 = .ok (.iaload, 1) := by decide +kernel
theorem dX12_settle_60 : decode cX12_settle 60 = .ok (.iastore, 1) := by decide +kernel
theorem dX12_settle_61 : decode cX12_settle 61 = .ok (.aload_n 0, 1) := by decide +kernel
theorem dX12_settle_62 : decode cX12_settle 62 = .ok (.getfield 76, 3) := by decide +kernel
theorem dX12_settle_65 : decode cX12_settle 65 = .ok (.iconst 0, 1) := by decide +kernel
theorem dX12_settle_66 : decode cX12_settle 66 = .ok (.dup2, 1) := by decide +kernel
theorem dX12_settle_67 : decode cX12_settle 67 = .ok (.iaload, 1) := by decide +kernel
theorem dX12_settle_68 : decode cX12_settle 68 = .ok (.iconst 1, 1) := by decide +kernel
theorem dX12_settle_69 : decode cX12_settle 69 = .ok (.iadd, 1) := by decide +kernel
theorem dX12_settle_70 : decode cX12_settle 70 = .ok (.iastore, 1) := by decide +kernel
theorem dX12_settle_71 : decode cX12_settle 71 = .ok (.iload_n 3, 1) := by decide +kernel
theorem dX12_settle_72 : decode cX12_settle 72 = .ok (.ireturn, 1) := by decide +kernel
theorem dX12_swap_0 : decode cX12_swap 0 = .ok (.aload_n 0, 1) := by decide +kernel
theorem dX12_swap_1 : decode cX12_swap 1 = .ok (.iconst 0, 1) := by decide +kernel
theorem dX12_swap_2 : decode cX12_swap 2 = .ok (.putfield 194, 3) := by decide +kernel
theorem dX12_swap_5 : decode cX12_swap 5 = .ok (.aload_n 0, 1) := by decide +kernel
theorem dX12_swap_6 : decode cX12_swap 6 = .ok (.iload_n 1, 1) := by decide +kernel
theorem dX12_swap_7 : decode cX12_swap 7 = .ok (.invokevirtual 228, 3) := by decide +kernel
theorem dX12_swap_10 : decode cX12_swap 10 = .ok (.ifCond .eq 16, 3) := by decide +kernel
theorem dX12_swap_13 : decode cX12_swap 13 = .ok (.aload_n 0, 1) := by decide +kernel
theorem dX12_swap_14 : decode cX12_swap 14 = .ok (.iload_n 2, 1) := by decide +kernel
theorem dX12_swap_15 : decode cX12_swap 15 = .ok (.invokevirtual 228, 3) := by decide +kernel
theorem dX12_swap_18 : decode cX12_swap 18 = .ok (.ifCond .eq 8, 3) := by decide +kernel
theorem dX12_swap_21 : decode cX12_swap 21 = .ok (.iload_n 1, 1) := by decide +kernel
theorem dX12_swap_22 : decode cX12_swap 22 = .ok (.iload_n 2, 1) := by decide +kernel
theorem dX12_swap_23 : decode cX12_swap 23 = .ok (.if_icmp .ne 5, 3) := by decide +kernel
theorem dX12_swap_26 : decode cX12_swap 26 = .ok (.iconst (-1), 1) := by decide +kernel
theorem dX12_swap_27 : decode cX12_swap 27 = .ok (.ireturn, 1) := by decide +kernel
theorem dX12_swap_28 : decode cX12_swap 28 = .ok (.aload_n 0, 1) := by decide +kernel
theorem dX12_swap_29 : decode cX12_swap 29 = .ok (.getfield 112, 3) := by decide +kernel
theorem dX12_swap_32 : decode cX12_swap 32 = .ok (.iload_n 1, 1) := by decide +kernel
theorem dX12_swap_33 : decode cX12_swap 33 = .ok (.iaload, 1) := by decide +kernel
theorem dX12_swap_34 : decode cX12_swap 34 = .ok (.ifCond .gt 12, 3) := by decide +kernel
theorem dX12_swap_37 : decode cX12_swap 37 = .ok (.aload_n 0, 1) := by decide +kernel
theorem dX12_swap_38 : decode cX12_swap 38 = .ok (.getfield 112, 3) := by decide +kernel
theorem dX12_swap_41 : decode cX12_swap 41 = .ok (.iload_n 2, 1) := by decide +kernel
theorem dX12_swap_42 : decode cX12_swap 42 = .ok (.iaload, 1) := by decide +kernel
theorem dX12_swap_43 : decode cX12_swap 43 = .ok (.ifCond .le 6, 3) := by decide +kernel
theorem dX12_swap_46 : decode cX12_swap 46 = .ok (.bipush (-3), 2) := by decide +kernel
theorem dX12_swap_48 : decode cX12_swap 48 = .ok (.ireturn, 1) := by decide +kernel
theorem dX12_swap_49 : decode cX12_swap 49 = .ok (.aload_n 0, 1) := by decide +kernel
theorem dX12_swap_50 : decode cX12_swap 50 = .ok (.getfield 103, 3) := by decide +kernel
theorem dX12_swap_53 : decode cX12_swap 53 = .ok (.iload_n 1, 1) := by decide +kernel
theorem dX12_swap_54 : decode cX12_swap 54 = .ok (.iaload, 1) := by decide +kernel
theorem dX12_swap_55 : decode cX12_swap 55 = .ok (.istore_n 3, 1) := by decide +kernel
theorem dX12_swap_56 : decode cX12_swap 56 = .ok (.aload_n 0, 1) := by decide +kernel
theorem dX12_swap_57 : decode cX12_swap 57 = .ok (.getfield 103, 3) := by decide +kernel
theorem dX12_swap_60 : decode cX12_swap 60 = .ok (.iload_n 1, 1) := by decide +kernel
theorem dX12_swap_61 : decode cX12_swap 61 = .ok (.aload_n 0, 1) := by decide +kernel
theorem dX12_swap_62 : decode cX12_swap 62 = .ok (.getfield 103, 3) := by decide +kernel
theorem dX12_swap_65 : decode cX12_swap 65 = .ok (.iload_n 2, 1) := by decide +kernel
theorem dX12_swap_66 : decode cX12_swap 66 = .ok (.iaload, 1) := by decide +kernel
theorem dX12_swap_67 : decode cX12_swap 67 = .ok (.iastore, 1) := by decide +kernel
theorem dX12_swap_68 : decode cX12_swap 68 = .ok (.aload_n 0, 1) := by decide +kernel
theorem dX12_swap_69 : decode cX12_swap 69 = .ok (.getfield 103, 3) := by decide +kernel
theorem dX12_swap_72 : decode cX12_swap 72 = .ok (.iload_n 2, 1) := by decide +kernel
theorem dX12_swap_73 : decode cX12_swap 73 = .ok (.iload_n 3, 1) := by decide +kernel
theorem dX12_swap_74 : decode cX12_swap 74 = .ok (.iastore, 1) := by decide +kernel
theorem dX12_swap_75 : decode cX12_swap 75 = .ok (.aload_n 0, 1) := by decide +kernel
theorem dX12_swap_76 : decode cX12_swap 76 = .ok (.getfield 106, 3) := by decide +kernel
theorem dX12_swap_79 : decode cX12_swap 79 = .ok (.iload_n 1, 1) := by decide +kernel
theorem dX12_swap_80 : decode cX12_swap 80 = .ok (.iaload, 1) := by decide +kernel
theorem dX12_swap_81 : decode cX12_swap 81 = .ok (.istore 4, 2) := by decide +kernel
theorem dX12_swap_83 : decode cX12_swap 83 = .ok (.aload_n 0, 1) := by decide +kernel
theorem dX12_swap_84 : decode cX12_swap 84 = .ok (.getfield 106, 3) := by decide +kernel
theorem dX12_swap_87 : decode cX12_swap 87 = .ok (.iload_n 1, 1) := by decide +kernel
theorem dX12_swap_88 : decode cX12_swap 88 = .ok (.aload_n 0, 1) := by decide +kernel
theorem dX12_swap_89 : decode cX12_swap 89 = .ok (.getfield 106, 3) := by decide +kernel
theorem dX12_swap_92 : decode cX12_swap 92 = .ok (.iload_n 2, 1) := by decide +kernel
theorem dX12_swap_93 : decode cX12_swap 93 = .ok (.iaload, 1) := by decide +kernel
theorem dX12_swap_94 : decode cX12_swap 94 = .ok (.iastore, 1) := by decide +kernel
theorem dX12_swap_95 : decode cX12_swap 95 = .ok (.aload_n 0, 1) := by decide +kernel
theorem dX12_swap_96 : decode cX12_swap 96 = .ok (.getfield 106, 3) := by decide +kernel
theorem dX12_swap_99 : decode cX12_swap 99 = .ok (.iload_n 2, 1) := by decide +kernel
theorem dX12_swap_100 : decode cX12_swap 100 = .ok (.iload 4, 2) := by decide +kernel
theorem dX12_swap_102 : decode cX12_swap 102 = .ok (.iastore, 1) := by decide +kernel
theorem dX12_swap_103 : decode cX12_swap 103 = .ok (.iconst 0, 1) := by decide +kernel
theorem dX12_swap_104 : decode cX12_swap 104 = .ok (.ireturn, 1) := by decide +kernel
theorem dX12_emptiest_0 : decode cX12_emptiest 0 = .ok (.iconst 0, 1) := by decide +kernel
theorem dX12_emptiest_1 : decode cX12_emptiest 1 = .ok (.istore_n 1, 1) := by decide +kernel
theorem dX12_emptiest_2 : decode cX12_emptiest 2 = .ok (.iconst 1, 1) := by decide +kernel
theorem dX12_emptiest_3 : decode cX12_emptiest 3 = .ok (.istore_n 2, 1) := by decide +kernel
theorem dX12_emptiest_4 : decode cX12_emptiest 4 = .ok (.iload_n 2, 1) := by decide +kernel
theorem dX12_emptiest_5 : decode cX12_emptiest 5 = .ok (.aload_n 0, 1) := by decide +kernel
theorem dX12_emptiest_6 : decode cX12_emptiest 6 = .ok (.getfield 182, 3) := by decide +kernel
theorem dX12_emptiest_9 : decode cX12_emptiest 9 = .ok (.if_icmp .ge 28, 3) := by decide +kernel
theorem dX12_emptiest_12 : decode cX12_emptiest 12 = .ok (.aload_n 0, 1) := by decide +kernel
theorem dX12_emptiest_13 : decode cX12_emptiest 13 = .ok (.iload_n 2, 1) := by decide +kernel
theorem dX12_emptiest_14 : decode cX12_emptiest 14 = .ok (.invokevirtual 246, 3) := by decide +kernel
theorem dX12_emptiest_17 : decode cX12_emptiest 17 = .ok (.aload_n 0, 1) := by decide +kernel
theorem dX12_emptiest_18 : decode cX12_emptiest 18 = .ok (.iload_n 1, 1) := by decide +kernel
theorem dX12_emptiest_19 : decode cX12_emptiest 19 = .ok (.invokevirtual 246, 3) := by decide +kernel
theorem dX12_emptiest_22 : decode cX12_emptiest 22 = .ok (.if_icmp .ge 7, 3) := by decide +kernel
theorem dX12_emptiest_25 : decode cX12_emptiest 25 = .ok (.iload_n 2, 1) := by decide +kernel
theorem dX12_emptiest_26 : decode cX12_emptiest 26 = .ok (.goto 4, 3) := by decide +kernel
theorem dX12_emptiest_29 : decode cX12_emptiest 29 = .ok (.iload_n 1, 1) := by decide +kernel
theorem dX12_emptiest_30 : decode cX12_emptiest 30 = .ok (.istore_n 1, 1) := by decide +kernel
theorem dX12_emptiest_31 : decode cX12_emptiest 31 = .ok (.iinc 2 1, 3) := by decide +kernel
theorem dX12_emptiest_34 : decode cX12_emptiest 34 = .ok (.goto (-30), 3) := by decide +kernel
theorem dX12_emptiest_37 : decode cX12_emptiest 37 = .ok (.iload_n 1, 1) := by decide +kernel
theorem dX12_emptiest_38 : decode cX12_emptiest 38 = .ok (.ireturn, 1) := by decide +kernel
theorem dX12_isPlaced_0 : decode cX12_isPlaced 0 = .ok (.aload_n 0, 1) := by decide +kernel
theorem dX12_isPlaced_1 : decode cX12_isPlaced 1 = .ok (.getfield 45, 3) := by decide +kernel
theorem dX12_isPlaced_4 : decode cX12_isPlaced 4 = .ok (.aload_n 0, 1) := by decide +kernel
theorem dX12_isPlaced_5 : decode cX12_isPlaced 5 = .ok (.getfield 243, 3) := by decide +kernel
theorem dX12_isPlaced_8 : decode cX12_isPlaced 8 = .ok (.iaload, 1) := by decide +kernel
theorem dX12_isPlaced_9 : decode cX12_isPlaced 9 = .ok (.ifCond .ne 7, 3) := by decide +kernel
theorem dX12_isPlaced_12 : decode cX12_isPlaced 12 = .ok (.iload_n 2, 1) := by decide +kernel
theorem dX12_isPlaced_13 : decode cX12_isPlaced 13 = .ok (.goto 37, 3) := by decide +kernel
theorem dX12_isPlaced_16 : decode cX12_isPlaced 16 = .ok (.aload_n 0, 1) := by decide +kernel
theorem dX12_isPlaced_17 : decode cX12_isPlaced 17 = .ok (.getfield 45, 3) := by decide +kernel
theorem dX12_isPlaced_20 : decode cX12_isPlaced 20 = .ok (.aload_n 0, 1) := by decide +kernel
theorem dX12_isPlaced_21 : decode cX12_isPlaced 21 = .ok (.getfield 243, 3) := by decide +kernel
theorem dX12_isPlaced_24 : decode cX12_isPlaced 24 = .ok (.iaload, 1) := by decide +kernel
theorem dX12_isPlaced_25 : decode cX12_isPlaced 25 = .ok (.iconst 1, 1) := by decide +kernel
theorem dX12_isPlaced_26 : decode cX12_isPlaced 26 = .ok (.if_icmp .ne 20, 3) := by decide +kernel
theorem dX12_isPlaced_29 : decode cX12_isPlaced 29 = .ok (.aload_n 0, 1) := by decide +kernel
theorem dX12_isPlaced_30 : decode cX12_isPlaced 30 = .ok (.getfield 57, 3) := by decide +kernel
theorem dX12_isPlaced_33 : decode cX12_isPlaced 33 = .ok (.aload_n 0, 1) := by decide +kernel
theorem dX12_isPlaced_34 : decode cX12_isPlaced 34 = .ok (.getfield 243, 3) := by decide +kernel
theorem dX12_isPlaced_37 : decode cX12_isPlaced 37 = .ok (.iaload, 1) := by decide +kernel
theorem dX12_isPlaced_38 : decode cX12_isPlaced 38 = .ok (.aload_n 0, 1) := by decide +kernel
theorem dX12_isPlaced_39 : decode cX12_isPlaced 39 = .ok (.getfield 182, 3) := by decide +kernel
theorem dX12_isPlaced_42 : decode cX12_isPlaced 42 = .ok (.irem, 1) := by decide +kernel
theorem dX12_isPlaced_43 : decode cX12_isPlaced 43 = .ok (.goto 7, 3) := by decide +kernel
theorem dX12_isPlaced_46 : decode cX12_isPlaced 46 = .ok (.aload_n 0, 1) := by decide +kernel
theorem dX12_isPlaced_47 : decode cX12_isPlaced 47 = .ok (.invokevirtual 260, 3) := by decide +kernel
theorem dX12_isPlaced_50 : decode cX12_isPlaced 50 = .ok (.istore_n 3, 1) := by decide +kernel
theorem dX12_isPlaced_51 : decode cX12_isPlaced 51 = .ok (.aload_n 0, 1) := by decide +kernel
theorem dX12_isPlaced_52 : decode cX12_isPlaced 52 = .ok (.getfield 19, 3) := by decide +kernel
theorem dX12_isPlaced_55 : decode cX12_isPlaced 55 = .ok (.iload_n 1, 1) := by decide +kernel
theorem dX12_isPlaced_56 : decode cX12_isPlaced 56 = .ok (.iaload, 1) := by decide +kernel
theorem dX12_isPlaced_57 : decode cX12_isPlaced 57 = .ok (.iconst 2, 1) := by decide +kernel
theorem dX12_isPlaced_58 : decode cX12_isPlaced 58 = .ok (.if_icmp .ne 12, 3) := by decide +kernel
theorem dX12_isPlaced_61 : decode cX12_isPlaced 61 = .ok (.aload_n 0, 1) := by decide +kernel
theorem dX12_isPlaced_62 : decode cX12_isPlaced 62 = .ok (.invokevirtual 256, 3) := by decide +kernel
theorem dX12_isPlaced_65 : decode cX12_isPlaced 65 = .ok (.ifCond .ne 39, 3) := by decide +kernel
theorem dX12_isPlaced_68 : decode cX12_isPlaced 68 = .ok (.iconst 0, 1) := by decide +kernel
theorem dX12_isPlaced_69 : decode cX12_isPlaced 69 = .ok (.ireturn, 1) := by decide +kernel
theorem dX12_isPlaced_70 : decode cX12_isPlaced 70 = .ok (.iconst 0, 1) := by decide +kernel
theorem dX12_isPlaced_71 : decode cX12_isPlaced 71 = .ok (.istore 4, 2) := by decide +kernel
theorem dX12_isPlaced_73 : decode cX12_isPlaced 73 = .ok (.aload_n 0, 1) := by decide +kernel
theorem dX12_isPlaced_74 : decode cX12_isPlaced 74 = .ok (.iload_n 3, 1) := by decide +kernel
theorem dX12_isPlaced_75 : decode cX12_isPlaced 75 = .ok (.invokevirtual 250, 3) := by decide +kernel
theorem dX12_isPlaced_78 : decode cX12_isPlaced 78 = .ok (.ifCond .ne 26, 3) := by decide +kernel
theorem dX12_isPlaced_81 : decode cX12_isPlaced 81 = .ok (.iload_n 3, 1) := by decide +kernel
theorem dX12_isPlaced_82 : decode cX12_isPlaced 82 = .ok (.iconst 1, 1) := by decide +kernel
theorem dX12_isPlaced_83 : decode cX12_isPlaced 83 = .ok (.iadd, 1) := by decide +kernel
theorem dX12_isPlaced_84 : decode cX12_isPlaced 84 = .ok (.aload_n 0, 1) := by decide +kernel
theorem dX12_isPlaced_85 : decode cX12_isPlaced 85 = .ok (.getfield 182, 3) := by decide +kernel
theorem dX12_isPlaced_88 : decode cX12_isPlaced 88 = .ok (.irem, 1) := by decide +kernel
theorem dX12_isPlaced_89 : decode cX12_isPlaced 89 = .ok (.istore_n 3, 1) := by decide +kernel
theorem dX12_isPlaced_90 : decode cX12_isPlaced 90 = .ok (.iinc 4 1, 3) := by decide +kernel
theorem dX12_isPlaced_93 : decode cX12_isPlaced 93 = .ok (.iload 4, 2) := by decide +kernel
theorem dX12_isPlaced_95 : decode cX12_isPlaced 95 = .ok (.aload_n 0, 1) := by decide +kernel
theorem dX12_isPlaced_96 : decode cX12_isPlaced 96 = .ok (.getfield 182, 3) := by decide +kernel
theorem dX12_isPlaced_99 : decode cX12_isPlaced 99 = .ok (.if_icmp .ne (-26), 3) := by decide +kernel
theorem dX12_isPlaced_102 : decode cX12_isPlaced 102 = .ok (.iconst 0, 1) := by decide +kernel
theorem dX12_isPlaced_103 : decode cX12_isPlaced 103 = .ok (.ireturn, 1) := by decide +kernel
theorem dX12_isPlaced_104 : decode cX12_isPlaced 104 = .ok (.aload_n 0, 1) := by decide +kernel
theorem dX12_isPlaced_105 : decode cX12_isPlaced 105 = .ok (.getfield 57, 3) := by decide +kernel
theorem dX12_isPlaced_108 : decode cX12_isPlaced 108 = .ok (.aload_n 0, 1) := by decide +kernel
theorem dX12_isPlaced_109 : decode cX12_isPlaced 109 = .ok (.getfield 243, 3) := by decide +kernel
theorem dX12_isPlaced_112 : decode cX12_isPlaced 112 = .ok (.dup2, 1) := by decide +kernel
theorem dX12_isPlaced_113 : decode cX12_isPlaced 113 = .ok (.iaload, 1) := by decide +kernel
theorem dX12_isPlaced_114 : decode cX12_isPlaced 114 = .ok (.aload_n 0, 1) := by decide +kernel
theorem dX12_isPlaced_115 : decode cX12_isPlaced 115 = .ok (.getfield 45, 3) := by decide +kernel
theorem dX12_isPlaced_118 : decode cX12_isPlaced 118 = .ok (.aload_n 0, 1) := by decide +kernel
theorem dX12_isPlaced_119 : decode cX12_isPlaced 119 = .ok (.getfield 243, 3) := by decide +kernel
theorem dX12_isPlaced_122 : decode cX12_isPlaced 122 = .ok (.iaload, 1) := by decide +kernel
theorem dX12_isPlaced_123 : decode cX12_isPlaced 123 = .ok (.iconst 1, 1) := by decide +kernel
theorem dX12_isPlaced_124 : decode cX12_isPlaced 124 = .ok (.if_icmp .ne 7, 3) := by decide +kernel
theorem dX12_isPlaced_127 : decode cX12_isPlaced 127 = .ok (.iconst 1, 1) := by decide +kernel
theorem dX12_isPlaced_128 : decode cX12_isPlaced 128 = .ok (.goto 4, 3) := by decide +kernel
theorem dX12_isPlaced_131 : decode cX12_isPlaced 131 = .ok (.iconst 0, 1) := by decide +kernel
theorem dX12_isPlaced_132 : decode cX12_isPlaced 132 = .ok (.iadd, 1) := by decide +kernel
theorem dX12_isPlaced_133 : decode cX12_isPlaced 133 = .ok (.iastore, 1) := by decide +kernel
theorem dX12_isPlaced_134 : decode cX12_isPlaced 134 = .ok (.aload_n 0, 1) := by decide +kernel
theorem dX12_isPlaced_135 : decode cX12_isPlaced 135 = .ok (.getfield 79, 3) := by decide +kernel
theorem dX12_isPlaced_138 : decode cX12_isPlaced 138 = .ok (.bipush 20, 2) := by decide +kernel
theorem dX12_isPlaced_140 : decode cX12_isPlaced 140 = .ok (.aload_n 0, 1) := by decide +kernel
theorem dX12_isPlaced_141 : decode cX12_isPlaced 141 = .ok (.getfield 243, 3) := by decide +kernel
theorem dX12_isPlaced_144 : decode cX12_isPlaced 144 = .ok (.imul, 1) := by decide +kernel
theorem dX12_isPlaced_145 : decode cX12_isPlaced 145 = .ok (.iload_n 1, 1) := by decide +kernel
theorem dX12_isPlaced_146 : decode cX12_isPlaced 146 = .ok (.iadd, 1) := by decide +kernel
theorem dX12_isPlaced_147 : decode cX12_isPlaced 147 = .ok (.iload_n 3, 1) := by decide +kernel
theorem dX12_isPlaced_148 : decode cX12_isPlaced 148 = .ok (.iastore, 1) := by decide +kernel
theorem dX12_isPlaced_149 : decode cX12_isPlaced 149 = .ok (.iconst 1, 1) := by decide +kernel
theorem dX12_isPlaced_150 : decode cX12_isPlaced 150 = .ok (.ireturn, 1) := by decide +kernel
theorem dX12_where_0 : decode cX12_where 0 = .ok (.bipush 20, 2) := by decide +kernel
theorem dX12_where_2 : decode cX12_where 2 = .ok (.aload_n 0, 1) := by decide +kernel
theorem dX12_where_3 : decode cX12_where 3 = .ok (.getfield 243, 3) := by decide +kernel
theorem dX12_where_6 : decode cX12_where 6 = .ok (.imul, 1) := by decide +kernel
theorem dX12_where_7 : decode cX12_where 7 = .ok (.iload_n 1, 1) := by decide +kernel
theorem dX12_where_8 : decode cX12_where 8 = .ok (.iadd, 1) := by decide +kernel
theorem dX12_where_9 : decode cX12_where 9 = .ok (.istore 4, 2) := by decide +kernel
theorem dX12_where_11 : decode cX12_where 11 = .ok (.aload_n 0, 1) := by decide +kernel
theorem dX12_where_12 : decode cX12_where 12 = .ok (.getfield 19, 3) := by decide +kernel
theorem dX12_where_15 : decode cX12_where 15 = .ok (.iload_n 1, 1) := by decide +kernel
theorem dX12_where_16 : decode cX12_where 16 = .ok (.iaload, 1) := by decide +kernel
theorem dX12_where_17 : decode cX12_where 17 = .ok (.iconst 2, 1) := by decide +kernel
theorem dX12_where_18 : decode cX12_where 18 = .ok (.if_icmp .ne 18, 3) := by decide +kernel
theorem dX12_where_21 : decode cX12_where 21 = .ok (.iload_n 2, 1) := by decide +kernel
theorem dX12_where_22 : decode cX12_where 22 = .ok (.aload_n 0, 1) := by decide +kernel
theorem dX12_where_23 : decode cX12_where 23 = .ok (.getfield 79, 3) := by decide +kernel
theorem dX12_where_26 : decode cX12_where 26 = .ok (.iload 4, 2) := by decide +kernel
theorem dX12_where_28 : decode cX12_where 28 = .ok (.iaload, 1) := by decide +kernel
theorem dX12_where_29 : decode cX12_where 29 = .ok (.iadd, 1) := by decide +kernel
theorem dX12_where_30 : decode cX12_where 30 = .ok (.aload_n 0, 1) := by decide +kernel
theorem dX12_where_31 : decode cX12_where 31 = .ok (.getfield 182, 3) := by decide +kernel
theorem dX12_where_34 : decode cX12_where 34 = .ok (.irem, 1) := by decide +kernel
theorem dX12_where_35 : decode cX12_where 35 = .ok (.ireturn, 1) := by decide +kernel
theorem dX12_where_36 : decode cX12_where 36 = .ok (.aload_n 0, 1) := by decide +kernel
theorem dX12_where_37 : decode cX12_where 37 = .ok (.getfield 19, 3) := by decide +kernel
theorem dX12_where_40 : decode cX12_where 40 = .ok (.iload_n 1, 1) := by decide +kernel
theorem dX12_where_41 : decode cX12_where 41 = .ok (.iaload, 1) := by decide +kernel
theorem dX12_where_42 : decode cX12_where 42 = .ok (.iconst 1, 1) := by decide +kernel
theorem dX12_where_43 : decode cX12_where 43 = .ok (.if_icmp .ne 22, 3) := by decide +kernel
theorem dX12_where_46 : decode cX12_where 46 = .ok (.aload_n 0, 1) := by decide +kernel
theorem dX12_where_47 : decode cX12_where 47 = .ok (.getfield 82, 3) := by decide +kernel
theorem dX12_where_50 : decode cX12_where 50 = .ok (.iload 4, 2) := by decide +kernel
theorem dX12_where_52 : decode cX12_where 52 = .ok (.iaload, 1) := by decide +kernel
theorem dX12_where_53 : decode cX12_where 53 = .ok (.iload_n 3, 1) := by decide +kernel
theorem dX12_where_54 : decode cX12_where 54 = .ok (.ishr, 1) := by decide +kernel
theorem dX12_where_55 : decode cX12_where 55 = .ok (.iconst 1, 1) := by decide +kernel
theorem dX12_where_56 : decode cX12_where 56 = .ok (.iand, 1) := by decide +kernel
theorem dX12_where_57 : decode cX12_where 57 = .ok (.iconst 1, 1) := by decide +kernel
theorem dX12_where_58 : decode cX12_where 58 = .ok (.if_icmp .ne 7, 3) := by decide +kernel
theorem dX12_where_61 : decode cX12_where 61 = .ok (.iload_n 3, 1) := by decide +kernel
