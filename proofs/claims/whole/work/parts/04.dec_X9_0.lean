theorem dX9_init_0 : decode cX9_init 0 = .ok (.aload_n 0, 1) := by decide +kernel
theorem dX9_init_1 : decode cX9_init 1 = .ok (.invokespecial 1, 3) := by decide +kernel
theorem dX9_init_4 : decode cX9_init 4 = .ok (.aload_n 0, 1) := by decide +kernel
theorem dX9_init_5 : decode cX9_init 5 = .ok (.iconst 1, 1) := by decide +kernel
theorem dX9_init_6 : decode cX9_init 6 = .ok (.putfield 7, 3) := by decide +kernel
theorem dX9_init_9 : decode cX9_init 9 = .ok (.aload_n 0, 1) := by decide +kernel
theorem dX9_init_10 : decode cX9_init 10 = .ok (.iconst 1, 1) := by decide +kernel
theorem dX9_init_11 : decode cX9_init 11 = .ok (.putfield 13, 3) := by decide +kernel
theorem dX9_init_14 : decode cX9_init 14 = .ok (.aload_n 0, 1) := by decide +kernel
theorem dX9_init_15 : decode cX9_init 15 = .ok (.bipush 8, 2) := by decide +kernel
theorem dX9_init_17 : decode cX9_init 17 = .ok (.putfield 16, 3) := by decide +kernel
theorem dX9_init_20 : decode cX9_init 20 = .ok (.aload_n 0, 1) := by decide +kernel
theorem dX9_init_21 : decode cX9_init 21 = .ok (.iconst 1, 1) := by decide +kernel
theorem dX9_init_22 : decode cX9_init 22 = .ok (.putfield 19, 3) := by decide +kernel
theorem dX9_init_25 : decode cX9_init 25 = .ok (.aload_n 0, 1) := by decide +kernel
theorem dX9_init_26 : decode cX9_init 26 = .ok (.bipush 8, 2) := by decide +kernel
theorem dX9_init_28 : decode cX9_init 28 = .ok (.newarray .int, 2) := by decide +kernel
theorem dX9_init_30 : decode cX9_init 30 = .ok (.putfield 22, 3) := by decide +kernel
theorem dX9_init_33 : decode cX9_init 33 = .ok (.aload_n 0, 1) := by decide +kernel
theorem dX9_init_34 : decode cX9_init 34 = .ok (.bipush 8, 2) := by decide +kernel
theorem dX9_init_36 : decode cX9_init 36 = .ok (.newarray .int, 2) := by decide +kernel
theorem dX9_init_38 : decode cX9_init 38 = .ok (.putfield 26, 3) := by decide +kernel
theorem dX9_init_41 : decode cX9_init 41 = .ok (.aload_n 0, 1) := by decide +kernel
theorem dX9_init_42 : decode cX9_init 42 = .ok (.bipush 64, 2) := by decide +kernel
theorem dX9_init_44 : decode cX9_init 44 = .ok (.newarray .int, 2) := by decide +kernel
theorem dX9_init_46 : decode cX9_init 46 = .ok (.putfield 29, 3) := by decide +kernel
theorem dX9_init_49 : decode cX9_init 49 = .ok (.aload_n 0, 1) := by decide +kernel
theorem dX9_init_50 : decode cX9_init 50 = .ok (.sipush 700, 3) := by decide +kernel
theorem dX9_init_53 : decode cX9_init 53 = .ok (.newarray .int, 2) := by decide +kernel
theorem dX9_init_55 : decode cX9_init 55 = .ok (.putfield 32, 3) := by decide +kernel
theorem dX9_init_58 : decode cX9_init 58 = .ok (.aload_n 0, 1) := by decide +kernel
theorem dX9_init_59 : decode cX9_init 59 = .ok (.iconst (-1), 1) := by decide +kernel
theorem dX9_init_60 : decode cX9_init 60 = .ok (.putfield 35, 3) := by decide +kernel
theorem dX9_init_63 : decode cX9_init 63 = .ok (.aload_n 0, 1) := by decide +kernel
theorem dX9_init_64 : decode cX9_init 64 = .ok (.iconst 3, 1) := by decide +kernel
theorem dX9_init_65 : decode cX9_init 65 = .ok (.newarray .int, 2) := by decide +kernel
theorem dX9_init_67 : decode cX9_init 67 = .ok (.putfield 38, 3) := by decide +kernel
theorem dX9_init_70 : decode cX9_init 70 = .ok (.aload_n 0, 1) := by decide +kernel
theorem dX9_init_71 : decode cX9_init 71 = .ok (.bipush 8, 2) := by decide +kernel
theorem dX9_init_73 : decode cX9_init 73 = .ok (.newarray .int, 2) := by decide +kernel
theorem dX9_init_75 : decode cX9_init 75 = .ok (.putfield 41, 3) := by decide +kernel
theorem dX9_init_78 : decode cX9_init 78 = .ok (.aload_n 0, 1) := by decide +kernel
theorem dX9_init_79 : decode cX9_init 79 = .ok (.bipush 8, 2) := by decide +kernel
theorem dX9_init_81 : decode cX9_init 81 = .ok (.newarray .int, 2) := by decide +kernel
theorem dX9_init_83 : decode cX9_init 83 = .ok (.putfield 44, 3) := by decide +kernel
theorem dX9_init_86 : decode cX9_init 86 = .ok (.aload_n 0, 1) := by decide +kernel
theorem dX9_init_87 : decode cX9_init 87 = .ok (.bipush 64, 2) := by decide +kernel
theorem dX9_init_89 : decode cX9_init 89 = .ok (.newarray .int, 2) := by decide +kernel
theorem dX9_init_91 : decode cX9_init 91 = .ok (.putfield 47, 3) := by decide +kernel
theorem dX9_init_94 : decode cX9_init 94 = .ok (.aload_n 0, 1) := by decide +kernel
theorem dX9_init_95 : decode cX9_init 95 = .ok (.sipush 20000, 3) := by decide +kernel
theorem dX9_init_98 : decode cX9_init 98 = .ok (.newarray .int, 2) := by decide +kernel
theorem dX9_init_100 : decode cX9_init 100 = .ok (.putfield 50, 3) := by decide +kernel
theorem dX9_init_103 : decode cX9_init 103 = .ok (.aload_n 0, 1) := by decide +kernel
theorem dX9_init_104 : decode cX9_init 104 = .ok (.sipush 20000, 3) := by decide +kernel
theorem dX9_init_107 : decode cX9_init 107 = .ok (.newarray .int, 2) := by decide +kernel
theorem dX9_init_109 : decode cX9_init 109 = .ok (.putfield 53, 3) := by decide +kernel
theorem dX9_init_112 : decode cX9_init 112 = .ok (.aload_n 0, 1) := by decide +kernel
theorem dX9_init_113 : decode cX9_init 113 = .ok (.sipush 20000, 3) := by decide +kernel
theorem dX9_init_116 : decode cX9_init 116 = .ok (.newarray .int, 2) := by decide +kernel
theorem dX9_init_118 : decode cX9_init 118 = .ok (.putfield 56, 3) := by decide +kernel
theorem dX9_init_121 : decode cX9_init 121 = .ok (.aload_n 0, 1) := by decide +kernel
theorem dX9_init_122 : decode cX9_init 122 = .ok (.sipush 20000, 3) := by decide +kernel
theorem dX9_init_125 : decode cX9_init 125 = .ok (.newarray .int, 2) := by decide +kernel
theorem dX9_init_127 : decode cX9_init 127 = .ok (.putfield 59, 3) := by decide +kernel
theorem dX9_init_130 : decode cX9_init 130 = .ok (.aload_n 0, 1) := by decide +kernel
theorem dX9_init_131 : decode cX9_init 131 = .ok (.ldc 62, 2) := by decide +kernel
theorem dX9_init_133 : decode cX9_init 133 = .ok (.newarray .int, 2) := by decide +kernel
theorem dX9_init_135 : decode cX9_init 135 = .ok (.putfield 63, 3) := by decide +kernel
theorem dX9_init_138 : decode cX9_init 138 = .ok (.aload_n 0, 1) := by decide +kernel
theorem dX9_init_139 : decode cX9_init 139 = .ok (.ldc 66, 2) := by decide +kernel
theorem dX9_init_141 : decode cX9_init 141 = .ok (.newarray .int, 2) := by decide +kernel
theorem dX9_init_143 : decode cX9_init 143 = .ok (.putfield 67, 3) := by decide +kernel
theorem dX9_init_146 : decode cX9_init 146 = .ok (.aload_n 0, 1) := by decide +kernel
theorem dX9_init_147 : decode cX9_init 147 = .ok (.bipush 8, 2) := by decide +kernel
theorem dX9_init_149 : decode cX9_init 149 = .ok (.newarray .int, 2) := by decide +kernel
theorem dX9_init_151 : decode cX9_init 151 = .ok (.putfield 70, 3) := by decide +kernel
theorem dX9_init_154 : decode cX9_init 154 = .ok (.aload_n 0, 1) := by decide +kernel
theorem dX9_init_155 : decode cX9_init 155 = .ok (.bipush 8, 2) := by decide +kernel
theorem dX9_init_157 : decode cX9_init 157 = .ok (.newarray .int, 2) := by decide +kernel
theorem dX9_init_159 : decode cX9_init 159 = .ok (.putfield 73, 3) := by decide +kernel
theorem dX9_init_162 : decode cX9_init 162 = .ok (.aload_n 0, 1) := by decide +kernel
theorem dX9_init_163 : decode cX9_init 163 = .ok (.ldc 62, 2) := by decide +kernel
theorem dX9_init_165 : decode cX9_init 165 = .ok (.newarray .long, 2) := by decide +kernel
theorem dX9_init_167 : decode cX9_init 167 = .ok (.putfield 76, 3) := by decide +kernel
theorem dX9_init_170 : decode cX9_init 170 = .ok (.aload_n 0, 1) := by decide +kernel
theorem dX9_init_171 : decode cX9_init 171 = .ok (.sipush 20000, 3) := by decide +kernel
theorem dX9_init_174 : decode cX9_init 174 = .ok (.newarray .long, 2) := by decide +kernel
theorem dX9_init_176 : decode cX9_init 176 = .ok (.putfield 80, 3) := by decide +kernel
theorem dX9_init_179 : decode cX9_init 179 = .ok (.aload_n 0, 1) := by decide +kernel
theorem dX9_init_180 : decode cX9_init 180 = .ok (.sipush 20000, 3) := by decide +kernel
theorem dX9_init_183 : decode cX9_init 183 = .ok (.newarray .int, 2) := by decide +kernel
theorem dX9_init_185 : decode cX9_init 185 = .ok (.putfield 83, 3) := by decide +kernel
theorem dX9_init_188 : decode cX9_init 188 = .ok (.aload_n 0, 1) := by decide +kernel
theorem dX9_init_189 : decode cX9_init 189 = .ok (.sipush 20000, 3) := by decide +kernel
theorem dX9_init_192 : decode cX9_init 192 = .ok (.newarray .long, 2) := by decide +kernel
theorem dX9_init_194 : decode cX9_init 194 = .ok (.putfield 86, 3) := by decide +kernel
theorem dX9_init_197 : decode cX9_init 197 = .ok (.aload_n 0, 1) := by decide +kernel
theorem dX9_init_198 : decode cX9_init 198 = .ok (.bipush 96, 2) := by decide +kernel
theorem dX9_init_200 : decode cX9_init 200 = .ok (.newarray .long, 2) := by decide +kernel
theorem dX9_init_202 : decode cX9_init 202 = .ok (.putfield 89, 3) := by decide +kernel
theorem dX9_init_205 : decode cX9_init 205 = .ok (.aload_n 0, 1) := by decide +kernel
theorem dX9_init_206 : decode cX9_init 206 = .ok (.bipush 20, 2) := by decide +kernel
theorem dX9_init_208 : decode cX9_init 208 = .ok (.newarray .int, 2) := by decide +kernel
theorem dX9_init_210 : decode cX9_init 210 = .ok (.putfield 92, 3) := by decide +kernel
theorem dX9_init_213 : decode cX9_init 213 = .ok (.aload_n 0, 1) := by decide +kernel
theorem dX9_init_214 : decode cX9_init 214 = .ok (.sipush 400, 3) := by decide +kernel
theorem dX9_init_217 : decode cX9_init 217 = .ok (.newarray .int, 2) := by decide +kernel
theorem dX9_init_219 : decode cX9_init 219 = .ok (.putfield 95, 3) := by decide +kernel
theorem dX9_init_222 : decode cX9_init 222 = .ok (.aload_n 0, 1) := by decide +kernel
theorem dX9_init_223 : decode cX9_init 223 = .ok (.bipush 20, 2) := by decide +kernel
theorem dX9_init_225 : decode cX9_init 225 = .ok (.newarray .int, 2) := by decide +kernel
theorem dX9_init_227 : decode cX9_init 227 = .ok (.putfield 98, 3) := by decide +kernel
theorem dX9_init_230 : decode cX9_init 230 = .ok (.aload_n 0, 1) := by decide +kernel
theorem dX9_init_231 : decode cX9_init 231 = .ok (.bipush 20, 2) := by decide +kernel
theorem dX9_init_233 : decode cX9_init 233 = .ok (.newarray .int, 2) := by decide +kernel
theorem dX9_init_235 : decode cX9_init 235 = .ok (.putfield 101, 3) := by decide +kernel
theorem dX9_init_238 : decode cX9_init 238 = .ok (.aload_n 0, 1) := by decide +kernel
theorem dX9_init_239 : decode cX9_init 239 = .ok (.bipush 32, 2) := by decide +kernel
theorem dX9_init_241 : decode cX9_init 241 = .ok (.newarray .int, 2) := by decide +kernel
theorem dX9_init_243 : decode cX9_init 243 = .ok (.dup, 1) := by decide +kernel
theorem dX9_init_244 : decode cX9_init 244 = .ok (.iconst 0, 1) := by decide +kernel
theorem dX9_init_245 : decode cX9_init 245 = .ok (.iconst (-1), 1) := by decide +kernel
theorem dX9_init_246 : decode cX9_init 246 = .ok (.iastore, 1) := by decide +kernel
theorem dX9_init_247 : decode cX9_init 247 = .ok (.dup, 1) := by decide +kernel
theorem dX9_init_248 : decode cX9_init 248 = .ok (.iconst 1, 1) := by decide +kernel
theorem dX9_init_249 : decode cX9_init 249 = .ok (.iconst (-1), 1) := by decide +kernel
theorem dX9_init_250 : decode cX9_init 250 = .ok (.iastore, 1) := by decide +kernel
theorem dX9_init_251 : decode cX9_init 251 = .ok (.dup, 1) := by decide +kernel
theorem dX9_init_252 : decode cX9_init 252 = .ok (.iconst 2, 1) := by decide +kernel
theorem dX9_init_253 : decode cX9_init 253 = .ok (.iconst (-1), 1) := by decide +kernel
theorem dX9_init_254 : decode cX9_init 254 = .ok (.iastore, 1) := by decide +kernel
theorem dX9_init_255 : decode cX9_init 255 = .ok (.dup, 1) := by decide +kernel
theorem dX9_init_256 : decode cX9_init 256 = .ok (.iconst 3, 1) := by decide +kernel
theorem dX9_init_257 : decode cX9_init 257 = .ok (.iconst (-1), 1) := by decide +kernel
theorem dX9_init_258 : decode cX9_init 258 = .ok (.iastore, 1) := by decide +kernel
theorem dX9_init_259 : decode cX9_init 259 = .ok (.dup, 1) := by decide +kernel
theorem dX9_init_260 : decode cX9_init 260 = .ok (.iconst 4, 1) := by decide +kernel
theorem dX9_init_261 : decode cX9_init 261 = .ok (.iconst (-1), 1) := by decide +kernel
theorem dX9_init_262 : decode cX9_init 262 = .ok (.iastore, 1) := by decide +kernel
theorem dX9_init_263 : decode cX9_init 263 = .ok (.dup, 1) := by decide +kernel
theorem dX9_init_264 : decode cX9_init 264 = .ok (.iconst 5, 1) := by decide +kernel
theorem dX9_init_265 : decode cX9_init 265 = .ok (.iconst (-1), 1) := by decide +kernel
theorem dX9_init_266 : decode cX9_init 266 = .ok (.iastore, 1) := by decide +kernel
theorem dX9_init_267 : decode cX9_init 267 = .ok (.dup, 1) := by decide +kernel
theorem dX9_init_268 : decode cX9_init 268 = .ok (.bipush 6, 2) := by decide +kernel
theorem dX9_init_270 : decode cX9_init 270 = .ok (.iconst (-1), 1) := by decide +kernel
theorem dX9_init_271 : decode cX9_init 271 = .ok (.iastore, 1) := by decide +kernel
theorem dX9_init_272 : decode cX9_init 272 = .ok (.dup, 1) := by decide +kernel
theorem dX9_init_273 : decode cX9_init 273 = .ok (.bipush 7, 2) := by decide +kernel
theorem dX9_init_275 : decode cX9_init 275 = .ok (.iconst (-1), 1) := by decide +kernel
theorem dX9_init_276 : decode cX9_init 276 = .ok (.iastore, 1) := by decide +kernel
theorem dX9_init_277 : decode cX9_init 277 = .ok (.dup, 1) := by decide +kernel
theorem dX9_init_278 : decode cX9_init 278 = .ok (.bipush 8, 2) := by decide +kernel
theorem dX9_init_280 : decode cX9_init 280 = .ok (.iconst (-1), 1) := by decide +kernel
theorem dX9_init_281 : decode cX9_init 281 = .ok (.iastore, 1) := by decide +kernel
theorem dX9_init_282 : decode cX9_init 282 = .ok (.dup, 1) := by decide +kernel
theorem dX9_init_283 : decode cX9_init 283 = .ok (.bipush 9, 2) := by decide +kernel
theorem dX9_init_285 : decode cX9_init 285 = .ok (.iconst (-1), 1) := by decide +kernel
theorem dX9_init_286 : decode cX9_init 286 = .ok (.iastore, 1) := by decide +kernel
theorem dX9_init_287 : decode cX9_init 287 = .ok (.dup, 1) := by decide +kernel
theorem dX9_init_288 : decode cX9_init 288 = .ok (.bipush 10, 2) := by decide +kernel
theorem dX9_init_290 : decode cX9_init 290 = .ok (.iconst (-1), 1) := by decide +kernel
theorem dX9_init_291 : decode cX9_init 291 = .ok (.iastore, 1) := by decide +kernel
theorem dX9_init_292 : decode cX9_init 292 = .ok (.dup, 1) := by decide +kernel
theorem dX9_init_293 : decode cX9_init 293 = .ok (.bipush 11, 2) := by decide +kernel
theorem dX9_init_295 : decode cX9_init 295 = .ok (.iconst (-1), 1) := by decide +kernel
theorem dX9_init_296 : decode cX9_init 296 = .ok (.iastore, 1) := by decide +kernel
theorem dX9_init_297 : decode cX9_init 297 = .ok (.dup, 1) := by decide +kernel
theorem dX9_init_298 : decode cX9_init 298 = .ok (.bipush 12, 2) := by decide +kernel
theorem dX9_init_300 : decode cX9_init 300 = .ok (.iconst (-1), 1) := by decide +kernel
theorem dX9_init_301 : decode cX9_init 301 = .ok (.iastore, 1) := by decide +kernel
theorem dX9_init_302 : decode cX9_init 302 = .ok (.dup, 1) := by decide +kernel
theorem dX9_init_303 : decode cX9_init 303 = .ok (.bipush 13, 2) := by decide +kernel
theorem dX9_init_305 : decode cX9_init 305 = .ok (.iconst (-1), 1) := by decide +kernel
theorem dX9_init_306 : decode cX9_init 306 = .ok (.iastore, 1) := by decide +kernel
theorem dX9_init_307 : decode cX9_init 307 = .ok (.dup, 1) := by decide +kernel
theorem dX9_init_308 : decode cX9_init 308 = .ok (.bipush 14, 2) := by decide +kernel
theorem dX9_init_310 : decode cX9_init 310 = .ok (.iconst (-1), 1) := by decide +kernel
theorem dX9_init_311 : decode cX9_init 311 = .ok (.iastore, 1) := by decide +kernel
theorem dX9_init_312 : decode cX9_init 312 = .ok (.dup, 1) := by decide +kernel
theorem dX9_init_313 : decode cX9_init 313 = .ok (.bipush 15, 2) := by decide +kernel
theorem dX9_init_315 : decode cX9_init 315 = .ok (.iconst (-1), 1) := by decide +kernel
theorem dX9_init_316 : decode cX9_init 316 = .ok (.iastore, 1) := by decide +kernel
theorem dX9_init_317 : decode cX9_init 317 = .ok (.dup, 1) := by decide +kernel
theorem dX9_init_318 : decode cX9_init 318 = .ok (.bipush 16, 2) := by decide +kernel
theorem dX9_init_320 : decode cX9_init 320 = .ok (.iconst (-1), 1) := by decide +kernel
theorem dX9_init_321 : decode cX9_init 321 = .ok (.iastore, 1) := by decide +kernel
theorem dX9_init_322 : decode cX9_init 322 = .ok (.dup, 1) := by decide +kernel
theorem dX9_init_323 : decode cX9_init 323 = .ok (.bipush 17, 2) := by decide +kernel
theorem dX9_init_325 : decode cX9_init 325 = .ok (.iconst (-1), 1) := by decide +kernel
theorem dX9_init_326 : decode cX9_init 326 = .ok (.iastore, 1) := by decide +kernel
theorem dX9_init_327 : decode cX9_init 327 = .ok (.dup, 1) := by decide +kernel
theorem dX9_init_328 : decode cX9_init 328 = .ok (.bipush 18, 2) := by decide +kernel
theorem dX9_init_330 : decode cX9_init 330 = .ok (.iconst (-1), 1) := by decide +kernel
theorem dX9_init_331 : decode cX9_init 331 = .ok (.iastore, 1) := by decide +kernel
theorem dX9_init_332 : decode cX9_init 332 = .ok (.dup, 1) := by decide +kernel
theorem dX9_init_333 : decode cX9_init 333 = .ok (.bipush 19, 2) := by decide +kernel
theorem dX9_init_335 : decode cX9_init 335 = .ok (.iconst (-1), 1) := by decide +kernel
theorem dX9_init_336 : decode cX9_init 336 = .ok (.iastore, 1) := by decide +kernel
theorem dX9_init_337 : decode cX9_init 337 = .ok (.dup, 1) := by decide +kernel
theorem dX9_init_338 : decode cX9_init 338 = .ok (.bipush 20, 2) := by decide +kernel
theorem dX9_init_340 : decode cX9_init 340 = .ok (.iconst (-1), 1) := by decide +kernel
theorem dX9_init_341 : decode cX9_init 341 = .ok (.iastore, 1) := by decide +kernel
theorem dX9_init_342 : decode cX9_init 342 = .ok (.dup, 1) := by decide +kernel
theorem dX9_init_343 : decode cX9_init 343 = .ok (.bipush 21, 2) := by decide +kernel
theorem dX9_init_345 : decode cX9_init 345 = .ok (.iconst (-1), 1) := by decide +kernel
theorem dX9_init_346 : decode cX9_init 346 = .ok (.iastore, 1) := by decide +kernel
theorem dX9_init_347 : decode cX9_init 347 = .ok (.dup, 1) := by decide +kernel
theorem dX9_init_348 : decode cX9_init 348 = .ok (.bipush 22, 2) := by decide +kernel
theorem dX9_init_350 : decode cX9_init 350 = .ok (.iconst (-1), 1) := by decide +kernel
theorem dX9_init_351 : decode cX9_init 351 = .ok (.iastore, 1) := by decide +kernel
theorem dX9_init_352 : decode cX9_init 352 = .ok (.dup, 1) := by decide +kernel
theorem dX9_init_353 : decode cX9_init 353 = .ok (.bipush 23, 2) := by decide +kernel
theorem dX9_init_355 : decode cX9_init 355 = .ok (.iconst (-1), 1) := by decide +kernel
theorem dX9_init_356 : decode cX9_init 356 = .ok (.iastore, 1) := by decide +kernel
theorem dX9_init_357 : decode cX9_init 357 = .ok (.dup, 1) := by decide +kernel
theorem dX9_init_358 : decode cX9_init 358 = .ok (.bipush 24, 2) := by decide +kernel
theorem dX9_init_360 : decode cX9_init 360 = .ok (.iconst (-1), 1) := by decide +kernel
theorem dX9_init_361 : decode cX9_init 361 = .ok (.iastore, 1) := by decide +kernel
theorem dX9_init_362 : decode cX9_init 362 = .ok (.dup, 1) := by decide +kernel
theorem dX9_init_363 : decode cX9_init 363 = .ok (.bipush 25, 2) := by decide +kernel
theorem dX9_init_365 : decode cX9_init 365 = .ok (.iconst (-1), 1) := by decide +kernel
theorem dX9_init_366 : decode cX9_init 366 = .ok (.iastore, 1) := by decide +kernel
theorem dX9_init_367 : decode cX9_init 367 = .ok (.dup, 1) := by decide +kernel
theorem dX9_init_368 : decode cX9_init 368 = .ok (.bipush 26, 2) := by decide +kernel
theorem dX9_init_370 : decode cX9_init 370 = .ok (.iconst (-1), 1) := by decide +kernel
theorem dX9_init_371 : decode cX9_init 371 = .ok (.iastore, 1) := by decide +kernel
theorem dX9_init_372 : decode cX9_init 372 = .ok (.dup, 1) := by decide +kernel
theorem dX9_init_373 : decode cX9_init 373 = .ok (.bipush 27, 2) := by decide +kernel
theorem dX9_init_375 : decode cX9_init 375 = .ok (.iconst (-1), 1) := by decide +kernel
theorem dX9_init_376 : decode cX9_init 376 = .ok (.iastore, 1) := by decide +kernel
theorem dX9_init_377 : decode cX9_init 377 = .ok (.dup, 1) := by decide +kernel
theorem dX9_init_378 : decode cX9_init 378 = .ok (.bipush 28, 2) := by decide +kernel
theorem dX9_init_380 : decode cX9_init 380 = .ok (.iconst (-1), 1) := by decide +kernel
theorem dX9_init_381 : decode cX9_init 381 = .ok (.iastore, 1) := by decide +kernel
theorem dX9_init_382 : decode cX9_init 382 = .ok (.dup, 1) := by decide +kernel
theorem dX9_init_383 : decode cX9_init 383 = .ok (.bipush 29, 2) := by decide +kernel
theorem dX9_init_385 : decode cX9_init 385 = .ok (.iconst (-1), 1) := by decide +kernel
theorem dX9_init_386 : decode cX9_init 386 = .ok (.iastore, 1) := by decide +kernel
theorem dX9_init_387 : decode cX9_init 387 = .ok (.dup, 1) := by decide +kernel
theorem dX9_init_388 : decode cX9_init 388 = .ok (.bipush 30, 2) := by decide +kernel
theorem dX9_init_390 : decode cX9_init 390 = .ok (.iconst (-1), 1) := by decide +kernel
theorem dX9_init_391 : decode cX9_init 391 = .ok (.iastore, 1) := by decide +kernel
theorem dX9_init_392 : decode cX9_init 392 = .ok (.dup, 1) := by decide +kernel
theorem dX9_init_393 : decode cX9_init 393 = .ok (.bipush 31, 2) := by decide +kernel
theorem dX9_init_395 : decode cX9_init 395 = .ok (.iconst (-1), 1) := by decide +kernel
theorem dX9_init_396 : decode cX9_init 396 = .ok (.iastore, 1) := by decide +kernel
theorem dX9_init_397 : decode cX9_init 397 = .ok (.putfield 104, 3) := by decide +kernel
theorem dX9_init_400 : decode cX9_init 400 = .ok (.aload_n 0, 1) := by decide +kernel
theorem dX9_init_401 : decode cX9_init 401 = .ok (.bipush 32, 2) := by decide +kernel
theorem dX9_init_403 : decode cX9_init 403 = .ok (.newarray .int, 2) := by decide +kernel
theorem dX9_init_405 : decode cX9_init 405 = .ok (.putfield 107, 3) := by decide +kernel
theorem dX9_init_408 : decode cX9_init 408 = .ok (.aload_n 0, 1) := by decide +kernel
theorem dX9_init_409 : decode cX9_init 409 = .ok (.iconst 4, 1) := by decide +kernel
theorem dX9_init_410 : decode cX9_init 410 = .ok (.newarray .long, 2) := by decide +kernel
theorem dX9_init_412 : decode cX9_init 412 = .ok (.putfield 110, 3) := by decide +kernel
theorem dX9_init_415 : decode cX9_init 415 = .ok (.aload_n 0, 1) := by decide +kernel
theorem dX9_init_416 : decode cX9_init 416 = .ok (.bipush 80, 2) := by decide +kernel
theorem dX9_init_418 : decode cX9_init 418 = .ok (.newarray .long, 2) := by decide +kernel
theorem dX9_init_420 : decode cX9_init 420 = .ok (.putfield 113, 3) := by decide +kernel
theorem dX9_init_423 : decode cX9_init 423 = .ok (.aload_n 0, 1) := by decide +kernel
theorem dX9_init_424 : decode cX9_init 424 = .ok (.bipush 12, 2) := by decide +kernel
theorem dX9_init_426 : decode cX9_init 426 = .ok (.newarray .int, 2) := by decide +kernel
theorem dX9_init_428 : decode cX9_init 428 = .ok (.putfield 116, 3) := by decide +kernel
theorem dX9_init_431 : decode cX9_init 431 = .ok (.aload_n 0, 1) := by decide +kernel
theorem dX9_init_432 : decode cX9_init 432 = .ok (.sipush 20000, 3) := by decide +kernel
theorem dX9_init_435 : decode cX9_init 435 = .ok (.newarray .long, 2) := by decide +kernel
theorem dX9_init_437 : decode cX9_init 437 = .ok (.putfield 119, 3) := by decide +kernel
theorem dX9_init_440 : decode cX9_init 440 = .ok (.aload_n 0, 1) := by decide +kernel
theorem dX9_init_441 : decode cX9_init 441 = .ok (.sipush 20000, 3) := by decide +kernel
theorem dX9_init_444 : decode cX9_init 444 = .ok (.newarray .long, 2) := by decide +kernel
theorem dX9_init_446 : decode cX9_init 446 = .ok (.putfield 122, 3) := by decide +kernel
theorem dX9_init_449 : decode cX9_init 449 = .ok (.aload_n 0, 1) := by decide +kernel
theorem dX9_init_450 : decode cX9_init 450 = .ok (.bipush 8, 2) := by decide +kernel
theorem dX9_init_452 : decode cX9_init 452 = .ok (.newarray .long, 2) := by decide +kernel
theorem dX9_init_454 : decode cX9_init 454 = .ok (.putfield 125, 3) := by decide +kernel
theorem dX9_init_457 : decode cX9_init 457 = .ok (.aload_n 0, 1) := by decide +kernel
theorem dX9_init_458 : decode cX9_init 458 = .ok (.bipush 30, 2) := by decide +kernel
theorem dX9_init_460 : decode cX9_init 460 = .ok (.newarray .int, 2) := by decide +kernel
theorem dX9_init_462 : decode cX9_init 462 = .ok (.putfield 128, 3) := by decide +kernel
theorem dX9_init_465 : decode cX9_init 465 = .ok (.aload_n 0, 1) := by decide +kernel
theorem dX9_init_466 : decode cX9_init 466 = .ok (.bipush 30, 2) := by decide +kernel
theorem dX9_init_468 : decode cX9_init 468 = .ok (.newarray .int, 2) := by decide +kernel
theorem dX9_init_470 : decode cX9_init 470 = .ok (.putfield 131, 3) := by decide +kernel
theorem dX9_init_473 : decode cX9_init 473 = .ok (.aload_n 0, 1) := by decide +kernel
theorem dX9_init_474 : decode cX9_init 474 = .ok (.bipush 8, 2) := by decide +kernel
theorem dX9_init_476 : decode cX9_init 476 = .ok (.newarray .int, 2) := by decide +kernel
theorem dX9_init_478 : decode cX9_init 478 = .ok (.putfield 134, 3) := by decide +kernel
theorem dX9_init_481 : decode cX9_init 481 = .ok (.aload_n 0, 1) := by decide +kernel
theorem dX9_init_482 : decode cX9_init 482 = .ok (.bipush 32, 2) := by decide +kernel
theorem dX9_init_484 : decode cX9_init 484 = .ok (.newarray .long, 2) := by decide +kernel
theorem dX9_init_486 : decode cX9_init 486 = .ok (.putfield 137, 3) := by decide +kernel
theorem dX9_init_489 : decode cX9_init 489 = .ok (.aload_n 0, 1) := by decide +kernel
theorem dX9_init_490 : decode cX9_init 490 = .ok (.iconst 3, 1) := by decide +kernel
theorem dX9_init_491 : decode cX9_init 491 = .ok (.newarray .int, 2) := by decide +kernel
theorem dX9_init_493 : decode cX9_init 493 = .ok (.putfield 140, 3) := by decide +kernel
theorem dX9_init_496 : decode cX9_init 496 = .ok (.aload_n 0, 1) := by decide +kernel
theorem dX9_init_497 : decode cX9_init 497 = .ok (.bipush 8, 2) := by decide +kernel
theorem dX9_init_499 : decode cX9_init 499 = .ok (.newarray .int, 2) := by decide +kernel
theorem dX9_init_501 : decode cX9_init 501 = .ok (.putfield 143, 3) := by decide +kernel
theorem dX9_init_504 : decode cX9_init 504 = .ok (.aload_n 0, 1) := by decide +kernel
theorem dX9_init_505 : decode cX9_init 505 = .ok (.bipush 100, 2) := by decide +kernel
theorem dX9_init_507 : decode cX9_init 507 = .ok (.newarray .int, 2) := by decide +kernel
theorem dX9_init_509 : decode cX9_init 509 = .ok (.putfield 146, 3) := by decide +kernel
theorem dX9_init_512 : decode cX9_init 512 = .ok (.aload_n 0, 1) := by decide +kernel
theorem dX9_init_513 : decode cX9_init 513 = .ok (.bipush 100, 2) := by decide +kernel
theorem dX9_init_515 : decode cX9_init 515 = .ok (.newarray .int, 2) := by decide +kernel
theorem dX9_init_517 : decode cX9_init 517 = .ok (.putfield 149, 3) := by decide +kernel
theorem dX9_init_520 : decode cX9_init 520 = .ok (.aload_n 0, 1) := by decide +kernel
theorem dX9_init_521 : decode cX9_init 521 = .ok (.bipush 100, 2) := by decide +kernel
theorem dX9_init_523 : decode cX9_init 523 = .ok (.newarray .int, 2) := by decide +kernel
theorem dX9_init_525 : decode cX9_init 525 = .ok (.putfield 152, 3) := by decide +kernel
theorem dX9_init_528 : decode cX9_init 528 = .ok (.aload_n 0, 1) := by decide +kernel
theorem dX9_init_529 : decode cX9_init 529 = .ok (.iconst 3, 1) := by decide +kernel
theorem dX9_init_530 : decode cX9_init 530 = .ok (.newarray .int, 2) := by decide +kernel
theorem dX9_init_532 : decode cX9_init 532 = .ok (.putfield 155, 3) := by decide +kernel
theorem dX9_init_535 : decode cX9_init 535 = .ok (.aload_n 0, 1) := by decide +kernel
theorem dX9_init_536 : decode cX9_init 536 = .ok (.bipush 8, 2) := by decide +kernel
theorem dX9_init_538 : decode cX9_init 538 = .ok (.newarray .int, 2) := by decide +kernel
theorem dX9_init_540 : decode cX9_init 540 = .ok (.putfield 158, 3) := by decide +kernel
theorem dX9_init_543 : decode cX9_init 543 = .ok (.aload_n 0, 1) := by decide +kernel
theorem dX9_init_544 : decode cX9_init 544 = .ok (.bipush 100, 2) := by decide +kernel
theorem dX9_init_546 : decode cX9_init 546 = .ok (.newarray .int, 2) := by decide +kernel
theorem dX9_init_548 : decode cX9_init 548 = .ok (.putfield 161, 3) := by decide +kernel
theorem dX9_init_551 : decode cX9_init 551 = .ok (.aload_n 0, 1) := by decide +kernel
theorem dX9_init_552 : decode cX9_init 552 = .ok (.bipush 100, 2) := by decide +kernel
theorem dX9_init_554 : decode cX9_init 554 = .ok (.newarray .int, 2) := by decide +kernel
theorem dX9_init_556 : decode cX9_init 556 = .ok (.putfield 164, 3) := by decide +kernel
theorem dX9_init_559 : decode cX9_init 559 = .ok (.aload_n 0, 1) := by decide +kernel
theorem dX9_init_560 : decode cX9_init 560 = .ok (.bipush 100, 2) := by decide +kernel
theorem dX9_init_562 : decode cX9_init 562 = .ok (.newarray .int, 2) := by decide +kernel
theorem dX9_init_564 : decode cX9_init 564 = .ok (.putfield 167, 3) := by decide +kernel
theorem dX9_init_567 : decode cX9_init 567 = .ok (.return_, 1) := by decide +kernel
theorem dX9_thrown_0 : decode cX9_thrown 0 = .ok (.aload_n 0, 1) := by decide +kernel
theorem dX9_thrown_1 : decode cX9_thrown 1 = .ok (.getfield 170, 3) := by decide +kernel
theorem dX9_thrown_4 : decode cX9_thrown 4 = .ok (.ireturn, 1) := by decide +kernel
theorem dX9_right_0 : decode cX9_right 0 = .ok (.aload_n 0, 1) := by decide +kernel
theorem dX9_right_1 : decode cX9_right 1 = .ok (.getfield 170, 3) := by decide +kernel
theorem dX9_right_4 : decode cX9_right 4 = .ok (.ifCond .ne 12, 3) := by decide +kernel
theorem dX9_right_7 : decode cX9_right 7 = .ok (.iload_n 1, 1) := by decide +kernel
theorem dX9_right_8 : decode cX9_right 8 = .ok (.ifCond .ne 8, 3) := by decide +kernel
theorem dX9_right_11 : decode cX9_right 11 = .ok (.aload_n 0, 1) := by decide +kernel
theorem dX9_right_12 : decode cX9_right 12 = .ok (.iload_n 2, 1) := by decide +kernel
theorem dX9_right_13 : decode cX9_right 13 = .ok (.putfield 170, 3) := by decide +kernel
theorem dX9_right_16 : decode cX9_right 16 = .ok (.aload_n 0, 1) := by decide +kernel
theorem dX9_right_17 : decode cX9_right 17 = .ok (.getfield 170, 3) := by decide +kernel
theorem dX9_right_20 : decode cX9_right 20 = .ok (.ifCond .ne 7, 3) := by decide +kernel
theorem dX9_right_23 : decode cX9_right 23 = .ok (.iconst 1, 1) := by decide +kernel
theorem dX9_right_24 : decode cX9_right 24 = .ok (.goto 4, 3) := by decide +kernel
theorem dX9_right_27 : decode cX9_right 27 = .ok (.iconst 0, 1) := by decide +kernel
theorem dX9_right_28 : decode cX9_right 28 = .ok (.ireturn, 1) := by decide +kernel
theorem dX9_within_0 : decode cX9_within 0 = .ok (.iload_n 0, 1) := by decide +kernel
theorem dX9_within_1 : decode cX9_within 1 = .ok (.iload_n 1, 1) := by decide +kernel
theorem dX9_within_2 : decode cX9_within 2 = .ok (.if_icmp .lt 12, 3) := by decide +kernel
theorem dX9_within_5 : decode cX9_within 5 = .ok (.iload_n 0, 1) := by decide +kernel
theorem dX9_within_6 : decode cX9_within 6 = .ok (.iload_n 2, 1) := by decide +kernel
theorem dX9_within_7 : decode cX9_within 7 = .ok (.if_icmp .gt 7, 3) := by decide +kernel
theorem dX9_within_10 : decode cX9_within 10 = .ok (.iconst 1, 1) := by decide +kernel
theorem dX9_within_11 : decode cX9_within 11 = .ok (.goto 4, 3) := by decide +kernel
theorem dX9_within_14 : decode cX9_within 14 = .ok (.iconst 0, 1) := by decide +kernel
theorem dX9_within_15 : decode cX9_within 15 = .ok (.ireturn, 1) := by decide +kernel
theorem dX9_floor_0 : decode cX9_floor 0 = .ok (.lload_n 0, 1) := by decide +kernel
theorem dX9_floor_1 : decode cX9_floor 1 = .ok (.lload_n 2, 1) := by decide +kernel
theorem dX9_floor_2 : decode cX9_floor 2 = .ok (.ldiv, 1) := by decide +kernel
theorem dX9_floor_3 : decode cX9_floor 3 = .ok (.lstore 4, 2) := by decide +kernel
theorem dX9_floor_5 : decode cX9_floor 5 = .ok (.lload_n 0, 1) := by decide +kernel
theorem dX9_floor_6 : decode cX9_floor 6 = .ok (.lload_n 2, 1) := by decide +kernel
theorem dX9_floor_7 : decode cX9_floor 7 = .ok (.lrem, 1) := by decide +kernel
theorem dX9_floor_8 : decode cX9_floor 8 = .ok (.lconst 0, 1) := by decide +kernel
theorem dX9_floor_9 : decode cX9_floor 9 = .ok (.lcmp, 1) := by decide +kernel
theorem dX9_floor_10 : decode cX9_floor 10 = .ok (.ifCond .eq 35, 3) := by decide +kernel
theorem dX9_floor_13 : decode cX9_floor 13 = .ok (.lload_n 0, 1) := by decide +kernel
theorem dX9_floor_14 : decode cX9_floor 14 = .ok (.lconst 0, 1) := by decide +kernel
theorem dX9_floor_15 : decode cX9_floor 15 = .ok (.lcmp, 1) := by decide +kernel
theorem dX9_floor_16 : decode cX9_floor 16 = .ok (.ifCond .ge 7, 3) := by decide +kernel
theorem dX9_floor_19 : decode cX9_floor 19 = .ok (.iconst 1, 1) := by decide +kernel
theorem dX9_floor_20 : decode cX9_floor 20 = .ok (.goto 4, 3) := by decide +kernel
theorem dX9_floor_23 : decode cX9_floor 23 = .ok (.iconst 0, 1) := by decide +kernel
theorem dX9_floor_24 : decode cX9_floor 24 = .ok (.lload_n 2, 1) := by decide +kernel
theorem dX9_floor_25 : decode cX9_floor 25 = .ok (.lconst 0, 1) := by decide +kernel
theorem dX9_floor_26 : decode cX9_floor 26 = .ok (.lcmp, 1) := by decide +kernel
theorem dX9_floor_27 : decode cX9_floor 27 = .ok (.ifCond .ge 7, 3) := by decide +kernel
theorem dX9_floor_30 : decode cX9_floor 30 = .ok (.iconst 1, 1) := by decide +kernel
theorem dX9_floor_31 : decode cX9_floor 31 = .ok (.goto 4, 3) := by decide +kernel
theorem dX9_floor_34 : decode cX9_floor 34 = .ok (.iconst 0, 1) := by decide +kernel
theorem dX9_floor_35 : decode cX9_floor 35 = .ok (.if_icmp .eq 10, 3) := by decide +kernel
theorem dX9_floor_38 : decode cX9_floor 38 = .ok (.lload 4, 2) := by decide +kernel
theorem dX9_floor_40 : decode cX9_floor 40 = .ok (.lconst 1, 1) := by decide +kernel
theorem dX9_floor_41 : decode cX9_floor 41 = .ok (.lsub, 1) := by decide +kernel
theorem dX9_floor_42 : decode cX9_floor 42 = .ok (.goto 5, 3) := by decide +kernel
theorem dX9_floor_45 : decode cX9_floor 45 = .ok (.lload 4, 2) := by decide +kernel
theorem dX9_floor_47 : decode cX9_floor 47 = .ok (.lreturn, 1) := by decide +kernel
theorem dX9_copies_0 : decode cX9_copies 0 = .ok (.iconst 0, 1) := by decide +kernel
theorem dX9_copies_1 : decode cX9_copies 1 = .ok (.istore_n 3, 1) := by decide +kernel
theorem dX9_copies_2 : decode cX9_copies 2 = .ok (.iload_n 3, 1) := by decide +kernel
theorem dX9_copies_3 : decode cX9_copies 3 = .ok (.aload_n 1, 1) := by decide +kernel
theorem dX9_copies_4 : decode cX9_copies 4 = .ok (.arraylength, 1) := by decide +kernel
theorem dX9_copies_5 : decode cX9_copies 5 = .ok (.if_icmp .ge 15, 3) := by decide +kernel
theorem dX9_copies_8 : decode cX9_copies 8 = .ok (.aload_n 2, 1) := by decide +kernel
theorem dX9_copies_9 : decode cX9_copies 9 = .ok (.iload_n 3, 1) := by decide +kernel
theorem dX9_copies_10 : decode cX9_copies 10 = .ok (.aload_n 1, 1) := by decide +kernel
theorem dX9_copies_11 : decode cX9_copies 11 = .ok (.iload_n 3, 1) := by decide +kernel
theorem dX9_copies_12 : decode cX9_copies 12 = .ok (.iaload, 1) := by decide +kernel
theorem dX9_copies_13 : decode cX9_copies 13 = .ok (.iastore, 1) := by decide +kernel
theorem dX9_copies_14 : decode cX9_copies 14 = .ok (.iinc 3 1, 3) := by decide +kernel
theorem dX9_copies_17 : decode cX9_copies 17 = .ok (.goto (-15), 3) := by decide +kernel
theorem dX9_copies_20 : decode cX9_copies 20 = .ok (.return_, 1) := by decide +kernel
theorem dX9_feed_0 : decode cX9_feed 0 = .ok (.aload_n 0, 1) := by decide +kernel
theorem dX9_feed_1 : decode cX9_feed 1 = .ok (.iconst 0, 1) := by decide +kernel
theorem dX9_feed_2 : decode cX9_feed 2 = .ok (.putfield 170, 3) := by decide +kernel
theorem dX9_feed_5 : decode cX9_feed 5 = .ok (.aload_n 0, 1) := by decide +kernel
theorem dX9_feed_6 : decode cX9_feed 6 = .ok (.getfield 173, 3) := by decide +kernel
theorem dX9_feed_9 : decode cX9_feed 9 = .ok (.bipush 20, 2) := by decide +kernel
theorem dX9_feed_11 : decode cX9_feed 11 = .ok (.iadd, 1) := by decide +kernel
theorem dX9_feed_12 : decode cX9_feed 12 = .ok (.sipush 700, 3) := by decide +kernel
theorem dX9_feed_15 : decode cX9_feed 15 = .ok (.if_icmp .le 5, 3) := by decide +kernel
theorem dX9_feed_18 : decode cX9_feed 18 = .ok (.iconst (-1), 1) := by decide +kernel
theorem dX9_feed_19 : decode cX9_feed 19 = .ok (.ireturn, 1) := by decide +kernel
theorem dX9_feed_20 : decode cX9_feed 20 = .ok (.aload_n 0, 1) := by decide +kernel
theorem dX9_feed_21 : decode cX9_feed 21 = .ok (.iload_n 1, 1) := by decide +kernel
theorem dX9_feed_22 : decode cX9_feed 22 = .ok (.invokevirtual 176, 3) := by decide +kernel
theorem dX9_feed_25 : decode cX9_feed 25 = .ok (.aload_n 0, 1) := by decide +kernel
theorem dX9_feed_26 : decode cX9_feed 26 = .ok (.iload_n 2, 1) := by decide +kernel
theorem dX9_feed_27 : decode cX9_feed 27 = .ok (.invokevirtual 176, 3) := by decide +kernel
theorem dX9_feed_30 : decode cX9_feed 30 = .ok (.aload_n 0, 1) := by decide +kernel
theorem dX9_feed_31 : decode cX9_feed 31 = .ok (.iload_n 3, 1) := by decide +kernel
theorem dX9_feed_32 : decode cX9_feed 32 = .ok (.invokevirtual 176, 3) := by decide +kernel
theorem dX9_feed_35 : decode cX9_feed 35 = .ok (.aload_n 0, 1) := by decide +kernel
theorem dX9_feed_36 : decode cX9_feed 36 = .ok (.iload 4, 2) := by decide +kernel
theorem dX9_feed_38 : decode cX9_feed 38 = .ok (.invokevirtual 176, 3) := by decide +kernel
theorem dX9_feed_41 : decode cX9_feed 41 = .ok (.aload_n 0, 1) := by decide +kernel
theorem dX9_feed_42 : decode cX9_feed 42 = .ok (.iload 5, 2) := by decide +kernel
theorem dX9_feed_44 : decode cX9_feed 44 = .ok (.invokevirtual 176, 3) := by decide +kernel
theorem dX9_feed_47 : decode cX9_feed 47 = .ok (.aload_n 0, 1) := by decide +kernel
theorem dX9_feed_48 : decode cX9_feed 48 = .ok (.getfield 173, 3) := by decide +kernel
theorem dX9_feed_51 : decode cX9_feed 51 = .ok (.ireturn, 1) := by decide +kernel
theorem dX9_lays_0 : decode cX9_lays 0 = .ok (.bipush 24, 2) := by decide +kernel
theorem dX9_lays_2 : decode cX9_lays 2 = .ok (.istore_n 2, 1) := by decide +kernel
theorem dX9_lays_3 : decode cX9_lays 3 = .ok (.iload_n 2, 1) := by decide +kernel
theorem dX9_lays_4 : decode cX9_lays 4 = .ok (.ifCond .lt 35, 3) := by decide +kernel
theorem dX9_lays_7 : decode cX9_lays 7 = .ok (.aload_n 0, 1) := by decide +kernel
theorem dX9_lays_8 : decode cX9_lays 8 = .ok (.getfield 32, 3) := by decide +kernel
theorem dX9_lays_11 : decode cX9_lays 11 = .ok (.aload_n 0, 1) := by decide +kernel
theorem dX9_lays_12 : decode cX9_lays 12 = .ok (.getfield 173, 3) := by decide +kernel
theorem dX9_lays_15 : decode cX9_lays 15 = .ok (.iload_n 1, 1) := by decide +kernel
theorem dX9_lays_16 : decode cX9_lays 16 = .ok (.iload_n 2, 1) := by decide +kernel
theorem dX9_lays_17 : decode cX9_lays 17 = .ok (.ishr, 1) := by decide +kernel
theorem dX9_lays_18 : decode cX9_lays 18 = .ok (.sipush 255, 3) := by decide +kernel
theorem dX9_lays_21 : decode cX9_lays 21 = .ok (.iand, 1) := by decide +kernel
theorem dX9_lays_22 : decode cX9_lays 22 = .ok (.iastore, 1) := by decide +kernel
theorem dX9_lays_23 : decode cX9_lays 23 = .ok (.aload_n 0, 1) := by decide +kernel
theorem dX9_lays_24 : decode cX9_lays 24 = .ok (.dup, 1) := by decide +kernel
theorem dX9_lays_25 : decode cX9_lays 25 = .ok (.getfield 173, 3) := by decide +kernel
theorem dX9_lays_28 : decode cX9_lays 28 = .ok (.iconst 1, 1) := by decide +kernel
theorem dX9_lays_29 : decode cX9_lays 29 = .ok (.iadd, 1) := by decide +kernel
theorem dX9_lays_30 : decode cX9_lays 30 = .ok (.putfield 173, 3) := by decide +kernel
theorem dX9_lays_33 : decode cX9_lays 33 = .ok (.iinc 2 (-8), 3) := by decide +kernel
theorem dX9_lays_36 : decode cX9_lays 36 = .ok (.goto (-33), 3) := by decide +kernel
theorem dX9_lays_39 : decode cX9_lays 39 = .ok (.return_, 1) := by decide +kernel
theorem dX9_byteAt_0 : decode cX9_byteAt 0 = .ok (.iload_n 1, 1) := by decide +kernel
theorem dX9_byteAt_1 : decode cX9_byteAt 1 = .ok (.aload_n 0, 1) := by decide +kernel
theorem dX9_byteAt_2 : decode cX9_byteAt 2 = .ok (.getfield 180, 3) := by decide +kernel
theorem dX9_byteAt_5 : decode cX9_byteAt 5 = .ok (.if_icmp .ge 12, 3) := by decide +kernel
theorem dX9_byteAt_8 : decode cX9_byteAt 8 = .ok (.aload_n 0, 1) := by decide +kernel
theorem dX9_byteAt_9 : decode cX9_byteAt 9 = .ok (.getfield 32, 3) := by decide +kernel
theorem dX9_byteAt_12 : decode cX9_byteAt 12 = .ok (.iload_n 1, 1) := by decide +kernel
theorem dX9_byteAt_13 : decode cX9_byteAt 13 = .ok (.iaload, 1) := by decide +kernel
theorem dX9_byteAt_14 : decode cX9_byteAt 14 = .ok (.goto 4, 3) := by decide +kernel
theorem dX9_byteAt_17 : decode cX9_byteAt 17 = .ok (.iconst 0, 1) := by decide +kernel
theorem dX9_byteAt_18 : decode cX9_byteAt 18 = .ok (.ireturn, 1) := by decide +kernel
theorem dX9_isLetter_0 : decode cX9_isLetter 0 = .ok (.iload_n 0, 1) := by decide +kernel
theorem dX9_isLetter_1 : decode cX9_isLetter 1 = .ok (.bipush 97, 2) := by decide +kernel
theorem dX9_isLetter_3 : decode cX9_isLetter 3 = .ok (.if_icmp .lt 13, 3) := by decide +kernel
theorem dX9_isLetter_6 : decode cX9_isLetter 6 = .ok (.iload_n 0, 1) := by decide +kernel
theorem dX9_isLetter_7 : decode cX9_isLetter 7 = .ok (.bipush 122, 2) := by decide +kernel
theorem dX9_isLetter_9 : decode cX9_isLetter 9 = .ok (.if_icmp .gt 7, 3) := by decide +kernel
theorem dX9_isLetter_12 : decode cX9_isLetter 12 = .ok (.iconst 1, 1) := by decide +kernel
theorem dX9_isLetter_13 : decode cX9_isLetter 13 = .ok (.goto 4, 3) := by decide +kernel
theorem dX9_isLetter_16 : decode cX9_isLetter 16 = .ok (.iconst 0, 1) := by decide +kernel
theorem dX9_isLetter_17 : decode cX9_isLetter 17 = .ok (.ireturn, 1) := by decide +kernel
theorem dX9_isDigit_0 : decode cX9_isDigit 0 = .ok (.iload_n 0, 1) := by decide +kernel
theorem dX9_isDigit_1 : decode cX9_isDigit 1 = .ok (.bipush 48, 2) := by decide +kernel
theorem dX9_isDigit_3 : decode cX9_isDigit 3 = .ok (.if_icmp .lt 13, 3) := by decide +kernel
theorem dX9_isDigit_6 : decode cX9_isDigit 6 = .ok (.iload_n 0, 1) := by decide +kernel
theorem dX9_isDigit_7 : decode cX9_isDigit 7 = .ok (.bipush 57, 2) := by decide +kernel
theorem dX9_isDigit_9 : decode cX9_isDigit 9 = .ok (.if_icmp .gt 7, 3) := by decide +kernel
theorem dX9_isDigit_12 : decode cX9_isDigit 12 = .ok (.iconst 1, 1) := by decide +kernel
theorem dX9_isDigit_13 : decode cX9_isDigit 13 = .ok (.goto 4, 3) := by decide +kernel
theorem dX9_isDigit_16 : decode cX9_isDigit 16 = .ok (.iconst 0, 1) := by decide +kernel
theorem dX9_isDigit_17 : decode cX9_isDigit 17 = .ok (.ireturn, 1) := by decide +kernel
theorem dX9_steps_0 : decode cX9_steps 0 = .ok (.aload_n 0, 1) := by decide +kernel
theorem dX9_steps_1 : decode cX9_steps 1 = .ok (.getfield 183, 3) := by decide +kernel
theorem dX9_steps_4 : decode cX9_steps 4 = .ok (.aload_n 0, 1) := by decide +kernel
theorem dX9_steps_5 : decode cX9_steps 5 = .ok (.getfield 180, 3) := by decide +kernel
theorem dX9_steps_8 : decode cX9_steps 8 = .ok (.if_icmp .ge 42, 3) := by decide +kernel
theorem dX9_steps_11 : decode cX9_steps 11 = .ok (.aload_n 0, 1) := by decide +kernel
theorem dX9_steps_12 : decode cX9_steps 12 = .ok (.aload_n 0, 1) := by decide +kernel
theorem dX9_steps_13 : decode cX9_steps 13 = .ok (.getfield 183, 3) := by decide +kernel
theorem dX9_steps_16 : decode cX9_steps 16 = .ok (.invokevirtual 186, 3) := by decide +kernel
theorem dX9_steps_19 : decode cX9_steps 19 = .ok (.bipush 32, 2) := by decide +kernel
theorem dX9_steps_21 : decode cX9_steps 21 = .ok (.if_icmp .eq 16, 3) := by decide +kernel
theorem dX9_steps_24 : decode cX9_steps 24 = .ok (.aload_n 0, 1) := by decide +kernel
theorem dX9_steps_25 : decode cX9_steps 25 = .ok (.aload_n 0, 1) := by decide +kernel
theorem dX9_steps_26 : decode cX9_steps 26 = .ok (.getfield 183, 3) := by decide +kernel
theorem dX9_steps_29 : decode cX9_steps 29 = .ok (.invokevirtual 186, 3) := by decide +kernel
theorem dX9_steps_32 : decode cX9_steps 32 = .ok (.bipush 10, 2) := by decide +kernel
theorem dX9_steps_34 : decode cX9_steps 34 = .ok (.if_icmp .ne 16, 3) := by decide +kernel
theorem dX9_steps_37 : decode cX9_steps 37 = .ok (.aload_n 0, 1) := by decide +kernel
theorem dX9_steps_38 : decode cX9_steps 38 = .ok (.dup, 1) := by decide +kernel
theorem dX9_steps_39 : decode cX9_steps 39 = .ok (.getfield 183, 3) := by decide +kernel
theorem dX9_steps_42 : decode cX9_steps 42 = .ok (.iconst 1, 1) := by decide +kernel
theorem dX9_steps_43 : decode cX9_steps 43 = .ok (.iadd, 1) := by decide +kernel
theorem dX9_steps_44 : decode cX9_steps 44 = .ok (.putfield 183, 3) := by decide +kernel
theorem dX9_steps_47 : decode cX9_steps 47 = .ok (.goto (-47), 3) := by decide +kernel
theorem dX9_steps_50 : decode cX9_steps 50 = .ok (.aload_n 0, 1) := by decide +kernel
theorem dX9_steps_51 : decode cX9_steps 51 = .ok (.aload_n 0, 1) := by decide +kernel
theorem dX9_steps_52 : decode cX9_steps 52 = .ok (.getfield 183, 3) := by decide +kernel
theorem dX9_steps_55 : decode cX9_steps 55 = .ok (.putfield 190, 3) := by decide +kernel
theorem dX9_steps_58 : decode cX9_steps 58 = .ok (.aload_n 0, 1) := by decide +kernel
theorem dX9_steps_59 : decode cX9_steps 59 = .ok (.lconst 0, 1) := by decide +kernel
theorem dX9_steps_60 : decode cX9_steps 60 = .ok (.putfield 193, 3) := by decide +kernel
theorem dX9_steps_63 : decode cX9_steps 63 = .ok (.aload_n 0, 1) := by decide +kernel
theorem dX9_steps_64 : decode cX9_steps 64 = .ok (.iconst 0, 1) := by decide +kernel
theorem dX9_steps_65 : decode cX9_steps 65 = .ok (.putfield 197, 3) := by decide +kernel
theorem dX9_steps_68 : decode cX9_steps 68 = .ok (.aload_n 0, 1) := by decide +kernel
theorem dX9_steps_69 : decode cX9_steps 69 = .ok (.aload_n 0, 1) := by decide +kernel
theorem dX9_steps_70 : decode cX9_steps 70 = .ok (.getfield 183, 3) := by decide +kernel
theorem dX9_steps_73 : decode cX9_steps 73 = .ok (.invokevirtual 186, 3) := by decide +kernel
theorem dX9_steps_76 : decode cX9_steps 76 = .ok (.istore_n 1, 1) := by decide +kernel
theorem dX9_steps_77 : decode cX9_steps 77 = .ok (.aload_n 0, 1) := by decide +kernel
theorem dX9_steps_78 : decode cX9_steps 78 = .ok (.getfield 183, 3) := by decide +kernel
theorem dX9_steps_81 : decode cX9_steps 81 = .ok (.aload_n 0, 1) := by decide +kernel
theorem dX9_steps_82 : decode cX9_steps 82 = .ok (.getfield 180, 3) := by decide +kernel
theorem dX9_steps_85 : decode cX9_steps 85 = .ok (.if_icmp .lt 11, 3) := by decide +kernel
theorem dX9_steps_88 : decode cX9_steps 88 = .ok (.aload_n 0, 1) := by decide +kernel
theorem dX9_steps_89 : decode cX9_steps 89 = .ok (.iconst 0, 1) := by decide +kernel
theorem dX9_steps_90 : decode cX9_steps 90 = .ok (.putfield 200, 3) := by decide +kernel
theorem dX9_steps_93 : decode cX9_steps 93 = .ok (.goto 185, 3) := by decide +kernel
theorem dX9_steps_96 : decode cX9_steps 96 = .ok (.iload_n 1, 1) := by decide +kernel
theorem dX9_steps_97 : decode cX9_steps 97 = .ok (.invokestatic 203, 3) := by decide +kernel
theorem dX9_steps_100 : decode cX9_steps 100 = .ok (.ifCond .eq 75, 3) := by decide +kernel
theorem dX9_steps_103 : decode cX9_steps 103 = .ok (.aload_n 0, 1) := by decide +kernel
theorem dX9_steps_104 : decode cX9_steps 104 = .ok (.aload_n 0, 1) := by decide +kernel
theorem dX9_steps_105 : decode cX9_steps 105 = .ok (.getfield 183, 3) := by decide +kernel
theorem dX9_steps_108 : decode cX9_steps 108 = .ok (.invokevirtual 186, 3) := by decide +kernel
theorem dX9_steps_111 : decode cX9_steps 111 = .ok (.invokestatic 203, 3) := by decide +kernel
theorem dX9_steps_114 : decode cX9_steps 114 = .ok (.ifCond .eq 53, 3) := by decide +kernel
theorem dX9_steps_117 : decode cX9_steps 117 = .ok (.aload_n 0, 1) := by decide +kernel
theorem dX9_steps_118 : decode cX9_steps 118 = .ok (.getfield 183, 3) := by decide +kernel
theorem dX9_steps_121 : decode cX9_steps 121 = .ok (.aload_n 0, 1) := by decide +kernel
theorem dX9_steps_122 : decode cX9_steps 122 = .ok (.getfield 190, 3) := by decide +kernel
theorem dX9_steps_125 : decode cX9_steps 125 = .ok (.isub, 1) := by decide +kernel
theorem dX9_steps_126 : decode cX9_steps 126 = .ok (.bipush 7, 2) := by decide +kernel
theorem dX9_steps_128 : decode cX9_steps 128 = .ok (.if_icmp .ge 26, 3) := by decide +kernel
theorem dX9_steps_131 : decode cX9_steps 131 = .ok (.aload_n 0, 1) := by decide +kernel
theorem dX9_steps_132 : decode cX9_steps 132 = .ok (.aload_n 0, 1) := by decide +kernel
theorem dX9_steps_133 : decode cX9_steps 133 = .ok (.getfield 193, 3) := by decide +kernel
theorem dX9_steps_136 : decode cX9_steps 136 = .ok (.iconst 5, 1) := by decide +kernel
theorem dX9_steps_137 : decode cX9_steps 137 = .ok (.lshl, 1) := by decide +kernel
theorem dX9_steps_138 : decode cX9_steps 138 = .ok (.aload_n 0, 1) := by decide +kernel
theorem dX9_steps_139 : decode cX9_steps 139 = .ok (.aload_n 0, 1) := by decide +kernel
theorem dX9_steps_140 : decode cX9_steps 140 = .ok (.getfield 183, 3) := by decide +kernel
theorem dX9_steps_143 : decode cX9_steps 143 = .ok (.invokevirtual 186, 3) := by decide +kernel
theorem dX9_steps_146 : decode cX9_steps 146 = .ok (.bipush 96, 2) := by decide +kernel
theorem dX9_steps_148 : decode cX9_steps 148 = .ok (.isub, 1) := by decide +kernel
theorem dX9_steps_149 : decode cX9_steps 149 = .ok (.i2l, 1) := by decide +kernel
theorem dX9_steps_150 : decode cX9_steps 150 = .ok (.lor, 1) := by decide +kernel
theorem dX9_steps_151 : decode cX9_steps 151 = .ok (.putfield 193, 3) := by decide +kernel
theorem dX9_steps_154 : decode cX9_steps 154 = .ok (.aload_n 0, 1) := by decide +kernel
theorem dX9_steps_155 : decode cX9_steps 155 = .ok (.dup, 1) := by decide +kernel
theorem dX9_steps_156 : decode cX9_steps 156 = .ok (.getfield 183, 3) := by decide +kernel
theorem dX9_steps_159 : decode cX9_steps 159 = .ok (.iconst 1, 1) := by decide +kernel
theorem dX9_steps_160 : decode cX9_steps 160 = .ok (.iadd, 1) := by decide +kernel
theorem dX9_steps_161 : decode cX9_steps 161 = .ok (.putfield 183, 3) := by decide +kernel
theorem dX9_steps_164 : decode cX9_steps 164 = .ok (.goto (-61), 3) := by decide +kernel
theorem dX9_steps_167 : decode cX9_steps 167 = .ok (.aload_n 0, 1) := by decide +kernel
theorem dX9_steps_168 : decode cX9_steps 168 = .ok (.iconst 1, 1) := by decide +kernel
theorem dX9_steps_169 : decode cX9_steps 169 = .ok (.putfield 200, 3) := by decide +kernel
theorem dX9_steps_172 : decode cX9_steps 172 = .ok (.goto 106, 3) := by decide +kernel
theorem dX9_steps_175 : decode cX9_steps 175 = .ok (.iload_n 1, 1) := by decide +kernel
theorem dX9_steps_176 : decode cX9_steps 176 = .ok (.invokestatic 207, 3) := by decide +kernel
theorem dX9_steps_179 : decode cX9_steps 179 = .ok (.ifCond .eq 74, 3) := by decide +kernel
theorem dX9_steps_182 : decode cX9_steps 182 = .ok (.aload_n 0, 1) := by decide +kernel
theorem dX9_steps_183 : decode cX9_steps 183 = .ok (.aload_n 0, 1) := by decide +kernel
theorem dX9_steps_184 : decode cX9_steps 184 = .ok (.getfield 183, 3) := by decide +kernel
theorem dX9_steps_187 : decode cX9_steps 187 = .ok (.invokevirtual 186, 3) := by decide +kernel
theorem dX9_steps_190 : decode cX9_steps 190 = .ok (.invokestatic 207, 3) := by decide +kernel
theorem dX9_steps_193 : decode cX9_steps 193 = .ok (.ifCond .eq 52, 3) := by decide +kernel
theorem dX9_steps_196 : decode cX9_steps 196 = .ok (.aload_n 0, 1) := by decide +kernel
theorem dX9_steps_197 : decode cX9_steps 197 = .ok (.getfield 183, 3) := by decide +kernel
theorem dX9_steps_200 : decode cX9_steps 200 = .ok (.aload_n 0, 1) := by decide +kernel
theorem dX9_steps_201 : decode cX9_steps 201 = .ok (.getfield 190, 3) := by decide +kernel
theorem dX9_steps_204 : decode cX9_steps 204 = .ok (.isub, 1) := by decide +kernel
theorem dX9_steps_205 : decode cX9_steps 205 = .ok (.iconst 4, 1) := by decide +kernel
theorem dX9_steps_206 : decode cX9_steps 206 = .ok (.if_icmp .ge 26, 3) := by decide +kernel
theorem dX9_steps_209 : decode cX9_steps 209 = .ok (.aload_n 0, 1) := by decide +kernel
theorem dX9_steps_210 : decode cX9_steps 210 = .ok (.bipush 10, 2) := by decide +kernel
theorem dX9_steps_212 : decode cX9_steps 212 = .ok (.aload_n 0, 1) := by decide +kernel
theorem dX9_steps_213 : decode cX9_steps 213 = .ok (.getfield 197, 3) := by decide +kernel
theorem dX9_steps_216 : decode cX9_steps 216 = .ok (.imul, 1) := by decide +kernel
theorem dX9_steps_217 : decode cX9_steps 217 = .ok (.aload_n 0, 1) := by decide +kernel
theorem dX9_steps_218 : decode cX9_steps 218 = .ok (.aload_n 0, 1) := by decide +kernel
theorem dX9_steps_219 : decode cX9_steps 219 = .ok (.getfield 183, 3) := by decide +kernel
theorem dX9_steps_222 : decode cX9_steps 222 = .ok (.invokevirtual 186, 3) := by decide +kernel
theorem dX9_steps_225 : decode cX9_steps 225 = .ok (.iadd, 1) := by decide +kernel
theorem dX9_steps_226 : decode cX9_steps 226 = .ok (.bipush 48, 2) := by decide +kernel
theorem dX9_steps_228 : decode cX9_steps 228 = .ok (.isub, 1) := by decide +kernel
theorem dX9_steps_229 : decode cX9_steps 229 = .ok (.putfield 197, 3) := by decide +kernel
theorem dX9_steps_232 : decode cX9_steps 232 = .ok (.aload_n 0, 1) := by decide +kernel
theorem dX9_steps_233 : decode cX9_steps 233 = .ok (.dup, 1) := by decide +kernel
theorem dX9_steps_234 : decode cX9_steps 234 = .ok (.getfield 183, 3) := by decide +kernel
theorem dX9_steps_237 : decode cX9_steps 237 = .ok (.iconst 1, 1) := by decide +kernel
theorem dX9_steps_238 : decode cX9_steps 238 = .ok (.iadd, 1) := by decide +kernel
theorem dX9_steps_239 : decode cX9_steps 239 = .ok (.putfield 183, 3) := by decide +kernel
theorem dX9_steps_242 : decode cX9_steps 242 = .ok (.goto (-60), 3) := by decide +kernel
theorem dX9_steps_245 : decode cX9_steps 245 = .ok (.aload_n 0, 1) := by decide +kernel
theorem dX9_steps_246 : decode cX9_steps 246 = .ok (.iconst 2, 1) := by decide +kernel
theorem dX9_steps_247 : decode cX9_steps 247 = .ok (.putfield 200, 3) := by decide +kernel
theorem dX9_steps_250 : decode cX9_steps 250 = .ok (.goto 28, 3) := by decide +kernel
theorem dX9_steps_253 : decode cX9_steps 253 = .ok (.aload_n 0, 1) := by decide +kernel
theorem dX9_steps_254 : decode cX9_steps 254 = .ok (.dup, 1) := by decide +kernel
theorem dX9_steps_255 : decode cX9_steps 255 = .ok (.getfield 183, 3) := by decide +kernel
theorem dX9_steps_258 : decode cX9_steps 258 = .ok (.iconst 1, 1) := by decide +kernel
theorem dX9_steps_259 : decode cX9_steps 259 = .ok (.iadd, 1) := by decide +kernel
theorem dX9_steps_260 : decode cX9_steps 260 = .ok (.putfield 183, 3) := by decide +kernel
theorem dX9_steps_263 : decode cX9_steps 263 = .ok (.aload_n 0, 1) := by decide +kernel
theorem dX9_steps_264 : decode cX9_steps 264 = .ok (.iload_n 1, 1) := by decide +kernel
theorem dX9_steps_265 : decode cX9_steps 265 = .ok (.bipush 59, 2) := by decide +kernel
theorem dX9_steps_267 : decode cX9_steps 267 = .ok (.if_icmp .ne 7, 3) := by decide +kernel
theorem dX9_steps_270 : decode cX9_steps 270 = .ok (.iconst 3, 1) := by decide +kernel
theorem dX9_steps_271 : decode cX9_steps 271 = .ok (.goto 4, 3) := by decide +kernel
theorem dX9_steps_274 : decode cX9_steps 274 = .ok (.iconst 4, 1) := by decide +kernel
theorem dX9_steps_275 : decode cX9_steps 275 = .ok (.putfield 200, 3) := by decide +kernel
theorem dX9_steps_278 : decode cX9_steps 278 = .ok (.aload_n 0, 1) := by decide +kernel
theorem dX9_steps_279 : decode cX9_steps 279 = .ok (.aload_n 0, 1) := by decide +kernel
theorem dX9_steps_280 : decode cX9_steps 280 = .ok (.getfield 183, 3) := by decide +kernel
theorem dX9_steps_283 : decode cX9_steps 283 = .ok (.aload_n 0, 1) := by decide +kernel
theorem dX9_steps_284 : decode cX9_steps 284 = .ok (.getfield 190, 3) := by decide +kernel
theorem dX9_steps_287 : decode cX9_steps 287 = .ok (.isub, 1) := by decide +kernel
theorem dX9_steps_288 : decode cX9_steps 288 = .ok (.putfield 210, 3) := by decide +kernel
theorem dX9_steps_291 : decode cX9_steps 291 = .ok (.return_, 1) := by decide +kernel
theorem dX9_spelled_0 : decode cX9_spelled 0 = .ok (.iload_n 0, 1) := by decide +kernel
theorem dX9_spelled_1 : decode cX9_spelled 1 = .ok (.bipush 96, 2) := by decide +kernel
theorem dX9_spelled_3 : decode cX9_spelled 3 = .ok (.isub, 1) := by decide +kernel
theorem dX9_spelled_4 : decode cX9_spelled 4 = .ok (.i2l, 1) := by decide +kernel
theorem dX9_spelled_5 : decode cX9_spelled 5 = .ok (.lstore 6, 2) := by decide +kernel
theorem dX9_spelled_7 : decode cX9_spelled 7 = .ok (.iload_n 1, 1) := by decide +kernel
theorem dX9_spelled_8 : decode cX9_spelled 8 = .ok (.ifCond .eq 15, 3) := by decide +kernel
theorem dX9_spelled_11 : decode cX9_spelled 11 = .ok (.lload 6, 2) := by decide +kernel
theorem dX9_spelled_13 : decode cX9_spelled 13 = .ok (.iconst 5, 1) := by decide +kernel
theorem dX9_spelled_14 : decode cX9_spelled 14 = .ok (.lshl, 1) := by decide +kernel
theorem dX9_spelled_15 : decode cX9_spelled 15 = .ok (.iload_n 1, 1) := by decide +kernel
theorem dX9_spelled_16 : decode cX9_spelled 16 = .ok (.bipush 96, 2) := by decide +kernel
theorem dX9_spelled_18 : decode cX9_spelled 18 = .ok (.isub, 1) := by decide +kernel
theorem dX9_spelled_19 : decode cX9_spelled 19 = .ok (.i2l, 1) := by decide +kernel
theorem dX9_spelled_20 : decode cX9_spelled 20 = .ok (.lor, 1) := by decide +kernel
theorem dX9_spelled_21 : decode cX9_spelled 21 = .ok (.lstore 6, 2) := by decide +kernel
theorem dX9_spelled_23 : decode cX9_spelled 23 = .ok (.iload_n 2, 1) := by decide +kernel
theorem dX9_spelled_24 : decode cX9_spelled 24 = .ok (.ifCond .eq 15, 3) := by decide +kernel
theorem dX9_spelled_27 : decode cX9_spelled 27 = .ok (.lload 6, 2) := by decide +kernel
theorem dX9_spelled_29 : decode cX9_spelled 29 = .ok (.iconst 5, 1) := by decide +kernel
theorem dX9_spelled_30 : decode cX9_spelled 30 = .ok (.lshl, 1) := by decide +kernel
theorem dX9_spelled_31 : decode cX9_spelled 31 = .ok (.iload_n 2, 1) := by decide +kernel
theorem dX9_spelled_32 : decode cX9_spelled 32 = .ok (.bipush 96, 2) := by decide +kernel
theorem dX9_spelled_34 : decode cX9_spelled 34 = .ok (.isub, 1) := by decide +kernel
theorem dX9_spelled_35 : decode cX9_spelled 35 = .ok (.i2l, 1) := by decide +kernel
theorem dX9_spelled_36 : decode cX9_spelled 36 = .ok (.lor, 1) := by decide +kernel
theorem dX9_spelled_37 : decode cX9_spelled 37 = .ok (.lstore 6, 2) := by decide +kernel
theorem dX9_spelled_39 : decode cX9_spelled 39 = .ok (.iload_n 3, 1) := by decide +kernel
theorem dX9_spelled_40 : decode cX9_spelled 40 = .ok (.ifCond .eq 15, 3) := by decide +kernel
theorem dX9_spelled_43 : decode cX9_spelled 43 = .ok (.lload 6, 2) := by decide +kernel
theorem dX9_spelled_45 : decode cX9_spelled 45 = .ok (.iconst 5, 1) := by decide +kernel
theorem dX9_spelled_46 : decode cX9_spelled 46 = .ok (.lshl, 1) := by decide +kernel
theorem dX9_spelled_47 : decode cX9_spelled 47 = .ok (.iload_n 3, 1) := by decide +kernel
theorem dX9_spelled_48 : decode cX9_spelled 48 = .ok (.bipush 96, 2) := by decide +kernel
theorem dX9_spelled_50 : decode cX9_spelled 50 = .ok (.isub, 1) := by decide +kernel
theorem dX9_spelled_51 : decode cX9_spelled 51 = .ok (.i2l, 1) := by decide +kernel
theorem dX9_spelled_52 : decode cX9_spelled 52 = .ok (.lor, 1) := by decide +kernel
theorem dX9_spelled_53 : decode cX9_spelled 53 = .ok (.lstore 6, 2) := by decide +kernel
theorem dX9_spelled_55 : decode cX9_spelled 55 = .ok (.iload 4, 2) := by decide +kernel
theorem dX9_spelled_57 : decode cX9_spelled 57 = .ok (.ifCond .eq 16, 3) := by decide +kernel
theorem dX9_spelled_60 : decode cX9_spelled 60 = .ok (.lload 6, 2) := by decide +kernel
theorem dX9_spelled_62 : decode cX9_spelled 62 = .ok (.iconst 5, 1) := by decide +kernel
theorem dX9_spelled_63 : decode cX9_spelled 63 = .ok (.lshl, 1) := by decide +kernel
theorem dX9_spelled_64 : decode cX9_spelled 64 = .ok (.iload 4, 2) := by decide +kernel
theorem dX9_spelled_66 : decode cX9_spelled 66 = .ok (.bipush 96, 2) := by decide +kernel
theorem dX9_spelled_68 : decode cX9_spelled 68 = .ok (.isub, 1) := by decide +kernel
theorem dX9_spelled_69 : decode cX9_spelled 69 = .ok (.i2l, 1) := by decide +kernel
theorem dX9_spelled_70 : decode cX9_spelled 70 = .ok (.lor, 1) := by decide +kernel
theorem dX9_spelled_71 : decode cX9_spelled 71 = .ok (.lstore 6, 2) := by decide +kernel
theorem dX9_spelled_73 : decode cX9_spelled 73 = .ok (.iload 5, 2) := by decide +kernel
theorem dX9_spelled_75 : decode cX9_spelled 75 = .ok (.ifCond .eq 16, 3) := by decide +kernel
theorem dX9_spelled_78 : decode cX9_spelled 78 = .ok (.lload 6, 2) := by decide +kernel
theorem dX9_spelled_80 : decode cX9_spelled 80 = .ok (.iconst 5, 1) := by decide +kernel
theorem dX9_spelled_81 : decode cX9_spelled 81 = .ok (.lshl, 1) := by decide +kernel
theorem dX9_spelled_82 : decode cX9_spelled 82 = .ok (.iload 5, 2) := by decide +kernel
theorem dX9_spelled_84 : decode cX9_spelled 84 = .ok (.bipush 96, 2) := by decide +kernel
theorem dX9_spelled_86 : decode cX9_spelled 86 = .ok (.isub, 1) := by decide +kernel
theorem dX9_spelled_87 : decode cX9_spelled 87 = .ok (.i2l, 1) := by decide +kernel
theorem dX9_spelled_88 : decode cX9_spelled 88 = .ok (.lor, 1) := by decide +kernel
theorem dX9_spelled_89 : decode cX9_spelled 89 = .ok (.lstore 6, 2) := by decide +kernel
theorem dX9_spelled_91 : decode cX9_spelled 91 = .ok (.lload 6, 2) := by decide +kernel
theorem dX9_spelled_93 : decode cX9_spelled 93 = .ok (.lreturn, 1) := by decide +kernel
theorem dX9_letters_0 : decode cX9_letters 0 = .ok (.iload_n 0, 1) := by decide +kernel
theorem dX9_letters_1 : decode cX9_letters 1 = .ok (.tableswitch 313 0 15 #[79, 95, 110, 126, 139, 152, 167, 182, 197, 211, 225, 239, 255, 270, 284, 298], 79) := by decide +kernel
theorem dX9_letters_80 : decode cX9_letters 80 = .ok (.bipush 112, 2) := by decide +kernel
theorem dX9_letters_82 : decode cX9_letters 82 = .ok (.bipush 101, 2) := by decide +kernel
theorem dX9_letters_84 : decode cX9_letters 84 = .ok (.bipush 114, 2) := by decide +kernel
theorem dX9_letters_86 : decode cX9_letters 86 = .ok (.bipush 115, 2) := by decide +kernel
theorem dX9_letters_88 : decode cX9_letters 88 = .ok (.bipush 111, 2) := by decide +kernel
theorem dX9_letters_90 : decode cX9_letters 90 = .ok (.bipush 110, 2) := by decide +kernel
theorem dX9_letters_92 : decode cX9_letters 92 = .ok (.invokestatic 213, 3) := by decide +kernel
theorem dX9_letters_95 : decode cX9_letters 95 = .ok (.lreturn, 1) := by decide +kernel
theorem dX9_letters_96 : decode cX9_letters 96 = .ok (.bipush 107, 2) := by decide +kernel
theorem dX9_letters_98 : decode cX9_letters 98 = .ok (.bipush 110, 2) := by decide +kernel
theorem dX9_letters_100 : decode cX9_letters 100 = .ok (.bipush 111, 2) := by decide +kernel
theorem dX9_letters_102 : decode cX9_letters 102 = .ok (.bipush 119, 2) := by decide +kernel
theorem dX9_letters_104 : decode cX9_letters 104 = .ok (.bipush 115, 2) := by decide +kernel
theorem dX9_letters_106 : decode cX9_letters 106 = .ok (.iconst 0, 1) := by decide +kernel
theorem dX9_letters_107 : decode cX9_letters 107 = .ok (.invokestatic 213, 3) := by decide +kernel
theorem dX9_letters_110 : decode cX9_letters 110 = .ok (.lreturn, 1) := by decide +kernel
theorem dX9_letters_111 : decode cX9_letters 111 = .ok (.bipush 108, 2) := by decide +kernel
theorem dX9_letters_113 : decode cX9_letters 113 = .ok (.bipush 101, 2) := by decide +kernel
theorem dX9_letters_115 : decode cX9_letters 115 = .ok (.bipush 116, 2) := by decide +kernel
theorem dX9_letters_117 : decode cX9_letters 117 = .ok (.bipush 116, 2) := by decide +kernel
theorem dX9_letters_119 : decode cX9_letters 119 = .ok (.bipush 101, 2) := by decide +kernel
theorem dX9_letters_121 : decode cX9_letters 121 = .ok (.bipush 114, 2) := by decide +kernel
theorem dX9_letters_123 : decode cX9_letters 123 = .ok (.invokestatic 213, 3) := by decide +kernel
theorem dX9_letters_126 : decode cX9_letters 126 = .ok (.lreturn, 1) := by decide +kernel
theorem dX9_letters_127 : decode cX9_letters 127 = .ok (.bipush 108, 2) := by decide +kernel
theorem dX9_letters_129 : decode cX9_letters 129 = .ok (.bipush 97, 2) := by decide +kernel
theorem dX9_letters_131 : decode cX9_letters 131 = .ok (.bipush 119, 2) := by decide +kernel
theorem dX9_letters_133 : decode cX9_letters 133 = .ok (.iconst 0, 1) := by decide +kernel
theorem dX9_letters_134 : decode cX9_letters 134 = .ok (.iconst 0, 1) := by decide +kernel
theorem dX9_letters_135 : decode cX9_letters 135 = .ok (.iconst 0, 1) := by decide +kernel
theorem dX9_letters_136 : decode cX9_letters 136 = .ok (.invokestatic 213, 3) := by decide +kernel
theorem dX9_letters_139 : decode cX9_letters 139 = .ok (.lreturn, 1) := by decide +kernel
theorem dX9_letters_140 : decode cX9_letters 140 = .ok (.bipush 119, 2) := by decide +kernel
theorem dX9_letters_142 : decode cX9_letters 142 = .ok (.bipush 97, 2) := by decide +kernel
theorem dX9_letters_144 : decode cX9_letters 144 = .ok (.bipush 120, 2) := by decide +kernel
theorem dX9_letters_146 : decode cX9_letters 146 = .ok (.iconst 0, 1) := by decide +kernel
theorem dX9_letters_147 : decode cX9_letters 147 = .ok (.iconst 0, 1) := by decide +kernel
theorem dX9_letters_148 : decode cX9_letters 148 = .ok (.iconst 0, 1) := by decide +kernel
theorem dX9_letters_149 : decode cX9_letters 149 = .ok (.invokestatic 213, 3) := by decide +kernel
theorem dX9_letters_152 : decode cX9_letters 152 = .ok (.lreturn, 1) := by decide +kernel
theorem dX9_letters_153 : decode cX9_letters 153 = .ok (.bipush 102, 2) := by decide +kernel
theorem dX9_letters_155 : decode cX9_letters 155 = .ok (.bipush 105, 2) := by decide +kernel
theorem dX9_letters_157 : decode cX9_letters 157 = .ok (.bipush 114, 2) := by decide +kernel
theorem dX9_letters_159 : decode cX9_letters 159 = .ok (.bipush 115, 2) := by decide +kernel
theorem dX9_letters_161 : decode cX9_letters 161 = .ok (.bipush 116, 2) := by decide +kernel
theorem dX9_letters_163 : decode cX9_letters 163 = .ok (.iconst 0, 1) := by decide +kernel
theorem dX9_letters_164 : decode cX9_letters 164 = .ok (.invokestatic 213, 3) := by decide +kernel
theorem dX9_letters_167 : decode cX9_letters 167 = .ok (.lreturn, 1) := by decide +kernel
theorem dX9_letters_168 : decode cX9_letters 168 = .ok (.bipush 111, 2) := by decide +kernel
theorem dX9_letters_170 : decode cX9_letters 170 = .ok (.bipush 112, 2) := by decide +kernel
theorem dX9_letters_172 : decode cX9_letters 172 = .ok (.bipush 101, 2) := by decide +kernel
theorem dX9_letters_174 : decode cX9_letters 174 = .ok (.bipush 110, 2) := by decide +kernel
theorem dX9_letters_176 : decode cX9_letters 176 = .ok (.bipush 115, 2) := by decide +kernel
theorem dX9_letters_178 : decode cX9_letters 178 = .ok (.iconst 0, 1) := by decide +kernel
theorem dX9_letters_179 : decode cX9_letters 179 = .ok (.invokestatic 213, 3) := by decide +kernel
theorem dX9_letters_182 : decode cX9_letters 182 = .ok (.lreturn, 1) := by decide +kernel
theorem dX9_letters_183 : decode cX9_letters 183 = .ok (.bipush 115, 2) := by decide +kernel
theorem dX9_letters_185 : decode cX9_letters 185 = .ok (.bipush 101, 2) := by decide +kernel
theorem dX9_letters_187 : decode cX9_letters 187 = .ok (.bipush 110, 2) := by decide +kernel
theorem dX9_letters_189 : decode cX9_letters 189 = .ok (.bipush 100, 2) := by decide +kernel
theorem dX9_letters_191 : decode cX9_letters 191 = .ok (.bipush 115, 2) := by decide +kernel
theorem dX9_letters_193 : decode cX9_letters 193 = .ok (.iconst 0, 1) := by decide +kernel
theorem dX9_letters_194 : decode cX9_letters 194 = .ok (.invokestatic 213, 3) := by decide +kernel
theorem dX9_letters_197 : decode cX9_letters 197 = .ok (.lreturn, 1) := by decide +kernel
theorem dX9_letters_198 : decode cX9_letters 198 = .ok (.bipush 108, 2) := by decide +kernel
theorem dX9_letters_200 : decode cX9_letters 200 = .ok (.bipush 117, 2) := by decide +kernel
theorem dX9_letters_202 : decode cX9_letters 202 = .ok (.bipush 99, 2) := by decide +kernel
theorem dX9_letters_204 : decode cX9_letters 204 = .ok (.bipush 107, 2) := by decide +kernel
theorem dX9_letters_206 : decode cX9_letters 206 = .ok (.iconst 0, 1) := by decide +kernel
theorem dX9_letters_207 : decode cX9_letters 207 = .ok (.iconst 0, 1) := by decide +kernel
theorem dX9_letters_208 : decode cX9_letters 208 = .ok (.invokestatic 213, 3) := by decide +kernel
theorem dX9_letters_211 : decode cX9_letters 211 = .ok (.lreturn, 1) := by decide +kernel
theorem dX9_letters_212 : decode cX9_letters 212 = .ok (.bipush 98, 2) := by decide +kernel
theorem dX9_letters_214 : decode cX9_letters 214 = .ok (.bipush 101, 2) := by decide +kernel
theorem dX9_letters_216 : decode cX9_letters 216 = .ok (.bipush 115, 2) := by decide +kernel
theorem dX9_letters_218 : decode cX9_letters 218 = .ok (.bipush 116, 2) := by decide +kernel
theorem dX9_letters_220 : decode cX9_letters 220 = .ok (.iconst 0, 1) := by decide +kernel
theorem dX9_letters_221 : decode cX9_letters 221 = .ok (.iconst 0, 1) := by decide +kernel
theorem dX9_letters_222 : decode cX9_letters 222 = .ok (.invokestatic 213, 3) := by decide +kernel
theorem dX9_letters_225 : decode cX9_letters 225 = .ok (.lreturn, 1) := by decide +kernel
theorem dX9_letters_226 : decode cX9_letters 226 = .ok (.bipush 110, 2) := by decide +kernel
theorem dX9_letters_228 : decode cX9_letters 228 = .ok (.bipush 97, 2) := by decide +kernel
theorem dX9_letters_230 : decode cX9_letters 230 = .ok (.bipush 109, 2) := by decide +kernel
theorem dX9_letters_232 : decode cX9_letters 232 = .ok (.bipush 101, 2) := by decide +kernel
theorem dX9_letters_234 : decode cX9_letters 234 = .ok (.iconst 0, 1) := by decide +kernel
theorem dX9_letters_235 : decode cX9_letters 235 = .ok (.iconst 0, 1) := by decide +kernel
theorem dX9_letters_236 : decode cX9_letters 236 = .ok (.invokestatic 213, 3) := by decide +kernel
theorem dX9_letters_239 : decode cX9_letters 239 = .ok (.lreturn, 1) := by decide +kernel
theorem dX9_letters_240 : decode cX9_letters 240 = .ok (.bipush 119, 2) := by decide +kernel
theorem dX9_letters_242 : decode cX9_letters 242 = .ok (.bipush 101, 2) := by decide +kernel
theorem dX9_letters_244 : decode cX9_letters 244 = .ok (.bipush 105, 2) := by decide +kernel
theorem dX9_letters_246 : decode cX9_letters 246 = .ok (.bipush 103, 2) := by decide +kernel
theorem dX9_letters_248 : decode cX9_letters 248 = .ok (.bipush 104, 2) := by decide +kernel
theorem dX9_letters_250 : decode cX9_letters 250 = .ok (.bipush 116, 2) := by decide +kernel
theorem dX9_letters_252 : decode cX9_letters 252 = .ok (.invokestatic 213, 3) := by decide +kernel
theorem dX9_letters_255 : decode cX9_letters 255 = .ok (.lreturn, 1) := by decide +kernel
theorem dX9_letters_256 : decode cX9_letters 256 = .ok (.bipush 112, 2) := by decide +kernel
theorem dX9_letters_258 : decode cX9_letters 258 = .ok (.bipush 114, 2) := by decide +kernel
theorem dX9_letters_260 : decode cX9_letters 260 = .ok (.bipush 105, 2) := by decide +kernel
theorem dX9_letters_262 : decode cX9_letters 262 = .ok (.bipush 122, 2) := by decide +kernel
theorem dX9_letters_264 : decode cX9_letters 264 = .ok (.bipush 101, 2) := by decide +kernel
theorem dX9_letters_266 : decode cX9_letters 266 = .ok (.iconst 0, 1) := by decide +kernel
theorem dX9_letters_267 : decode cX9_letters 267 = .ok (.invokestatic 213, 3) := by decide +kernel
theorem dX9_letters_270 : decode cX9_letters 270 = .ok (.lreturn, 1) := by decide +kernel
theorem dX9_letters_271 : decode cX9_letters 271 = .ok (.bipush 112, 2) := by decide +kernel
theorem dX9_letters_273 : decode cX9_letters 273 = .ok (.bipush 97, 2) := by decide +kernel
theorem dX9_letters_275 : decode cX9_letters 275 = .ok (.bipush 121, 2) := by decide +kernel
theorem dX9_letters_277 : decode cX9_letters 277 = .ok (.bipush 115, 2) := by decide +kernel
theorem dX9_letters_279 : decode cX9_letters 279 = .ok (.iconst 0, 1) := by decide +kernel
theorem dX9_letters_280 : decode cX9_letters 280 = .ok (.iconst 0, 1) := by decide +kernel
theorem dX9_letters_281 : decode cX9_letters 281 = .ok (.invokestatic 213, 3) := by decide +kernel
theorem dX9_letters_284 : decode cX9_letters 284 = .ok (.lreturn, 1) := by decide +kernel
theorem dX9_letters_285 : decode cX9_letters 285 = .ok (.bipush 111, 2) := by decide +kernel
theorem dX9_letters_287 : decode cX9_letters 287 = .ok (.bipush 110, 2) := by decide +kernel
theorem dX9_letters_289 : decode cX9_letters 289 = .ok (.bipush 99, 2) := by decide +kernel
theorem dX9_letters_291 : decode cX9_letters 291 = .ok (.bipush 101, 2) := by decide +kernel
theorem dX9_letters_293 : decode cX9_letters 293 = .ok (.iconst 0, 1) := by decide +kernel
theorem dX9_letters_294 : decode cX9_letters 294 = .ok (.iconst 0, 1) := by decide +kernel
theorem dX9_letters_295 : decode cX9_letters 295 = .ok (.invokestatic 213, 3) := by decide +kernel
theorem dX9_letters_298 : decode cX9_letters 298 = .ok (.lreturn, 1) := by decide +kernel
theorem dX9_letters_299 : decode cX9_letters 299 = .ok (.bipush 97, 2) := by decide +kernel
theorem dX9_letters_301 : decode cX9_letters 301 = .ok (.bipush 103, 2) := by decide +kernel
theorem dX9_letters_303 : decode cX9_letters 303 = .ok (.bipush 97, 2) := by decide +kernel
theorem dX9_letters_305 : decode cX9_letters 305 = .ok (.bipush 105, 2) := by decide +kernel
theorem dX9_letters_307 : decode cX9_letters 307 = .ok (.bipush 110, 2) := by decide +kernel
theorem dX9_letters_309 : decode cX9_letters 309 = .ok (.iconst 0, 1) := by decide +kernel
theorem dX9_letters_310 : decode cX9_letters 310 = .ok (.invokestatic 213, 3) := by decide +kernel
theorem dX9_letters_313 : decode cX9_letters 313 = .ok (.lreturn, 1) := by decide +kernel
theorem dX9_letters_314 : decode cX9_letters 314 = .ok (.bipush 98, 2) := by decide +kernel
theorem dX9_letters_316 : decode cX9_letters 316 = .ok (.bipush 97, 2) := by decide +kernel
theorem dX9_letters_318 : decode cX9_letters 318 = .ok (.bipush 99, 2) := by decide +kernel
theorem dX9_letters_320 : decode cX9_letters 320 = .ok (.bipush 107, 2) := by decide +kernel
theorem dX9_letters_322 : decode cX9_letters 322 = .ok (.iconst 0, 1) := by decide +kernel
theorem dX9_letters_323 : decode cX9_letters 323 = .ok (.iconst 0, 1) := by decide +kernel
theorem dX9_letters_324 : decode cX9_letters 324 = .ok (.invokestatic 213, 3) := by decide +kernel
theorem dX9_letters_327 : decode cX9_letters 327 = .ok (.lreturn, 1) := by decide +kernel
theorem dX9_is_0 : decode cX9_is 0 = .ok (.aload_n 0, 1) := by decide +kernel
theorem dX9_is_1 : decode cX9_is 1 = .ok (.getfield 200, 3) := by decide +kernel
theorem dX9_is_4 : decode cX9_is 4 = .ok (.iconst 1, 1) := by decide +kernel
theorem dX9_is_5 : decode cX9_is 5 = .ok (.if_icmp .ne 28, 3) := by decide +kernel
theorem dX9_is_8 : decode cX9_is 8 = .ok (.aload_n 0, 1) := by decide +kernel
theorem dX9_is_9 : decode cX9_is 9 = .ok (.getfield 210, 3) := by decide +kernel
theorem dX9_is_12 : decode cX9_is 12 = .ok (.bipush 7, 2) := by decide +kernel
theorem dX9_is_14 : decode cX9_is 14 = .ok (.if_icmp .ge 19, 3) := by decide +kernel
theorem dX9_is_17 : decode cX9_is 17 = .ok (.aload_n 0, 1) := by decide +kernel
theorem dX9_is_18 : decode cX9_is 18 = .ok (.getfield 193, 3) := by decide +kernel
theorem dX9_is_21 : decode cX9_is 21 = .ok (.iload_n 1, 1) := by decide +kernel
theorem dX9_is_22 : decode cX9_is 22 = .ok (.invokestatic 217, 3) := by decide +kernel
theorem dX9_is_25 : decode cX9_is 25 = .ok (.lcmp, 1) := by decide +kernel
theorem dX9_is_26 : decode cX9_is 26 = .ok (.ifCond .ne 7, 3) := by decide +kernel
theorem dX9_is_29 : decode cX9_is 29 = .ok (.iconst 1, 1) := by decide +kernel
theorem dX9_is_30 : decode cX9_is 30 = .ok (.goto 4, 3) := by decide +kernel
theorem dX9_is_33 : decode cX9_is 33 = .ok (.iconst 0, 1) := by decide +kernel
theorem dX9_is_34 : decode cX9_is 34 = .ok (.ireturn, 1) := by decide +kernel
theorem dX9_wrong_0 : decode cX9_wrong 0 = .ok (.aload_n 0, 1) := by decide +kernel
theorem dX9_wrong_1 : decode cX9_wrong 1 = .ok (.getfield 221, 3) := by decide +kernel
theorem dX9_wrong_4 : decode cX9_wrong 4 = .ok (.ifCond .eq 4, 3) := by decide +kernel
theorem dX9_wrong_7 : decode cX9_wrong 7 = .ok (.return_, 1) := by decide +kernel
theorem dX9_wrong_8 : decode cX9_wrong 8 = .ok (.aload_n 0, 1) := by decide +kernel
theorem dX9_wrong_9 : decode cX9_wrong 9 = .ok (.iload_n 1, 1) := by decide +kernel
theorem dX9_wrong_10 : decode cX9_wrong 10 = .ok (.putfield 221, 3) := by decide +kernel
theorem dX9_wrong_13 : decode cX9_wrong 13 = .ok (.aload_n 0, 1) := by decide +kernel
theorem dX9_wrong_14 : decode cX9_wrong 14 = .ok (.aload_n 0, 1) := by decide +kernel
theorem dX9_wrong_15 : decode cX9_wrong 15 = .ok (.getfield 190, 3) := by decide +kernel
theorem dX9_wrong_18 : decode cX9_wrong 18 = .ok (.putfield 35, 3) := by decide +kernel
theorem dX9_wrong_21 : decode cX9_wrong 21 = .ok (.return_, 1) := by decide +kernel
theorem dX9_isGood_0 : decode cX9_isGood 0 = .ok (.aload_n 0, 1) := by decide +kernel
theorem dX9_isGood_1 : decode cX9_isGood 1 = .ok (.getfield 221, 3) := by decide +kernel
theorem dX9_isGood_4 : decode cX9_isGood 4 = .ok (.ifCond .ne 7, 3) := by decide +kernel
theorem dX9_isGood_7 : decode cX9_isGood 7 = .ok (.iconst 1, 1) := by decide +kernel
theorem dX9_isGood_8 : decode cX9_isGood 8 = .ok (.goto 4, 3) := by decide +kernel
theorem dX9_isGood_11 : decode cX9_isGood 11 = .ok (.iconst 0, 1) := by decide +kernel
theorem dX9_isGood_12 : decode cX9_isGood 12 = .ok (.ireturn, 1) := by decide +kernel
theorem dX9_need_0 : decode cX9_need 0 = .ok (.aload_n 0, 1) := by decide +kernel
theorem dX9_need_1 : decode cX9_need 1 = .ok (.invokevirtual 224, 3) := by decide +kernel
theorem dX9_need_4 : decode cX9_need 4 = .ok (.ifCond .ne 4, 3) := by decide +kernel
theorem dX9_need_7 : decode cX9_need 7 = .ok (.return_, 1) := by decide +kernel
theorem dX9_need_8 : decode cX9_need 8 = .ok (.iload_n 1, 1) := by decide +kernel
theorem dX9_need_9 : decode cX9_need 9 = .ok (.ifCond .eq 10, 3) := by decide +kernel
theorem dX9_need_12 : decode cX9_need 12 = .ok (.aload_n 0, 1) := by decide +kernel
theorem dX9_need_13 : decode cX9_need 13 = .ok (.invokevirtual 228, 3) := by decide +kernel
theorem dX9_need_16 : decode cX9_need 16 = .ok (.goto 8, 3) := by decide +kernel
theorem dX9_need_19 : decode cX9_need 19 = .ok (.aload_n 0, 1) := by decide +kernel
theorem dX9_need_20 : decode cX9_need 20 = .ok (.iconst 1, 1) := by decide +kernel
theorem dX9_need_21 : decode cX9_need 21 = .ok (.invokevirtual 231, 3) := by decide +kernel
theorem dX9_need_24 : decode cX9_need 24 = .ok (.return_, 1) := by decide +kernel
theorem dX9_number_0 : decode cX9_number 0 = .ok (.aload_n 0, 1) := by decide +kernel
theorem dX9_number_1 : decode cX9_number 1 = .ok (.invokevirtual 224, 3) := by decide +kernel
theorem dX9_number_4 : decode cX9_number 4 = .ok (.ifCond .ne 5, 3) := by decide +kernel
theorem dX9_number_7 : decode cX9_number 7 = .ok (.iconst 0, 1) := by decide +kernel
theorem dX9_number_8 : decode cX9_number 8 = .ok (.ireturn, 1) := by decide +kernel
theorem dX9_number_9 : decode cX9_number 9 = .ok (.aload_n 0, 1) := by decide +kernel
theorem dX9_number_10 : decode cX9_number 10 = .ok (.getfield 200, 3) := by decide +kernel
theorem dX9_number_13 : decode cX9_number 13 = .ok (.iconst 2, 1) := by decide +kernel
theorem dX9_number_14 : decode cX9_number 14 = .ok (.if_icmp .eq 11, 3) := by decide +kernel
theorem dX9_number_17 : decode cX9_number 17 = .ok (.aload_n 0, 1) := by decide +kernel
theorem dX9_number_18 : decode cX9_number 18 = .ok (.iconst 1, 1) := by decide +kernel
theorem dX9_number_19 : decode cX9_number 19 = .ok (.invokevirtual 231, 3) := by decide +kernel
theorem dX9_number_22 : decode cX9_number 22 = .ok (.goto 32, 3) := by decide +kernel
theorem dX9_number_25 : decode cX9_number 25 = .ok (.aload_n 0, 1) := by decide +kernel
theorem dX9_number_26 : decode cX9_number 26 = .ok (.getfield 210, 3) := by decide +kernel
theorem dX9_number_29 : decode cX9_number 29 = .ok (.iconst 4, 1) := by decide +kernel
theorem dX9_number_30 : decode cX9_number 30 = .ok (.if_icmp .gt 19, 3) := by decide +kernel
theorem dX9_number_33 : decode cX9_number 33 = .ok (.aload_n 0, 1) := by decide +kernel
theorem dX9_number_34 : decode cX9_number 34 = .ok (.getfield 197, 3) := by decide +kernel
theorem dX9_number_37 : decode cX9_number 37 = .ok (.iload_n 1, 1) := by decide +kernel
theorem dX9_number_38 : decode cX9_number 38 = .ok (.if_icmp .lt 11, 3) := by decide +kernel
theorem dX9_number_41 : decode cX9_number 41 = .ok (.aload_n 0, 1) := by decide +kernel
theorem dX9_number_42 : decode cX9_number 42 = .ok (.getfield 197, 3) := by decide +kernel
theorem dX9_number_45 : decode cX9_number 45 = .ok (.iload_n 2, 1) := by decide +kernel
theorem dX9_number_46 : decode cX9_number 46 = .ok (.if_icmp .le 8, 3) := by decide +kernel
theorem dX9_number_49 : decode cX9_number 49 = .ok (.aload_n 0, 1) := by decide +kernel
theorem dX9_number_50 : decode cX9_number 50 = .ok (.iconst 2, 1) := by decide +kernel
theorem dX9_number_51 : decode cX9_number 51 = .ok (.invokevirtual 231, 3) := by decide +kernel
theorem dX9_number_54 : decode cX9_number 54 = .ok (.aload_n 0, 1) := by decide +kernel
theorem dX9_number_55 : decode cX9_number 55 = .ok (.getfield 197, 3) := by decide +kernel
theorem dX9_number_58 : decode cX9_number 58 = .ok (.istore_n 3, 1) := by decide +kernel
theorem dX9_number_59 : decode cX9_number 59 = .ok (.aload_n 0, 1) := by decide +kernel
theorem dX9_number_60 : decode cX9_number 60 = .ok (.invokevirtual 224, 3) := by decide +kernel
theorem dX9_number_63 : decode cX9_number 63 = .ok (.ifCond .eq 7, 3) := by decide +kernel
theorem dX9_number_66 : decode cX9_number 66 = .ok (.aload_n 0, 1) := by decide +kernel
theorem dX9_number_67 : decode cX9_number 67 = .ok (.invokevirtual 228, 3) := by decide +kernel
theorem dX9_number_70 : decode cX9_number 70 = .ok (.iload_n 3, 1) := by decide +kernel
theorem dX9_number_71 : decode cX9_number 71 = .ok (.ireturn, 1) := by decide +kernel
theorem dX9_perhaps_0 : decode cX9_perhaps 0 = .ok (.aload_n 0, 1) := by decide +kernel
theorem dX9_perhaps_1 : decode cX9_perhaps 1 = .ok (.invokevirtual 224, 3) := by decide +kernel
theorem dX9_perhaps_4 : decode cX9_perhaps 4 = .ok (.ifCond .eq 11, 3) := by decide +kernel
theorem dX9_perhaps_7 : decode cX9_perhaps 7 = .ok (.aload_n 0, 1) := by decide +kernel
theorem dX9_perhaps_8 : decode cX9_perhaps 8 = .ok (.iload_n 1, 1) := by decide +kernel
theorem dX9_perhaps_9 : decode cX9_perhaps 9 = .ok (.invokevirtual 234, 3) := by decide +kernel
theorem dX9_perhaps_12 : decode cX9_perhaps 12 = .ok (.ifCond .ne 6, 3) := by decide +kernel
theorem dX9_perhaps_15 : decode cX9_perhaps 15 = .ok (.iload 4, 2) := by decide +kernel
theorem dX9_perhaps_17 : decode cX9_perhaps 17 = .ok (.ireturn, 1) := by decide +kernel
theorem dX9_perhaps_18 : decode cX9_perhaps 18 = .ok (.aload_n 0, 1) := by decide +kernel
theorem dX9_perhaps_19 : decode cX9_perhaps 19 = .ok (.invokevirtual 228, 3) := by decide +kernel
theorem dX9_perhaps_22 : decode cX9_perhaps 22 = .ok (.aload_n 0, 1) := by decide +kernel
theorem dX9_perhaps_23 : decode cX9_perhaps 23 = .ok (.iload_n 2, 1) := by decide +kernel
theorem dX9_perhaps_24 : decode cX9_perhaps 24 = .ok (.iload_n 3, 1) := by decide +kernel
theorem dX9_perhaps_25 : decode cX9_perhaps 25 = .ok (.invokevirtual 237, 3) := by decide +kernel
theorem dX9_perhaps_28 : decode cX9_perhaps 28 = .ok (.ireturn, 1) := by decide +kernel
theorem dX9_personHere_0 : decode cX9_personHere 0 = .ok (.aload_n 0, 1) := by decide +kernel
theorem dX9_personHere_1 : decode cX9_personHere 1 = .ok (.invokevirtual 224, 3) := by decide +kernel
theorem dX9_personHere_4 : decode cX9_personHere 4 = .ok (.ifCond .ne 5, 3) := by decide +kernel
theorem dX9_personHere_7 : decode cX9_personHere 7 = .ok (.iconst 0, 1) := by decide +kernel
theorem dX9_personHere_8 : decode cX9_personHere 8 = .ok (.ireturn, 1) := by decide +kernel
theorem dX9_personHere_9 : decode cX9_personHere 9 = .ok (.aload_n 0, 1) := by decide +kernel
theorem dX9_personHere_10 : decode cX9_personHere 10 = .ok (.getfield 200, 3) := by decide +kernel
theorem dX9_personHere_13 : decode cX9_personHere 13 = .ok (.iconst 2, 1) := by decide +kernel
theorem dX9_personHere_14 : decode cX9_personHere 14 = .ok (.if_icmp .eq 11, 3) := by decide +kernel
theorem dX9_personHere_17 : decode cX9_personHere 17 = .ok (.aload_n 0, 1) := by decide +kernel
theorem dX9_personHere_18 : decode cX9_personHere 18 = .ok (.iconst 1, 1) := by decide +kernel
theorem dX9_personHere_19 : decode cX9_personHere 19 = .ok (.invokevirtual 231, 3) := by decide +kernel
theorem dX9_personHere_22 : decode cX9_personHere 22 = .ok (.goto 35, 3) := by decide +kernel
theorem dX9_personHere_25 : decode cX9_personHere 25 = .ok (.aload_n 0, 1) := by decide +kernel
theorem dX9_personHere_26 : decode cX9_personHere 26 = .ok (.getfield 210, 3) := by decide +kernel
theorem dX9_personHere_29 : decode cX9_personHere 29 = .ok (.iconst 4, 1) := by decide +kernel
theorem dX9_personHere_30 : decode cX9_personHere 30 = .ok (.if_icmp .le 11, 3) := by decide +kernel
theorem dX9_personHere_33 : decode cX9_personHere 33 = .ok (.aload_n 0, 1) := by decide +kernel
theorem dX9_personHere_34 : decode cX9_personHere 34 = .ok (.iconst 2, 1) := by decide +kernel
theorem dX9_personHere_35 : decode cX9_personHere 35 = .ok (.invokevirtual 231, 3) := by decide +kernel
theorem dX9_personHere_38 : decode cX9_personHere 38 = .ok (.goto 19, 3) := by decide +kernel
theorem dX9_personHere_41 : decode cX9_personHere 41 = .ok (.aload_n 0, 1) := by decide +kernel
theorem dX9_personHere_42 : decode cX9_personHere 42 = .ok (.getfield 197, 3) := by decide +kernel
theorem dX9_personHere_45 : decode cX9_personHere 45 = .ok (.aload_n 0, 1) := by decide +kernel
theorem dX9_personHere_46 : decode cX9_personHere 46 = .ok (.getfield 241, 3) := by decide +kernel
theorem dX9_personHere_49 : decode cX9_personHere 49 = .ok (.if_icmp .lt 8, 3) := by decide +kernel
theorem dX9_personHere_52 : decode cX9_personHere 52 = .ok (.aload_n 0, 1) := by decide +kernel
theorem dX9_personHere_53 : decode cX9_personHere 53 = .ok (.iconst 3, 1) := by decide +kernel
theorem dX9_personHere_54 : decode cX9_personHere 54 = .ok (.invokevirtual 231, 3) := by decide +kernel
theorem dX9_personHere_57 : decode cX9_personHere 57 = .ok (.aload_n 0, 1) := by decide +kernel
theorem dX9_personHere_58 : decode cX9_personHere 58 = .ok (.invokevirtual 224, 3) := by decide +kernel
theorem dX9_personHere_61 : decode cX9_personHere 61 = .ok (.ireturn, 1) := by decide +kernel
theorem dX9_readsPerson_0 : decode cX9_readsPerson 0 = .ok (.aload_n 0, 1) := by decide +kernel
theorem dX9_readsPerson_1 : decode cX9_readsPerson 1 = .ok (.getfield 241, 3) := by decide +kernel
theorem dX9_readsPerson_4 : decode cX9_readsPerson 4 = .ok (.bipush 8, 2) := by decide +kernel
theorem dX9_readsPerson_6 : decode cX9_readsPerson 6 = .ok (.if_icmp .ne 8, 3) := by decide +kernel
theorem dX9_readsPerson_9 : decode cX9_readsPerson 9 = .ok (.aload_n 0, 1) := by decide +kernel
theorem dX9_readsPerson_10 : decode cX9_readsPerson 10 = .ok (.iconst 2, 1) := by decide +kernel
theorem dX9_readsPerson_11 : decode cX9_readsPerson 11 = .ok (.invokevirtual 231, 3) := by decide +kernel
theorem dX9_readsPerson_14 : decode cX9_readsPerson 14 = .ok (.aload_n 0, 1) := by decide +kernel
theorem dX9_readsPerson_15 : decode cX9_readsPerson 15 = .ok (.invokevirtual 224, 3) := by decide +kernel
theorem dX9_readsPerson_18 : decode cX9_readsPerson 18 = .ok (.ifCond .ne 4, 3) := by decide +kernel
theorem dX9_readsPerson_21 : decode cX9_readsPerson 21 = .ok (.return_, 1) := by decide +kernel
theorem dX9_readsPerson_22 : decode cX9_readsPerson 22 = .ok (.aload_n 0, 1) := by decide +kernel
theorem dX9_readsPerson_23 : decode cX9_readsPerson 23 = .ok (.invokevirtual 228, 3) := by decide +kernel
theorem dX9_readsPerson_26 : decode cX9_readsPerson 26 = .ok (.aload_n 0, 1) := by decide +kernel
theorem dX9_readsPerson_27 : decode cX9_readsPerson 27 = .ok (.bipush 6, 2) := by decide +kernel
theorem dX9_readsPerson_29 : decode cX9_readsPerson 29 = .ok (.invokevirtual 234, 3) := by decide +kernel
theorem dX9_readsPerson_32 : decode cX9_readsPerson 32 = .ok (.ifCond .eq 7, 3) := by decide +kernel
theorem dX9_readsPerson_35 : decode cX9_readsPerson 35 = .ok (.iconst 0, 1) := by decide +kernel
theorem dX9_readsPerson_36 : decode cX9_readsPerson 36 = .ok (.goto 43, 3) := by decide +kernel
theorem dX9_readsPerson_39 : decode cX9_readsPerson 39 = .ok (.aload_n 0, 1) := by decide +kernel
theorem dX9_readsPerson_40 : decode cX9_readsPerson 40 = .ok (.bipush 7, 2) := by decide +kernel
theorem dX9_readsPerson_42 : decode cX9_readsPerson 42 = .ok (.invokevirtual 234, 3) := by decide +kernel
theorem dX9_readsPerson_45 : decode cX9_readsPerson 45 = .ok (.ifCond .eq 7, 3) := by decide +kernel
theorem dX9_readsPerson_48 : decode cX9_readsPerson 48 = .ok (.iconst 1, 1) := by decide +kernel
theorem dX9_readsPerson_49 : decode cX9_readsPerson 49 = .ok (.goto 30, 3) := by decide +kernel
theorem dX9_readsPerson_52 : decode cX9_readsPerson 52 = .ok (.aload_n 0, 1) := by decide +kernel
theorem dX9_readsPerson_53 : decode cX9_readsPerson 53 = .ok (.bipush 8, 2) := by decide +kernel
theorem dX9_readsPerson_55 : decode cX9_readsPerson 55 = .ok (.invokevirtual 234, 3) := by decide +kernel
theorem dX9_readsPerson_58 : decode cX9_readsPerson 58 = .ok (.ifCond .eq 7, 3) := by decide +kernel
theorem dX9_readsPerson_61 : decode cX9_readsPerson 61 = .ok (.iconst 2, 1) := by decide +kernel
theorem dX9_readsPerson_62 : decode cX9_readsPerson 62 = .ok (.goto 17, 3) := by decide +kernel
theorem dX9_readsPerson_65 : decode cX9_readsPerson 65 = .ok (.aload_n 0, 1) := by decide +kernel
theorem dX9_readsPerson_66 : decode cX9_readsPerson 66 = .ok (.bipush 9, 2) := by decide +kernel
theorem dX9_readsPerson_68 : decode cX9_readsPerson 68 = .ok (.invokevirtual 234, 3) := by decide +kernel
theorem dX9_readsPerson_71 : decode cX9_readsPerson 71 = .ok (.ifCond .eq 7, 3) := by decide +kernel
theorem dX9_readsPerson_74 : decode cX9_readsPerson 74 = .ok (.iconst 3, 1) := by decide +kernel
theorem dX9_readsPerson_75 : decode cX9_readsPerson 75 = .ok (.goto 4, 3) := by decide +kernel
theorem dX9_readsPerson_78 : decode cX9_readsPerson 78 = .ok (.iconst (-1), 1) := by decide +kernel
theorem dX9_readsPerson_79 : decode cX9_readsPerson 79 = .ok (.istore_n 1, 1) := by decide +kernel
theorem dX9_readsPerson_80 : decode cX9_readsPerson 80 = .ok (.iload_n 1, 1) := by decide +kernel
theorem dX9_readsPerson_81 : decode cX9_readsPerson 81 = .ok (.iconst (-1), 1) := by decide +kernel
theorem dX9_readsPerson_82 : decode cX9_readsPerson 82 = .ok (.if_icmp .ne 8, 3) := by decide +kernel
theorem dX9_readsPerson_85 : decode cX9_readsPerson 85 = .ok (.aload_n 0, 1) := by decide +kernel
theorem dX9_readsPerson_86 : decode cX9_readsPerson 86 = .ok (.iconst 1, 1) := by decide +kernel
theorem dX9_readsPerson_87 : decode cX9_readsPerson 87 = .ok (.invokevirtual 231, 3) := by decide +kernel
theorem dX9_readsPerson_90 : decode cX9_readsPerson 90 = .ok (.aload_n 0, 1) := by decide +kernel
theorem dX9_readsPerson_91 : decode cX9_readsPerson 91 = .ok (.invokevirtual 224, 3) := by decide +kernel
theorem dX9_readsPerson_94 : decode cX9_readsPerson 94 = .ok (.ifCond .ne 4, 3) := by decide +kernel
theorem dX9_readsPerson_97 : decode cX9_readsPerson 97 = .ok (.return_, 1) := by decide +kernel
theorem dX9_readsPerson_98 : decode cX9_readsPerson 98 = .ok (.aload_n 0, 1) := by decide +kernel
theorem dX9_readsPerson_99 : decode cX9_readsPerson 99 = .ok (.invokevirtual 228, 3) := by decide +kernel
theorem dX9_readsPerson_102 : decode cX9_readsPerson 102 = .ok (.iconst 0, 1) := by decide +kernel
theorem dX9_readsPerson_103 : decode cX9_readsPerson 103 = .ok (.istore_n 2, 1) := by decide +kernel
theorem dX9_readsPerson_104 : decode cX9_readsPerson 104 = .ok (.iload_n 1, 1) := by decide +kernel
theorem dX9_readsPerson_105 : decode cX9_readsPerson 105 = .ok (.ifCond .ne 12, 3) := by decide +kernel
theorem dX9_readsPerson_108 : decode cX9_readsPerson 108 = .ok (.aload_n 0, 1) := by decide +kernel
theorem dX9_readsPerson_109 : decode cX9_readsPerson 109 = .ok (.iconst 0, 1) := by decide +kernel
theorem dX9_readsPerson_110 : decode cX9_readsPerson 110 = .ok (.sipush 9999, 3) := by decide +kernel
theorem dX9_readsPerson_113 : decode cX9_readsPerson 113 = .ok (.invokevirtual 237, 3) := by decide +kernel
theorem dX9_readsPerson_116 : decode cX9_readsPerson 116 = .ok (.istore_n 2, 1) := by decide +kernel
theorem dX9_readsPerson_117 : decode cX9_readsPerson 117 = .ok (.iload_n 1, 1) := by decide +kernel
theorem dX9_readsPerson_118 : decode cX9_readsPerson 118 = .ok (.iconst 2, 1) := by decide +kernel
theorem dX9_readsPerson_119 : decode cX9_readsPerson 119 = .ok (.if_icmp .ne 12, 3) := by decide +kernel
theorem dX9_readsPerson_122 : decode cX9_readsPerson 122 = .ok (.aload_n 0, 1) := by decide +kernel
theorem dX9_readsPerson_123 : decode cX9_readsPerson 123 = .ok (.iconst 0, 1) := by decide +kernel
theorem dX9_readsPerson_124 : decode cX9_readsPerson 124 = .ok (.sipush 1000, 3) := by decide +kernel
theorem dX9_readsPerson_127 : decode cX9_readsPerson 127 = .ok (.invokevirtual 237, 3) := by decide +kernel
theorem dX9_readsPerson_130 : decode cX9_readsPerson 130 = .ok (.istore_n 2, 1) := by decide +kernel
theorem dX9_readsPerson_131 : decode cX9_readsPerson 131 = .ok (.iload_n 1, 1) := by decide +kernel
theorem dX9_readsPerson_132 : decode cX9_readsPerson 132 = .ok (.iconst 3, 1) := by decide +kernel
theorem dX9_readsPerson_133 : decode cX9_readsPerson 133 = .ok (.if_icmp .ne 15, 3) := by decide +kernel
theorem dX9_readsPerson_136 : decode cX9_readsPerson 136 = .ok (.aload_n 0, 1) := by decide +kernel
theorem dX9_readsPerson_137 : decode cX9_readsPerson 137 = .ok (.bipush 10, 2) := by decide +kernel
theorem dX9_readsPerson_139 : decode cX9_readsPerson 139 = .ok (.iconst 0, 1) := by decide +kernel
theorem dX9_readsPerson_140 : decode cX9_readsPerson 140 = .ok (.sipush 9999, 3) := by decide +kernel
theorem dX9_readsPerson_143 : decode cX9_readsPerson 143 = .ok (.iconst 0, 1) := by decide +kernel
theorem dX9_readsPerson_144 : decode cX9_readsPerson 144 = .ok (.invokevirtual 244, 3) := by decide +kernel
theorem dX9_readsPerson_147 : decode cX9_readsPerson 147 = .ok (.istore_n 2, 1) := by decide +kernel
theorem dX9_readsPerson_148 : decode cX9_readsPerson 148 = .ok (.aload_n 0, 1) := by decide +kernel
theorem dX9_readsPerson_149 : decode cX9_readsPerson 149 = .ok (.invokevirtual 224, 3) := by decide +kernel
theorem dX9_readsPerson_152 : decode cX9_readsPerson 152 = .ok (.ifCond .ne 4, 3) := by decide +kernel
theorem dX9_readsPerson_155 : decode cX9_readsPerson 155 = .ok (.return_, 1) := by decide +kernel
theorem dX9_readsPerson_156 : decode cX9_readsPerson 156 = .ok (.aload_n 0, 1) := by decide +kernel
theorem dX9_readsPerson_157 : decode cX9_readsPerson 157 = .ok (.getfield 41, 3) := by decide +kernel
theorem dX9_readsPerson_160 : decode cX9_readsPerson 160 = .ok (.aload_n 0, 1) := by decide +kernel
theorem dX9_readsPerson_161 : decode cX9_readsPerson 161 = .ok (.getfield 241, 3) := by decide +kernel
theorem dX9_readsPerson_164 : decode cX9_readsPerson 164 = .ok (.iload_n 1, 1) := by decide +kernel
theorem dX9_readsPerson_165 : decode cX9_readsPerson 165 = .ok (.iastore, 1) := by decide +kernel
theorem dX9_readsPerson_166 : decode cX9_readsPerson 166 = .ok (.aload_n 0, 1) := by decide +kernel
theorem dX9_readsPerson_167 : decode cX9_readsPerson 167 = .ok (.getfield 44, 3) := by decide +kernel
theorem dX9_readsPerson_170 : decode cX9_readsPerson 170 = .ok (.aload_n 0, 1) := by decide +kernel
theorem dX9_readsPerson_171 : decode cX9_readsPerson 171 = .ok (.getfield 241, 3) := by decide +kernel
theorem dX9_readsPerson_174 : decode cX9_readsPerson 174 = .ok (.iload_n 2, 1) := by decide +kernel
theorem dX9_readsPerson_175 : decode cX9_readsPerson 175 = .ok (.iastore, 1) := by decide +kernel
theorem dX9_readsPerson_176 : decode cX9_readsPerson 176 = .ok (.iconst 0, 1) := by decide +kernel
theorem dX9_readsPerson_177 : decode cX9_readsPerson 177 = .ok (.istore_n 3, 1) := by decide +kernel
theorem dX9_readsPerson_178 : decode cX9_readsPerson 178 = .ok (.iload_n 3, 1) := by decide +kernel
theorem dX9_readsPerson_179 : decode cX9_readsPerson 179 = .ok (.bipush 8, 2) := by decide +kernel
theorem dX9_readsPerson_181 : decode cX9_readsPerson 181 = .ok (.if_icmp .ge 39, 3) := by decide +kernel
theorem dX9_readsPerson_184 : decode cX9_readsPerson 184 = .ok (.aload_n 0, 1) := by decide +kernel
theorem dX9_readsPerson_185 : decode cX9_readsPerson 185 = .ok (.getfield 47, 3) := by decide +kernel
theorem dX9_readsPerson_188 : decode cX9_readsPerson 188 = .ok (.bipush 8, 2) := by decide +kernel
theorem dX9_readsPerson_190 : decode cX9_readsPerson 190 = .ok (.aload_n 0, 1) := by decide +kernel
theorem dX9_readsPerson_191 : decode cX9_readsPerson 191 = .ok (.getfield 241, 3) := by decide +kernel
theorem dX9_readsPerson_194 : decode cX9_readsPerson 194 = .ok (.imul, 1) := by decide +kernel
theorem dX9_readsPerson_195 : decode cX9_readsPerson 195 = .ok (.iload_n 3, 1) := by decide +kernel
theorem dX9_readsPerson_196 : decode cX9_readsPerson 196 = .ok (.iadd, 1) := by decide +kernel
theorem dX9_readsPerson_197 : decode cX9_readsPerson 197 = .ok (.iconst 0, 1) := by decide +kernel
theorem dX9_readsPerson_198 : decode cX9_readsPerson 198 = .ok (.iastore, 1) := by decide +kernel
theorem dX9_readsPerson_199 : decode cX9_readsPerson 199 = .ok (.aload_n 0, 1) := by decide +kernel
theorem dX9_readsPerson_200 : decode cX9_readsPerson 200 = .ok (.getfield 47, 3) := by decide +kernel
theorem dX9_readsPerson_203 : decode cX9_readsPerson 203 = .ok (.bipush 8, 2) := by decide +kernel
theorem dX9_readsPerson_205 : decode cX9_readsPerson 205 = .ok (.iload_n 3, 1) := by decide +kernel
theorem dX9_readsPerson_206 : decode cX9_readsPerson 206 = .ok (.imul, 1) := by decide +kernel
theorem dX9_readsPerson_207 : decode cX9_readsPerson 207 = .ok (.aload_n 0, 1) := by decide +kernel
theorem dX9_readsPerson_208 : decode cX9_readsPerson 208 = .ok (.getfield 241, 3) := by decide +kernel
theorem dX9_readsPerson_211 : decode cX9_readsPerson 211 = .ok (.iadd, 1) := by decide +kernel
theorem dX9_readsPerson_212 : decode cX9_readsPerson 212 = .ok (.iconst 0, 1) := by decide +kernel
theorem dX9_readsPerson_213 : decode cX9_readsPerson 213 = .ok (.iastore, 1) := by decide +kernel
theorem dX9_readsPerson_214 : decode cX9_readsPerson 214 = .ok (.iinc 3 1, 3) := by decide +kernel
theorem dX9_readsPerson_217 : decode cX9_readsPerson 217 = .ok (.goto (-39), 3) := by decide +kernel
theorem dX9_readsPerson_220 : decode cX9_readsPerson 220 = .ok (.aload_n 0, 1) := by decide +kernel
theorem dX9_readsPerson_221 : decode cX9_readsPerson 221 = .ok (.dup, 1) := by decide +kernel
theorem dX9_readsPerson_222 : decode cX9_readsPerson 222 = .ok (.getfield 241, 3) := by decide +kernel
theorem dX9_readsPerson_225 : decode cX9_readsPerson 225 = .ok (.iconst 1, 1) := by decide +kernel
theorem dX9_readsPerson_226 : decode cX9_readsPerson 226 = .ok (.iadd, 1) := by decide +kernel
theorem dX9_readsPerson_227 : decode cX9_readsPerson 227 = .ok (.putfield 241, 3) := by decide +kernel
theorem dX9_readsPerson_230 : decode cX9_readsPerson 230 = .ok (.return_, 1) := by decide +kernel
theorem dX9_readsKnows_0 : decode cX9_readsKnows 0 = .ok (.aload_n 0, 1) := by decide +kernel
theorem dX9_readsKnows_1 : decode cX9_readsKnows 1 = .ok (.invokevirtual 228, 3) := by decide +kernel
theorem dX9_readsKnows_4 : decode cX9_readsKnows 4 = .ok (.aload_n 0, 1) := by decide +kernel
theorem dX9_readsKnows_5 : decode cX9_readsKnows 5 = .ok (.invokevirtual 248, 3) := by decide +kernel
theorem dX9_readsKnows_8 : decode cX9_readsKnows 8 = .ok (.ifCond .eq 10, 3) := by decide +kernel
theorem dX9_readsKnows_11 : decode cX9_readsKnows 11 = .ok (.aload_n 0, 1) := by decide +kernel
theorem dX9_readsKnows_12 : decode cX9_readsKnows 12 = .ok (.getfield 197, 3) := by decide +kernel
theorem dX9_readsKnows_15 : decode cX9_readsKnows 15 = .ok (.goto 4, 3) := by decide +kernel
theorem dX9_readsKnows_18 : decode cX9_readsKnows 18 = .ok (.iconst 0, 1) := by decide +kernel
theorem dX9_readsKnows_19 : decode cX9_readsKnows 19 = .ok (.istore_n 1, 1) := by decide +kernel
theorem dX9_readsKnows_20 : decode cX9_readsKnows 20 = .ok (.aload_n 0, 1) := by decide +kernel
theorem dX9_readsKnows_21 : decode cX9_readsKnows 21 = .ok (.invokevirtual 224, 3) := by decide +kernel
theorem dX9_readsKnows_24 : decode cX9_readsKnows 24 = .ok (.ifCond .eq 7, 3) := by decide +kernel
theorem dX9_readsKnows_27 : decode cX9_readsKnows 27 = .ok (.aload_n 0, 1) := by decide +kernel
theorem dX9_readsKnows_28 : decode cX9_readsKnows 28 = .ok (.invokevirtual 228, 3) := by decide +kernel
theorem dX9_readsKnows_31 : decode cX9_readsKnows 31 = .ok (.aload_n 0, 1) := by decide +kernel
theorem dX9_readsKnows_32 : decode cX9_readsKnows 32 = .ok (.invokevirtual 248, 3) := by decide +kernel
theorem dX9_readsKnows_35 : decode cX9_readsKnows 35 = .ok (.ifCond .eq 33, 3) := by decide +kernel
theorem dX9_readsKnows_38 : decode cX9_readsKnows 38 = .ok (.aload_n 0, 1) := by decide +kernel
theorem dX9_readsKnows_39 : decode cX9_readsKnows 39 = .ok (.getfield 197, 3) := by decide +kernel
theorem dX9_readsKnows_42 : decode cX9_readsKnows 42 = .ok (.iload_n 1, 1) := by decide +kernel
theorem dX9_readsKnows_43 : decode cX9_readsKnows 43 = .ok (.if_icmp .eq 20, 3) := by decide +kernel
theorem dX9_readsKnows_46 : decode cX9_readsKnows 46 = .ok (.aload_n 0, 1) := by decide +kernel
theorem dX9_readsKnows_47 : decode cX9_readsKnows 47 = .ok (.getfield 47, 3) := by decide +kernel
theorem dX9_readsKnows_50 : decode cX9_readsKnows 50 = .ok (.bipush 8, 2) := by decide +kernel
theorem dX9_readsKnows_52 : decode cX9_readsKnows 52 = .ok (.iload_n 1, 1) := by decide +kernel
theorem dX9_readsKnows_53 : decode cX9_readsKnows 53 = .ok (.imul, 1) := by decide +kernel
theorem dX9_readsKnows_54 : decode cX9_readsKnows 54 = .ok (.aload_n 0, 1) := by decide +kernel
theorem dX9_readsKnows_55 : decode cX9_readsKnows 55 = .ok (.getfield 197, 3) := by decide +kernel
theorem dX9_readsKnows_58 : decode cX9_readsKnows 58 = .ok (.iadd, 1) := by decide +kernel
theorem dX9_readsKnows_59 : decode cX9_readsKnows 59 = .ok (.iaload, 1) := by decide +kernel
theorem dX9_readsKnows_60 : decode cX9_readsKnows 60 = .ok (.ifCond .le 8, 3) := by decide +kernel
theorem dX9_readsKnows_63 : decode cX9_readsKnows 63 = .ok (.aload_n 0, 1) := by decide +kernel
theorem dX9_readsKnows_64 : decode cX9_readsKnows 64 = .ok (.iconst 4, 1) := by decide +kernel
theorem dX9_readsKnows_65 : decode cX9_readsKnows 65 = .ok (.invokevirtual 231, 3) := by decide +kernel
theorem dX9_readsKnows_68 : decode cX9_readsKnows 68 = .ok (.aload_n 0, 1) := by decide +kernel
theorem dX9_readsKnows_69 : decode cX9_readsKnows 69 = .ok (.getfield 197, 3) := by decide +kernel
theorem dX9_readsKnows_72 : decode cX9_readsKnows 72 = .ok (.istore_n 2, 1) := by decide +kernel
theorem dX9_readsKnows_73 : decode cX9_readsKnows 73 = .ok (.aload_n 0, 1) := by decide +kernel
theorem dX9_readsKnows_74 : decode cX9_readsKnows 74 = .ok (.invokevirtual 224, 3) := by decide +kernel
theorem dX9_readsKnows_77 : decode cX9_readsKnows 77 = .ok (.ifCond .eq 7, 3) := by decide +kernel
theorem dX9_readsKnows_80 : decode cX9_readsKnows 80 = .ok (.aload_n 0, 1) := by decide +kernel
theorem dX9_readsKnows_81 : decode cX9_readsKnows 81 = .ok (.invokevirtual 228, 3) := by decide +kernel
theorem dX9_readsKnows_84 : decode cX9_readsKnows 84 = .ok (.aload_n 0, 1) := by decide +kernel
theorem dX9_readsKnows_85 : decode cX9_readsKnows 85 = .ok (.bipush 11, 2) := by decide +kernel
theorem dX9_readsKnows_87 : decode cX9_readsKnows 87 = .ok (.iconst 1, 1) := by decide +kernel
theorem dX9_readsKnows_88 : decode cX9_readsKnows 88 = .ok (.bipush 99, 2) := by decide +kernel
theorem dX9_readsKnows_90 : decode cX9_readsKnows 90 = .ok (.iconst 1, 1) := by decide +kernel
theorem dX9_readsKnows_91 : decode cX9_readsKnows 91 = .ok (.invokevirtual 244, 3) := by decide +kernel
theorem dX9_readsKnows_94 : decode cX9_readsKnows 94 = .ok (.istore_n 3, 1) := by decide +kernel
theorem dX9_readsKnows_95 : decode cX9_readsKnows 95 = .ok (.aload_n 0, 1) := by decide +kernel
theorem dX9_readsKnows_96 : decode cX9_readsKnows 96 = .ok (.invokevirtual 224, 3) := by decide +kernel
theorem dX9_readsKnows_99 : decode cX9_readsKnows 99 = .ok (.ifCond .eq 15, 3) := by decide +kernel
theorem dX9_readsKnows_102 : decode cX9_readsKnows 102 = .ok (.aload_n 0, 1) := by decide +kernel
theorem dX9_readsKnows_103 : decode cX9_readsKnows 103 = .ok (.getfield 47, 3) := by decide +kernel
theorem dX9_readsKnows_106 : decode cX9_readsKnows 106 = .ok (.bipush 8, 2) := by decide +kernel
theorem dX9_readsKnows_108 : decode cX9_readsKnows 108 = .ok (.iload_n 1, 1) := by decide +kernel
theorem dX9_readsKnows_109 : decode cX9_readsKnows 109 = .ok (.imul, 1) := by decide +kernel
theorem dX9_readsKnows_110 : decode cX9_readsKnows 110 = .ok (.iload_n 2, 1) := by decide +kernel
theorem dX9_readsKnows_111 : decode cX9_readsKnows 111 = .ok (.iadd, 1) := by decide +kernel
theorem dX9_readsKnows_112 : decode cX9_readsKnows 112 = .ok (.iload_n 3, 1) := by decide +kernel
theorem dX9_readsKnows_113 : decode cX9_readsKnows 113 = .ok (.iastore, 1) := by decide +kernel
theorem dX9_readsKnows_114 : decode cX9_readsKnows 114 = .ok (.return_, 1) := by decide +kernel
theorem dX9_readsLetter_0 : decode cX9_readsLetter 0 = .ok (.aload_n 0, 1) := by decide +kernel
theorem dX9_readsLetter_1 : decode cX9_readsLetter 1 = .ok (.aload_n 0, 1) := by decide +kernel
theorem dX9_readsLetter_2 : decode cX9_readsLetter 2 = .ok (.iconst 0, 1) := by decide +kernel
theorem dX9_readsLetter_3 : decode cX9_readsLetter 3 = .ok (.sipush 9999, 3) := by decide +kernel
theorem dX9_readsLetter_6 : decode cX9_readsLetter 6 = .ok (.invokevirtual 237, 3) := by decide +kernel
theorem dX9_readsLetter_9 : decode cX9_readsLetter 9 = .ok (.putfield 251, 3) := by decide +kernel
theorem dX9_readsLetter_12 : decode cX9_readsLetter 12 = .ok (.aload_n 0, 1) := by decide +kernel
theorem dX9_readsLetter_13 : decode cX9_readsLetter 13 = .ok (.aload_n 0, 1) := by decide +kernel
theorem dX9_readsLetter_14 : decode cX9_readsLetter 14 = .ok (.iconst 0, 1) := by decide +kernel
theorem dX9_readsLetter_15 : decode cX9_readsLetter 15 = .ok (.bipush 99, 2) := by decide +kernel
theorem dX9_readsLetter_17 : decode cX9_readsLetter 17 = .ok (.invokevirtual 237, 3) := by decide +kernel
theorem dX9_readsLetter_20 : decode cX9_readsLetter 20 = .ok (.putfield 254, 3) := by decide +kernel
theorem dX9_readsLetter_23 : decode cX9_readsLetter 23 = .ok (.aload_n 0, 1) := by decide +kernel
theorem dX9_readsLetter_24 : decode cX9_readsLetter 24 = .ok (.aload_n 0, 1) := by decide +kernel
theorem dX9_readsLetter_25 : decode cX9_readsLetter 25 = .ok (.iconst 1, 1) := by decide +kernel
theorem dX9_readsLetter_26 : decode cX9_readsLetter 26 = .ok (.bipush 12, 2) := by decide +kernel
theorem dX9_readsLetter_28 : decode cX9_readsLetter 28 = .ok (.invokevirtual 237, 3) := by decide +kernel
theorem dX9_readsLetter_31 : decode cX9_readsLetter 31 = .ok (.putfield 257, 3) := by decide +kernel
theorem dX9_readsLetter_34 : decode cX9_readsLetter 34 = .ok (.aload_n 0, 1) := by decide +kernel
theorem dX9_readsLetter_35 : decode cX9_readsLetter 35 = .ok (.aload_n 0, 1) := by decide +kernel
theorem dX9_readsLetter_36 : decode cX9_readsLetter 36 = .ok (.bipush 12, 2) := by decide +kernel
theorem dX9_readsLetter_38 : decode cX9_readsLetter 38 = .ok (.iconst 0, 1) := by decide +kernel
theorem dX9_readsLetter_39 : decode cX9_readsLetter 39 = .ok (.sipush 9999, 3) := by decide +kernel
theorem dX9_readsLetter_42 : decode cX9_readsLetter 42 = .ok (.iconst 0, 1) := by decide +kernel
theorem dX9_readsLetter_43 : decode cX9_readsLetter 43 = .ok (.invokevirtual 244, 3) := by decide +kernel
theorem dX9_readsLetter_46 : decode cX9_readsLetter 46 = .ok (.putfield 260, 3) := by decide +kernel
theorem dX9_readsLetter_49 : decode cX9_readsLetter 49 = .ok (.aload_n 0, 1) := by decide +kernel
theorem dX9_readsLetter_50 : decode cX9_readsLetter 50 = .ok (.aload_n 0, 1) := by decide +kernel
theorem dX9_readsLetter_51 : decode cX9_readsLetter 51 = .ok (.bipush 13, 2) := by decide +kernel
theorem dX9_readsLetter_53 : decode cX9_readsLetter 53 = .ok (.iconst 0, 1) := by decide +kernel
theorem dX9_readsLetter_54 : decode cX9_readsLetter 54 = .ok (.sipush 9999, 3) := by decide +kernel
theorem dX9_readsLetter_57 : decode cX9_readsLetter 57 = .ok (.iconst 0, 1) := by decide +kernel
theorem dX9_readsLetter_58 : decode cX9_readsLetter 58 = .ok (.invokevirtual 244, 3) := by decide +kernel
theorem dX9_readsLetter_61 : decode cX9_readsLetter 61 = .ok (.putfield 263, 3) := by decide +kernel
theorem dX9_readsLetter_64 : decode cX9_readsLetter 64 = .ok (.return_, 1) := by decide +kernel
theorem dX9_line_0 : decode cX9_line 0 = .ok (.aload_n 0, 1) := by decide +kernel
theorem dX9_line_1 : decode cX9_line 1 = .ok (.iconst 0, 1) := by decide +kernel
theorem dX9_line_2 : decode cX9_line 2 = .ok (.invokevirtual 234, 3) := by decide +kernel
theorem dX9_line_5 : decode cX9_line 5 = .ok (.ifCond .eq 10, 3) := by decide +kernel
theorem dX9_line_8 : decode cX9_line 8 = .ok (.aload_n 0, 1) := by decide +kernel
theorem dX9_line_9 : decode cX9_line 9 = .ok (.invokevirtual 266, 3) := by decide +kernel
theorem dX9_line_12 : decode cX9_line 12 = .ok (.goto 242, 3) := by decide +kernel
theorem dX9_line_15 : decode cX9_line 15 = .ok (.aload_n 0, 1) := by decide +kernel
theorem dX9_line_16 : decode cX9_line 16 = .ok (.iconst 1, 1) := by decide +kernel
theorem dX9_line_17 : decode cX9_line 17 = .ok (.invokevirtual 234, 3) := by decide +kernel
theorem dX9_line_20 : decode cX9_line 20 = .ok (.ifCond .eq 10, 3) := by decide +kernel
theorem dX9_line_23 : decode cX9_line 23 = .ok (.aload_n 0, 1) := by decide +kernel
theorem dX9_line_24 : decode cX9_line 24 = .ok (.invokevirtual 269, 3) := by decide +kernel
theorem dX9_line_27 : decode cX9_line 27 = .ok (.goto 227, 3) := by decide +kernel
theorem dX9_line_30 : decode cX9_line 30 = .ok (.aload_n 0, 1) := by decide +kernel
theorem dX9_line_31 : decode cX9_line 31 = .ok (.iconst 2, 1) := by decide +kernel
theorem dX9_line_32 : decode cX9_line 32 = .ok (.invokevirtual 234, 3) := by decide +kernel
theorem dX9_line_35 : decode cX9_line 35 = .ok (.ifCond .eq 7, 3) := by decide +kernel
theorem dX9_line_38 : decode cX9_line 38 = .ok (.iconst 0, 1) := by decide +kernel
theorem dX9_line_39 : decode cX9_line 39 = .ok (.goto 40, 3) := by decide +kernel
theorem dX9_line_42 : decode cX9_line 42 = .ok (.aload_n 0, 1) := by decide +kernel
theorem dX9_line_43 : decode cX9_line 43 = .ok (.iconst 3, 1) := by decide +kernel
theorem dX9_line_44 : decode cX9_line 44 = .ok (.invokevirtual 234, 3) := by decide +kernel
theorem dX9_line_47 : decode cX9_line 47 = .ok (.ifCond .eq 7, 3) := by decide +kernel
theorem dX9_line_50 : decode cX9_line 50 = .ok (.iconst 1, 1) := by decide +kernel
theorem dX9_line_51 : decode cX9_line 51 = .ok (.goto 28, 3) := by decide +kernel
theorem dX9_line_54 : decode cX9_line 54 = .ok (.aload_n 0, 1) := by decide +kernel
theorem dX9_line_55 : decode cX9_line 55 = .ok (.iconst 4, 1) := by decide +kernel
theorem dX9_line_56 : decode cX9_line 56 = .ok (.invokevirtual 234, 3) := by decide +kernel
theorem dX9_line_59 : decode cX9_line 59 = .ok (.ifCond .eq 7, 3) := by decide +kernel
theorem dX9_line_62 : decode cX9_line 62 = .ok (.iconst 2, 1) := by decide +kernel
theorem dX9_line_63 : decode cX9_line 63 = .ok (.goto 16, 3) := by decide +kernel
theorem dX9_line_66 : decode cX9_line 66 = .ok (.aload_n 0, 1) := by decide +kernel
theorem dX9_line_67 : decode cX9_line 67 = .ok (.iconst 5, 1) := by decide +kernel
theorem dX9_line_68 : decode cX9_line 68 = .ok (.invokevirtual 234, 3) := by decide +kernel
theorem dX9_line_71 : decode cX9_line 71 = .ok (.ifCond .eq 7, 3) := by decide +kernel
theorem dX9_line_74 : decode cX9_line 74 = .ok (.iconst 3, 1) := by decide +kernel
theorem dX9_line_75 : decode cX9_line 75 = .ok (.goto 4, 3) := by decide +kernel
theorem dX9_line_78 : decode cX9_line 78 = .ok (.iconst (-1), 1) := by decide +kernel
theorem dX9_line_79 : decode cX9_line 79 = .ok (.istore_n 1, 1) := by decide +kernel
theorem dX9_line_80 : decode cX9_line 80 = .ok (.iload_n 1, 1) := by decide +kernel
theorem dX9_line_81 : decode cX9_line 81 = .ok (.iconst (-1), 1) := by decide +kernel
theorem dX9_line_82 : decode cX9_line 82 = .ok (.if_icmp .ne 11, 3) := by decide +kernel
theorem dX9_line_85 : decode cX9_line 85 = .ok (.aload_n 0, 1) := by decide +kernel
theorem dX9_line_86 : decode cX9_line 86 = .ok (.iconst 1, 1) := by decide +kernel
theorem dX9_line_87 : decode cX9_line 87 = .ok (.invokevirtual 231, 3) := by decide +kernel
theorem dX9_line_90 : decode cX9_line 90 = .ok (.goto 20, 3) := by decide +kernel
theorem dX9_line_93 : decode cX9_line 93 = .ok (.aload_n 0, 1) := by decide +kernel
theorem dX9_line_94 : decode cX9_line 94 = .ok (.getfield 272, 3) := by decide +kernel
theorem dX9_line_97 : decode cX9_line 97 = .ok (.iload_n 1, 1) := by decide +kernel
theorem dX9_line_98 : decode cX9_line 98 = .ok (.ishr, 1) := by decide +kernel
theorem dX9_line_99 : decode cX9_line 99 = .ok (.iconst 1, 1) := by decide +kernel
theorem dX9_line_100 : decode cX9_line 100 = .ok (.iand, 1) := by decide +kernel
theorem dX9_line_101 : decode cX9_line 101 = .ok (.iconst 1, 1) := by decide +kernel
theorem dX9_line_102 : decode cX9_line 102 = .ok (.if_icmp .ne 8, 3) := by decide +kernel
theorem dX9_line_105 : decode cX9_line 105 = .ok (.aload_n 0, 1) := by decide +kernel
theorem dX9_line_106 : decode cX9_line 106 = .ok (.iconst 5, 1) := by decide +kernel
theorem dX9_line_107 : decode cX9_line 107 = .ok (.invokevirtual 231, 3) := by decide +kernel
theorem dX9_line_110 : decode cX9_line 110 = .ok (.aload_n 0, 1) := by decide +kernel
theorem dX9_line_111 : decode cX9_line 111 = .ok (.invokevirtual 224, 3) := by decide +kernel
theorem dX9_line_114 : decode cX9_line 114 = .ok (.ifCond .ne 4, 3) := by decide +kernel
theorem dX9_line_117 : decode cX9_line 117 = .ok (.return_, 1) := by decide +kernel
theorem dX9_line_118 : decode cX9_line 118 = .ok (.aload_n 0, 1) := by decide +kernel
theorem dX9_line_119 : decode cX9_line 119 = .ok (.dup, 1) := by decide +kernel
theorem dX9_line_120 : decode cX9_line 120 = .ok (.getfield 272, 3) := by decide +kernel
theorem dX9_line_123 : decode cX9_line 123 = .ok (.iconst 1, 1) := by decide +kernel
theorem dX9_line_124 : decode cX9_line 124 = .ok (.iload_n 1, 1) := by decide +kernel
theorem dX9_line_125 : decode cX9_line 125 = .ok (.ishl, 1) := by decide +kernel
theorem dX9_line_126 : decode cX9_line 126 = .ok (.ior, 1) := by decide +kernel
theorem dX9_line_127 : decode cX9_line 127 = .ok (.putfield 272, 3) := by decide +kernel
theorem dX9_line_130 : decode cX9_line 130 = .ok (.aload_n 0, 1) := by decide +kernel
theorem dX9_line_131 : decode cX9_line 131 = .ok (.invokevirtual 228, 3) := by decide +kernel
theorem dX9_line_134 : decode cX9_line 134 = .ok (.iload_n 1, 1) := by decide +kernel
theorem dX9_line_135 : decode cX9_line 135 = .ok (.ifCond .ne 7, 3) := by decide +kernel
theorem dX9_line_138 : decode cX9_line 138 = .ok (.aload_n 0, 1) := by decide +kernel
theorem dX9_line_139 : decode cX9_line 139 = .ok (.invokevirtual 275, 3) := by decide +kernel
theorem dX9_line_142 : decode cX9_line 142 = .ok (.iload_n 1, 1) := by decide +kernel
theorem dX9_line_143 : decode cX9_line 143 = .ok (.iconst 1, 1) := by decide +kernel
theorem dX9_line_144 : decode cX9_line 144 = .ok (.if_icmp .ne 70, 3) := by decide +kernel
theorem dX9_line_147 : decode cX9_line 147 = .ok (.aload_n 0, 1) := by decide +kernel
theorem dX9_line_148 : decode cX9_line 148 = .ok (.aload_n 0, 1) := by decide +kernel
theorem dX9_line_149 : decode cX9_line 149 = .ok (.bipush 14, 2) := by decide +kernel
theorem dX9_line_151 : decode cX9_line 151 = .ok (.invokevirtual 234, 3) := by decide +kernel
theorem dX9_line_154 : decode cX9_line 154 = .ok (.ifCond .eq 7, 3) := by decide +kernel
theorem dX9_line_157 : decode cX9_line 157 = .ok (.iconst 0, 1) := by decide +kernel
theorem dX9_line_158 : decode cX9_line 158 = .ok (.goto 17, 3) := by decide +kernel
theorem dX9_line_161 : decode cX9_line 161 = .ok (.aload_n 0, 1) := by decide +kernel
theorem dX9_line_162 : decode cX9_line 162 = .ok (.bipush 15, 2) := by decide +kernel
theorem dX9_line_164 : decode cX9_line 164 = .ok (.invokevirtual 234, 3) := by decide +kernel
theorem dX9_line_167 : decode cX9_line 167 = .ok (.ifCond .eq 7, 3) := by decide +kernel
theorem dX9_line_170 : decode cX9_line 170 = .ok (.iconst 1, 1) := by decide +kernel
theorem dX9_line_171 : decode cX9_line 171 = .ok (.goto 4, 3) := by decide +kernel
theorem dX9_line_174 : decode cX9_line 174 = .ok (.iconst 2, 1) := by decide +kernel
theorem dX9_line_175 : decode cX9_line 175 = .ok (.putfield 278, 3) := by decide +kernel
theorem dX9_line_178 : decode cX9_line 178 = .ok (.aload_n 0, 1) := by decide +kernel
theorem dX9_line_179 : decode cX9_line 179 = .ok (.aload_n 0, 1) := by decide +kernel
theorem dX9_line_180 : decode cX9_line 180 = .ok (.bipush 14, 2) := by decide +kernel
theorem dX9_line_182 : decode cX9_line 182 = .ok (.invokevirtual 234, 3) := by decide +kernel
theorem dX9_line_185 : decode cX9_line 185 = .ok (.ifCond .ne 21, 3) := by decide +kernel
theorem dX9_line_188 : decode cX9_line 188 = .ok (.aload_n 0, 1) := by decide +kernel
theorem dX9_line_189 : decode cX9_line 189 = .ok (.bipush 15, 2) := by decide +kernel
theorem dX9_line_191 : decode cX9_line 191 = .ok (.invokevirtual 234, 3) := by decide +kernel
theorem dX9_line_194 : decode cX9_line 194 = .ok (.ifCond .ne 12, 3) := by decide +kernel
theorem dX9_line_197 : decode cX9_line 197 = .ok (.aload_n 0, 1) := by decide +kernel
theorem dX9_line_198 : decode cX9_line 198 = .ok (.bipush 16, 2) := by decide +kernel
theorem dX9_line_200 : decode cX9_line 200 = .ok (.invokevirtual 234, 3) := by decide +kernel
theorem dX9_line_203 : decode cX9_line 203 = .ok (.ifCond .eq 7, 3) := by decide +kernel
theorem dX9_line_206 : decode cX9_line 206 = .ok (.iconst 1, 1) := by decide +kernel
theorem dX9_line_207 : decode cX9_line 207 = .ok (.goto 4, 3) := by decide +kernel
theorem dX9_line_210 : decode cX9_line 210 = .ok (.iconst 0, 1) := by decide +kernel
theorem dX9_line_211 : decode cX9_line 211 = .ok (.invokevirtual 281, 3) := by decide +kernel
theorem dX9_line_214 : decode cX9_line 214 = .ok (.iload_n 1, 1) := by decide +kernel
theorem dX9_line_215 : decode cX9_line 215 = .ok (.iconst 2, 1) := by decide +kernel
theorem dX9_line_216 : decode cX9_line 216 = .ok (.if_icmp .ne 14, 3) := by decide +kernel
theorem dX9_line_219 : decode cX9_line 219 = .ok (.aload_n 0, 1) := by decide +kernel
theorem dX9_line_220 : decode cX9_line 220 = .ok (.aload_n 0, 1) := by decide +kernel
theorem dX9_line_221 : decode cX9_line 221 = .ok (.iconst 1, 1) := by decide +kernel
theorem dX9_line_222 : decode cX9_line 222 = .ok (.bipush 99, 2) := by decide +kernel
theorem dX9_line_224 : decode cX9_line 224 = .ok (.invokevirtual 237, 3) := by decide +kernel
theorem dX9_line_227 : decode cX9_line 227 = .ok (.putfield 285, 3) := by decide +kernel
theorem dX9_line_230 : decode cX9_line 230 = .ok (.iload_n 1, 1) := by decide +kernel
theorem dX9_line_231 : decode cX9_line 231 = .ok (.iconst 3, 1) := by decide +kernel
theorem dX9_line_232 : decode cX9_line 232 = .ok (.if_icmp .ne 22, 3) := by decide +kernel
theorem dX9_line_235 : decode cX9_line 235 = .ok (.aload_n 0, 1) := by decide +kernel
theorem dX9_line_236 : decode cX9_line 236 = .ok (.invokevirtual 248, 3) := by decide +kernel
theorem dX9_line_239 : decode cX9_line 239 = .ok (.ifCond .eq 15, 3) := by decide +kernel
theorem dX9_line_242 : decode cX9_line 242 = .ok (.aload_n 0, 1) := by decide +kernel
theorem dX9_line_243 : decode cX9_line 243 = .ok (.aload_n 0, 1) := by decide +kernel
theorem dX9_line_244 : decode cX9_line 244 = .ok (.getfield 197, 3) := by decide +kernel
theorem dX9_line_247 : decode cX9_line 247 = .ok (.putfield 288, 3) := by decide +kernel
theorem dX9_line_250 : decode cX9_line 250 = .ok (.aload_n 0, 1) := by decide +kernel
theorem dX9_line_251 : decode cX9_line 251 = .ok (.invokevirtual 228, 3) := by decide +kernel
theorem dX9_line_254 : decode cX9_line 254 = .ok (.aload_n 0, 1) := by decide +kernel
theorem dX9_line_255 : decode cX9_line 255 = .ok (.aload_n 0, 1) := by decide +kernel
theorem dX9_line_256 : decode cX9_line 256 = .ok (.getfield 200, 3) := by decide +kernel
theorem dX9_line_259 : decode cX9_line 259 = .ok (.iconst 3, 1) := by decide +kernel
theorem dX9_line_260 : decode cX9_line 260 = .ok (.if_icmp .ne 7, 3) := by decide +kernel
theorem dX9_line_263 : decode cX9_line 263 = .ok (.iconst 1, 1) := by decide +kernel
theorem dX9_line_264 : decode cX9_line 264 = .ok (.goto 4, 3) := by decide +kernel
theorem dX9_line_267 : decode cX9_line 267 = .ok (.iconst 0, 1) := by decide +kernel
theorem dX9_line_268 : decode cX9_line 268 = .ok (.invokevirtual 281, 3) := by decide +kernel
theorem dX9_line_271 : decode cX9_line 271 = .ok (.return_, 1) := by decide +kernel
theorem dX9_town_0 : decode cX9_town 0 = .ok (.aload_n 0, 1) := by decide +kernel
theorem dX9_town_1 : decode cX9_town 1 = .ok (.iconst 0, 1) := by decide +kernel
theorem dX9_town_2 : decode cX9_town 2 = .ok (.putfield 170, 3) := by decide +kernel
theorem dX9_town_5 : decode cX9_town 5 = .ok (.aload_n 0, 1) := by decide +kernel
theorem dX9_town_6 : decode cX9_town 6 = .ok (.iload_n 1, 1) := by decide +kernel
theorem dX9_town_7 : decode cX9_town 7 = .ok (.ifCond .lt 15, 3) := by decide +kernel
theorem dX9_town_10 : decode cX9_town 10 = .ok (.iload_n 1, 1) := by decide +kernel
theorem dX9_town_11 : decode cX9_town 11 = .ok (.aload_n 0, 1) := by decide +kernel
theorem dX9_town_12 : decode cX9_town 12 = .ok (.getfield 173, 3) := by decide +kernel
theorem dX9_town_15 : decode cX9_town 15 = .ok (.if_icmp .gt 7, 3) := by decide +kernel
theorem dX9_town_18 : decode cX9_town 18 = .ok (.iconst 1, 1) := by decide +kernel
theorem dX9_town_19 : decode cX9_town 19 = .ok (.goto 4, 3) := by decide +kernel
theorem dX9_town_22 : decode cX9_town 22 = .ok (.iconst 0, 1) := by decide +kernel
theorem dX9_town_23 : decode cX9_town 23 = .ok (.iconst 1, 1) := by decide +kernel
theorem dX9_town_24 : decode cX9_town 24 = .ok (.invokevirtual 291, 3) := by decide +kernel
theorem dX9_town_27 : decode cX9_town 27 = .ok (.ifCond .ne 5, 3) := by decide +kernel
theorem dX9_town_30 : decode cX9_town 30 = .ok (.iconst 0, 1) := by decide +kernel
theorem dX9_town_31 : decode cX9_town 31 = .ok (.ireturn, 1) := by decide +kernel
theorem dX9_town_32 : decode cX9_town 32 = .ok (.aload_n 0, 1) := by decide +kernel
theorem dX9_town_33 : decode cX9_town 33 = .ok (.iconst 0, 1) := by decide +kernel
theorem dX9_town_34 : decode cX9_town 34 = .ok (.putfield 173, 3) := by decide +kernel
theorem dX9_town_37 : decode cX9_town 37 = .ok (.aload_n 0, 1) := by decide +kernel
theorem dX9_town_38 : decode cX9_town 38 = .ok (.iconst (-1), 1) := by decide +kernel
theorem dX9_town_39 : decode cX9_town 39 = .ok (.putfield 35, 3) := by decide +kernel
theorem dX9_town_42 : decode cX9_town 42 = .ok (.aload_n 0, 1) := by decide +kernel
theorem dX9_town_43 : decode cX9_town 43 = .ok (.iconst 0, 1) := by decide +kernel
theorem dX9_town_44 : decode cX9_town 44 = .ok (.putfield 221, 3) := by decide +kernel
theorem dX9_town_47 : decode cX9_town 47 = .ok (.aload_n 0, 1) := by decide +kernel
theorem dX9_town_48 : decode cX9_town 48 = .ok (.iload_n 1, 1) := by decide +kernel
theorem dX9_town_49 : decode cX9_town 49 = .ok (.putfield 180, 3) := by decide +kernel
theorem dX9_town_52 : decode cX9_town 52 = .ok (.aload_n 0, 1) := by decide +kernel
theorem dX9_town_53 : decode cX9_town 53 = .ok (.iconst 0, 1) := by decide +kernel
theorem dX9_town_54 : decode cX9_town 54 = .ok (.putfield 183, 3) := by decide +kernel
theorem dX9_town_57 : decode cX9_town 57 = .ok (.aload_n 0, 1) := by decide +kernel
theorem dX9_town_58 : decode cX9_town 58 = .ok (.iconst 0, 1) := by decide +kernel
theorem dX9_town_59 : decode cX9_town 59 = .ok (.putfield 241, 3) := by decide +kernel
theorem dX9_town_62 : decode cX9_town 62 = .ok (.aload_n 0, 1) := by decide +kernel
theorem dX9_town_63 : decode cX9_town 63 = .ok (.iconst 0, 1) := by decide +kernel
theorem dX9_town_64 : decode cX9_town 64 = .ok (.putfield 288, 3) := by decide +kernel
theorem dX9_town_67 : decode cX9_town 67 = .ok (.aload_n 0, 1) := by decide +kernel
theorem dX9_town_68 : decode cX9_town 68 = .ok (.iconst 1, 1) := by decide +kernel
theorem dX9_town_69 : decode cX9_town 69 = .ok (.putfield 251, 3) := by decide +kernel
theorem dX9_town_72 : decode cX9_town 72 = .ok (.aload_n 0, 1) := by decide +kernel
theorem dX9_town_73 : decode cX9_town 73 = .ok (.iconst 1, 1) := by decide +kernel
theorem dX9_town_74 : decode cX9_town 74 = .ok (.putfield 254, 3) := by decide +kernel
theorem dX9_town_77 : decode cX9_town 77 = .ok (.aload_n 0, 1) := by decide +kernel
theorem dX9_town_78 : decode cX9_town 78 = .ok (.bipush 8, 2) := by decide +kernel
theorem dX9_town_80 : decode cX9_town 80 = .ok (.putfield 257, 3) := by decide +kernel
theorem dX9_town_83 : decode cX9_town 83 = .ok (.aload_n 0, 1) := by decide +kernel
theorem dX9_town_84 : decode cX9_town 84 = .ok (.iconst 0, 1) := by decide +kernel
theorem dX9_town_85 : decode cX9_town 85 = .ok (.putfield 260, 3) := by decide +kernel
theorem dX9_town_88 : decode cX9_town 88 = .ok (.aload_n 0, 1) := by decide +kernel
theorem dX9_town_89 : decode cX9_town 89 = .ok (.iconst 0, 1) := by decide +kernel
theorem dX9_town_90 : decode cX9_town 90 = .ok (.putfield 263, 3) := by decide +kernel
theorem dX9_town_93 : decode cX9_town 93 = .ok (.aload_n 0, 1) := by decide +kernel
theorem dX9_town_94 : decode cX9_town 94 = .ok (.iconst 0, 1) := by decide +kernel
theorem dX9_town_95 : decode cX9_town 95 = .ok (.putfield 278, 3) := by decide +kernel
theorem dX9_town_98 : decode cX9_town 98 = .ok (.aload_n 0, 1) := by decide +kernel
theorem dX9_town_99 : decode cX9_town 99 = .ok (.iconst 1, 1) := by decide +kernel
theorem dX9_town_100 : decode cX9_town 100 = .ok (.putfield 285, 3) := by decide +kernel
theorem dX9_town_103 : decode cX9_town 103 = .ok (.aload_n 0, 1) := by decide +kernel
theorem dX9_town_104 : decode cX9_town 104 = .ok (.iconst 0, 1) := by decide +kernel
theorem dX9_town_105 : decode cX9_town 105 = .ok (.putfield 272, 3) := by decide +kernel
theorem dX9_town_108 : decode cX9_town 108 = .ok (.aload_n 0, 1) := by decide +kernel
theorem dX9_town_109 : decode cX9_town 109 = .ok (.invokevirtual 228, 3) := by decide +kernel
theorem dX9_town_112 : decode cX9_town 112 = .ok (.aload_n 0, 1) := by decide +kernel
theorem dX9_town_113 : decode cX9_town 113 = .ok (.invokevirtual 224, 3) := by decide +kernel
theorem dX9_town_116 : decode cX9_town 116 = .ok (.ifCond .eq 17, 3) := by decide +kernel
theorem dX9_town_119 : decode cX9_town 119 = .ok (.aload_n 0, 1) := by decide +kernel
theorem dX9_town_120 : decode cX9_town 120 = .ok (.getfield 200, 3) := by decide +kernel
theorem dX9_town_123 : decode cX9_town 123 = .ok (.ifCond .eq 10, 3) := by decide +kernel
theorem dX9_town_126 : decode cX9_town 126 = .ok (.aload_n 0, 1) := by decide +kernel
theorem dX9_town_127 : decode cX9_town 127 = .ok (.invokevirtual 295, 3) := by decide +kernel
theorem dX9_town_130 : decode cX9_town 130 = .ok (.goto (-18), 3) := by decide +kernel
theorem dX9_town_133 : decode cX9_town 133 = .ok (.aload_n 0, 1) := by decide +kernel
theorem dX9_town_134 : decode cX9_town 134 = .ok (.invokevirtual 224, 3) := by decide +kernel
theorem dX9_town_137 : decode cX9_town 137 = .ok (.ifCond .ne 18, 3) := by decide +kernel
theorem dX9_town_140 : decode cX9_town 140 = .ok (.aload_n 0, 1) := by decide +kernel
theorem dX9_town_141 : decode cX9_town 141 = .ok (.getfield 38, 3) := by decide +kernel
theorem dX9_town_144 : decode cX9_town 144 = .ok (.iconst 0, 1) := by decide +kernel
theorem dX9_town_145 : decode cX9_town 145 = .ok (.dup2, 1) := by decide +kernel
theorem dX9_town_146 : decode cX9_town 146 = .ok (.iaload, 1) := by decide +kernel
theorem dX9_town_147 : decode cX9_town 147 = .ok (.iconst 1, 1) := by decide +kernel
theorem dX9_town_148 : decode cX9_town 148 = .ok (.iadd, 1) := by decide +kernel
theorem dX9_town_149 : decode cX9_town 149 = .ok (.iastore, 1) := by decide +kernel
theorem dX9_town_150 : decode cX9_town 150 = .ok (.aload_n 0, 1) := by decide +kernel
theorem dX9_town_151 : decode cX9_town 151 = .ok (.getfield 221, 3) := by decide +kernel
theorem dX9_town_154 : decode cX9_town 154 = .ok (.ireturn, 1) := by decide +kernel
theorem dX9_town_155 : decode cX9_town 155 = .ok (.aload_n 0, 1) := by decide +kernel
theorem dX9_town_156 : decode cX9_town 156 = .ok (.aload_n 0, 1) := by decide +kernel
theorem dX9_town_157 : decode cX9_town 157 = .ok (.getfield 241, 3) := by decide +kernel
theorem dX9_town_160 : decode cX9_town 160 = .ok (.putfield 298, 3) := by decide +kernel
theorem dX9_town_163 : decode cX9_town 163 = .ok (.aload_n 0, 1) := by decide +kernel
theorem dX9_town_164 : decode cX9_town 164 = .ok (.aload_n 0, 1) := by decide +kernel
theorem dX9_town_165 : decode cX9_town 165 = .ok (.getfield 288, 3) := by decide +kernel
theorem dX9_town_168 : decode cX9_town 168 = .ok (.putfield 301, 3) := by decide +kernel
theorem dX9_town_171 : decode cX9_town 171 = .ok (.aload_n 0, 1) := by decide +kernel
theorem dX9_town_172 : decode cX9_town 172 = .ok (.aload_n 0, 1) := by decide +kernel
theorem dX9_town_173 : decode cX9_town 173 = .ok (.getfield 251, 3) := by decide +kernel
theorem dX9_town_176 : decode cX9_town 176 = .ok (.putfield 7, 3) := by decide +kernel
theorem dX9_town_179 : decode cX9_town 179 = .ok (.aload_n 0, 1) := by decide +kernel
theorem dX9_town_180 : decode cX9_town 180 = .ok (.aload_n 0, 1) := by decide +kernel
theorem dX9_town_181 : decode cX9_town 181 = .ok (.getfield 254, 3) := by decide +kernel
theorem dX9_town_184 : decode cX9_town 184 = .ok (.putfield 13, 3) := by decide +kernel
theorem dX9_town_187 : decode cX9_town 187 = .ok (.aload_n 0, 1) := by decide +kernel
theorem dX9_town_188 : decode cX9_town 188 = .ok (.aload_n 0, 1) := by decide +kernel
theorem dX9_town_189 : decode cX9_town 189 = .ok (.getfield 257, 3) := by decide +kernel
theorem dX9_town_192 : decode cX9_town 192 = .ok (.putfield 16, 3) := by decide +kernel
theorem dX9_town_195 : decode cX9_town 195 = .ok (.aload_n 0, 1) := by decide +kernel
theorem dX9_town_196 : decode cX9_town 196 = .ok (.aload_n 0, 1) := by decide +kernel
theorem dX9_town_197 : decode cX9_town 197 = .ok (.getfield 260, 3) := by decide +kernel
theorem dX9_town_200 : decode cX9_town 200 = .ok (.putfield 304, 3) := by decide +kernel
theorem dX9_town_203 : decode cX9_town 203 = .ok (.aload_n 0, 1) := by decide +kernel
theorem dX9_town_204 : decode cX9_town 204 = .ok (.aload_n 0, 1) := by decide +kernel
theorem dX9_town_205 : decode cX9_town 205 = .ok (.getfield 263, 3) := by decide +kernel
theorem dX9_town_208 : decode cX9_town 208 = .ok (.putfield 307, 3) := by decide +kernel
theorem dX9_town_211 : decode cX9_town 211 = .ok (.aload_n 0, 1) := by decide +kernel
theorem dX9_town_212 : decode cX9_town 212 = .ok (.aload_n 0, 1) := by decide +kernel
theorem dX9_town_213 : decode cX9_town 213 = .ok (.getfield 278, 3) := by decide +kernel
theorem dX9_town_216 : decode cX9_town 216 = .ok (.putfield 310, 3) := by decide +kernel
theorem dX9_town_219 : decode cX9_town 219 = .ok (.aload_n 0, 1) := by decide +kernel
theorem dX9_town_220 : decode cX9_town 220 = .ok (.aload_n 0, 1) := by decide +kernel
theorem dX9_town_221 : decode cX9_town 221 = .ok (.getfield 285, 3) := by decide +kernel
theorem dX9_town_224 : decode cX9_town 224 = .ok (.putfield 19, 3) := by decide +kernel
theorem dX9_town_227 : decode cX9_town 227 = .ok (.aload_n 0, 1) := by decide +kernel
theorem dX9_town_228 : decode cX9_town 228 = .ok (.aload_n 0, 1) := by decide +kernel
theorem dX9_town_229 : decode cX9_town 229 = .ok (.getfield 41, 3) := by decide +kernel
theorem dX9_town_232 : decode cX9_town 232 = .ok (.aload_n 0, 1) := by decide +kernel
theorem dX9_town_233 : decode cX9_town 233 = .ok (.getfield 22, 3) := by decide +kernel
theorem dX9_town_236 : decode cX9_town 236 = .ok (.invokevirtual 313, 3) := by decide +kernel
theorem dX9_town_239 : decode cX9_town 239 = .ok (.aload_n 0, 1) := by decide +kernel
theorem dX9_town_240 : decode cX9_town 240 = .ok (.aload_n 0, 1) := by decide +kernel
theorem dX9_town_241 : decode cX9_town 241 = .ok (.getfield 44, 3) := by decide +kernel
theorem dX9_town_244 : decode cX9_town 244 = .ok (.aload_n 0, 1) := by decide +kernel
theorem dX9_town_245 : decode cX9_town 245 = .ok (.getfield 26, 3) := by decide +kernel
theorem dX9_town_248 : decode cX9_town 248 = .ok (.invokevirtual 313, 3) := by decide +kernel
theorem dX9_town_251 : decode cX9_town 251 = .ok (.aload_n 0, 1) := by decide +kernel
theorem dX9_town_252 : decode cX9_town 252 = .ok (.aload_n 0, 1) := by decide +kernel
theorem dX9_town_253 : decode cX9_town 253 = .ok (.getfield 47, 3) := by decide +kernel
theorem dX9_town_256 : decode cX9_town 256 = .ok (.aload_n 0, 1) := by decide +kernel
theorem dX9_town_257 : decode cX9_town 257 = .ok (.getfield 29, 3) := by decide +kernel
theorem dX9_town_260 : decode cX9_town 260 = .ok (.invokevirtual 313, 3) := by decide +kernel
theorem dX9_town_263 : decode cX9_town 263 = .ok (.aload_n 0, 1) := by decide +kernel
theorem dX9_town_264 : decode cX9_town 264 = .ok (.iconst 0, 1) := by decide +kernel
theorem dX9_town_265 : decode cX9_town 265 = .ok (.putfield 317, 3) := by decide +kernel
theorem dX9_town_268 : decode cX9_town 268 = .ok (.aload_n 0, 1) := by decide +kernel
theorem dX9_town_269 : decode cX9_town 269 = .ok (.iconst 0, 1) := by decide +kernel
theorem dX9_town_270 : decode cX9_town 270 = .ok (.putfield 320, 3) := by decide +kernel
theorem dX9_town_273 : decode cX9_town 273 = .ok (.iconst 0, 1) := by decide +kernel
theorem dX9_town_274 : decode cX9_town 274 = .ok (.istore_n 2, 1) := by decide +kernel
theorem dX9_town_275 : decode cX9_town 275 = .ok (.iload_n 2, 1) := by decide +kernel
theorem dX9_town_276 : decode cX9_town 276 = .ok (.bipush 32, 2) := by decide +kernel
theorem dX9_town_278 : decode cX9_town 278 = .ok (.if_icmp .ge 16, 3) := by decide +kernel
theorem dX9_town_281 : decode cX9_town 281 = .ok (.aload_n 0, 1) := by decide +kernel
