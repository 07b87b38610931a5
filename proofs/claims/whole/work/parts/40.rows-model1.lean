theorem dX6_init_0 : decode cX6_init 0 = .ok (.aload_n 0, 1) := by decide +kernel
theorem dX6_init_1 : decode cX6_init 1 = .ok (.invokespecial 1, 3) := by decide +kernel
theorem dX6_init_4 : decode cX6_init 4 = .ok (.aload_n 0, 1) := by decide +kernel
theorem dX6_init_5 : decode cX6_init 5 = .ok (.sipush 200, 3) := by decide +kernel
theorem dX6_init_8 : decode cX6_init 8 = .ok (.newarray .byte, 2) := by decide +kernel
theorem dX6_init_10 : decode cX6_init 10 = .ok (.putfield 7, 3) := by decide +kernel
theorem dX6_init_13 : decode cX6_init 13 = .ok (.aload_n 0, 1) := by decide +kernel
theorem dX6_init_14 : decode cX6_init 14 = .ok (.sipush 4000, 3) := by decide +kernel
theorem dX6_init_17 : decode cX6_init 17 = .ok (.newarray .byte, 2) := by decide +kernel
theorem dX6_init_19 : decode cX6_init 19 = .ok (.putfield 13, 3) := by decide +kernel
theorem dX6_init_22 : decode cX6_init 22 = .ok (.aload_n 0, 1) := by decide +kernel
theorem dX6_init_23 : decode cX6_init 23 = .ok (.bipush 20, 2) := by decide +kernel
theorem dX6_init_25 : decode cX6_init 25 = .ok (.newarray .int, 2) := by decide +kernel
theorem dX6_init_27 : decode cX6_init 27 = .ok (.putfield 16, 3) := by decide +kernel
theorem dX6_init_30 : decode cX6_init 30 = .ok (.aload_n 0, 1) := by decide +kernel
theorem dX6_init_31 : decode cX6_init 31 = .ok (.bipush 20, 2) := by decide +kernel
theorem dX6_init_33 : decode cX6_init 33 = .ok (.newarray .int, 2) := by decide +kernel
theorem dX6_init_35 : decode cX6_init 35 = .ok (.putfield 20, 3) := by decide +kernel
theorem dX6_init_38 : decode cX6_init 38 = .ok (.aload_n 0, 1) := by decide +kernel
theorem dX6_init_39 : decode cX6_init 39 = .ok (.sipush 720, 3) := by decide +kernel
theorem dX6_init_42 : decode cX6_init 42 = .ok (.newarray .byte, 2) := by decide +kernel
theorem dX6_init_44 : decode cX6_init 44 = .ok (.putfield 23, 3) := by decide +kernel
theorem dX6_init_47 : decode cX6_init 47 = .ok (.aload_n 0, 1) := by decide +kernel
theorem dX6_init_48 : decode cX6_init 48 = .ok (.bipush 20, 2) := by decide +kernel
theorem dX6_init_50 : decode cX6_init 50 = .ok (.newarray .int, 2) := by decide +kernel
theorem dX6_init_52 : decode cX6_init 52 = .ok (.putfield 26, 3) := by decide +kernel
theorem dX6_init_55 : decode cX6_init 55 = .ok (.aload_n 0, 1) := by decide +kernel
theorem dX6_init_56 : decode cX6_init 56 = .ok (.bipush 20, 2) := by decide +kernel
theorem dX6_init_58 : decode cX6_init 58 = .ok (.newarray .int, 2) := by decide +kernel
theorem dX6_init_60 : decode cX6_init 60 = .ok (.putfield 29, 3) := by decide +kernel
theorem dX6_init_63 : decode cX6_init 63 = .ok (.aload_n 0, 1) := by decide +kernel
theorem dX6_init_64 : decode cX6_init 64 = .ok (.bipush 20, 2) := by decide +kernel
theorem dX6_init_66 : decode cX6_init 66 = .ok (.newarray .int, 2) := by decide +kernel
theorem dX6_init_68 : decode cX6_init 68 = .ok (.putfield 32, 3) := by decide +kernel
theorem dX6_init_71 : decode cX6_init 71 = .ok (.aload_n 0, 1) := by decide +kernel
theorem dX6_init_72 : decode cX6_init 72 = .ok (.bipush 20, 2) := by decide +kernel
theorem dX6_init_74 : decode cX6_init 74 = .ok (.newarray .int, 2) := by decide +kernel
theorem dX6_init_76 : decode cX6_init 76 = .ok (.putfield 35, 3) := by decide +kernel
theorem dX6_init_79 : decode cX6_init 79 = .ok (.aload_n 0, 1) := by decide +kernel
theorem dX6_init_80 : decode cX6_init 80 = .ok (.iconst (-1), 1) := by decide +kernel
theorem dX6_init_81 : decode cX6_init 81 = .ok (.putfield 38, 3) := by decide +kernel
theorem dX6_init_84 : decode cX6_init 84 = .ok (.aload_n 0, 1) := by decide +kernel
theorem dX6_init_85 : decode cX6_init 85 = .ok (.bipush 20, 2) := by decide +kernel
theorem dX6_init_87 : decode cX6_init 87 = .ok (.newarray .int, 2) := by decide +kernel
theorem dX6_init_89 : decode cX6_init 89 = .ok (.putfield 42, 3) := by decide +kernel
theorem dX6_init_92 : decode cX6_init 92 = .ok (.aload_n 0, 1) := by decide +kernel
theorem dX6_init_93 : decode cX6_init 93 = .ok (.bipush 20, 2) := by decide +kernel
theorem dX6_init_95 : decode cX6_init 95 = .ok (.newarray .boolean, 2) := by decide +kernel
theorem dX6_init_97 : decode cX6_init 97 = .ok (.putfield 45, 3) := by decide +kernel
theorem dX6_init_100 : decode cX6_init 100 = .ok (.aload_n 0, 1) := by decide +kernel
theorem dX6_init_101 : decode cX6_init 101 = .ok (.sipush 200, 3) := by decide +kernel
theorem dX6_init_104 : decode cX6_init 104 = .ok (.newarray .int, 2) := by decide +kernel
theorem dX6_init_106 : decode cX6_init 106 = .ok (.putfield 49, 3) := by decide +kernel
theorem dX6_init_109 : decode cX6_init 109 = .ok (.aload_n 0, 1) := by decide +kernel
theorem dX6_init_110 : decode cX6_init 110 = .ok (.sipush 200, 3) := by decide +kernel
theorem dX6_init_113 : decode cX6_init 113 = .ok (.newarray .int, 2) := by decide +kernel
theorem dX6_init_115 : decode cX6_init 115 = .ok (.putfield 52, 3) := by decide +kernel
theorem dX6_init_118 : decode cX6_init 118 = .ok (.aload_n 0, 1) := by decide +kernel
theorem dX6_init_119 : decode cX6_init 119 = .ok (.sipush 200, 3) := by decide +kernel
theorem dX6_init_122 : decode cX6_init 122 = .ok (.newarray .int, 2) := by decide +kernel
theorem dX6_init_124 : decode cX6_init 124 = .ok (.putfield 55, 3) := by decide +kernel
theorem dX6_init_127 : decode cX6_init 127 = .ok (.aload_n 0, 1) := by decide +kernel
theorem dX6_init_128 : decode cX6_init 128 = .ok (.sipush 6400, 3) := by decide +kernel
theorem dX6_init_131 : decode cX6_init 131 = .ok (.newarray .byte, 2) := by decide +kernel
theorem dX6_init_133 : decode cX6_init 133 = .ok (.putfield 58, 3) := by decide +kernel
theorem dX6_init_136 : decode cX6_init 136 = .ok (.aload_n 0, 1) := by decide +kernel
theorem dX6_init_137 : decode cX6_init 137 = .ok (.bipush 32, 2) := by decide +kernel
theorem dX6_init_139 : decode cX6_init 139 = .ok (.newarray .byte, 2) := by decide +kernel
theorem dX6_init_141 : decode cX6_init 141 = .ok (.putfield 61, 3) := by decide +kernel
theorem dX6_init_144 : decode cX6_init 144 = .ok (.aload_n 0, 1) := by decide +kernel
theorem dX6_init_145 : decode cX6_init 145 = .ok (.sipush 320, 3) := by decide +kernel
theorem dX6_init_148 : decode cX6_init 148 = .ok (.newarray .byte, 2) := by decide +kernel
theorem dX6_init_150 : decode cX6_init 150 = .ok (.putfield 64, 3) := by decide +kernel
theorem dX6_init_153 : decode cX6_init 153 = .ok (.aload_n 0, 1) := by decide +kernel
theorem dX6_init_154 : decode cX6_init 154 = .ok (.bipush 36, 2) := by decide +kernel
theorem dX6_init_156 : decode cX6_init 156 = .ok (.newarray .byte, 2) := by decide +kernel
theorem dX6_init_158 : decode cX6_init 158 = .ok (.putfield 67, 3) := by decide +kernel
theorem dX6_init_161 : decode cX6_init 161 = .ok (.aload_n 0, 1) := by decide +kernel
theorem dX6_init_162 : decode cX6_init 162 = .ok (.bipush 64, 2) := by decide +kernel
theorem dX6_init_164 : decode cX6_init 164 = .ok (.newarray .int, 2) := by decide +kernel
theorem dX6_init_166 : decode cX6_init 166 = .ok (.putfield 70, 3) := by decide +kernel
theorem dX6_init_169 : decode cX6_init 169 = .ok (.aload_n 0, 1) := by decide +kernel
theorem dX6_init_170 : decode cX6_init 170 = .ok (.bipush 8, 2) := by decide +kernel
theorem dX6_init_172 : decode cX6_init 172 = .ok (.newarray .int, 2) := by decide +kernel
theorem dX6_init_174 : decode cX6_init 174 = .ok (.putfield 73, 3) := by decide +kernel
theorem dX6_init_177 : decode cX6_init 177 = .ok (.aload_n 0, 1) := by decide +kernel
theorem dX6_init_178 : decode cX6_init 178 = .ok (.bipush 8, 2) := by decide +kernel
theorem dX6_init_180 : decode cX6_init 180 = .ok (.newarray .int, 2) := by decide +kernel
theorem dX6_init_182 : decode cX6_init 182 = .ok (.putfield 76, 3) := by decide +kernel
theorem dX6_init_185 : decode cX6_init 185 = .ok (.aload_n 0, 1) := by decide +kernel
theorem dX6_init_186 : decode cX6_init 186 = .ok (.bipush 8, 2) := by decide +kernel
theorem dX6_init_188 : decode cX6_init 188 = .ok (.newarray .int, 2) := by decide +kernel
theorem dX6_init_190 : decode cX6_init 190 = .ok (.dup, 1) := by decide +kernel
theorem dX6_init_191 : decode cX6_init 191 = .ok (.iconst 0, 1) := by decide +kernel
theorem dX6_init_192 : decode cX6_init 192 = .ok (.ldc 79, 2) := by decide +kernel
theorem dX6_init_194 : decode cX6_init 194 = .ok (.iastore, 1) := by decide +kernel
theorem dX6_init_195 : decode cX6_init 195 = .ok (.dup, 1) := by decide +kernel
theorem dX6_init_196 : decode cX6_init 196 = .ok (.iconst 1, 1) := by decide +kernel
theorem dX6_init_197 : decode cX6_init 197 = .ok (.ldc 80, 2) := by decide +kernel
theorem dX6_init_199 : decode cX6_init 199 = .ok (.iastore, 1) := by decide +kernel
theorem dX6_init_200 : decode cX6_init 200 = .ok (.dup, 1) := by decide +kernel
theorem dX6_init_201 : decode cX6_init 201 = .ok (.iconst 2, 1) := by decide +kernel
theorem dX6_init_202 : decode cX6_init 202 = .ok (.ldc 81, 2) := by decide +kernel
theorem dX6_init_204 : decode cX6_init 204 = .ok (.iastore, 1) := by decide +kernel
theorem dX6_init_205 : decode cX6_init 205 = .ok (.dup, 1) := by decide +kernel
theorem dX6_init_206 : decode cX6_init 206 = .ok (.iconst 3, 1) := by decide +kernel
theorem dX6_init_207 : decode cX6_init 207 = .ok (.ldc 82, 2) := by decide +kernel
theorem dX6_init_209 : decode cX6_init 209 = .ok (.iastore, 1) := by decide +kernel
theorem dX6_init_210 : decode cX6_init 210 = .ok (.dup, 1) := by decide +kernel
theorem dX6_init_211 : decode cX6_init 211 = .ok (.iconst 4, 1) := by decide +kernel
theorem dX6_init_212 : decode cX6_init 212 = .ok (.ldc 83, 2) := by decide +kernel
theorem dX6_init_214 : decode cX6_init 214 = .ok (.iastore, 1) := by decide +kernel
theorem dX6_init_215 : decode cX6_init 215 = .ok (.dup, 1) := by decide +kernel
theorem dX6_init_216 : decode cX6_init 216 = .ok (.iconst 5, 1) := by decide +kernel
theorem dX6_init_217 : decode cX6_init 217 = .ok (.ldc 84, 2) := by decide +kernel
theorem dX6_init_219 : decode cX6_init 219 = .ok (.iastore, 1) := by decide +kernel
theorem dX6_init_220 : decode cX6_init 220 = .ok (.dup, 1) := by decide +kernel
theorem dX6_init_221 : decode cX6_init 221 = .ok (.bipush 6, 2) := by decide +kernel
theorem dX6_init_223 : decode cX6_init 223 = .ok (.ldc 85, 2) := by decide +kernel
theorem dX6_init_225 : decode cX6_init 225 = .ok (.iastore, 1) := by decide +kernel
theorem dX6_init_226 : decode cX6_init 226 = .ok (.dup, 1) := by decide +kernel
theorem dX6_init_227 : decode cX6_init 227 = .ok (.bipush 7, 2) := by decide +kernel
theorem dX6_init_229 : decode cX6_init 229 = .ok (.ldc 86, 2) := by decide +kernel
theorem dX6_init_231 : decode cX6_init 231 = .ok (.iastore, 1) := by decide +kernel
theorem dX6_init_232 : decode cX6_init 232 = .ok (.putfield 87, 3) := by decide +kernel
theorem dX6_init_235 : decode cX6_init 235 = .ok (.aload_n 0, 1) := by decide +kernel
theorem dX6_init_236 : decode cX6_init 236 = .ok (.bipush 64, 2) := by decide +kernel
theorem dX6_init_238 : decode cX6_init 238 = .ok (.newarray .int, 2) := by decide +kernel
theorem dX6_init_240 : decode cX6_init 240 = .ok (.dup, 1) := by decide +kernel
theorem dX6_init_241 : decode cX6_init 241 = .ok (.iconst 0, 1) := by decide +kernel
theorem dX6_init_242 : decode cX6_init 242 = .ok (.ldc 90, 2) := by decide +kernel
theorem dX6_init_244 : decode cX6_init 244 = .ok (.iastore, 1) := by decide +kernel
theorem dX6_init_245 : decode cX6_init 245 = .ok (.dup, 1) := by decide +kernel
theorem dX6_init_246 : decode cX6_init 246 = .ok (.iconst 1, 1) := by decide +kernel
theorem dX6_init_247 : decode cX6_init 247 = .ok (.ldc 91, 2) := by decide +kernel
theorem dX6_init_249 : decode cX6_init 249 = .ok (.iastore, 1) := by decide +kernel
theorem dX6_init_250 : decode cX6_init 250 = .ok (.dup, 1) := by decide +kernel
theorem dX6_init_251 : decode cX6_init 251 = .ok (.iconst 2, 1) := by decide +kernel
theorem dX6_init_252 : decode cX6_init 252 = .ok (.ldc 92, 2) := by decide +kernel
theorem dX6_init_254 : decode cX6_init 254 = .ok (.iastore, 1) := by decide +kernel
theorem dX6_init_255 : decode cX6_init 255 = .ok (.dup, 1) := by decide +kernel
theorem dX6_init_256 : decode cX6_init 256 = .ok (.iconst 3, 1) := by decide +kernel
theorem dX6_init_257 : decode cX6_init 257 = .ok (.ldc 93, 2) := by decide +kernel
theorem dX6_init_259 : decode cX6_init 259 = .ok (.iastore, 1) := by decide +kernel
theorem dX6_init_260 : decode cX6_init 260 = .ok (.dup, 1) := by decide +kernel
theorem dX6_init_261 : decode cX6_init 261 = .ok (.iconst 4, 1) := by decide +kernel
theorem dX6_init_262 : decode cX6_init 262 = .ok (.ldc 94, 2) := by decide +kernel
theorem dX6_init_264 : decode cX6_init 264 = .ok (.iastore, 1) := by decide +kernel
theorem dX6_init_265 : decode cX6_init 265 = .ok (.dup, 1) := by decide +kernel
theorem dX6_init_266 : decode cX6_init 266 = .ok (.iconst 5, 1) := by decide +kernel
theorem dX6_init_267 : decode cX6_init 267 = .ok (.ldc 95, 2) := by decide +kernel
theorem dX6_init_269 : decode cX6_init 269 = .ok (.iastore, 1) := by decide +kernel
theorem dX6_init_270 : decode cX6_init 270 = .ok (.dup, 1) := by decide +kernel
theorem dX6_init_271 : decode cX6_init 271 = .ok (.bipush 6, 2) := by decide +kernel
theorem dX6_init_273 : decode cX6_init 273 = .ok (.ldc 96, 2) := by decide +kernel
theorem dX6_init_275 : decode cX6_init 275 = .ok (.iastore, 1) := by decide +kernel
theorem dX6_init_276 : decode cX6_init 276 = .ok (.dup, 1) := by decide +kernel
theorem dX6_init_277 : decode cX6_init 277 = .ok (.bipush 7, 2) := by decide +kernel
theorem dX6_init_279 : decode cX6_init 279 = .ok (.ldc 97, 2) := by decide +kernel
theorem dX6_init_281 : decode cX6_init 281 = .ok (.iastore, 1) := by decide +kernel
theorem dX6_init_282 : decode cX6_init 282 = .ok (.dup, 1) := by decide +kernel
theorem dX6_init_283 : decode cX6_init 283 = .ok (.bipush 8, 2) := by decide +kernel
theorem dX6_init_285 : decode cX6_init 285 = .ok (.ldc 98, 2) := by decide +kernel
theorem dX6_init_287 : decode cX6_init 287 = .ok (.iastore, 1) := by decide +kernel
theorem dX6_init_288 : decode cX6_init 288 = .ok (.dup, 1) := by decide +kernel
theorem dX6_init_289 : decode cX6_init 289 = .ok (.bipush 9, 2) := by decide +kernel
theorem dX6_init_291 : decode cX6_init 291 = .ok (.ldc 99, 2) := by decide +kernel
theorem dX6_init_293 : decode cX6_init 293 = .ok (.iastore, 1) := by decide +kernel
theorem dX6_init_294 : decode cX6_init 294 = .ok (.dup, 1) := by decide +kernel
theorem dX6_init_295 : decode cX6_init 295 = .ok (.bipush 10, 2) := by decide +kernel
theorem dX6_init_297 : decode cX6_init 297 = .ok (.ldc 100, 2) := by decide +kernel
theorem dX6_init_299 : decode cX6_init 299 = .ok (.iastore, 1) := by decide +kernel
theorem dX6_init_300 : decode cX6_init 300 = .ok (.dup, 1) := by decide +kernel
theorem dX6_init_301 : decode cX6_init 301 = .ok (.bipush 11, 2) := by decide +kernel
theorem dX6_init_303 : decode cX6_init 303 = .ok (.ldc 101, 2) := by decide +kernel
theorem dX6_init_305 : decode cX6_init 305 = .ok (.iastore, 1) := by decide +kernel
theorem dX6_init_306 : decode cX6_init 306 = .ok (.dup, 1) := by decide +kernel
theorem dX6_init_307 : decode cX6_init 307 = .ok (.bipush 12, 2) := by decide +kernel
theorem dX6_init_309 : decode cX6_init 309 = .ok (.ldc 102, 2) := by decide +kernel
theorem dX6_init_311 : decode cX6_init 311 = .ok (.iastore, 1) := by decide +kernel
theorem dX6_init_312 : decode cX6_init 312 = .ok (.dup, 1) := by decide +kernel
theorem dX6_init_313 : decode cX6_init 313 = .ok (.bipush 13, 2) := by decide +kernel
theorem dX6_init_315 : decode cX6_init 315 = .ok (.ldc 103, 2) := by decide +kernel
theorem dX6_init_317 : decode cX6_init 317 = .ok (.iastore, 1) := by decide +kernel
theorem dX6_init_318 : decode cX6_init 318 = .ok (.dup, 1) := by decide +kernel
theorem dX6_init_319 : decode cX6_init 319 = .ok (.bipush 14, 2) := by decide +kernel
theorem dX6_init_321 : decode cX6_init 321 = .ok (.ldc 104, 2) := by decide +kernel
theorem dX6_init_323 : decode cX6_init 323 = .ok (.iastore, 1) := by decide +kernel
theorem dX6_init_324 : decode cX6_init 324 = .ok (.dup, 1) := by decide +kernel
theorem dX6_init_325 : decode cX6_init 325 = .ok (.bipush 15, 2) := by decide +kernel
theorem dX6_init_327 : decode cX6_init 327 = .ok (.ldc 105, 2) := by decide +kernel
theorem dX6_init_329 : decode cX6_init 329 = .ok (.iastore, 1) := by decide +kernel
theorem dX6_init_330 : decode cX6_init 330 = .ok (.dup, 1) := by decide +kernel
theorem dX6_init_331 : decode cX6_init 331 = .ok (.bipush 16, 2) := by decide +kernel
theorem dX6_init_333 : decode cX6_init 333 = .ok (.ldc 106, 2) := by decide +kernel
theorem dX6_init_335 : decode cX6_init 335 = .ok (.iastore, 1) := by decide +kernel
theorem dX6_init_336 : decode cX6_init 336 = .ok (.dup, 1) := by decide +kernel
theorem dX6_init_337 : decode cX6_init 337 = .ok (.bipush 17, 2) := by decide +kernel
theorem dX6_init_339 : decode cX6_init 339 = .ok (.ldc 107, 2) := by decide +kernel
theorem dX6_init_341 : decode cX6_init 341 = .ok (.iastore, 1) := by decide +kernel
theorem dX6_init_342 : decode cX6_init 342 = .ok (.dup, 1) := by decide +kernel
theorem dX6_init_343 : decode cX6_init 343 = .ok (.bipush 18, 2) := by decide +kernel
theorem dX6_init_345 : decode cX6_init 345 = .ok (.ldc 108, 2) := by decide +kernel
theorem dX6_init_347 : decode cX6_init 347 = .ok (.iastore, 1) := by decide +kernel
theorem dX6_init_348 : decode cX6_init 348 = .ok (.dup, 1) := by decide +kernel
theorem dX6_init_349 : decode cX6_init 349 = .ok (.bipush 19, 2) := by decide +kernel
theorem dX6_init_351 : decode cX6_init 351 = .ok (.ldc 109, 2) := by decide +kernel
theorem dX6_init_353 : decode cX6_init 353 = .ok (.iastore, 1) := by decide +kernel
theorem dX6_init_354 : decode cX6_init 354 = .ok (.dup, 1) := by decide +kernel
theorem dX6_init_355 : decode cX6_init 355 = .ok (.bipush 20, 2) := by decide +kernel
theorem dX6_init_357 : decode cX6_init 357 = .ok (.ldc 110, 2) := by decide +kernel
theorem dX6_init_359 : decode cX6_init 359 = .ok (.iastore, 1) := by decide +kernel
theorem dX6_init_360 : decode cX6_init 360 = .ok (.dup, 1) := by decide +kernel
theorem dX6_init_361 : decode cX6_init 361 = .ok (.bipush 21, 2) := by decide +kernel
theorem dX6_init_363 : decode cX6_init 363 = .ok (.ldc 111, 2) := by decide +kernel
theorem dX6_init_365 : decode cX6_init 365 = .ok (.iastore, 1) := by decide +kernel
theorem dX6_init_366 : decode cX6_init 366 = .ok (.dup, 1) := by decide +kernel
theorem dX6_init_367 : decode cX6_init 367 = .ok (.bipush 22, 2) := by decide +kernel
theorem dX6_init_369 : decode cX6_init 369 = .ok (.ldc 112, 2) := by decide +kernel
theorem dX6_init_371 : decode cX6_init 371 = .ok (.iastore, 1) := by decide +kernel
theorem dX6_init_372 : decode cX6_init 372 = .ok (.dup, 1) := by decide +kernel
theorem dX6_init_373 : decode cX6_init 373 = .ok (.bipush 23, 2) := by decide +kernel
theorem dX6_init_375 : decode cX6_init 375 = .ok (.ldc 113, 2) := by decide +kernel
theorem dX6_init_377 : decode cX6_init 377 = .ok (.iastore, 1) := by decide +kernel
theorem dX6_init_378 : decode cX6_init 378 = .ok (.dup, 1) := by decide +kernel
theorem dX6_init_379 : decode cX6_init 379 = .ok (.bipush 24, 2) := by decide +kernel
theorem dX6_init_381 : decode cX6_init 381 = .ok (.ldc 114, 2) := by decide +kernel
theorem dX6_init_383 : decode cX6_init 383 = .ok (.iastore, 1) := by decide +kernel
theorem dX6_init_384 : decode cX6_init 384 = .ok (.dup, 1) := by decide +kernel
theorem dX6_init_385 : decode cX6_init 385 = .ok (.bipush 25, 2) := by decide +kernel
theorem dX6_init_387 : decode cX6_init 387 = .ok (.ldc 115, 2) := by decide +kernel
theorem dX6_init_389 : decode cX6_init 389 = .ok (.iastore, 1) := by decide +kernel
theorem dX6_init_390 : decode cX6_init 390 = .ok (.dup, 1) := by decide +kernel
theorem dX6_init_391 : decode cX6_init 391 = .ok (.bipush 26, 2) := by decide +kernel
theorem dX6_init_393 : decode cX6_init 393 = .ok (.ldc 116, 2) := by decide +kernel
theorem dX6_init_395 : decode cX6_init 395 = .ok (.iastore, 1) := by decide +kernel
theorem dX6_init_396 : decode cX6_init 396 = .ok (.dup, 1) := by decide +kernel
theorem dX6_init_397 : decode cX6_init 397 = .ok (.bipush 27, 2) := by decide +kernel
theorem dX6_init_399 : decode cX6_init 399 = .ok (.ldc 117, 2) := by decide +kernel
theorem dX6_init_401 : decode cX6_init 401 = .ok (.iastore, 1) := by decide +kernel
theorem dX6_init_402 : decode cX6_init 402 = .ok (.dup, 1) := by decide +kernel
theorem dX6_init_403 : decode cX6_init 403 = .ok (.bipush 28, 2) := by decide +kernel
theorem dX6_init_405 : decode cX6_init 405 = .ok (.ldc 118, 2) := by decide +kernel
theorem dX6_init_407 : decode cX6_init 407 = .ok (.iastore, 1) := by decide +kernel
theorem dX6_init_408 : decode cX6_init 408 = .ok (.dup, 1) := by decide +kernel
theorem dX6_init_409 : decode cX6_init 409 = .ok (.bipush 29, 2) := by decide +kernel
theorem dX6_init_411 : decode cX6_init 411 = .ok (.ldc 119, 2) := by decide +kernel
theorem dX6_init_413 : decode cX6_init 413 = .ok (.iastore, 1) := by decide +kernel
theorem dX6_init_414 : decode cX6_init 414 = .ok (.dup, 1) := by decide +kernel
theorem dX6_init_415 : decode cX6_init 415 = .ok (.bipush 30, 2) := by decide +kernel
theorem dX6_init_417 : decode cX6_init 417 = .ok (.ldc 120, 2) := by decide +kernel
theorem dX6_init_419 : decode cX6_init 419 = .ok (.iastore, 1) := by decide +kernel
theorem dX6_init_420 : decode cX6_init 420 = .ok (.dup, 1) := by decide +kernel
theorem dX6_init_421 : decode cX6_init 421 = .ok (.bipush 31, 2) := by decide +kernel
theorem dX6_init_423 : decode cX6_init 423 = .ok (.ldc 121, 2) := by decide +kernel
theorem dX6_init_425 : decode cX6_init 425 = .ok (.iastore, 1) := by decide +kernel
theorem dX6_init_426 : decode cX6_init 426 = .ok (.dup, 1) := by decide +kernel
theorem dX6_init_427 : decode cX6_init 427 = .ok (.bipush 32, 2) := by decide +kernel
theorem dX6_init_429 : decode cX6_init 429 = .ok (.ldc 122, 2) := by decide +kernel
theorem dX6_init_431 : decode cX6_init 431 = .ok (.iastore, 1) := by decide +kernel
theorem dX6_init_432 : decode cX6_init 432 = .ok (.dup, 1) := by decide +kernel
theorem dX6_init_433 : decode cX6_init 433 = .ok (.bipush 33, 2) := by decide +kernel
theorem dX6_init_435 : decode cX6_init 435 = .ok (.ldc 123, 2) := by decide +kernel
theorem dX6_init_437 : decode cX6_init 437 = .ok (.iastore, 1) := by decide +kernel
theorem dX6_init_438 : decode cX6_init 438 = .ok (.dup, 1) := by decide +kernel
theorem dX6_init_439 : decode cX6_init 439 = .ok (.bipush 34, 2) := by decide +kernel
theorem dX6_init_441 : decode cX6_init 441 = .ok (.ldc 124, 2) := by decide +kernel
theorem dX6_init_443 : decode cX6_init 443 = .ok (.iastore, 1) := by decide +kernel
theorem dX6_init_444 : decode cX6_init 444 = .ok (.dup, 1) := by decide +kernel
theorem dX6_init_445 : decode cX6_init 445 = .ok (.bipush 35, 2) := by decide +kernel
theorem dX6_init_447 : decode cX6_init 447 = .ok (.ldc 125, 2) := by decide +kernel
theorem dX6_init_449 : decode cX6_init 449 = .ok (.iastore, 1) := by decide +kernel
theorem dX6_init_450 : decode cX6_init 450 = .ok (.dup, 1) := by decide +kernel
theorem dX6_init_451 : decode cX6_init 451 = .ok (.bipush 36, 2) := by decide +kernel
theorem dX6_init_453 : decode cX6_init 453 = .ok (.ldc 126, 2) := by decide +kernel
theorem dX6_init_455 : decode cX6_init 455 = .ok (.iastore, 1) := by decide +kernel
theorem dX6_init_456 : decode cX6_init 456 = .ok (.dup, 1) := by decide +kernel
theorem dX6_init_457 : decode cX6_init 457 = .ok (.bipush 37, 2) := by decide +kernel
theorem dX6_init_459 : decode cX6_init 459 = .ok (.ldc 127, 2) := by decide +kernel
theorem dX6_init_461 : decode cX6_init 461 = .ok (.iastore, 1) := by decide +kernel
theorem dX6_init_462 : decode cX6_init 462 = .ok (.dup, 1) := by decide +kernel
theorem dX6_init_463 : decode cX6_init 463 = .ok (.bipush 38, 2) := by decide +kernel
theorem dX6_init_465 : decode cX6_init 465 = .ok (.ldc 128, 2) := by decide +kernel
theorem dX6_init_467 : decode cX6_init 467 = .ok (.iastore, 1) := by decide +kernel
theorem dX6_init_468 : decode cX6_init 468 = .ok (.dup, 1) := by decide +kernel
theorem dX6_init_469 : decode cX6_init 469 = .ok (.bipush 39, 2) := by decide +kernel
theorem dX6_init_471 : decode cX6_init 471 = .ok (.ldc 129, 2) := by decide +kernel
theorem dX6_init_473 : decode cX6_init 473 = .ok (.iastore, 1) := by decide +kernel
theorem dX6_init_474 : decode cX6_init 474 = .ok (.dup, 1) := by decide +kernel
theorem dX6_init_475 : decode cX6_init 475 = .ok (.bipush 40, 2) := by decide +kernel
theorem dX6_init_477 : decode cX6_init 477 = .ok (.ldc 130, 2) := by decide +kernel
theorem dX6_init_479 : decode cX6_init 479 = .ok (.iastore, 1) := by decide +kernel
theorem dX6_init_480 : decode cX6_init 480 = .ok (.dup, 1) := by decide +kernel
theorem dX6_init_481 : decode cX6_init 481 = .ok (.bipush 41, 2) := by decide +kernel
theorem dX6_init_483 : decode cX6_init 483 = .ok (.ldc 131, 2) := by decide +kernel
theorem dX6_init_485 : decode cX6_init 485 = .ok (.iastore, 1) := by decide +kernel
theorem dX6_init_486 : decode cX6_init 486 = .ok (.dup, 1) := by decide +kernel
theorem dX6_init_487 : decode cX6_init 487 = .ok (.bipush 42, 2) := by decide +kernel
theorem dX6_init_489 : decode cX6_init 489 = .ok (.ldc 132, 2) := by decide +kernel
theorem dX6_init_491 : decode cX6_init 491 = .ok (.iastore, 1) := by decide +kernel
theorem dX6_init_492 : decode cX6_init 492 = .ok (.dup, 1) := by decide +kernel
theorem dX6_init_493 : decode cX6_init 493 = .ok (.bipush 43, 2) := by decide +kernel
theorem dX6_init_495 : decode cX6_init 495 = .ok (.ldc 133, 2) := by decide +kernel
theorem dX6_init_497 : decode cX6_init 497 = .ok (.iastore, 1) := by decide +kernel
theorem dX6_init_498 : decode cX6_init 498 = .ok (.dup, 1) := by decide +kernel
theorem dX6_init_499 : decode cX6_init 499 = .ok (.bipush 44, 2) := by decide +kernel
theorem dX6_init_501 : decode cX6_init 501 = .ok (.ldc 134, 2) := by decide +kernel
theorem dX6_init_503 : decode cX6_init 503 = .ok (.iastore, 1) := by decide +kernel
theorem dX6_init_504 : decode cX6_init 504 = .ok (.dup, 1) := by decide +kernel
theorem dX6_init_505 : decode cX6_init 505 = .ok (.bipush 45, 2) := by decide +kernel
theorem dX6_init_507 : decode cX6_init 507 = .ok (.ldc 135, 2) := by decide +kernel
theorem dX6_init_509 : decode cX6_init 509 = .ok (.iastore, 1) := by decide +kernel
theorem dX6_init_510 : decode cX6_init 510 = .ok (.dup, 1) := by decide +kernel
theorem dX6_init_511 : decode cX6_init 511 = .ok (.bipush 46, 2) := by decide +kernel
theorem dX6_init_513 : decode cX6_init 513 = .ok (.ldc 136, 2) := by decide +kernel
theorem dX6_init_515 : decode cX6_init 515 = .ok (.iastore, 1) := by decide +kernel
theorem dX6_init_516 : decode cX6_init 516 = .ok (.dup, 1) := by decide +kernel
theorem dX6_init_517 : decode cX6_init 517 = .ok (.bipush 47, 2) := by decide +kernel
theorem dX6_init_519 : decode cX6_init 519 = .ok (.ldc 137, 2) := by decide +kernel
theorem dX6_init_521 : decode cX6_init 521 = .ok (.iastore, 1) := by decide +kernel
theorem dX6_init_522 : decode cX6_init 522 = .ok (.dup, 1) := by decide +kernel
theorem dX6_init_523 : decode cX6_init 523 = .ok (.bipush 48, 2) := by decide +kernel
theorem dX6_init_525 : decode cX6_init 525 = .ok (.ldc 138, 2) := by decide +kernel
theorem dX6_init_527 : decode cX6_init 527 = .ok (.iastore, 1) := by decide +kernel
theorem dX6_init_528 : decode cX6_init 528 = .ok (.dup, 1) := by decide +kernel
theorem dX6_init_529 : decode cX6_init 529 = .ok (.bipush 49, 2) := by decide +kernel
theorem dX6_init_531 : decode cX6_init 531 = .ok (.ldc 139, 2) := by decide +kernel
theorem dX6_init_533 : decode cX6_init 533 = .ok (.iastore, 1) := by decide +kernel
theorem dX6_init_534 : decode cX6_init 534 = .ok (.dup, 1) := by decide +kernel
theorem dX6_init_535 : decode cX6_init 535 = .ok (.bipush 50, 2) := by decide +kernel
theorem dX6_init_537 : decode cX6_init 537 = .ok (.ldc 140, 2) := by decide +kernel
theorem dX6_init_539 : decode cX6_init 539 = .ok (.iastore, 1) := by decide +kernel
theorem dX6_init_540 : decode cX6_init 540 = .ok (.dup, 1) := by decide +kernel
theorem dX6_init_541 : decode cX6_init 541 = .ok (.bipush 51, 2) := by decide +kernel
theorem dX6_init_543 : decode cX6_init 543 = .ok (.ldc 141, 2) := by decide +kernel
theorem dX6_init_545 : decode cX6_init 545 = .ok (.iastore, 1) := by decide +kernel
theorem dX6_init_546 : decode cX6_init 546 = .ok (.dup, 1) := by decide +kernel
theorem dX6_init_547 : decode cX6_init 547 = .ok (.bipush 52, 2) := by decide +kernel
theorem dX6_init_549 : decode cX6_init 549 = .ok (.ldc 142, 2) := by decide +kernel
theorem dX6_init_551 : decode cX6_init 551 = .ok (.iastore, 1) := by decide +kernel
theorem dX6_init_552 : decode cX6_init 552 = .ok (.dup, 1) := by decide +kernel
theorem dX6_init_553 : decode cX6_init 553 = .ok (.bipush 53, 2) := by decide +kernel
theorem dX6_init_555 : decode cX6_init 555 = .ok (.ldc 143, 2) := by decide +kernel
theorem dX6_init_557 : decode cX6_init 557 = .ok (.iastore, 1) := by decide +kernel
theorem dX6_init_558 : decode cX6_init 558 = .ok (.dup, 1) := by decide +kernel
theorem dX6_init_559 : decode cX6_init 559 = .ok (.bipush 54, 2) := by decide +kernel
theorem dX6_init_561 : decode cX6_init 561 = .ok (.ldc 144, 2) := by decide +kernel
theorem dX6_init_563 : decode cX6_init 563 = .ok (.iastore, 1) := by decide +kernel
theorem dX6_init_564 : decode cX6_init 564 = .ok (.dup, 1) := by decide +kernel
theorem dX6_init_565 : decode cX6_init 565 = .ok (.bipush 55, 2) := by decide +kernel
theorem dX6_init_567 : decode cX6_init 567 = .ok (.ldc 145, 2) := by decide +kernel
theorem dX6_init_569 : decode cX6_init 569 = .ok (.iastore, 1) := by decide +kernel
theorem dX6_init_570 : decode cX6_init 570 = .ok (.dup, 1) := by decide +kernel
theorem dX6_init_571 : decode cX6_init 571 = .ok (.bipush 56, 2) := by decide +kernel
theorem dX6_init_573 : decode cX6_init 573 = .ok (.ldc 146, 2) := by decide +kernel
theorem dX6_init_575 : decode cX6_init 575 = .ok (.iastore, 1) := by decide +kernel
theorem dX6_init_576 : decode cX6_init 576 = .ok (.dup, 1) := by decide +kernel
theorem dX6_init_577 : decode cX6_init 577 = .ok (.bipush 57, 2) := by decide +kernel
theorem dX6_init_579 : decode cX6_init 579 = .ok (.ldc 147, 2) := by decide +kernel
theorem dX6_init_581 : decode cX6_init 581 = .ok (.iastore, 1) := by decide +kernel
theorem dX6_init_582 : decode cX6_init 582 = .ok (.dup, 1) := by decide +kernel
theorem dX6_init_583 : decode cX6_init 583 = .ok (.bipush 58, 2) := by decide +kernel
theorem dX6_init_585 : decode cX6_init 585 = .ok (.ldc 148, 2) := by decide +kernel
theorem dX6_init_587 : decode cX6_init 587 = .ok (.iastore, 1) := by decide +kernel
theorem dX6_init_588 : decode cX6_init 588 = .ok (.dup, 1) := by decide +kernel
theorem dX6_init_589 : decode cX6_init 589 = .ok (.bipush 59, 2) := by decide +kernel
theorem dX6_init_591 : decode cX6_init 591 = .ok (.ldc 149, 2) := by decide +kernel
theorem dX6_init_593 : decode cX6_init 593 = .ok (.iastore, 1) := by decide +kernel
theorem dX6_init_594 : decode cX6_init 594 = .ok (.dup, 1) := by decide +kernel
theorem dX6_init_595 : decode cX6_init 595 = .ok (.bipush 60, 2) := by decide +kernel
theorem dX6_init_597 : decode cX6_init 597 = .ok (.ldc 150, 2) := by decide +kernel
theorem dX6_init_599 : decode cX6_init 599 = .ok (.iastore, 1) := by decide +kernel
theorem dX6_init_600 : decode cX6_init 600 = .ok (.dup, 1) := by decide +kernel
theorem dX6_init_601 : decode cX6_init 601 = .ok (.bipush 61, 2) := by decide +kernel
theorem dX6_init_603 : decode cX6_init 603 = .ok (.ldc 151, 2) := by decide +kernel
theorem dX6_init_605 : decode cX6_init 605 = .ok (.iastore, 1) := by decide +kernel
theorem dX6_init_606 : decode cX6_init 606 = .ok (.dup, 1) := by decide +kernel
theorem dX6_init_607 : decode cX6_init 607 = .ok (.bipush 62, 2) := by decide +kernel
theorem dX6_init_609 : decode cX6_init 609 = .ok (.ldc 152, 2) := by decide +kernel
theorem dX6_init_611 : decode cX6_init 611 = .ok (.iastore, 1) := by decide +kernel
theorem dX6_init_612 : decode cX6_init 612 = .ok (.dup, 1) := by decide +kernel
theorem dX6_init_613 : decode cX6_init 613 = .ok (.bipush 63, 2) := by decide +kernel
theorem dX6_init_615 : decode cX6_init 615 = .ok (.ldc 153, 2) := by decide +kernel
theorem dX6_init_617 : decode cX6_init 617 = .ok (.iastore, 1) := by decide +kernel
theorem dX6_init_618 : decode cX6_init 618 = .ok (.putfield 154, 3) := by decide +kernel
theorem dX6_init_621 : decode cX6_init 621 = .ok (.aload_n 0, 1) := by decide +kernel
theorem dX6_init_622 : decode cX6_init 622 = .ok (.iload_n 1, 1) := by decide +kernel
theorem dX6_init_623 : decode cX6_init 623 = .ok (.iconst 1, 1) := by decide +kernel
theorem dX6_init_624 : decode cX6_init 624 = .ok (.if_icmp .ge 7, 3) := by decide +kernel
theorem dX6_init_627 : decode cX6_init 627 = .ok (.iconst 1, 1) := by decide +kernel
theorem dX6_init_628 : decode cX6_init 628 = .ok (.goto 15, 3) := by decide +kernel
theorem dX6_init_631 : decode cX6_init 631 = .ok (.iload_n 1, 1) := by decide +kernel
theorem dX6_init_632 : decode cX6_init 632 = .ok (.bipush 20, 2) := by decide +kernel
theorem dX6_init_634 : decode cX6_init 634 = .ok (.if_icmp .le 8, 3) := by decide +kernel
theorem dX6_init_637 : decode cX6_init 637 = .ok (.bipush 20, 2) := by decide +kernel
theorem dX6_init_639 : decode cX6_init 639 = .ok (.goto 4, 3) := by decide +kernel
theorem dX6_init_642 : decode cX6_init 642 = .ok (.iload_n 1, 1) := by decide +kernel
theorem dX6_init_643 : decode cX6_init 643 = .ok (.putfield 157, 3) := by decide +kernel
theorem dX6_init_646 : decode cX6_init 646 = .ok (.iconst 0, 1) := by decide +kernel
theorem dX6_init_647 : decode cX6_init 647 = .ok (.istore_n 2, 1) := by decide +kernel
theorem dX6_init_648 : decode cX6_init 648 = .ok (.iload_n 2, 1) := by decide +kernel
theorem dX6_init_649 : decode cX6_init 649 = .ok (.bipush 20, 2) := by decide +kernel
theorem dX6_init_651 : decode cX6_init 651 = .ok (.if_icmp .ge 23, 3) := by decide +kernel
theorem dX6_init_654 : decode cX6_init 654 = .ok (.aload_n 0, 1) := by decide +kernel
theorem dX6_init_655 : decode cX6_init 655 = .ok (.getfield 26, 3) := by decide +kernel
theorem dX6_init_658 : decode cX6_init 658 = .ok (.iload_n 2, 1) := by decide +kernel
theorem dX6_init_659 : decode cX6_init 659 = .ok (.iconst (-1), 1) := by decide +kernel
theorem dX6_init_660 : decode cX6_init 660 = .ok (.iastore, 1) := by decide +kernel
theorem dX6_init_661 : decode cX6_init 661 = .ok (.aload_n 0, 1) := by decide +kernel
theorem dX6_init_662 : decode cX6_init 662 = .ok (.getfield 32, 3) := by decide +kernel
theorem dX6_init_665 : decode cX6_init 665 = .ok (.iload_n 2, 1) := by decide +kernel
theorem dX6_init_666 : decode cX6_init 666 = .ok (.iconst (-1), 1) := by decide +kernel
theorem dX6_init_667 : decode cX6_init 667 = .ok (.iastore, 1) := by decide +kernel
theorem dX6_init_668 : decode cX6_init 668 = .ok (.iinc 2 1, 3) := by decide +kernel
theorem dX6_init_671 : decode cX6_init 671 = .ok (.goto (-23), 3) := by decide +kernel
theorem dX6_init_674 : decode cX6_init 674 = .ok (.return_, 1) := by decide +kernel
theorem dX6_thrown_0 : decode cX6_thrown 0 = .ok (.aload_n 0, 1) := by decide +kernel
theorem dX6_thrown_1 : decode cX6_thrown 1 = .ok (.getfield 160, 3) := by decide +kernel
theorem dX6_thrown_4 : decode cX6_thrown 4 = .ok (.ireturn, 1) := by decide +kernel
theorem dX6_in_0 : decode cX6_in 0 = .ok (.iload_n 0, 1) := by decide +kernel
theorem dX6_in_1 : decode cX6_in 1 = .ok (.iload_n 1, 1) := by decide +kernel
theorem dX6_in_2 : decode cX6_in 2 = .ok (.if_icmp .lt 12, 3) := by decide +kernel
theorem dX6_in_5 : decode cX6_in 5 = .ok (.iload_n 0, 1) := by decide +kernel
theorem dX6_in_6 : decode cX6_in 6 = .ok (.iload_n 2, 1) := by decide +kernel
theorem dX6_in_7 : decode cX6_in 7 = .ok (.if_icmp .gt 7, 3) := by decide +kernel
theorem dX6_in_10 : decode cX6_in 10 = .ok (.iconst 1, 1) := by decide +kernel
theorem dX6_in_11 : decode cX6_in 11 = .ok (.goto 4, 3) := by decide +kernel
theorem dX6_in_14 : decode cX6_in 14 = .ok (.iconst 0, 1) := by decide +kernel
theorem dX6_in_15 : decode cX6_in 15 = .ok (.ireturn, 1) := by decide +kernel
set_option maxRecDepth 20000 in
theorem ggX6_isFile_X6_in : GoodIn wsX6_isFile wsX6_in := goodIn_r _ [5] (by decide +kernel) (by decide +kernel)
set_option maxRecDepth 20000 in
theorem gX6_isFile_X6_in : GoodIn wsX6_isFile (va_wsS RX6 166 yX6_in wsX6_in) := goodIn_app (goodIn_of _ (by decide +kernel)) ggX6_isFile_X6_in
theorem dX6_isFile_0 : decode cX6_isFile 0 = .ok (.iload_n 1, 1) := by decide +kernel
theorem dX6_isFile_1 : decode cX6_isFile 1 = .ok (.iconst 0, 1) := by decide +kernel
theorem dX6_isFile_2 : decode cX6_isFile 2 = .ok (.aload_n 0, 1) := by decide +kernel
theorem dX6_isFile_3 : decode cX6_isFile 3 = .ok (.getfield 163, 3) := by decide +kernel
theorem dX6_isFile_6 : decode cX6_isFile 6 = .ok (.iconst 1, 1) := by decide +kernel
theorem dX6_isFile_7 : decode cX6_isFile 7 = .ok (.isub, 1) := by decide +kernel
theorem dX6_isFile_8 : decode cX6_isFile 8 = .ok (.invokestatic 166, 3) := by decide +kernel
theorem dX6_isFile_11 : decode cX6_isFile 11 = .ok (.ireturn, 1) := by decide +kernel
set_option maxRecDepth 20000 in
theorem ggX6_isDay_X6_in : GoodIn wsX6_isDay wsX6_in := goodIn_r _ [5] (by decide +kernel) (by decide +kernel)
set_option maxRecDepth 20000 in
theorem gX6_isDay_X6_in : GoodIn wsX6_isDay (va_wsS RX6 166 yX6_in wsX6_in) := goodIn_app (goodIn_of _ (by decide +kernel)) ggX6_isDay_X6_in
theorem dX6_isDay_0 : decode cX6_isDay 0 = .ok (.iload_n 0, 1) := by decide +kernel
theorem dX6_isDay_1 : decode cX6_isDay 1 = .ok (.iconst 0, 1) := by decide +kernel
theorem dX6_isDay_2 : decode cX6_isDay 2 = .ok (.ldc 170, 2) := by decide +kernel
theorem dX6_isDay_4 : decode cX6_isDay 4 = .ok (.invokestatic 166, 3) := by decide +kernel
theorem dX6_isDay_7 : decode cX6_isDay 7 = .ok (.ireturn, 1) := by decide +kernel
theorem dX6_turned_0 : decode cX6_turned 0 = .ok (.iload_n 0, 1) := by decide +kernel
theorem dX6_turned_1 : decode cX6_turned 1 = .ok (.iload_n 1, 1) := by decide +kernel
theorem dX6_turned_2 : decode cX6_turned 2 = .ok (.iushr, 1) := by decide +kernel
theorem dX6_turned_3 : decode cX6_turned 3 = .ok (.iload_n 0, 1) := by decide +kernel
theorem dX6_turned_4 : decode cX6_turned 4 = .ok (.bipush 32, 2) := by decide +kernel
theorem dX6_turned_6 : decode cX6_turned 6 = .ok (.iload_n 1, 1) := by decide +kernel
theorem dX6_turned_7 : decode cX6_turned 7 = .ok (.isub, 1) := by decide +kernel
theorem dX6_turned_8 : decode cX6_turned 8 = .ok (.ishl, 1) := by decide +kernel
theorem dX6_turned_9 : decode cX6_turned 9 = .ok (.ior, 1) := by decide +kernel
theorem dX6_turned_10 : decode cX6_turned 10 = .ok (.ireturn, 1) := by decide +kernel
set_option maxRecDepth 20000 in
theorem ggX6_mixed_X6_turned : GoodIn wsX6_mixed wsX6_turned := goodIn_r _ [4] (by decide +kernel) (by decide +kernel)
set_option maxRecDepth 20000 in
theorem gX6_mixed_X6_turned : GoodIn wsX6_mixed (va_wsS RX6 171 yX6_turned wsX6_turned) := goodIn_app (goodIn_of _ (by decide +kernel)) ggX6_mixed_X6_turned
theorem dX6_mixed_0 : decode cX6_mixed 0 = .ok (.iload_n 0, 1) := by decide +kernel
theorem dX6_mixed_1 : decode cX6_mixed 1 = .ok (.iload_n 1, 1) := by decide +kernel
theorem dX6_mixed_2 : decode cX6_mixed 2 = .ok (.invokestatic 171, 3) := by decide +kernel
theorem dX6_mixed_5 : decode cX6_mixed 5 = .ok (.iload_n 0, 1) := by decide +kernel
theorem dX6_mixed_6 : decode cX6_mixed 6 = .ok (.iload_n 2, 1) := by decide +kernel
theorem dX6_mixed_7 : decode cX6_mixed 7 = .ok (.invokestatic 171, 3) := by decide +kernel
theorem dX6_mixed_10 : decode cX6_mixed 10 = .ok (.ixor, 1) := by decide +kernel
theorem dX6_mixed_11 : decode cX6_mixed 11 = .ok (.iload_n 0, 1) := by decide +kernel
theorem dX6_mixed_12 : decode cX6_mixed 12 = .ok (.iload_n 3, 1) := by decide +kernel
theorem dX6_mixed_13 : decode cX6_mixed 13 = .ok (.invokestatic 171, 3) := by decide +kernel
theorem dX6_mixed_16 : decode cX6_mixed 16 = .ok (.ixor, 1) := by decide +kernel
theorem dX6_mixed_17 : decode cX6_mixed 17 = .ok (.ireturn, 1) := by decide +kernel
set_option maxRecDepth 20000 in
theorem ggX6_block_X6_turned : GoodIn wsX6_block wsX6_turned := goodIn_r _ [9] (by decide +kernel) (by decide +kernel)
set_option maxRecDepth 20000 in
theorem gX6_block_X6_turned : GoodIn wsX6_block (va_wsS RX6 171 yX6_turned wsX6_turned) := goodIn_app (goodIn_of _ (by decide +kernel)) ggX6_block_X6_turned
set_option maxRecDepth 20000 in
theorem ggX6_block_X6_mixed : GoodIn wsX6_block wsX6_mixed := goodIn_r _ [12, 6, 7, 8, 9] (by decide +kernel) (by decide +kernel)
set_option maxRecDepth 20000 in
theorem gX6_block_X6_mixed : GoodIn wsX6_block (va_wsS RX6 175 yX6_mixed wsX6_mixed) := goodIn_app (goodIn_of _ (by decide +kernel)) ggX6_block_X6_mixed
theorem dX6_block_0 : decode cX6_block 0 = .ok (.iconst 0, 1) := by decide +kernel
theorem dX6_block_1 : decode cX6_block 1 = .ok (.istore_n 2, 1) := by decide +kernel
theorem dX6_block_2 : decode cX6_block 2 = .ok (.iload_n 2, 1) := by decide +kernel
theorem dX6_block_3 : decode cX6_block 3 = .ok (.bipush 64, 2) := by decide +kernel
theorem dX6_block_5 : decode cX6_block 5 = .ok (.if_icmp .ge 173, 3) := by decide +kernel
theorem dX6_block_8 : decode cX6_block 8 = .ok (.iload_n 2, 1) := by decide +kernel
theorem dX6_block_9 : decode cX6_block 9 = .ok (.bipush 16, 2) := by decide +kernel
theorem dX6_block_11 : decode cX6_block 11 = .ok (.if_icmp .ge 76, 3) := by decide +kernel
theorem dX6_block_14 : decode cX6_block 14 = .ok (.iload_n 1, 1) := by decide +kernel
theorem dX6_block_15 : decode cX6_block 15 = .ok (.iconst 4, 1) := by decide +kernel
theorem dX6_block_16 : decode cX6_block 16 = .ok (.iload_n 2, 1) := by decide +kernel
theorem dX6_block_17 : decode cX6_block 17 = .ok (.imul, 1) := by decide +kernel
theorem dX6_block_18 : decode cX6_block 18 = .ok (.iadd, 1) := by decide +kernel
theorem dX6_block_19 : decode cX6_block 19 = .ok (.istore_n 3, 1) := by decide +kernel
theorem dX6_block_20 : decode cX6_block 20 = .ok (.aload_n 0, 1) := by decide +kernel
theorem dX6_block_21 : decode cX6_block 21 = .ok (.getfield 70, 3) := by decide +kernel
theorem dX6_block_24 : decode cX6_block 24 = .ok (.iload_n 2, 1) := by decide +kernel
theorem dX6_block_25 : decode cX6_block 25 = .ok (.aload_n 0, 1) := by decide +kernel
theorem dX6_block_26 : decode cX6_block 26 = .ok (.getfield 64, 3) := by decide +kernel
theorem dX6_block_29 : decode cX6_block 29 = .ok (.iload_n 3, 1) := by decide +kernel
theorem dX6_block_30 : decode cX6_block 30 = .ok (.baload, 1) := by decide +kernel
theorem dX6_block_31 : decode cX6_block 31 = .ok (.sipush 255, 3) := by decide +kernel
theorem dX6_block_34 : decode cX6_block 34 = .ok (.iand, 1) := by decide +kernel
theorem dX6_block_35 : decode cX6_block 35 = .ok (.bipush 24, 2) := by decide +kernel
theorem dX6_block_37 : decode cX6_block 37 = .ok (.ishl, 1) := by decide +kernel
theorem dX6_block_38 : decode cX6_block 38 = .ok (.aload_n 0, 1) := by decide +kernel
theorem dX6_block_39 : decode cX6_block 39 = .ok (.getfield 64, 3) := by decide +kernel
theorem dX6_block_42 : decode cX6_block 42 = .ok (.iload_n 3, 1) := by decide +kernel
theorem dX6_block_43 : decode cX6_block 43 = .ok (.iconst 1, 1) := by decide +kernel
theorem dX6_block_44 : decode cX6_block 44 = .ok (.iadd, 1) := by decide +kernel
theorem dX6_block_45 : decode cX6_block 45 = .ok (.baload, 1) := by decide +kernel
theorem dX6_block_46 : decode cX6_block 46 = .ok (.sipush 255, 3) := by decide +kernel
theorem dX6_block_49 : decode cX6_block 49 = .ok (.iand, 1) := by decide +kernel
theorem dX6_block_50 : decode cX6_block 50 = .ok (.bipush 16, 2) := by decide +kernel
theorem dX6_block_52 : decode cX6_block 52 = .ok (.ishl, 1) := by decide +kernel
theorem dX6_block_53 : decode cX6_block 53 = .ok (.ior, 1) := by decide +kernel
theorem dX6_block_54 : decode cX6_block 54 = .ok (.aload_n 0, 1) := by decide +kernel
theorem dX6_block_55 : decode cX6_block 55 = .ok (.getfield 64, 3) := by decide +kernel
theorem dX6_block_58 : decode cX6_block 58 = .ok (.iload_n 3, 1) := by decide +kernel
theorem dX6_block_59 : decode cX6_block 59 = .ok (.iconst 2, 1) := by decide +kernel
theorem dX6_block_60 : decode cX6_block 60 = .ok (.iadd, 1) := by decide +kernel
theorem dX6_block_61 : decode cX6_block 61 = .ok (.baload, 1) := by decide +kernel
theorem dX6_block_62 : decode cX6_block 62 = .ok (.sipush 255, 3) := by decide +kernel
theorem dX6_block_65 : decode cX6_block 65 = .ok (.iand, 1) := by decide +kernel
theorem dX6_block_66 : decode cX6_block 66 = .ok (.bipush 8, 2) := by decide +kernel
theorem dX6_block_68 : decode cX6_block 68 = .ok (.ishl, 1) := by decide +kernel
theorem dX6_block_69 : decode cX6_block 69 = .ok (.ior, 1) := by decide +kernel
theorem dX6_block_70 : decode cX6_block 70 = .ok (.aload_n 0, 1) := by decide +kernel
theorem dX6_block_71 : decode cX6_block 71 = .ok (.getfield 64, 3) := by decide +kernel
theorem dX6_block_74 : decode cX6_block 74 = .ok (.iload_n 3, 1) := by decide +kernel
theorem dX6_block_75 : decode cX6_block 75 = .ok (.iconst 3, 1) := by decide +kernel
theorem dX6_block_76 : decode cX6_block 76 = .ok (.iadd, 1) := by decide +kernel
theorem dX6_block_77 : decode cX6_block 77 = .ok (.baload, 1) := by decide +kernel
theorem dX6_block_78 : decode cX6_block 78 = .ok (.sipush 255, 3) := by decide +kernel
theorem dX6_block_81 : decode cX6_block 81 = .ok (.iand, 1) := by decide +kernel
theorem dX6_block_82 : decode cX6_block 82 = .ok (.ior, 1) := by decide +kernel
theorem dX6_block_83 : decode cX6_block 83 = .ok (.iastore, 1) := by decide +kernel
theorem dX6_block_84 : decode cX6_block 84 = .ok (.goto 88, 3) := by decide +kernel
theorem dX6_block_87 : decode cX6_block 87 = .ok (.aload_n 0, 1) := by decide +kernel
theorem dX6_block_88 : decode cX6_block 88 = .ok (.getfield 70, 3) := by decide +kernel
theorem dX6_block_91 : decode cX6_block 91 = .ok (.iload_n 2, 1) := by decide +kernel
theorem dX6_block_92 : decode cX6_block 92 = .ok (.bipush 15, 2) := by decide +kernel
theorem dX6_block_94 : decode cX6_block 94 = .ok (.isub, 1) := by decide +kernel
theorem dX6_block_95 : decode cX6_block 95 = .ok (.iaload, 1) := by decide +kernel
theorem dX6_block_96 : decode cX6_block 96 = .ok (.istore_n 3, 1) := by decide +kernel
theorem dX6_block_97 : decode cX6_block 97 = .ok (.aload_n 0, 1) := by decide +kernel
theorem dX6_block_98 : decode cX6_block 98 = .ok (.getfield 70, 3) := by decide +kernel
theorem dX6_block_101 : decode cX6_block 101 = .ok (.iload_n 2, 1) := by decide +kernel
theorem dX6_block_102 : decode cX6_block 102 = .ok (.iconst 2, 1) := by decide +kernel
theorem dX6_block_103 : decode cX6_block 103 = .ok (.isub, 1) := by decide +kernel
theorem dX6_block_104 : decode cX6_block 104 = .ok (.iaload, 1) := by decide +kernel
theorem dX6_block_105 : decode cX6_block 105 = .ok (.istore 4, 2) := by decide +kernel
theorem dX6_block_107 : decode cX6_block 107 = .ok (.aload_n 0, 1) := by decide +kernel
theorem dX6_block_108 : decode cX6_block 108 = .ok (.getfield 70, 3) := by decide +kernel
theorem dX6_block_111 : decode cX6_block 111 = .ok (.iload_n 2, 1) := by decide +kernel
theorem dX6_block_112 : decode cX6_block 112 = .ok (.aload_n 0, 1) := by decide +kernel
theorem dX6_block_113 : decode cX6_block 113 = .ok (.getfield 70, 3) := by decide +kernel
theorem dX6_block_116 : decode cX6_block 116 = .ok (.iload_n 2, 1) := by decide +kernel
theorem dX6_block_117 : decode cX6_block 117 = .ok (.bipush 16, 2) := by decide +kernel
theorem dX6_block_119 : decode cX6_block 119 = .ok (.isub, 1) := by decide +kernel
theorem dX6_block_120 : decode cX6_block 120 = .ok (.iaload, 1) := by decide +kernel
theorem dX6_block_121 : decode cX6_block 121 = .ok (.iload_n 3, 1) := by decide +kernel
theorem dX6_block_122 : decode cX6_block 122 = .ok (.bipush 7, 2) := by decide +kernel
theorem dX6_block_124 : decode cX6_block 124 = .ok (.invokestatic 171, 3) := by decide +kernel
theorem dX6_block_127 : decode cX6_block 127 = .ok (.iload_n 3, 1) := by decide +kernel
theorem dX6_block_128 : decode cX6_block 128 = .ok (.bipush 18, 2) := by decide +kernel
theorem dX6_block_130 : decode cX6_block 130 = .ok (.invokestatic 171, 3) := by decide +kernel
theorem dX6_block_133 : decode cX6_block 133 = .ok (.ixor, 1) := by decide +kernel
theorem dX6_block_134 : decode cX6_block 134 = .ok (.iload_n 3, 1) := by decide +kernel
theorem dX6_block_135 : decode cX6_block 135 = .ok (.iconst 3, 1) := by decide +kernel
theorem dX6_block_136 : decode cX6_block 136 = .ok (.iushr, 1) := by decide +kernel
theorem dX6_block_137 : decode cX6_block 137 = .ok (.ixor, 1) := by decide +kernel
theorem dX6_block_138 : decode cX6_block 138 = .ok (.iadd, 1) := by decide +kernel
theorem dX6_block_139 : decode cX6_block 139 = .ok (.aload_n 0, 1) := by decide +kernel
theorem dX6_block_140 : decode cX6_block 140 = .ok (.getfield 70, 3) := by decide +kernel
theorem dX6_block_143 : decode cX6_block 143 = .ok (.iload_n 2, 1) := by decide +kernel
theorem dX6_block_144 : decode cX6_block 144 = .ok (.bipush 7, 2) := by decide +kernel
theorem dX6_block_146 : decode cX6_block 146 = .ok (.isub, 1) := by decide +kernel
theorem dX6_block_147 : decode cX6_block 147 = .ok (.iaload, 1) := by decide +kernel
theorem dX6_block_148 : decode cX6_block 148 = .ok (.iadd, 1) := by decide +kernel
theorem dX6_block_149 : decode cX6_block 149 = .ok (.iload 4, 2) := by decide +kernel
theorem dX6_block_151 : decode cX6_block 151 = .ok (.bipush 17, 2) := by decide +kernel
theorem dX6_block_153 : decode cX6_block 153 = .ok (.invokestatic 171, 3) := by decide +kernel
theorem dX6_block_156 : decode cX6_block 156 = .ok (.iload 4, 2) := by decide +kernel
theorem dX6_block_158 : decode cX6_block 158 = .ok (.bipush 19, 2) := by decide +kernel
theorem dX6_block_160 : decode cX6_block 160 = .ok (.invokestatic 171, 3) := by decide +kernel
theorem dX6_block_163 : decode cX6_block 163 = .ok (.ixor, 1) := by decide +kernel
theorem dX6_block_164 : decode cX6_block 164 = .ok (.iload 4, 2) := by decide +kernel
theorem dX6_block_166 : decode cX6_block 166 = .ok (.bipush 10, 2) := by decide +kernel
theorem dX6_block_168 : decode cX6_block 168 = .ok (.iushr, 1) := by decide +kernel
theorem dX6_block_169 : decode cX6_block 169 = .ok (.ixor, 1) := by decide +kernel
theorem dX6_block_170 : decode cX6_block 170 = .ok (.iadd, 1) := by decide +kernel
theorem dX6_block_171 : decode cX6_block 171 = .ok (.iastore, 1) := by decide +kernel
theorem dX6_block_172 : decode cX6_block 172 = .ok (.iinc 2 1, 3) := by decide +kernel
theorem dX6_block_175 : decode cX6_block 175 = .ok (.goto (-173), 3) := by decide +kernel
theorem dX6_block_178 : decode cX6_block 178 = .ok (.iconst 0, 1) := by decide +kernel
theorem dX6_block_179 : decode cX6_block 179 = .ok (.istore_n 2, 1) := by decide +kernel
theorem dX6_block_180 : decode cX6_block 180 = .ok (.iload_n 2, 1) := by decide +kernel
theorem dX6_block_181 : decode cX6_block 181 = .ok (.bipush 8, 2) := by decide +kernel
theorem dX6_block_183 : decode cX6_block 183 = .ok (.if_icmp .ge 21, 3) := by decide +kernel
theorem dX6_block_186 : decode cX6_block 186 = .ok (.aload_n 0, 1) := by decide +kernel
theorem dX6_block_187 : decode cX6_block 187 = .ok (.getfield 76, 3) := by decide +kernel
theorem dX6_block_190 : decode cX6_block 190 = .ok (.iload_n 2, 1) := by decide +kernel
theorem dX6_block_191 : decode cX6_block 191 = .ok (.aload_n 0, 1) := by decide +kernel
theorem dX6_block_192 : decode cX6_block 192 = .ok (.getfield 73, 3) := by decide +kernel
theorem dX6_block_195 : decode cX6_block 195 = .ok (.iload_n 2, 1) := by decide +kernel
theorem dX6_block_196 : decode cX6_block 196 = .ok (.iaload, 1) := by decide +kernel
theorem dX6_block_197 : decode cX6_block 197 = .ok (.iastore, 1) := by decide +kernel
theorem dX6_block_198 : decode cX6_block 198 = .ok (.iinc 2 1, 3) := by decide +kernel
theorem dX6_block_201 : decode cX6_block 201 = .ok (.goto (-21), 3) := by decide +kernel
theorem dX6_block_204 : decode cX6_block 204 = .ok (.iconst 0, 1) := by decide +kernel
theorem dX6_block_205 : decode cX6_block 205 = .ok (.istore_n 2, 1) := by decide +kernel
theorem dX6_block_206 : decode cX6_block 206 = .ok (.iload_n 2, 1) := by decide +kernel
theorem dX6_block_207 : decode cX6_block 207 = .ok (.bipush 64, 2) := by decide +kernel
theorem dX6_block_209 : decode cX6_block 209 = .ok (.if_icmp .ge 187, 3) := by decide +kernel
theorem dX6_block_212 : decode cX6_block 212 = .ok (.aload_n 0, 1) := by decide +kernel
theorem dX6_block_213 : decode cX6_block 213 = .ok (.getfield 76, 3) := by decide +kernel
theorem dX6_block_216 : decode cX6_block 216 = .ok (.bipush 7, 2) := by decide +kernel
theorem dX6_block_218 : decode cX6_block 218 = .ok (.iaload, 1) := by decide +kernel
theorem dX6_block_219 : decode cX6_block 219 = .ok (.aload_n 0, 1) := by decide +kernel
theorem dX6_block_220 : decode cX6_block 220 = .ok (.getfield 76, 3) := by decide +kernel
theorem dX6_block_223 : decode cX6_block 223 = .ok (.iconst 4, 1) := by decide +kernel
theorem dX6_block_224 : decode cX6_block 224 = .ok (.iaload, 1) := by decide +kernel
theorem dX6_block_225 : decode cX6_block 225 = .ok (.bipush 6, 2) := by decide +kernel
theorem dX6_block_227 : decode cX6_block 227 = .ok (.bipush 11, 2) := by decide +kernel
theorem dX6_block_229 : decode cX6_block 229 = .ok (.bipush 25, 2) := by decide +kernel
theorem dX6_block_231 : decode cX6_block 231 = .ok (.invokestatic 175, 3) := by decide +kernel
theorem dX6_block_234 : decode cX6_block 234 = .ok (.iadd, 1) := by decide +kernel
theorem dX6_block_235 : decode cX6_block 235 = .ok (.aload_n 0, 1) := by decide +kernel
theorem dX6_block_236 : decode cX6_block 236 = .ok (.getfield 76, 3) := by decide +kernel
theorem dX6_block_239 : decode cX6_block 239 = .ok (.iconst 4, 1) := by decide +kernel
theorem dX6_block_240 : decode cX6_block 240 = .ok (.iaload, 1) := by decide +kernel
theorem dX6_block_241 : decode cX6_block 241 = .ok (.aload_n 0, 1) := by decide +kernel
theorem dX6_block_242 : decode cX6_block 242 = .ok (.getfield 76, 3) := by decide +kernel
theorem dX6_block_245 : decode cX6_block 245 = .ok (.iconst 5, 1) := by decide +kernel
theorem dX6_block_246 : decode cX6_block 246 = .ok (.iaload, 1) := by decide +kernel
theorem dX6_block_247 : decode cX6_block 247 = .ok (.iand, 1) := by decide +kernel
theorem dX6_block_248 : decode cX6_block 248 = .ok (.aload_n 0, 1) := by decide +kernel
theorem dX6_block_249 : decode cX6_block 249 = .ok (.getfield 76, 3) := by decide +kernel
theorem dX6_block_252 : decode cX6_block 252 = .ok (.iconst 4, 1) := by decide +kernel
theorem dX6_block_253 : decode cX6_block 253 = .ok (.iaload, 1) := by decide +kernel
theorem dX6_block_254 : decode cX6_block 254 = .ok (.iconst (-1), 1) := by decide +kernel
theorem dX6_block_255 : decode cX6_block 255 = .ok (.ixor, 1) := by decide +kernel
theorem dX6_block_256 : decode cX6_block 256 = .ok (.aload_n 0, 1) := by decide +kernel
theorem dX6_block_257 : decode cX6_block 257 = .ok (.getfield 76, 3) := by decide +kernel
theorem dX6_block_260 : decode cX6_block 260 = .ok (.bipush 6, 2) := by decide +kernel
theorem dX6_block_262 : decode cX6_block 262 = .ok (.iaload, 1) := by decide +kernel
theorem dX6_block_263 : decode cX6_block 263 = .ok (.iand, 1) := by decide +kernel
theorem dX6_block_264 : decode cX6_block 264 = .ok (.ixor, 1) := by decide +kernel
theorem dX6_block_265 : decode cX6_block 265 = .ok (.iadd, 1) := by decide +kernel
theorem dX6_block_266 : decode cX6_block 266 = .ok (.aload_n 0, 1) := by decide +kernel
theorem dX6_block_267 : decode cX6_block 267 = .ok (.getfield 154, 3) := by decide +kernel
theorem dX6_block_270 : decode cX6_block 270 = .ok (.iload_n 2, 1) := by decide +kernel
theorem dX6_block_271 : decode cX6_block 271 = .ok (.iaload, 1) := by decide +kernel
theorem dX6_block_272 : decode cX6_block 272 = .ok (.iadd, 1) := by decide +kernel
theorem dX6_block_273 : decode cX6_block 273 = .ok (.aload_n 0, 1) := by decide +kernel
theorem dX6_block_274 : decode cX6_block 274 = .ok (.getfield 70, 3) := by decide +kernel
theorem dX6_block_277 : decode cX6_block 277 = .ok (.iload_n 2, 1) := by decide +kernel
theorem dX6_block_278 : decode cX6_block 278 = .ok (.iaload, 1) := by decide +kernel
theorem dX6_block_279 : decode cX6_block 279 = .ok (.iadd, 1) := by decide +kernel
theorem dX6_block_280 : decode cX6_block 280 = .ok (.istore_n 3, 1) := by decide +kernel
theorem dX6_block_281 : decode cX6_block 281 = .ok (.aload_n 0, 1) := by decide +kernel
theorem dX6_block_282 : decode cX6_block 282 = .ok (.getfield 76, 3) := by decide +kernel
theorem dX6_block_285 : decode cX6_block 285 = .ok (.iconst 0, 1) := by decide +kernel
theorem dX6_block_286 : decode cX6_block 286 = .ok (.iaload, 1) := by decide +kernel
theorem dX6_block_287 : decode cX6_block 287 = .ok (.iconst 2, 1) := by decide +kernel
theorem dX6_block_288 : decode cX6_block 288 = .ok (.bipush 13, 2) := by decide +kernel
theorem dX6_block_290 : decode cX6_block 290 = .ok (.bipush 22, 2) := by decide +kernel
theorem dX6_block_292 : decode cX6_block 292 = .ok (.invokestatic 175, 3) := by decide +kernel
theorem dX6_block_295 : decode cX6_block 295 = .ok (.aload_n 0, 1) := by decide +kernel
theorem dX6_block_296 : decode cX6_block 296 = .ok (.getfield 76, 3) := by decide +kernel
theorem dX6_block_299 : decode cX6_block 299 = .ok (.iconst 0, 1) := by decide +kernel
theorem dX6_block_300 : decode cX6_block 300 = .ok (.iaload, 1) := by decide +kernel
theorem dX6_block_301 : decode cX6_block 301 = .ok (.aload_n 0, 1) := by decide +kernel
theorem dX6_block_302 : decode cX6_block 302 = .ok (.getfield 76, 3) := by decide +kernel
theorem dX6_block_305 : decode cX6_block 305 = .ok (.iconst 1, 1) := by decide +kernel
theorem dX6_block_306 : decode cX6_block 306 = .ok (.iaload, 1) := by decide +kernel
theorem dX6_block_307 : decode cX6_block 307 = .ok (.iand, 1) := by decide +kernel
theorem dX6_block_308 : decode cX6_block 308 = .ok (.aload_n 0, 1) := by decide +kernel
theorem dX6_block_309 : decode cX6_block 309 = .ok (.getfield 76, 3) := by decide +kernel
theorem dX6_block_312 : decode cX6_block 312 = .ok (.iconst 0, 1) := by decide +kernel
theorem dX6_block_313 : decode cX6_block 313 = .ok (.iaload, 1) := by decide +kernel
theorem dX6_block_314 : decode cX6_block 314 = .ok (.aload_n 0, 1) := by decide +kernel
theorem dX6_block_315 : decode cX6_block 315 = .ok (.getfield 76, 3) := by decide +kernel
theorem dX6_block_318 : decode cX6_block 318 = .ok (.iconst 2, 1) := by decide +kernel
theorem dX6_block_319 : decode cX6_block 319 = .ok (.iaload, 1) := by decide +kernel
theorem dX6_block_320 : decode cX6_block 320 = .ok (.iand, 1) := by decide +kernel
theorem dX6_block_321 : decode cX6_block 321 = .ok (.ixor, 1) := by decide +kernel
theorem dX6_block_322 : decode cX6_block 322 = .ok (.aload_n 0, 1) := by decide +kernel
theorem dX6_block_323 : decode cX6_block 323 = .ok (.getfield 76, 3) := by decide +kernel
theorem dX6_block_326 : decode cX6_block 326 = .ok (.iconst 1, 1) := by decide +kernel
theorem dX6_block_327 : decode cX6_block 327 = .ok (.iaload, 1) := by decide +kernel
theorem dX6_block_328 : decode cX6_block 328 = .ok (.aload_n 0, 1) := by decide +kernel
theorem dX6_block_329 : decode cX6_block 329 = .ok (.getfield 76, 3) := by decide +kernel
theorem dX6_block_332 : decode cX6_block 332 = .ok (.iconst 2, 1) := by decide +kernel
theorem dX6_block_333 : decode cX6_block 333 = .ok (.iaload, 1) := by decide +kernel
theorem dX6_block_334 : decode cX6_block 334 = .ok (.iand, 1) := by decide +kernel
theorem dX6_block_335 : decode cX6_block 335 = .ok (.ixor, 1) := by decide +kernel
theorem dX6_block_336 : decode cX6_block 336 = .ok (.iadd, 1) := by decide +kernel
theorem dX6_block_337 : decode cX6_block 337 = .ok (.istore 4, 2) := by decide +kernel
theorem dX6_block_339 : decode cX6_block 339 = .ok (.bipush 7, 2) := by decide +kernel
theorem dX6_block_341 : decode cX6_block 341 = .ok (.istore 5, 2) := by decide +kernel
theorem dX6_block_343 : decode cX6_block 343 = .ok (.iload 5, 2) := by decide +kernel
theorem dX6_block_345 : decode cX6_block 345 = .ok (.ifCond .le 25, 3) := by decide +kernel
theorem dX6_block_348 : decode cX6_block 348 = .ok (.aload_n 0, 1) := by decide +kernel
theorem dX6_block_349 : decode cX6_block 349 = .ok (.getfield 76, 3) := by decide +kernel
theorem dX6_block_352 : decode cX6_block 352 = .ok (.iload 5, 2) := by decide +kernel
theorem dX6_block_354 : decode cX6_block 354 = .ok (.aload_n 0, 1) := by decide +kernel
theorem dX6_block_355 : decode cX6_block 355 = .ok (.getfield 76, 3) := by decide +kernel
theorem dX6_block_358 : decode cX6_block 358 = .ok (.iload 5, 2) := by decide +kernel
theorem dX6_block_360 : decode cX6_block 360 = .ok (.iconst 1, 1) := by decide +kernel
theorem dX6_block_361 : decode cX6_block 361 = .ok (.isub, 1) := by decide +kernel
theorem dX6_block_362 : decode cX6_block 362 = .ok (.iaload, 1) := by decide +kernel
theorem dX6_block_363 : decode cX6_block 363 = .ok (.iastore, 1) := by decide +kernel
theorem dX6_block_364 : decode cX6_block 364 = .ok (.iinc 5 (-1), 3) := by decide +kernel
theorem dX6_block_367 : decode cX6_block 367 = .ok (.goto (-24), 3) := by decide +kernel
theorem dX6_block_370 : decode cX6_block 370 = .ok (.aload_n 0, 1) := by decide +kernel
theorem dX6_block_371 : decode cX6_block 371 = .ok (.getfield 76, 3) := by decide +kernel
theorem dX6_block_374 : decode cX6_block 374 = .ok (.iconst 4, 1) := by decide +kernel
theorem dX6_block_375 : decode cX6_block 375 = .ok (.dup2, 1) := by decide +kernel
theorem dX6_block_376 : decode cX6_block 376 = .ok (.iaload, 1) := by decide +kernel
theorem dX6_block_377 : decode cX6_block 377 = .ok (.iload_n 3, 1) := by decide +kernel
theorem dX6_block_378 : decode cX6_block 378 = .ok (.iadd, 1) := by decide +kernel
theorem dX6_block_379 : decode cX6_block 379 = .ok (.iastore, 1) := by decide +kernel
theorem dX6_block_380 : decode cX6_block 380 = .ok (.aload_n 0, 1) := by decide +kernel
theorem dX6_block_381 : decode cX6_block 381 = .ok (.getfield 76, 3) := by decide +kernel
theorem dX6_block_384 : decode cX6_block 384 = .ok (.iconst 0, 1) := by decide +kernel
theorem dX6_block_385 : decode cX6_block 385 = .ok (.iload_n 3, 1) := by decide +kernel
theorem dX6_block_386 : decode cX6_block 386 = .ok (.iload 4, 2) := by decide +kernel
theorem dX6_block_388 : decode cX6_block 388 = .ok (.iadd, 1) := by decide +kernel
theorem dX6_block_389 : decode cX6_block 389 = .ok (.iastore, 1) := by decide +kernel
theorem dX6_block_390 : decode cX6_block 390 = .ok (.iinc 2 1, 3) := by decide +kernel
theorem dX6_block_393 : decode cX6_block 393 = .ok (.goto (-187), 3) := by decide +kernel
theorem dX6_block_396 : decode cX6_block 396 = .ok (.iconst 0, 1) := by decide +kernel
theorem dX6_block_397 : decode cX6_block 397 = .ok (.istore_n 2, 1) := by decide +kernel
theorem dX6_block_398 : decode cX6_block 398 = .ok (.iload_n 2, 1) := by decide +kernel
theorem dX6_block_399 : decode cX6_block 399 = .ok (.bipush 8, 2) := by decide +kernel
theorem dX6_block_401 : decode cX6_block 401 = .ok (.if_icmp .ge 24, 3) := by decide +kernel
theorem dX6_block_404 : decode cX6_block 404 = .ok (.aload_n 0, 1) := by decide +kernel
theorem dX6_block_405 : decode cX6_block 405 = .ok (.getfield 73, 3) := by decide +kernel
theorem dX6_block_408 : decode cX6_block 408 = .ok (.iload_n 2, 1) := by decide +kernel
theorem dX6_block_409 : decode cX6_block 409 = .ok (.dup2, 1) := by decide +kernel
theorem dX6_block_410 : decode cX6_block 410 = .ok (.iaload, 1) := by decide +kernel
theorem dX6_block_411 : decode cX6_block 411 = .ok (.aload_n 0, 1) := by decide +kernel
theorem dX6_block_412 : decode cX6_block 412 = .ok (.getfield 76, 3) := by decide +kernel
theorem dX6_block_415 : decode cX6_block 415 = .ok (.iload_n 2, 1) := by decide +kernel
theorem dX6_block_416 : decode cX6_block 416 = .ok (.iaload, 1) := by decide +kernel
theorem dX6_block_417 : decode cX6_block 417 = .ok (.iadd, 1) := by decide +kernel
theorem dX6_block_418 : decode cX6_block 418 = .ok (.iastore, 1) := by decide +kernel
theorem dX6_block_419 : decode cX6_block 419 = .ok (.iinc 2 1, 3) := by decide +kernel
theorem dX6_block_422 : decode cX6_block 422 = .ok (.goto (-24), 3) := by decide +kernel
theorem dX6_block_425 : decode cX6_block 425 = .ok (.return_, 1) := by decide +kernel
set_option maxRecDepth 20000 in
theorem ggX6_long1_X6_block : GoodIn wsX6_long1 wsX6_block := goodIn_r _ [10, 11, 2, 12, 3, 13, 14, 15, 9, 16, 17, 18, 19, 20, 21, 22, 23, 24, 25, 26, 27, 28, 29, 30, 31, 32, 33, 34, 35, 36, 37, 38, 39, 40, 41, 42, 43, 44, 45, 46, 47, 48, 49, 50, 51] (by decide +kernel) (by decide +kernel)
set_option maxRecDepth 20000 in
theorem gX6_long1_X6_block : GoodIn wsX6_long1 (wsV RX6 182 RX6 yX6_block wsX6_block) := goodIn_app (goodIn_of _ (by decide +kernel)) ggX6_long1_X6_block
theorem dX6_long1_0 : decode cX6_long1 0 = .ok (.bipush 8, 2) := by decide +kernel
theorem dX6_long1_2 : decode cX6_long1 2 = .ok (.aload_n 0, 1) := by decide +kernel
theorem dX6_long1_3 : decode cX6_long1 3 = .ok (.getfield 179, 3) := by decide +kernel
theorem dX6_long1_6 : decode cX6_long1 6 = .ok (.imul, 1) := by decide +kernel
theorem dX6_long1_7 : decode cX6_long1 7 = .ok (.istore_n 1, 1) := by decide +kernel
theorem dX6_long1_8 : decode cX6_long1 8 = .ok (.aload_n 0, 1) := by decide +kernel
theorem dX6_long1_9 : decode cX6_long1 9 = .ok (.getfield 64, 3) := by decide +kernel
theorem dX6_long1_12 : decode cX6_long1 12 = .ok (.aload_n 0, 1) := by decide +kernel
theorem dX6_long1_13 : decode cX6_long1 13 = .ok (.getfield 179, 3) := by decide +kernel
theorem dX6_long1_16 : decode cX6_long1 16 = .ok (.bipush (-128), 2) := by decide +kernel
theorem dX6_long1_18 : decode cX6_long1 18 = .ok (.bastore, 1) := by decide +kernel
theorem dX6_long1_19 : decode cX6_long1 19 = .ok (.aload_n 0, 1) := by decide +kernel
theorem dX6_long1_20 : decode cX6_long1 20 = .ok (.getfield 179, 3) := by decide +kernel
theorem dX6_long1_23 : decode cX6_long1 23 = .ok (.iconst 1, 1) := by decide +kernel
theorem dX6_long1_24 : decode cX6_long1 24 = .ok (.iadd, 1) := by decide +kernel
theorem dX6_long1_25 : decode cX6_long1 25 = .ok (.istore_n 2, 1) := by decide +kernel
theorem dX6_long1_26 : decode cX6_long1 26 = .ok (.iload_n 2, 1) := by decide +kernel
theorem dX6_long1_27 : decode cX6_long1 27 = .ok (.bipush 64, 2) := by decide +kernel
theorem dX6_long1_29 : decode cX6_long1 29 = .ok (.irem, 1) := by decide +kernel
theorem dX6_long1_30 : decode cX6_long1 30 = .ok (.bipush 56, 2) := by decide +kernel
theorem dX6_long1_32 : decode cX6_long1 32 = .ok (.if_icmp .eq 16, 3) := by decide +kernel
theorem dX6_long1_35 : decode cX6_long1 35 = .ok (.aload_n 0, 1) := by decide +kernel
theorem dX6_long1_36 : decode cX6_long1 36 = .ok (.getfield 64, 3) := by decide +kernel
theorem dX6_long1_39 : decode cX6_long1 39 = .ok (.iload_n 2, 1) := by decide +kernel
theorem dX6_long1_40 : decode cX6_long1 40 = .ok (.iconst 0, 1) := by decide +kernel
theorem dX6_long1_41 : decode cX6_long1 41 = .ok (.bastore, 1) := by decide +kernel
theorem dX6_long1_42 : decode cX6_long1 42 = .ok (.iinc 2 1, 3) := by decide +kernel
theorem dX6_long1_45 : decode cX6_long1 45 = .ok (.goto (-19), 3) := by decide +kernel
theorem dX6_long1_48 : decode cX6_long1 48 = .ok (.iconst 0, 1) := by decide +kernel
theorem dX6_long1_49 : decode cX6_long1 49 = .ok (.istore_n 3, 1) := by decide +kernel
theorem dX6_long1_50 : decode cX6_long1 50 = .ok (.iload_n 3, 1) := by decide +kernel
theorem dX6_long1_51 : decode cX6_long1 51 = .ok (.bipush 8, 2) := by decide +kernel
theorem dX6_long1_53 : decode cX6_long1 53 = .ok (.if_icmp .ge 36, 3) := by decide +kernel
theorem dX6_long1_56 : decode cX6_long1 56 = .ok (.aload_n 0, 1) := by decide +kernel
theorem dX6_long1_57 : decode cX6_long1 57 = .ok (.getfield 64, 3) := by decide +kernel
theorem dX6_long1_60 : decode cX6_long1 60 = .ok (.iload_n 2, 1) := by decide +kernel
theorem dX6_long1_61 : decode cX6_long1 61 = .ok (.iload_n 3, 1) := by decide +kernel
theorem dX6_long1_62 : decode cX6_long1 62 = .ok (.iadd, 1) := by decide +kernel
theorem dX6_long1_63 : decode cX6_long1 63 = .ok (.iload_n 3, 1) := by decide +kernel
theorem dX6_long1_64 : decode cX6_long1 64 = .ok (.iconst 4, 1) := by decide +kernel
theorem dX6_long1_65 : decode cX6_long1 65 = .ok (.if_icmp .ge 7, 3) := by decide +kernel
theorem dX6_long1_68 : decode cX6_long1 68 = .ok (.iconst 0, 1) := by decide +kernel
theorem dX6_long1_69 : decode cX6_long1 69 = .ok (.goto 13, 3) := by decide +kernel
theorem dX6_long1_72 : decode cX6_long1 72 = .ok (.iload_n 1, 1) := by decide +kernel
theorem dX6_long1_73 : decode cX6_long1 73 = .ok (.bipush 8, 2) := by decide +kernel
theorem dX6_long1_75 : decode cX6_long1 75 = .ok (.bipush 7, 2) := by decide +kernel
theorem dX6_long1_77 : decode cX6_long1 77 = .ok (.iload_n 3, 1) := by decide +kernel
theorem dX6_long1_78 : decode cX6_long1 78 = .ok (.isub, 1) := by decide +kernel
theorem dX6_long1_79 : decode cX6_long1 79 = .ok (.imul, 1) := by decide +kernel
theorem dX6_long1_80 : decode cX6_long1 80 = .ok (.iushr, 1) := by decide +kernel
theorem dX6_long1_81 : decode cX6_long1 81 = .ok (.i2b, 1) := by decide +kernel
theorem dX6_long1_82 : decode cX6_long1 82 = .ok (.bastore, 1) := by decide +kernel
theorem dX6_long1_83 : decode cX6_long1 83 = .ok (.iinc 3 1, 3) := by decide +kernel
theorem dX6_long1_86 : decode cX6_long1 86 = .ok (.goto (-36), 3) := by decide +kernel
theorem dX6_long1_89 : decode cX6_long1 89 = .ok (.iinc 2 8, 3) := by decide +kernel
theorem dX6_long1_92 : decode cX6_long1 92 = .ok (.iconst 0, 1) := by decide +kernel
theorem dX6_long1_93 : decode cX6_long1 93 = .ok (.istore_n 3, 1) := by decide +kernel
theorem dX6_long1_94 : decode cX6_long1 94 = .ok (.iload_n 3, 1) := by decide +kernel
theorem dX6_long1_95 : decode cX6_long1 95 = .ok (.bipush 8, 2) := by decide +kernel
theorem dX6_long1_97 : decode cX6_long1 97 = .ok (.if_icmp .ge 21, 3) := by decide +kernel
theorem dX6_long1_100 : decode cX6_long1 100 = .ok (.aload_n 0, 1) := by decide +kernel
theorem dX6_long1_101 : decode cX6_long1 101 = .ok (.getfield 73, 3) := by decide +kernel
theorem dX6_long1_104 : decode cX6_long1 104 = .ok (.iload_n 3, 1) := by decide +kernel
theorem dX6_long1_105 : decode cX6_long1 105 = .ok (.aload_n 0, 1) := by decide +kernel
theorem dX6_long1_106 : decode cX6_long1 106 = .ok (.getfield 87, 3) := by decide +kernel
theorem dX6_long1_109 : decode cX6_long1 109 = .ok (.iload_n 3, 1) := by decide +kernel
theorem dX6_long1_110 : decode cX6_long1 110 = .ok (.iaload, 1) := by decide +kernel
theorem dX6_long1_111 : decode cX6_long1 111 = .ok (.iastore, 1) := by decide +kernel
theorem dX6_long1_112 : decode cX6_long1 112 = .ok (.iinc 3 1, 3) := by decide +kernel
theorem dX6_long1_115 : decode cX6_long1 115 = .ok (.goto (-21), 3) := by decide +kernel
theorem dX6_long1_118 : decode cX6_long1 118 = .ok (.iconst 0, 1) := by decide +kernel
theorem dX6_long1_119 : decode cX6_long1 119 = .ok (.istore_n 3, 1) := by decide +kernel
theorem dX6_long1_120 : decode cX6_long1 120 = .ok (.iload_n 3, 1) := by decide +kernel
theorem dX6_long1_121 : decode cX6_long1 121 = .ok (.iload_n 2, 1) := by decide +kernel
theorem dX6_long1_122 : decode cX6_long1 122 = .ok (.if_icmp .ge 14, 3) := by decide +kernel
theorem dX6_long1_125 : decode cX6_long1 125 = .ok (.aload_n 0, 1) := by decide +kernel
theorem dX6_long1_126 : decode cX6_long1 126 = .ok (.iload_n 3, 1) := by decide +kernel
theorem dX6_long1_127 : decode cX6_long1 127 = .ok (.invokevirtual 182, 3) := by decide +kernel
theorem dX6_long1_130 : decode cX6_long1 130 = .ok (.iinc 3 64, 3) := by decide +kernel
theorem dX6_long1_133 : decode cX6_long1 133 = .ok (.goto (-13), 3) := by decide +kernel
theorem dX6_long1_136 : decode cX6_long1 136 = .ok (.iconst 0, 1) := by decide +kernel
theorem dX6_long1_137 : decode cX6_long1 137 = .ok (.istore_n 3, 1) := by decide +kernel
theorem dX6_long1_138 : decode cX6_long1 138 = .ok (.iload_n 3, 1) := by decide +kernel
theorem dX6_long1_139 : decode cX6_long1 139 = .ok (.bipush 32, 2) := by decide +kernel
theorem dX6_long1_141 : decode cX6_long1 141 = .ok (.if_icmp .ge 34, 3) := by decide +kernel
theorem dX6_long1_144 : decode cX6_long1 144 = .ok (.aload_n 0, 1) := by decide +kernel
theorem dX6_long1_145 : decode cX6_long1 145 = .ok (.getfield 67, 3) := by decide +kernel
theorem dX6_long1_148 : decode cX6_long1 148 = .ok (.iload_n 3, 1) := by decide +kernel
theorem dX6_long1_149 : decode cX6_long1 149 = .ok (.aload_n 0, 1) := by decide +kernel
theorem dX6_long1_150 : decode cX6_long1 150 = .ok (.getfield 73, 3) := by decide +kernel
theorem dX6_long1_153 : decode cX6_long1 153 = .ok (.iload_n 3, 1) := by decide +kernel
theorem dX6_long1_154 : decode cX6_long1 154 = .ok (.iconst 4, 1) := by decide +kernel
theorem dX6_long1_155 : decode cX6_long1 155 = .ok (.idiv, 1) := by decide +kernel
theorem dX6_long1_156 : decode cX6_long1 156 = .ok (.iaload, 1) := by decide +kernel
theorem dX6_long1_157 : decode cX6_long1 157 = .ok (.bipush 24, 2) := by decide +kernel
theorem dX6_long1_159 : decode cX6_long1 159 = .ok (.bipush 8, 2) := by decide +kernel
theorem dX6_long1_161 : decode cX6_long1 161 = .ok (.iload_n 3, 1) := by decide +kernel
theorem dX6_long1_162 : decode cX6_long1 162 = .ok (.iconst 4, 1) := by decide +kernel
theorem dX6_long1_163 : decode cX6_long1 163 = .ok (.irem, 1) := by decide +kernel
theorem dX6_long1_164 : decode cX6_long1 164 = .ok (.imul, 1) := by decide +kernel
theorem dX6_long1_165 : decode cX6_long1 165 = .ok (.isub, 1) := by decide +kernel
theorem dX6_long1_166 : decode cX6_long1 166 = .ok (.iushr, 1) := by decide +kernel
theorem dX6_long1_167 : decode cX6_long1 167 = .ok (.i2b, 1) := by decide +kernel
theorem dX6_long1_168 : decode cX6_long1 168 = .ok (.bastore, 1) := by decide +kernel
theorem dX6_long1_169 : decode cX6_long1 169 = .ok (.iinc 3 1, 3) := by decide +kernel
theorem dX6_long1_172 : decode cX6_long1 172 = .ok (.goto (-34), 3) := by decide +kernel
theorem dX6_long1_175 : decode cX6_long1 175 = .ok (.return_, 1) := by decide +kernel
theorem dX6_short1_0 : decode cX6_short1 0 = .ok (.iconst (-1), 1) := by decide +kernel
theorem dX6_short1_1 : decode cX6_short1 1 = .ok (.istore_n 1, 1) := by decide +kernel
theorem dX6_short1_2 : decode cX6_short1 2 = .ok (.iconst 0, 1) := by decide +kernel
theorem dX6_short1_3 : decode cX6_short1 3 = .ok (.istore_n 2, 1) := by decide +kernel
theorem dX6_short1_4 : decode cX6_short1 4 = .ok (.iload_n 2, 1) := by decide +kernel
theorem dX6_short1_5 : decode cX6_short1 5 = .ok (.aload_n 0, 1) := by decide +kernel
theorem dX6_short1_6 : decode cX6_short1 6 = .ok (.getfield 179, 3) := by decide +kernel
theorem dX6_short1_9 : decode cX6_short1 9 = .ok (.if_icmp .ge 56, 3) := by decide +kernel
theorem dX6_short1_12 : decode cX6_short1 12 = .ok (.iload_n 1, 1) := by decide +kernel
theorem dX6_short1_13 : decode cX6_short1 13 = .ok (.aload_n 0, 1) := by decide +kernel
theorem dX6_short1_14 : decode cX6_short1 14 = .ok (.getfield 64, 3) := by decide +kernel
theorem dX6_short1_17 : decode cX6_short1 17 = .ok (.iload_n 2, 1) := by decide +kernel
theorem dX6_short1_18 : decode cX6_short1 18 = .ok (.baload, 1) := by decide +kernel
theorem dX6_short1_19 : decode cX6_short1 19 = .ok (.sipush 255, 3) := by decide +kernel
theorem dX6_short1_22 : decode cX6_short1 22 = .ok (.iand, 1) := by decide +kernel
theorem dX6_short1_23 : decode cX6_short1 23 = .ok (.ixor, 1) := by decide +kernel
theorem dX6_short1_24 : decode cX6_short1 24 = .ok (.istore_n 1, 1) := by decide +kernel
theorem dX6_short1_25 : decode cX6_short1 25 = .ok (.iconst 0, 1) := by decide +kernel
theorem dX6_short1_26 : decode cX6_short1 26 = .ok (.istore_n 3, 1) := by decide +kernel
theorem dX6_short1_27 : decode cX6_short1 27 = .ok (.iload_n 3, 1) := by decide +kernel
theorem dX6_short1_28 : decode cX6_short1 28 = .ok (.bipush 8, 2) := by decide +kernel
theorem dX6_short1_30 : decode cX6_short1 30 = .ok (.if_icmp .ge 29, 3) := by decide +kernel
theorem dX6_short1_33 : decode cX6_short1 33 = .ok (.iload_n 1, 1) := by decide +kernel
theorem dX6_short1_34 : decode cX6_short1 34 = .ok (.iconst 1, 1) := by decide +kernel
theorem dX6_short1_35 : decode cX6_short1 35 = .ok (.iand, 1) := by decide +kernel
theorem dX6_short1_36 : decode cX6_short1 36 = .ok (.iconst 1, 1) := by decide +kernel
theorem dX6_short1_37 : decode cX6_short1 37 = .ok (.if_icmp .ne 12, 3) := by decide +kernel
theorem dX6_short1_40 : decode cX6_short1 40 = .ok (.iload_n 1, 1) := by decide +kernel
theorem dX6_short1_41 : decode cX6_short1 41 = .ok (.iconst 1, 1) := by decide +kernel
theorem dX6_short1_42 : decode cX6_short1 42 = .ok (.iushr, 1) := by decide +kernel
theorem dX6_short1_43 : decode cX6_short1 43 = .ok (.ldc 186, 2) := by decide +kernel
theorem dX6_short1_45 : decode cX6_short1 45 = .ok (.ixor, 1) := by decide +kernel
theorem dX6_short1_46 : decode cX6_short1 46 = .ok (.goto 6, 3) := by decide +kernel
theorem dX6_short1_49 : decode cX6_short1 49 = .ok (.iload_n 1, 1) := by decide +kernel
theorem dX6_short1_50 : decode cX6_short1 50 = .ok (.iconst 1, 1) := by decide +kernel
theorem dX6_short1_51 : decode cX6_short1 51 = .ok (.iushr, 1) := by decide +kernel
theorem dX6_short1_52 : decode cX6_short1 52 = .ok (.istore_n 1, 1) := by decide +kernel
theorem dX6_short1_53 : decode cX6_short1 53 = .ok (.iinc 3 1, 3) := by decide +kernel
theorem dX6_short1_56 : decode cX6_short1 56 = .ok (.goto (-29), 3) := by decide +kernel
theorem dX6_short1_59 : decode cX6_short1 59 = .ok (.iinc 2 1, 3) := by decide +kernel
theorem dX6_short1_62 : decode cX6_short1 62 = .ok (.goto (-58), 3) := by decide +kernel
theorem dX6_short1_65 : decode cX6_short1 65 = .ok (.iconst 0, 1) := by decide +kernel
theorem dX6_short1_66 : decode cX6_short1 66 = .ok (.istore_n 2, 1) := by decide +kernel
theorem dX6_short1_67 : decode cX6_short1 67 = .ok (.iload_n 2, 1) := by decide +kernel
theorem dX6_short1_68 : decode cX6_short1 68 = .ok (.iconst 4, 1) := by decide +kernel
theorem dX6_short1_69 : decode cX6_short1 69 = .ok (.if_icmp .ge 30, 3) := by decide +kernel
theorem dX6_short1_72 : decode cX6_short1 72 = .ok (.aload_n 0, 1) := by decide +kernel
theorem dX6_short1_73 : decode cX6_short1 73 = .ok (.getfield 67, 3) := by decide +kernel
theorem dX6_short1_76 : decode cX6_short1 76 = .ok (.bipush 32, 2) := by decide +kernel
theorem dX6_short1_78 : decode cX6_short1 78 = .ok (.iload_n 2, 1) := by decide +kernel
theorem dX6_short1_79 : decode cX6_short1 79 = .ok (.iadd, 1) := by decide +kernel
theorem dX6_short1_80 : decode cX6_short1 80 = .ok (.iload_n 1, 1) := by decide +kernel
theorem dX6_short1_81 : decode cX6_short1 81 = .ok (.iconst (-1), 1) := by decide +kernel
theorem dX6_short1_82 : decode cX6_short1 82 = .ok (.ixor, 1) := by decide +kernel
theorem dX6_short1_83 : decode cX6_short1 83 = .ok (.bipush 24, 2) := by decide +kernel
theorem dX6_short1_85 : decode cX6_short1 85 = .ok (.bipush 8, 2) := by decide +kernel
theorem dX6_short1_87 : decode cX6_short1 87 = .ok (.iload_n 2, 1) := by decide +kernel
theorem dX6_short1_88 : decode cX6_short1 88 = .ok (.imul, 1) := by decide +kernel
theorem dX6_short1_89 : decode cX6_short1 89 = .ok (.isub, 1) := by decide +kernel
theorem dX6_short1_90 : decode cX6_short1 90 = .ok (.iushr, 1) := by decide +kernel
theorem dX6_short1_91 : decode cX6_short1 91 = .ok (.i2b, 1) := by decide +kernel
theorem dX6_short1_92 : decode cX6_short1 92 = .ok (.bastore, 1) := by decide +kernel
theorem dX6_short1_93 : decode cX6_short1 93 = .ok (.iinc 2 1, 3) := by decide +kernel
theorem dX6_short1_96 : decode cX6_short1 96 = .ok (.goto (-29), 3) := by decide +kernel
theorem dX6_short1_99 : decode cX6_short1 99 = .ok (.return_, 1) := by decide +kernel
theorem dX6_fill_0 : decode cX6_fill 0 = .ok (.aload_n 0, 1) := by decide +kernel
theorem dX6_fill_1 : decode cX6_fill 1 = .ok (.aload_n 0, 1) := by decide +kernel
theorem dX6_fill_2 : decode cX6_fill 2 = .ok (.getfield 16, 3) := by decide +kernel
theorem dX6_fill_5 : decode cX6_fill 5 = .ok (.iload_n 1, 1) := by decide +kernel
theorem dX6_fill_6 : decode cX6_fill 6 = .ok (.iaload, 1) := by decide +kernel
theorem dX6_fill_7 : decode cX6_fill 7 = .ok (.putfield 179, 3) := by decide +kernel
theorem dX6_fill_10 : decode cX6_fill 10 = .ok (.iconst 0, 1) := by decide +kernel
theorem dX6_fill_11 : decode cX6_fill 11 = .ok (.istore_n 2, 1) := by decide +kernel
theorem dX6_fill_12 : decode cX6_fill 12 = .ok (.iload_n 2, 1) := by decide +kernel
theorem dX6_fill_13 : decode cX6_fill 13 = .ok (.aload_n 0, 1) := by decide +kernel
theorem dX6_fill_14 : decode cX6_fill 14 = .ok (.getfield 179, 3) := by decide +kernel
theorem dX6_fill_17 : decode cX6_fill 17 = .ok (.if_icmp .ge 27, 3) := by decide +kernel
theorem dX6_fill_20 : decode cX6_fill 20 = .ok (.aload_n 0, 1) := by decide +kernel
theorem dX6_fill_21 : decode cX6_fill 21 = .ok (.getfield 64, 3) := by decide +kernel
theorem dX6_fill_24 : decode cX6_fill 24 = .ok (.iload_n 2, 1) := by decide +kernel
theorem dX6_fill_25 : decode cX6_fill 25 = .ok (.aload_n 0, 1) := by decide +kernel
theorem dX6_fill_26 : decode cX6_fill 26 = .ok (.getfield 13, 3) := by decide +kernel
theorem dX6_fill_29 : decode cX6_fill 29 = .ok (.sipush 200, 3) := by decide +kernel
theorem dX6_fill_32 : decode cX6_fill 32 = .ok (.iload_n 1, 1) := by decide +kernel
theorem dX6_fill_33 : decode cX6_fill 33 = .ok (.imul, 1) := by decide +kernel
theorem dX6_fill_34 : decode cX6_fill 34 = .ok (.iload_n 2, 1) := by decide +kernel
theorem dX6_fill_35 : decode cX6_fill 35 = .ok (.iadd, 1) := by decide +kernel
theorem dX6_fill_36 : decode cX6_fill 36 = .ok (.baload, 1) := by decide +kernel
theorem dX6_fill_37 : decode cX6_fill 37 = .ok (.bastore, 1) := by decide +kernel
theorem dX6_fill_38 : decode cX6_fill 38 = .ok (.iinc 2 1, 3) := by decide +kernel
theorem dX6_fill_41 : decode cX6_fill 41 = .ok (.goto (-29), 3) := by decide +kernel
theorem dX6_fill_44 : decode cX6_fill 44 = .ok (.return_, 1) := by decide +kernel
set_option maxRecDepth 20000 in
theorem ggX6_has_X6_long1 : GoodIn wsX6_has wsX6_long1 := goodIn_r _ [8, 9, 10, 11, 12, 2, 13, 14, 15, 7, 16, 17, 18, 19, 20, 21, 22, 23, 24, 25, 31, 32, 33, 34, 35, 36, 37, 38, 39, 40, 41, 42, 43, 44, 45, 46, 47, 48, 49, 50, 51, 52, 53, 54, 55, 56, 57, 58, 59, 60, 61, 62] (by decide +kernel) (by decide +kernel)
set_option maxRecDepth 20000 in
theorem gX6_has_X6_long1 : GoodIn wsX6_has (wsV RX6 187 RX6 yX6_long1 wsX6_long1) := goodIn_app (goodIn_of _ (by decide +kernel)) ggX6_has_X6_long1
set_option maxRecDepth 20000 in
theorem ggX6_has_X6_short1 : GoodIn wsX6_has wsX6_short1 := goodIn_r _ [29, 9, 10, 30, 2, 31, 32, 33, 34, 35, 36, 37, 38, 39, 40, 41, 42, 43, 44, 45, 46, 47, 48, 49, 50, 51, 52, 53, 54, 55, 56, 57, 58, 59, 60, 61, 62] (by decide +kernel) (by decide +kernel)
set_option maxRecDepth 20000 in
theorem gX6_has_X6_short1 : GoodIn wsX6_has (wsV RX6 190 RX6 yX6_short1 wsX6_short1) := goodIn_app (goodIn_of _ (by decide +kernel)) ggX6_has_X6_short1
theorem dX6_has_0 : decode cX6_has 0 = .ok (.iconst 1, 1) := by decide +kernel
theorem dX6_has_1 : decode cX6_has 1 = .ok (.istore_n 2, 1) := by decide +kernel
theorem dX6_has_2 : decode cX6_has 2 = .ok (.aload_n 0, 1) := by decide +kernel
theorem dX6_has_3 : decode cX6_has 3 = .ok (.getfield 20, 3) := by decide +kernel
theorem dX6_has_6 : decode cX6_has 6 = .ok (.iload_n 1, 1) := by decide +kernel
theorem dX6_has_7 : decode cX6_has 7 = .ok (.iaload, 1) := by decide +kernel
theorem dX6_has_8 : decode cX6_has 8 = .ok (.iconst 1, 1) := by decide +kernel
theorem dX6_has_9 : decode cX6_has 9 = .ok (.iand, 1) := by decide +kernel
theorem dX6_has_10 : decode cX6_has 10 = .ok (.iconst 1, 1) := by decide +kernel
theorem dX6_has_11 : decode cX6_has 11 = .ok (.if_icmp .ne 51, 3) := by decide +kernel
theorem dX6_has_14 : decode cX6_has 14 = .ok (.aload_n 0, 1) := by decide +kernel
theorem dX6_has_15 : decode cX6_has 15 = .ok (.invokevirtual 187, 3) := by decide +kernel
theorem dX6_has_18 : decode cX6_has 18 = .ok (.iconst 0, 1) := by decide +kernel
theorem dX6_has_19 : decode cX6_has 19 = .ok (.istore_n 3, 1) := by decide +kernel
theorem dX6_has_20 : decode cX6_has 20 = .ok (.iload_n 3, 1) := by decide +kernel
theorem dX6_has_21 : decode cX6_has 21 = .ok (.bipush 32, 2) := by decide +kernel
theorem dX6_has_23 : decode cX6_has 23 = .ok (.if_icmp .ge 39, 3) := by decide +kernel
theorem dX6_has_26 : decode cX6_has 26 = .ok (.iload_n 2, 1) := by decide +kernel
theorem dX6_has_27 : decode cX6_has 27 = .ok (.ifCond .eq 27, 3) := by decide +kernel
theorem dX6_has_30 : decode cX6_has 30 = .ok (.aload_n 0, 1) := by decide +kernel
theorem dX6_has_31 : decode cX6_has 31 = .ok (.getfield 67, 3) := by decide +kernel
theorem dX6_has_34 : decode cX6_has 34 = .ok (.iload_n 3, 1) := by decide +kernel
theorem dX6_has_35 : decode cX6_has 35 = .ok (.baload, 1) := by decide +kernel
theorem dX6_has_36 : decode cX6_has 36 = .ok (.aload_n 0, 1) := by decide +kernel
theorem dX6_has_37 : decode cX6_has 37 = .ok (.getfield 23, 3) := by decide +kernel
theorem dX6_has_40 : decode cX6_has 40 = .ok (.bipush 36, 2) := by decide +kernel
theorem dX6_has_42 : decode cX6_has 42 = .ok (.iload_n 1, 1) := by decide +kernel
theorem dX6_has_43 : decode cX6_has 43 = .ok (.imul, 1) := by decide +kernel
theorem dX6_has_44 : decode cX6_has 44 = .ok (.iload_n 3, 1) := by decide +kernel
theorem dX6_has_45 : decode cX6_has 45 = .ok (.iadd, 1) := by decide +kernel
theorem dX6_has_46 : decode cX6_has 46 = .ok (.baload, 1) := by decide +kernel
theorem dX6_has_47 : decode cX6_has 47 = .ok (.if_icmp .ne 7, 3) := by decide +kernel
theorem dX6_has_50 : decode cX6_has 50 = .ok (.iconst 1, 1) := by decide +kernel
theorem dX6_has_51 : decode cX6_has 51 = .ok (.goto 4, 3) := by decide +kernel
theorem dX6_has_54 : decode cX6_has 54 = .ok (.iconst 0, 1) := by decide +kernel
theorem dX6_has_55 : decode cX6_has 55 = .ok (.istore_n 2, 1) := by decide +kernel
theorem dX6_has_56 : decode cX6_has 56 = .ok (.iinc 3 1, 3) := by decide +kernel
theorem dX6_has_59 : decode cX6_has 59 = .ok (.goto (-39), 3) := by decide +kernel
theorem dX6_has_62 : decode cX6_has 62 = .ok (.aload_n 0, 1) := by decide +kernel
theorem dX6_has_63 : decode cX6_has 63 = .ok (.getfield 20, 3) := by decide +kernel
theorem dX6_has_66 : decode cX6_has 66 = .ok (.iload_n 1, 1) := by decide +kernel
theorem dX6_has_67 : decode cX6_has 67 = .ok (.iaload, 1) := by decide +kernel
theorem dX6_has_68 : decode cX6_has 68 = .ok (.iconst 2, 1) := by decide +kernel
theorem dX6_has_69 : decode cX6_has 69 = .ok (.iand, 1) := by decide +kernel
theorem dX6_has_70 : decode cX6_has 70 = .ok (.iconst 2, 1) := by decide +kernel
theorem dX6_has_71 : decode cX6_has 71 = .ok (.if_icmp .ne 52, 3) := by decide +kernel
theorem dX6_has_74 : decode cX6_has 74 = .ok (.aload_n 0, 1) := by decide +kernel
theorem dX6_has_75 : decode cX6_has 75 = .ok (.invokevirtual 190, 3) := by decide +kernel
theorem dX6_has_78 : decode cX6_has 78 = .ok (.bipush 32, 2) := by decide +kernel
theorem dX6_has_80 : decode cX6_has 80 = .ok (.istore_n 3, 1) := by decide +kernel
theorem dX6_has_81 : decode cX6_has 81 = .ok (.iload_n 3, 1) := by decide +kernel
theorem dX6_has_82 : decode cX6_has 82 = .ok (.bipush 36, 2) := by decide +kernel
theorem dX6_has_84 : decode cX6_has 84 = .ok (.if_icmp .ge 39, 3) := by decide +kernel
theorem dX6_has_87 : decode cX6_has 87 = .ok (.iload_n 2, 1) := by decide +kernel
theorem dX6_has_88 : decode cX6_has 88 = .ok (.ifCond .eq 27, 3) := by decide +kernel
theorem dX6_has_91 : decode cX6_has 91 = .ok (.aload_n 0, 1) := by decide +kernel
theorem dX6_has_92 : decode cX6_has 92 = .ok (.getfield 67, 3) := by decide +kernel
theorem dX6_has_95 : decode cX6_has 95 = .ok (.iload_n 3, 1) := by decide +kernel
theorem dX6_has_96 : decode cX6_has 96 = .ok (.baload, 1) := by decide +kernel
theorem dX6_has_97 : decode cX6_has 97 = .ok (.aload_n 0, 1) := by decide +kernel
theorem dX6_has_98 : decode cX6_has 98 = .ok (.getfield 23, 3) := by decide +kernel
theorem dX6_has_101 : decode cX6_has 101 = .ok (.bipush 36, 2) := by decide +kernel
theorem dX6_has_103 : decode cX6_has 103 = .ok (.iload_n 1, 1) := by decide +kernel
theorem dX6_has_104 : decode cX6_has 104 = .ok (.imul, 1) := by decide +kernel
theorem dX6_has_105 : decode cX6_has 105 = .ok (.iload_n 3, 1) := by decide +kernel
theorem dX6_has_106 : decode cX6_has 106 = .ok (.iadd, 1) := by decide +kernel
theorem dX6_has_107 : decode cX6_has 107 = .ok (.baload, 1) := by decide +kernel
theorem dX6_has_108 : decode cX6_has 108 = .ok (.if_icmp .ne 7, 3) := by decide +kernel
theorem dX6_has_111 : decode cX6_has 111 = .ok (.iconst 1, 1) := by decide +kernel
theorem dX6_has_112 : decode cX6_has 112 = .ok (.goto 4, 3) := by decide +kernel
theorem dX6_has_115 : decode cX6_has 115 = .ok (.iconst 0, 1) := by decide +kernel
theorem dX6_has_116 : decode cX6_has 116 = .ok (.istore_n 2, 1) := by decide +kernel
theorem dX6_has_117 : decode cX6_has 117 = .ok (.iinc 3 1, 3) := by decide +kernel
theorem dX6_has_120 : decode cX6_has 120 = .ok (.goto (-39), 3) := by decide +kernel
theorem dX6_has_123 : decode cX6_has 123 = .ok (.iload_n 2, 1) := by decide +kernel
theorem dX6_has_124 : decode cX6_has 124 = .ok (.ireturn, 1) := by decide +kernel
set_option maxRecDepth 20000 in
theorem ggX6_fits_X6_fill : GoodIn wsX6_fits wsX6_fill := goodIn_r _ [5, 6, 7, 8, 9, 41, 42, 43, 44, 45, 46, 47, 48, 49, 50, 51, 52, 53, 54, 55, 56, 57, 58, 59, 60, 61, 62, 63, 64, 65, 66, 67, 68, 69, 70, 71, 72] (by decide +kernel) (by decide +kernel)
set_option maxRecDepth 20000 in
theorem gX6_fits_X6_fill : GoodIn wsX6_fits (wsV RX6 193 RX6 yX6_fill wsX6_fill) := goodIn_app (goodIn_of _ (by decide +kernel)) ggX6_fits_X6_fill
set_option maxRecDepth 20000 in
theorem ggX6_fits_X6_has : GoodIn wsX6_fits wsX6_has := goodIn_r _ [13, 14, 15, 16, 17, 18, 19, 4, 20, 7, 8, 21, 22, 23, 24, 25, 26, 27, 28, 29, 30, 31, 32, 33, 34, 35, 36, 37, 38, 39, 40, 41, 42, 43, 44, 45, 46, 47, 48, 49, 50, 51, 52, 53, 54, 55, 56, 57, 58, 59, 60, 61, 62, 63, 64, 65, 66, 67, 68, 69, 70, 71, 72] (by decide +kernel) (by decide +kernel)
set_option maxRecDepth 20000 in
theorem gX6_fits_X6_has : GoodIn wsX6_fits (wsV RX6 196 RX6 yX6_has wsX6_has) := goodIn_app (goodIn_of _ (by decide +kernel)) ggX6_fits_X6_has
theorem dX6_fits_0 : decode cX6_fits 0 = .ok (.aload_n 0, 1) := by decide +kernel
theorem dX6_fits_1 : decode cX6_fits 1 = .ok (.iload_n 1, 1) := by decide +kernel
theorem dX6_fits_2 : decode cX6_fits 2 = .ok (.invokevirtual 193, 3) := by decide +kernel
theorem dX6_fits_5 : decode cX6_fits 5 = .ok (.aload_n 0, 1) := by decide +kernel
theorem dX6_fits_6 : decode cX6_fits 6 = .ok (.iload_n 1, 1) := by decide +kernel
theorem dX6_fits_7 : decode cX6_fits 7 = .ok (.invokevirtual 196, 3) := by decide +kernel
theorem dX6_fits_10 : decode cX6_fits 10 = .ok (.ireturn, 1) := by decide +kernel
theorem dX6_number_0 : decode cX6_number 0 = .ok (.iconst 0, 1) := by decide +kernel
theorem dX6_number_1 : decode cX6_number 1 = .ok (.istore_n 2, 1) := by decide +kernel
theorem dX6_number_2 : decode cX6_number 2 = .ok (.iload_n 2, 1) := by decide +kernel
theorem dX6_number_3 : decode cX6_number 3 = .ok (.iconst 4, 1) := by decide +kernel
theorem dX6_number_4 : decode cX6_number 4 = .ok (.if_icmp .ge 38, 3) := by decide +kernel
theorem dX6_number_7 : decode cX6_number 7 = .ok (.aload_n 0, 1) := by decide +kernel
theorem dX6_number_8 : decode cX6_number 8 = .ok (.getfield 64, 3) := by decide +kernel
theorem dX6_number_11 : decode cX6_number 11 = .ok (.aload_n 0, 1) := by decide +kernel
theorem dX6_number_12 : decode cX6_number 12 = .ok (.getfield 179, 3) := by decide +kernel
theorem dX6_number_15 : decode cX6_number 15 = .ok (.iload_n 1, 1) := by decide +kernel
theorem dX6_number_16 : decode cX6_number 16 = .ok (.bipush 24, 2) := by decide +kernel
theorem dX6_number_18 : decode cX6_number 18 = .ok (.bipush 8, 2) := by decide +kernel
theorem dX6_number_20 : decode cX6_number 20 = .ok (.iload_n 2, 1) := by decide +kernel
theorem dX6_number_21 : decode cX6_number 21 = .ok (.imul, 1) := by decide +kernel
theorem dX6_number_22 : decode cX6_number 22 = .ok (.isub, 1) := by decide +kernel
theorem dX6_number_23 : decode cX6_number 23 = .ok (.iushr, 1) := by decide +kernel
theorem dX6_number_24 : decode cX6_number 24 = .ok (.i2b, 1) := by decide +kernel
theorem dX6_number_25 : decode cX6_number 25 = .ok (.bastore, 1) := by decide +kernel
theorem dX6_number_26 : decode cX6_number 26 = .ok (.aload_n 0, 1) := by decide +kernel
theorem dX6_number_27 : decode cX6_number 27 = .ok (.dup, 1) := by decide +kernel
theorem dX6_number_28 : decode cX6_number 28 = .ok (.getfield 179, 3) := by decide +kernel
theorem dX6_number_31 : decode cX6_number 31 = .ok (.iconst 1, 1) := by decide +kernel
theorem dX6_number_32 : decode cX6_number 32 = .ok (.iadd, 1) := by decide +kernel
theorem dX6_number_33 : decode cX6_number 33 = .ok (.putfield 179, 3) := by decide +kernel
theorem dX6_number_36 : decode cX6_number 36 = .ok (.iinc 2 1, 3) := by decide +kernel
theorem dX6_number_39 : decode cX6_number 39 = .ok (.goto (-37), 3) := by decide +kernel
theorem dX6_number_42 : decode cX6_number 42 = .ok (.return_, 1) := by decide +kernel
set_option maxRecDepth 20000 in
theorem ggX6_chained_X6_number : GoodIn wsX6_chained wsX6_number := goodIn_r _ [11, 2, 1, 32, 33, 34, 35, 36, 37, 38, 39, 40, 41, 42, 43, 44, 45, 46, 47, 48, 49, 50, 51, 52, 53, 54, 55, 56, 57, 58, 59, 60, 61, 62, 63] (by decide +kernel) (by decide +kernel)
set_option maxRecDepth 20000 in
theorem gX6_chained_X6_number : GoodIn wsX6_chained (wsV RX6 200 RX6 yX6_number wsX6_number) := goodIn_app (goodIn_of _ (by decide +kernel)) ggX6_chained_X6_number
set_option maxRecDepth 20000 in
theorem ggX6_chained_X6_long1 : GoodIn wsX6_chained wsX6_long1 := goodIn_r _ [15, 1, 2, 16, 17, 18, 19, 20, 21, 10, 22, 23, 24, 25, 26, 27, 28, 29, 30, 31, 32, 33, 34, 35, 36, 37, 38, 39, 40, 41, 42, 43, 44, 45, 46, 47, 48, 49, 50, 51, 52, 53, 54, 55, 56, 57, 58, 59, 60, 61, 62, 63] (by decide +kernel) (by decide +kernel)
set_option maxRecDepth 20000 in
theorem gX6_chained_X6_long1 : GoodIn wsX6_chained (wsV RX6 187 RX6 yX6_long1 wsX6_long1) := goodIn_app (goodIn_of _ (by decide +kernel)) ggX6_chained_X6_long1
theorem dX6_chained_0 : decode cX6_chained 0 = .ok (.aload_n 0, 1) := by decide +kernel
theorem dX6_chained_1 : decode cX6_chained 1 = .ok (.bipush 32, 2) := by decide +kernel
theorem dX6_chained_3 : decode cX6_chained 3 = .ok (.putfield 179, 3) := by decide +kernel
theorem dX6_chained_6 : decode cX6_chained 6 = .ok (.iconst 0, 1) := by decide +kernel
theorem dX6_chained_7 : decode cX6_chained 7 = .ok (.istore_n 2, 1) := by decide +kernel
theorem dX6_chained_8 : decode cX6_chained 8 = .ok (.iload_n 2, 1) := by decide +kernel
theorem dX6_chained_9 : decode cX6_chained 9 = .ok (.bipush 32, 2) := by decide +kernel
theorem dX6_chained_11 : decode cX6_chained 11 = .ok (.if_icmp .ge 37, 3) := by decide +kernel
theorem dX6_chained_14 : decode cX6_chained 14 = .ok (.aload_n 0, 1) := by decide +kernel
theorem dX6_chained_15 : decode cX6_chained 15 = .ok (.getfield 64, 3) := by decide +kernel
theorem dX6_chained_18 : decode cX6_chained 18 = .ok (.iload_n 2, 1) := by decide +kernel
theorem dX6_chained_19 : decode cX6_chained 19 = .ok (.iload_n 1, 1) := by decide +kernel
theorem dX6_chained_20 : decode cX6_chained 20 = .ok (.ifCond .ne 7, 3) := by decide +kernel
theorem dX6_chained_23 : decode cX6_chained 23 = .ok (.iconst 0, 1) := by decide +kernel
theorem dX6_chained_24 : decode cX6_chained 24 = .ok (.goto 17, 3) := by decide +kernel
theorem dX6_chained_27 : decode cX6_chained 27 = .ok (.aload_n 0, 1) := by decide +kernel
theorem dX6_chained_28 : decode cX6_chained 28 = .ok (.getfield 58, 3) := by decide +kernel
theorem dX6_chained_31 : decode cX6_chained 31 = .ok (.bipush 32, 2) := by decide +kernel
theorem dX6_chained_33 : decode cX6_chained 33 = .ok (.iload_n 1, 1) := by decide +kernel
theorem dX6_chained_34 : decode cX6_chained 34 = .ok (.imul, 1) := by decide +kernel
theorem dX6_chained_35 : decode cX6_chained 35 = .ok (.bipush 32, 2) := by decide +kernel
theorem dX6_chained_37 : decode cX6_chained 37 = .ok (.isub, 1) := by decide +kernel
theorem dX6_chained_38 : decode cX6_chained 38 = .ok (.iload_n 2, 1) := by decide +kernel
