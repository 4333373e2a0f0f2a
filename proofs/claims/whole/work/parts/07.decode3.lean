theorem dX6_init_132 : decode cX6_init 132 = .ok (.bipush 40, 2) := by decide +kernel
theorem dX6_init_134 : decode cX6_init 134 = .ok (.newarray .int, 2) := by decide +kernel
theorem dX6_init_136 : decode cX6_init 136 = .ok (.putfield 60, 3) := by decide +kernel
theorem dX6_init_139 : decode cX6_init 139 = .ok (.aload_n 0, 1) := by decide +kernel
theorem dX6_init_140 : decode cX6_init 140 = .ok (.bipush 40, 2) := by decide +kernel
theorem dX6_init_142 : decode cX6_init 142 = .ok (.newarray .int, 2) := by decide +kernel
theorem dX6_init_144 : decode cX6_init 144 = .ok (.putfield 63, 3) := by decide +kernel
theorem dX6_init_147 : decode cX6_init 147 = .ok (.aload_n 0, 1) := by decide +kernel
theorem dX6_init_148 : decode cX6_init 148 = .ok (.bipush 40, 2) := by decide +kernel
theorem dX6_init_150 : decode cX6_init 150 = .ok (.newarray .boolean, 2) := by decide +kernel
theorem dX6_init_152 : decode cX6_init 152 = .ok (.putfield 66, 3) := by decide +kernel
theorem dX6_init_155 : decode cX6_init 155 = .ok (.aload_n 0, 1) := by decide +kernel
theorem dX6_init_156 : decode cX6_init 156 = .ok (.bipush 40, 2) := by decide +kernel
theorem dX6_init_158 : decode cX6_init 158 = .ok (.newarray .boolean, 2) := by decide +kernel
theorem dX6_init_160 : decode cX6_init 160 = .ok (.putfield 69, 3) := by decide +kernel
theorem dX6_init_163 : decode cX6_init 163 = .ok (.aload_n 0, 1) := by decide +kernel
theorem dX6_init_164 : decode cX6_init 164 = .ok (.bipush 42, 2) := by decide +kernel
theorem dX6_init_166 : decode cX6_init 166 = .ok (.newarray .int, 2) := by decide +kernel
theorem dX6_init_168 : decode cX6_init 168 = .ok (.dup, 1) := by decide +kernel
theorem dX6_init_169 : decode cX6_init 169 = .ok (.iconst 0, 1) := by decide +kernel
theorem dX6_init_170 : decode cX6_init 170 = .ok (.bipush 102, 2) := by decide +kernel
theorem dX6_init_172 : decode cX6_init 172 = .ok (.iastore, 1) := by decide +kernel
theorem dX6_init_173 : decode cX6_init 173 = .ok (.dup, 1) := by decide +kernel
theorem dX6_init_174 : decode cX6_init 174 = .ok (.iconst 1, 1) := by decide +kernel
theorem dX6_init_175 : decode cX6_init 175 = .ok (.bipush 114, 2) := by decide +kernel
theorem dX6_init_177 : decode cX6_init 177 = .ok (.iastore, 1) := by decide +kernel
theorem dX6_init_178 : decode cX6_init 178 = .ok (.dup, 1) := by decide +kernel
theorem dX6_init_179 : decode cX6_init 179 = .ok (.iconst 2, 1) := by decide +kernel
theorem dX6_init_180 : decode cX6_init 180 = .ok (.bipush 101, 2) := by decide +kernel
theorem dX6_init_182 : decode cX6_init 182 = .ok (.iastore, 1) := by decide +kernel
theorem dX6_init_183 : decode cX6_init 183 = .ok (.dup, 1) := by decide +kernel
theorem dX6_init_184 : decode cX6_init 184 = .ok (.iconst 3, 1) := by decide +kernel
theorem dX6_init_185 : decode cX6_init 185 = .ok (.bipush 101, 2) := by decide +kernel
theorem dX6_init_187 : decode cX6_init 187 = .ok (.iastore, 1) := by decide +kernel
theorem dX6_init_188 : decode cX6_init 188 = .ok (.dup, 1) := by decide +kernel
theorem dX6_init_189 : decode cX6_init 189 = .ok (.iconst 4, 1) := by decide +kernel
theorem dX6_init_190 : decode cX6_init 190 = .ok (.bipush 32, 2) := by decide +kernel
theorem dX6_init_192 : decode cX6_init 192 = .ok (.iastore, 1) := by decide +kernel
theorem dX6_init_193 : decode cX6_init 193 = .ok (.dup, 1) := by decide +kernel
theorem dX6_init_194 : decode cX6_init 194 = .ok (.iconst 5, 1) := by decide +kernel
theorem dX6_init_195 : decode cX6_init 195 = .ok (.bipush 102, 2) := by decide +kernel
theorem dX6_init_197 : decode cX6_init 197 = .ok (.iastore, 1) := by decide +kernel
theorem dX6_init_198 : decode cX6_init 198 = .ok (.dup, 1) := by decide +kernel
theorem dX6_init_199 : decode cX6_init 199 = .ok (.bipush 6, 2) := by decide +kernel
theorem dX6_init_201 : decode cX6_init 201 = .ok (.bipush 108, 2) := by decide +kernel
theorem dX6_init_203 : decode cX6_init 203 = .ok (.iastore, 1) := by decide +kernel
theorem dX6_init_204 : decode cX6_init 204 = .ok (.dup, 1) := by decide +kernel
theorem dX6_init_205 : decode cX6_init 205 = .ok (.bipush 7, 2) := by decide +kernel
theorem dX6_init_207 : decode cX6_init 207 = .ok (.bipush 111, 2) := by decide +kernel
theorem dX6_init_209 : decode cX6_init 209 = .ok (.iastore, 1) := by decide +kernel
theorem dX6_init_210 : decode cX6_init 210 = .ok (.dup, 1) := by decide +kernel
theorem dX6_init_211 : decode cX6_init 211 = .ok (.bipush 8, 2) := by decide +kernel
theorem dX6_init_213 : decode cX6_init 213 = .ok (.bipush 111, 2) := by decide +kernel
theorem dX6_init_215 : decode cX6_init 215 = .ok (.iastore, 1) := by decide +kernel
theorem dX6_init_216 : decode cX6_init 216 = .ok (.dup, 1) := by decide +kernel
theorem dX6_init_217 : decode cX6_init 217 = .ok (.bipush 9, 2) := by decide +kernel
theorem dX6_init_219 : decode cX6_init 219 = .ok (.bipush 114, 2) := by decide +kernel
theorem dX6_init_221 : decode cX6_init 221 = .ok (.iastore, 1) := by decide +kernel
theorem dX6_init_222 : decode cX6_init 222 = .ok (.dup, 1) := by decide +kernel
theorem dX6_init_223 : decode cX6_init 223 = .ok (.bipush 10, 2) := by decide +kernel
theorem dX6_init_225 : decode cX6_init 225 = .ok (.bipush 32, 2) := by decide +kernel
theorem dX6_init_227 : decode cX6_init 227 = .ok (.iastore, 1) := by decide +kernel
theorem dX6_init_228 : decode cX6_init 228 = .ok (.dup, 1) := by decide +kernel
theorem dX6_init_229 : decode cX6_init 229 = .ok (.bipush 11, 2) := by decide +kernel
theorem dX6_init_231 : decode cX6_init 231 = .ok (.bipush 97, 2) := by decide +kernel
theorem dX6_init_233 : decode cX6_init 233 = .ok (.iastore, 1) := by decide +kernel
theorem dX6_init_234 : decode cX6_init 234 = .ok (.dup, 1) := by decide +kernel
theorem dX6_init_235 : decode cX6_init 235 = .ok (.bipush 12, 2) := by decide +kernel
theorem dX6_init_237 : decode cX6_init 237 = .ok (.bipush 110, 2) := by decide +kernel
theorem dX6_init_239 : decode cX6_init 239 = .ok (.iastore, 1) := by decide +kernel
theorem dX6_init_240 : decode cX6_init 240 = .ok (.dup, 1) := by decide +kernel
theorem dX6_init_241 : decode cX6_init 241 = .ok (.bipush 13, 2) := by decide +kernel
theorem dX6_init_243 : decode cX6_init 243 = .ok (.bipush 115, 2) := by decide +kernel
theorem dX6_init_245 : decode cX6_init 245 = .ok (.iastore, 1) := by decide +kernel
theorem dX6_init_246 : decode cX6_init 246 = .ok (.dup, 1) := by decide +kernel
theorem dX6_init_247 : decode cX6_init 247 = .ok (.bipush 14, 2) := by decide +kernel
theorem dX6_init_249 : decode cX6_init 249 = .ok (.bipush 119, 2) := by decide +kernel
theorem dX6_init_251 : decode cX6_init 251 = .ok (.iastore, 1) := by decide +kernel
theorem dX6_init_252 : decode cX6_init 252 = .ok (.dup, 1) := by decide +kernel
theorem dX6_init_253 : decode cX6_init 253 = .ok (.bipush 15, 2) := by decide +kernel
theorem dX6_init_255 : decode cX6_init 255 = .ok (.bipush 101, 2) := by decide +kernel
theorem dX6_init_257 : decode cX6_init 257 = .ok (.iastore, 1) := by decide +kernel
theorem dX6_init_258 : decode cX6_init 258 = .ok (.dup, 1) := by decide +kernel
theorem dX6_init_259 : decode cX6_init 259 = .ok (.bipush 16, 2) := by decide +kernel
theorem dX6_init_261 : decode cX6_init 261 = .ok (.bipush 114, 2) := by decide +kernel
theorem dX6_init_263 : decode cX6_init 263 = .ok (.iastore, 1) := by decide +kernel
theorem dX6_init_264 : decode cX6_init 264 = .ok (.dup, 1) := by decide +kernel
theorem dX6_init_265 : decode cX6_init 265 = .ok (.bipush 17, 2) := by decide +kernel
theorem dX6_init_267 : decode cX6_init 267 = .ok (.bipush 32, 2) := by decide +kernel
theorem dX6_init_269 : decode cX6_init 269 = .ok (.iastore, 1) := by decide +kernel
theorem dX6_init_270 : decode cX6_init 270 = .ok (.dup, 1) := by decide +kernel
theorem dX6_init_271 : decode cX6_init 271 = .ok (.bipush 18, 2) := by decide +kernel
theorem dX6_init_273 : decode cX6_init 273 = .ok (.bipush 115, 2) := by decide +kernel
theorem dX6_init_275 : decode cX6_init 275 = .ok (.iastore, 1) := by decide +kernel
theorem dX6_init_276 : decode cX6_init 276 = .ok (.dup, 1) := by decide +kernel
theorem dX6_init_277 : decode cX6_init 277 = .ok (.bipush 19, 2) := by decide +kernel
theorem dX6_init_279 : decode cX6_init 279 = .ok (.bipush 119, 2) := by decide +kernel
theorem dX6_init_281 : decode cX6_init 281 = .ok (.iastore, 1) := by decide +kernel
theorem dX6_init_282 : decode cX6_init 282 = .ok (.dup, 1) := by decide +kernel
theorem dX6_init_283 : decode cX6_init 283 = .ok (.bipush 20, 2) := by decide +kernel
theorem dX6_init_285 : decode cX6_init 285 = .ok (.bipush 101, 2) := by decide +kernel
theorem dX6_init_287 : decode cX6_init 287 = .ok (.iastore, 1) := by decide +kernel
theorem dX6_init_288 : decode cX6_init 288 = .ok (.dup, 1) := by decide +kernel
theorem dX6_init_289 : decode cX6_init 289 = .ok (.bipush 21, 2) := by decide +kernel
theorem dX6_init_291 : decode cX6_init 291 = .ok (.bipush 97, 2) := by decide +kernel
theorem dX6_init_293 : decode cX6_init 293 = .ok (.iastore, 1) := by decide +kernel
theorem dX6_init_294 : decode cX6_init 294 = .ok (.dup, 1) := by decide +kernel
theorem dX6_init_295 : decode cX6_init 295 = .ok (.bipush 22, 2) := by decide +kernel
theorem dX6_init_297 : decode cX6_init 297 = .ok (.bipush 114, 2) := by decide +kernel
theorem dX6_init_299 : decode cX6_init 299 = .ok (.iastore, 1) := by decide +kernel
theorem dX6_init_300 : decode cX6_init 300 = .ok (.dup, 1) := by decide +kernel
theorem dX6_init_301 : decode cX6_init 301 = .ok (.bipush 23, 2) := by decide +kernel
theorem dX6_init_303 : decode cX6_init 303 = .ok (.bipush 32, 2) := by decide +kernel
theorem dX6_init_305 : decode cX6_init 305 = .ok (.iastore, 1) := by decide +kernel
theorem dX6_init_306 : decode cX6_init 306 = .ok (.dup, 1) := by decide +kernel
theorem dX6_init_307 : decode cX6_init 307 = .ok (.bipush 24, 2) := by decide +kernel
theorem dX6_init_309 : decode cX6_init 309 = .ok (.bipush 98, 2) := by decide +kernel
theorem dX6_init_311 : decode cX6_init 311 = .ok (.iastore, 1) := by decide +kernel
theorem dX6_init_312 : decode cX6_init 312 = .ok (.dup, 1) := by decide +kernel
theorem dX6_init_313 : decode cX6_init 313 = .ok (.bipush 25, 2) := by decide +kernel
theorem dX6_init_315 : decode cX6_init 315 = .ok (.bipush 117, 2) := by decide +kernel
theorem dX6_init_317 : decode cX6_init 317 = .ok (.iastore, 1) := by decide +kernel
theorem dX6_init_318 : decode cX6_init 318 = .ok (.dup, 1) := by decide +kernel
theorem dX6_init_319 : decode cX6_init 319 = .ok (.bipush 26, 2) := by decide +kernel
theorem dX6_init_321 : decode cX6_init 321 = .ok (.bipush 114, 2) := by decide +kernel
theorem dX6_init_323 : decode cX6_init 323 = .ok (.iastore, 1) := by decide +kernel
theorem dX6_init_324 : decode cX6_init 324 = .ok (.dup, 1) := by decide +kernel
theorem dX6_init_325 : decode cX6_init 325 = .ok (.bipush 27, 2) := by decide +kernel
theorem dX6_init_327 : decode cX6_init 327 = .ok (.bipush 100, 2) := by decide +kernel
theorem dX6_init_329 : decode cX6_init 329 = .ok (.iastore, 1) := by decide +kernel
theorem dX6_init_330 : decode cX6_init 330 = .ok (.dup, 1) := by decide +kernel
theorem dX6_init_331 : decode cX6_init 331 = .ok (.bipush 28, 2) := by decide +kernel
theorem dX6_init_333 : decode cX6_init 333 = .ok (.bipush 101, 2) := by decide +kernel
theorem dX6_init_335 : decode cX6_init 335 = .ok (.iastore, 1) := by decide +kernel
theorem dX6_init_336 : decode cX6_init 336 = .ok (.dup, 1) := by decide +kernel
theorem dX6_init_337 : decode cX6_init 337 = .ok (.bipush 29, 2) := by decide +kernel
theorem dX6_init_339 : decode cX6_init 339 = .ok (.bipush 110, 2) := by decide +kernel
theorem dX6_init_341 : decode cX6_init 341 = .ok (.iastore, 1) := by decide +kernel
theorem dX6_init_342 : decode cX6_init 342 = .ok (.dup, 1) := by decide +kernel
theorem dX6_init_343 : decode cX6_init 343 = .ok (.bipush 30, 2) := by decide +kernel
theorem dX6_init_345 : decode cX6_init 345 = .ok (.bipush 32, 2) := by decide +kernel
theorem dX6_init_347 : decode cX6_init 347 = .ok (.iastore, 1) := by decide +kernel
theorem dX6_init_348 : decode cX6_init 348 = .ok (.dup, 1) := by decide +kernel
theorem dX6_init_349 : decode cX6_init 349 = .ok (.bipush 31, 2) := by decide +kernel
theorem dX6_init_351 : decode cX6_init 351 = .ok (.bipush 99, 2) := by decide +kernel
theorem dX6_init_353 : decode cX6_init 353 = .ok (.iastore, 1) := by decide +kernel
theorem dX6_init_354 : decode cX6_init 354 = .ok (.dup, 1) := by decide +kernel
theorem dX6_init_355 : decode cX6_init 355 = .ok (.bipush 32, 2) := by decide +kernel
theorem dX6_init_357 : decode cX6_init 357 = .ok (.bipush 111, 2) := by decide +kernel
theorem dX6_init_359 : decode cX6_init 359 = .ok (.iastore, 1) := by decide +kernel
theorem dX6_init_360 : decode cX6_init 360 = .ok (.dup, 1) := by decide +kernel
theorem dX6_init_361 : decode cX6_init 361 = .ok (.bipush 33, 2) := by decide +kernel
theorem dX6_init_363 : decode cX6_init 363 = .ok (.bipush 115, 2) := by decide +kernel
theorem dX6_init_365 : decode cX6_init 365 = .ok (.iastore, 1) := by decide +kernel
theorem dX6_init_366 : decode cX6_init 366 = .ok (.dup, 1) := by decide +kernel
theorem dX6_init_367 : decode cX6_init 367 = .ok (.bipush 34, 2) := by decide +kernel
theorem dX6_init_369 : decode cX6_init 369 = .ok (.bipush 116, 2) := by decide +kernel
theorem dX6_init_371 : decode cX6_init 371 = .ok (.iastore, 1) := by decide +kernel
theorem dX6_init_372 : decode cX6_init 372 = .ok (.dup, 1) := by decide +kernel
theorem dX6_init_373 : decode cX6_init 373 = .ok (.bipush 35, 2) := by decide +kernel
theorem dX6_init_375 : decode cX6_init 375 = .ok (.bipush 32, 2) := by decide +kernel
theorem dX6_init_377 : decode cX6_init 377 = .ok (.iastore, 1) := by decide +kernel
theorem dX6_init_378 : decode cX6_init 378 = .ok (.dup, 1) := by decide +kernel
theorem dX6_init_379 : decode cX6_init 379 = .ok (.bipush 36, 2) := by decide +kernel
theorem dX6_init_381 : decode cX6_init 381 = .ok (.bipush 115, 2) := by decide +kernel
theorem dX6_init_383 : decode cX6_init 383 = .ok (.iastore, 1) := by decide +kernel
theorem dX6_init_384 : decode cX6_init 384 = .ok (.dup, 1) := by decide +kernel
theorem dX6_init_385 : decode cX6_init 385 = .ok (.bipush 37, 2) := by decide +kernel
theorem dX6_init_387 : decode cX6_init 387 = .ok (.bipush 104, 2) := by decide +kernel
theorem dX6_init_389 : decode cX6_init 389 = .ok (.iastore, 1) := by decide +kernel
theorem dX6_init_390 : decode cX6_init 390 = .ok (.dup, 1) := by decide +kernel
theorem dX6_init_391 : decode cX6_init 391 = .ok (.bipush 38, 2) := by decide +kernel
theorem dX6_init_393 : decode cX6_init 393 = .ok (.bipush 97, 2) := by decide +kernel
theorem dX6_init_395 : decode cX6_init 395 = .ok (.iastore, 1) := by decide +kernel
theorem dX6_init_396 : decode cX6_init 396 = .ok (.dup, 1) := by decide +kernel
theorem dX6_init_397 : decode cX6_init 397 = .ok (.bipush 39, 2) := by decide +kernel
theorem dX6_init_399 : decode cX6_init 399 = .ok (.bipush 114, 2) := by decide +kernel
theorem dX6_init_401 : decode cX6_init 401 = .ok (.iastore, 1) := by decide +kernel
theorem dX6_init_402 : decode cX6_init 402 = .ok (.dup, 1) := by decide +kernel
theorem dX6_init_403 : decode cX6_init 403 = .ok (.bipush 40, 2) := by decide +kernel
theorem dX6_init_405 : decode cX6_init 405 = .ok (.bipush 101, 2) := by decide +kernel
theorem dX6_init_407 : decode cX6_init 407 = .ok (.iastore, 1) := by decide +kernel
theorem dX6_init_408 : decode cX6_init 408 = .ok (.dup, 1) := by decide +kernel
theorem dX6_init_409 : decode cX6_init 409 = .ok (.bipush 41, 2) := by decide +kernel
theorem dX6_init_411 : decode cX6_init 411 = .ok (.bipush 32, 2) := by decide +kernel
theorem dX6_init_413 : decode cX6_init 413 = .ok (.iastore, 1) := by decide +kernel
theorem dX6_init_414 : decode cX6_init 414 = .ok (.putfield 72, 3) := by decide +kernel
theorem dX6_init_417 : decode cX6_init 417 = .ok (.return_, 1) := by decide +kernel
theorem dX6_thrown_0 : decode cX6_thrown 0 = .ok (.aload_n 0, 1) := by decide +kernel
theorem dX6_thrown_1 : decode cX6_thrown 1 = .ok (.getfield 75, 3) := by decide +kernel
theorem dX6_thrown_4 : decode cX6_thrown 4 = .ok (.ireturn, 1) := by decide +kernel
theorem dX6_feed_0 : decode cX6_feed 0 = .ok (.aload_n 0, 1) := by decide +kernel
theorem dX6_feed_1 : decode cX6_feed 1 = .ok (.iconst 0, 1) := by decide +kernel
theorem dX6_feed_2 : decode cX6_feed 2 = .ok (.putfield 75, 3) := by decide +kernel
theorem dX6_feed_5 : decode cX6_feed 5 = .ok (.aload_n 0, 1) := by decide +kernel
theorem dX6_feed_6 : decode cX6_feed 6 = .ok (.getfield 78, 3) := by decide +kernel
theorem dX6_feed_9 : decode cX6_feed 9 = .ok (.bipush 20, 2) := by decide +kernel
theorem dX6_feed_11 : decode cX6_feed 11 = .ok (.iadd, 1) := by decide +kernel
theorem dX6_feed_12 : decode cX6_feed 12 = .ok (.sipush 600, 3) := by decide +kernel
theorem dX6_feed_15 : decode cX6_feed 15 = .ok (.if_icmp .le 5, 3) := by decide +kernel
theorem dX6_feed_18 : decode cX6_feed 18 = .ok (.iconst (-1), 1) := by decide +kernel
theorem dX6_feed_19 : decode cX6_feed 19 = .ok (.ireturn, 1) := by decide +kernel
theorem dX6_feed_20 : decode cX6_feed 20 = .ok (.iconst 0, 1) := by decide +kernel
theorem dX6_feed_21 : decode cX6_feed 21 = .ok (.istore 6, 2) := by decide +kernel
theorem dX6_feed_23 : decode cX6_feed 23 = .ok (.iload 6, 2) := by decide +kernel
theorem dX6_feed_25 : decode cX6_feed 25 = .ok (.bipush 20, 2) := by decide +kernel
theorem dX6_feed_27 : decode cX6_feed 27 = .ok (.if_icmp .ge 86, 3) := by decide +kernel
theorem dX6_feed_30 : decode cX6_feed 30 = .ok (.iload 6, 2) := by decide +kernel
theorem dX6_feed_32 : decode cX6_feed 32 = .ok (.iconst 4, 1) := by decide +kernel
theorem dX6_feed_33 : decode cX6_feed 33 = .ok (.if_icmp .ge 7, 3) := by decide +kernel
theorem dX6_feed_36 : decode cX6_feed 36 = .ok (.iload_n 1, 1) := by decide +kernel
theorem dX6_feed_37 : decode cX6_feed 37 = .ok (.goto 39, 3) := by decide +kernel
theorem dX6_feed_40 : decode cX6_feed 40 = .ok (.iload 6, 2) := by decide +kernel
theorem dX6_feed_42 : decode cX6_feed 42 = .ok (.bipush 8, 2) := by decide +kernel
theorem dX6_feed_44 : decode cX6_feed 44 = .ok (.if_icmp .ge 7, 3) := by decide +kernel
theorem dX6_feed_47 : decode cX6_feed 47 = .ok (.iload_n 2, 1) := by decide +kernel
theorem dX6_feed_48 : decode cX6_feed 48 = .ok (.goto 28, 3) := by decide +kernel
theorem dX6_feed_51 : decode cX6_feed 51 = .ok (.iload 6, 2) := by decide +kernel
theorem dX6_feed_53 : decode cX6_feed 53 = .ok (.bipush 12, 2) := by decide +kernel
theorem dX6_feed_55 : decode cX6_feed 55 = .ok (.if_icmp .ge 7, 3) := by decide +kernel
theorem dX6_feed_58 : decode cX6_feed 58 = .ok (.iload_n 3, 1) := by decide +kernel
theorem dX6_feed_59 : decode cX6_feed 59 = .ok (.goto 17, 3) := by decide +kernel
theorem dX6_feed_62 : decode cX6_feed 62 = .ok (.iload 6, 2) := by decide +kernel
theorem dX6_feed_64 : decode cX6_feed 64 = .ok (.bipush 16, 2) := by decide +kernel
theorem dX6_feed_66 : decode cX6_feed 66 = .ok (.if_icmp .ge 8, 3) := by decide +kernel
theorem dX6_feed_69 : decode cX6_feed 69 = .ok (.iload 4, 2) := by decide +kernel
theorem dX6_feed_71 : decode cX6_feed 71 = .ok (.goto 5, 3) := by decide +kernel
theorem dX6_feed_74 : decode cX6_feed 74 = .ok (.iload 5, 2) := by decide +kernel
theorem dX6_feed_76 : decode cX6_feed 76 = .ok (.istore 7, 2) := by decide +kernel
theorem dX6_feed_78 : decode cX6_feed 78 = .ok (.aload_n 0, 1) := by decide +kernel
theorem dX6_feed_79 : decode cX6_feed 79 = .ok (.getfield 7, 3) := by decide +kernel
theorem dX6_feed_82 : decode cX6_feed 82 = .ok (.aload_n 0, 1) := by decide +kernel
theorem dX6_feed_83 : decode cX6_feed 83 = .ok (.getfield 78, 3) := by decide +kernel
theorem dX6_feed_86 : decode cX6_feed 86 = .ok (.iload 6, 2) := by decide +kernel
theorem dX6_feed_88 : decode cX6_feed 88 = .ok (.iadd, 1) := by decide +kernel
theorem dX6_feed_89 : decode cX6_feed 89 = .ok (.iload 7, 2) := by decide +kernel
theorem dX6_feed_91 : decode cX6_feed 91 = .ok (.bipush 24, 2) := by decide +kernel
theorem dX6_feed_93 : decode cX6_feed 93 = .ok (.bipush 8, 2) := by decide +kernel
theorem dX6_feed_95 : decode cX6_feed 95 = .ok (.iload 6, 2) := by decide +kernel
theorem dX6_feed_97 : decode cX6_feed 97 = .ok (.iconst 4, 1) := by decide +kernel
theorem dX6_feed_98 : decode cX6_feed 98 = .ok (.irem, 1) := by decide +kernel
theorem dX6_feed_99 : decode cX6_feed 99 = .ok (.imul, 1) := by decide +kernel
theorem dX6_feed_100 : decode cX6_feed 100 = .ok (.isub, 1) := by decide +kernel
theorem dX6_feed_101 : decode cX6_feed 101 = .ok (.ishr, 1) := by decide +kernel
theorem dX6_feed_102 : decode cX6_feed 102 = .ok (.sipush 255, 3) := by decide +kernel
theorem dX6_feed_105 : decode cX6_feed 105 = .ok (.iand, 1) := by decide +kernel
theorem dX6_feed_106 : decode cX6_feed 106 = .ok (.iastore, 1) := by decide +kernel
theorem dX6_feed_107 : decode cX6_feed 107 = .ok (.iinc 6 1, 3) := by decide +kernel
theorem dX6_feed_110 : decode cX6_feed 110 = .ok (.goto (-87), 3) := by decide +kernel
theorem dX6_feed_113 : decode cX6_feed 113 = .ok (.aload_n 0, 1) := by decide +kernel
theorem dX6_feed_114 : decode cX6_feed 114 = .ok (.dup, 1) := by decide +kernel
theorem dX6_feed_115 : decode cX6_feed 115 = .ok (.getfield 78, 3) := by decide +kernel
theorem dX6_feed_118 : decode cX6_feed 118 = .ok (.bipush 20, 2) := by decide +kernel
theorem dX6_feed_120 : decode cX6_feed 120 = .ok (.iadd, 1) := by decide +kernel
theorem dX6_feed_121 : decode cX6_feed 121 = .ok (.putfield 78, 3) := by decide +kernel
theorem dX6_feed_124 : decode cX6_feed 124 = .ok (.aload_n 0, 1) := by decide +kernel
theorem dX6_feed_125 : decode cX6_feed 125 = .ok (.getfield 78, 3) := by decide +kernel
theorem dX6_feed_128 : decode cX6_feed 128 = .ok (.ireturn, 1) := by decide +kernel
theorem dX6_wrong_0 : decode cX6_wrong 0 = .ok (.aload_n 0, 1) := by decide +kernel
theorem dX6_wrong_1 : decode cX6_wrong 1 = .ok (.iload_n 1, 1) := by decide +kernel
theorem dX6_wrong_2 : decode cX6_wrong 2 = .ok (.putfield 81, 3) := by decide +kernel
theorem dX6_wrong_5 : decode cX6_wrong 5 = .ok (.aload_n 0, 1) := by decide +kernel
theorem dX6_wrong_6 : decode cX6_wrong 6 = .ok (.iload_n 2, 1) := by decide +kernel
theorem dX6_wrong_7 : decode cX6_wrong 7 = .ok (.putfield 25, 3) := by decide +kernel
theorem dX6_wrong_10 : decode cX6_wrong 10 = .ok (.iconst 0, 1) := by decide +kernel
theorem dX6_wrong_11 : decode cX6_wrong 11 = .ok (.ireturn, 1) := by decide +kernel
theorem dX6_wordAt_0 : decode cX6_wordAt 0 = .ok (.iconst 1, 1) := by decide +kernel
theorem dX6_wordAt_1 : decode cX6_wordAt 1 = .ok (.istore_n 3, 1) := by decide +kernel
theorem dX6_wordAt_2 : decode cX6_wordAt 2 = .ok (.iconst 0, 1) := by decide +kernel
theorem dX6_wordAt_3 : decode cX6_wordAt 3 = .ok (.istore 4, 2) := by decide +kernel
theorem dX6_wordAt_5 : decode cX6_wordAt 5 = .ok (.iload 4, 2) := by decide +kernel
theorem dX6_wordAt_7 : decode cX6_wordAt 7 = .ok (.aload_n 0, 1) := by decide +kernel
theorem dX6_wordAt_8 : decode cX6_wordAt 8 = .ok (.getfield 72, 3) := by decide +kernel
theorem dX6_wordAt_11 : decode cX6_wordAt 11 = .ok (.arraylength, 1) := by decide +kernel
theorem dX6_wordAt_12 : decode cX6_wordAt 12 = .ok (.if_icmp .ge 114, 3) := by decide +kernel
theorem dX6_wordAt_15 : decode cX6_wordAt 15 = .ok (.iconst 0, 1) := by decide +kernel
theorem dX6_wordAt_16 : decode cX6_wordAt 16 = .ok (.istore 5, 2) := by decide +kernel
theorem dX6_wordAt_18 : decode cX6_wordAt 18 = .ok (.aload_n 0, 1) := by decide +kernel
theorem dX6_wordAt_19 : decode cX6_wordAt 19 = .ok (.getfield 72, 3) := by decide +kernel
theorem dX6_wordAt_22 : decode cX6_wordAt 22 = .ok (.iload 4, 2) := by decide +kernel
theorem dX6_wordAt_24 : decode cX6_wordAt 24 = .ok (.iload 5, 2) := by decide +kernel
theorem dX6_wordAt_26 : decode cX6_wordAt 26 = .ok (.iadd, 1) := by decide +kernel
theorem dX6_wordAt_27 : decode cX6_wordAt 27 = .ok (.iaload, 1) := by decide +kernel
theorem dX6_wordAt_28 : decode cX6_wordAt 28 = .ok (.bipush 32, 2) := by decide +kernel
theorem dX6_wordAt_30 : decode cX6_wordAt 30 = .ok (.if_icmp .eq 9, 3) := by decide +kernel
theorem dX6_wordAt_33 : decode cX6_wordAt 33 = .ok (.iinc 5 1, 3) := by decide +kernel
theorem dX6_wordAt_36 : decode cX6_wordAt 36 = .ok (.goto (-18), 3) := by decide +kernel
theorem dX6_wordAt_39 : decode cX6_wordAt 39 = .ok (.iload 5, 2) := by decide +kernel
theorem dX6_wordAt_41 : decode cX6_wordAt 41 = .ok (.iload_n 2, 1) := by decide +kernel
theorem dX6_wordAt_42 : decode cX6_wordAt 42 = .ok (.iload_n 1, 1) := by decide +kernel
theorem dX6_wordAt_43 : decode cX6_wordAt 43 = .ok (.isub, 1) := by decide +kernel
theorem dX6_wordAt_44 : decode cX6_wordAt 44 = .ok (.if_icmp .ne 7, 3) := by decide +kernel
theorem dX6_wordAt_47 : decode cX6_wordAt 47 = .ok (.iconst 1, 1) := by decide +kernel
theorem dX6_wordAt_48 : decode cX6_wordAt 48 = .ok (.goto 4, 3) := by decide +kernel
theorem dX6_wordAt_51 : decode cX6_wordAt 51 = .ok (.iconst 0, 1) := by decide +kernel
theorem dX6_wordAt_52 : decode cX6_wordAt 52 = .ok (.istore 6, 2) := by decide +kernel
theorem dX6_wordAt_54 : decode cX6_wordAt 54 = .ok (.iconst 0, 1) := by decide +kernel
theorem dX6_wordAt_55 : decode cX6_wordAt 55 = .ok (.istore 7, 2) := by decide +kernel
theorem dX6_wordAt_57 : decode cX6_wordAt 57 = .ok (.iload 7, 2) := by decide +kernel
theorem dX6_wordAt_59 : decode cX6_wordAt 59 = .ok (.iload 5, 2) := by decide +kernel
theorem dX6_wordAt_61 : decode cX6_wordAt 61 = .ok (.if_icmp .ge 43, 3) := by decide +kernel
theorem dX6_wordAt_64 : decode cX6_wordAt 64 = .ok (.iload 6, 2) := by decide +kernel
theorem dX6_wordAt_66 : decode cX6_wordAt 66 = .ok (.ifCond .eq 38, 3) := by decide +kernel
theorem dX6_wordAt_69 : decode cX6_wordAt 69 = .ok (.aload_n 0, 1) := by decide +kernel
theorem dX6_wordAt_70 : decode cX6_wordAt 70 = .ok (.getfield 72, 3) := by decide +kernel
theorem dX6_wordAt_73 : decode cX6_wordAt 73 = .ok (.iload 4, 2) := by decide +kernel
theorem dX6_wordAt_75 : decode cX6_wordAt 75 = .ok (.iload 7, 2) := by decide +kernel
theorem dX6_wordAt_77 : decode cX6_wordAt 77 = .ok (.iadd, 1) := by decide +kernel
theorem dX6_wordAt_78 : decode cX6_wordAt 78 = .ok (.iaload, 1) := by decide +kernel
theorem dX6_wordAt_79 : decode cX6_wordAt 79 = .ok (.aload_n 0, 1) := by decide +kernel
theorem dX6_wordAt_80 : decode cX6_wordAt 80 = .ok (.getfield 7, 3) := by decide +kernel
theorem dX6_wordAt_83 : decode cX6_wordAt 83 = .ok (.iload_n 1, 1) := by decide +kernel
theorem dX6_wordAt_84 : decode cX6_wordAt 84 = .ok (.iload 7, 2) := by decide +kernel
theorem dX6_wordAt_86 : decode cX6_wordAt 86 = .ok (.iadd, 1) := by decide +kernel
theorem dX6_wordAt_87 : decode cX6_wordAt 87 = .ok (.iaload, 1) := by decide +kernel
theorem dX6_wordAt_88 : decode cX6_wordAt 88 = .ok (.if_icmp .ne 7, 3) := by decide +kernel
theorem dX6_wordAt_91 : decode cX6_wordAt 91 = .ok (.iconst 1, 1) := by decide +kernel
theorem dX6_wordAt_92 : decode cX6_wordAt 92 = .ok (.goto 4, 3) := by decide +kernel
theorem dX6_wordAt_95 : decode cX6_wordAt 95 = .ok (.iconst 0, 1) := by decide +kernel
theorem dX6_wordAt_96 : decode cX6_wordAt 96 = .ok (.istore 6, 2) := by decide +kernel
theorem dX6_wordAt_98 : decode cX6_wordAt 98 = .ok (.iinc 7 1, 3) := by decide +kernel
theorem dX6_wordAt_101 : decode cX6_wordAt 101 = .ok (.goto (-44), 3) := by decide +kernel
theorem dX6_wordAt_104 : decode cX6_wordAt 104 = .ok (.iload 6, 2) := by decide +kernel
theorem dX6_wordAt_106 : decode cX6_wordAt 106 = .ok (.ifCond .eq 5, 3) := by decide +kernel
theorem dX6_wordAt_109 : decode cX6_wordAt 109 = .ok (.iload_n 3, 1) := by decide +kernel
theorem dX6_wordAt_110 : decode cX6_wordAt 110 = .ok (.ireturn, 1) := by decide +kernel
theorem dX6_wordAt_111 : decode cX6_wordAt 111 = .ok (.iload 4, 2) := by decide +kernel
theorem dX6_wordAt_113 : decode cX6_wordAt 113 = .ok (.iload 5, 2) := by decide +kernel
theorem dX6_wordAt_115 : decode cX6_wordAt 115 = .ok (.iconst 1, 1) := by decide +kernel
theorem dX6_wordAt_116 : decode cX6_wordAt 116 = .ok (.iadd, 1) := by decide +kernel
theorem dX6_wordAt_117 : decode cX6_wordAt 117 = .ok (.iadd, 1) := by decide +kernel
theorem dX6_wordAt_118 : decode cX6_wordAt 118 = .ok (.istore 4, 2) := by decide +kernel
theorem dX6_wordAt_120 : decode cX6_wordAt 120 = .ok (.iinc 3 1, 3) := by decide +kernel
theorem dX6_wordAt_123 : decode cX6_wordAt 123 = .ok (.goto (-118), 3) := by decide +kernel
theorem dX6_wordAt_126 : decode cX6_wordAt 126 = .ok (.iconst (-1), 1) := by decide +kernel
theorem dX6_wordAt_127 : decode cX6_wordAt 127 = .ok (.ireturn, 1) := by decide +kernel
theorem dX6_isSmall_0 : decode cX6_isSmall 0 = .ok (.iload_n 1, 1) := by decide +kernel
theorem dX6_isSmall_1 : decode cX6_isSmall 1 = .ok (.aload_n 0, 1) := by decide +kernel
theorem dX6_isSmall_2 : decode cX6_isSmall 2 = .ok (.getfield 84, 3) := by decide +kernel
theorem dX6_isSmall_5 : decode cX6_isSmall 5 = .ok (.if_icmp .ge 29, 3) := by decide +kernel
theorem dX6_isSmall_8 : decode cX6_isSmall 8 = .ok (.aload_n 0, 1) := by decide +kernel
theorem dX6_isSmall_9 : decode cX6_isSmall 9 = .ok (.getfield 7, 3) := by decide +kernel
theorem dX6_isSmall_12 : decode cX6_isSmall 12 = .ok (.iload_n 1, 1) := by decide +kernel
theorem dX6_isSmall_13 : decode cX6_isSmall 13 = .ok (.iaload, 1) := by decide +kernel
theorem dX6_isSmall_14 : decode cX6_isSmall 14 = .ok (.bipush 97, 2) := by decide +kernel
theorem dX6_isSmall_16 : decode cX6_isSmall 16 = .ok (.if_icmp .lt 18, 3) := by decide +kernel
theorem dX6_isSmall_19 : decode cX6_isSmall 19 = .ok (.aload_n 0, 1) := by decide +kernel
theorem dX6_isSmall_20 : decode cX6_isSmall 20 = .ok (.getfield 7, 3) := by decide +kernel
theorem dX6_isSmall_23 : decode cX6_isSmall 23 = .ok (.iload_n 1, 1) := by decide +kernel
theorem dX6_isSmall_24 : decode cX6_isSmall 24 = .ok (.iaload, 1) := by decide +kernel
theorem dX6_isSmall_25 : decode cX6_isSmall 25 = .ok (.bipush 122, 2) := by decide +kernel
theorem dX6_isSmall_27 : decode cX6_isSmall 27 = .ok (.if_icmp .gt 7, 3) := by decide +kernel
theorem dX6_isSmall_30 : decode cX6_isSmall 30 = .ok (.iconst 1, 1) := by decide +kernel
theorem dX6_isSmall_31 : decode cX6_isSmall 31 = .ok (.goto 4, 3) := by decide +kernel
theorem dX6_isSmall_34 : decode cX6_isSmall 34 = .ok (.iconst 0, 1) := by decide +kernel
theorem dX6_isSmall_35 : decode cX6_isSmall 35 = .ok (.ireturn, 1) := by decide +kernel
theorem dX6_isDigit_0 : decode cX6_isDigit 0 = .ok (.iload_n 1, 1) := by decide +kernel
theorem dX6_isDigit_1 : decode cX6_isDigit 1 = .ok (.aload_n 0, 1) := by decide +kernel
theorem dX6_isDigit_2 : decode cX6_isDigit 2 = .ok (.getfield 84, 3) := by decide +kernel
theorem dX6_isDigit_5 : decode cX6_isDigit 5 = .ok (.if_icmp .ge 29, 3) := by decide +kernel
theorem dX6_isDigit_8 : decode cX6_isDigit 8 = .ok (.aload_n 0, 1) := by decide +kernel
theorem dX6_isDigit_9 : decode cX6_isDigit 9 = .ok (.getfield 7, 3) := by decide +kernel
theorem dX6_isDigit_12 : decode cX6_isDigit 12 = .ok (.iload_n 1, 1) := by decide +kernel
theorem dX6_isDigit_13 : decode cX6_isDigit 13 = .ok (.iaload, 1) := by decide +kernel
theorem dX6_isDigit_14 : decode cX6_isDigit 14 = .ok (.bipush 48, 2) := by decide +kernel
theorem dX6_isDigit_16 : decode cX6_isDigit 16 = .ok (.if_icmp .lt 18, 3) := by decide +kernel
theorem dX6_isDigit_19 : decode cX6_isDigit 19 = .ok (.aload_n 0, 1) := by decide +kernel
theorem dX6_isDigit_20 : decode cX6_isDigit 20 = .ok (.getfield 7, 3) := by decide +kernel
theorem dX6_isDigit_23 : decode cX6_isDigit 23 = .ok (.iload_n 1, 1) := by decide +kernel
theorem dX6_isDigit_24 : decode cX6_isDigit 24 = .ok (.iaload, 1) := by decide +kernel
theorem dX6_isDigit_25 : decode cX6_isDigit 25 = .ok (.bipush 57, 2) := by decide +kernel
theorem dX6_isDigit_27 : decode cX6_isDigit 27 = .ok (.if_icmp .gt 7, 3) := by decide +kernel
theorem dX6_isDigit_30 : decode cX6_isDigit 30 = .ok (.iconst 1, 1) := by decide +kernel
theorem dX6_isDigit_31 : decode cX6_isDigit 31 = .ok (.goto 4, 3) := by decide +kernel
theorem dX6_isDigit_34 : decode cX6_isDigit 34 = .ok (.iconst 0, 1) := by decide +kernel
theorem dX6_isDigit_35 : decode cX6_isDigit 35 = .ok (.ireturn, 1) := by decide +kernel
theorem dX6_take_0 : decode cX6_take 0 = .ok (.aload_n 0, 1) := by decide +kernel
theorem dX6_take_1 : decode cX6_take 1 = .ok (.getfield 87, 3) := by decide +kernel
theorem dX6_take_4 : decode cX6_take 4 = .ok (.aload_n 0, 1) := by decide +kernel
theorem dX6_take_5 : decode cX6_take 5 = .ok (.getfield 84, 3) := by decide +kernel
theorem dX6_take_8 : decode cX6_take 8 = .ok (.if_icmp .ge 44, 3) := by decide +kernel
theorem dX6_take_11 : decode cX6_take 11 = .ok (.aload_n 0, 1) := by decide +kernel
theorem dX6_take_12 : decode cX6_take 12 = .ok (.getfield 7, 3) := by decide +kernel
theorem dX6_take_15 : decode cX6_take 15 = .ok (.aload_n 0, 1) := by decide +kernel
theorem dX6_take_16 : decode cX6_take 16 = .ok (.getfield 87, 3) := by decide +kernel
theorem dX6_take_19 : decode cX6_take 19 = .ok (.iaload, 1) := by decide +kernel
theorem dX6_take_20 : decode cX6_take 20 = .ok (.bipush 10, 2) := by decide +kernel
theorem dX6_take_22 : decode cX6_take 22 = .ok (.if_icmp .eq 17, 3) := by decide +kernel
theorem dX6_take_25 : decode cX6_take 25 = .ok (.aload_n 0, 1) := by decide +kernel
theorem dX6_take_26 : decode cX6_take 26 = .ok (.getfield 7, 3) := by decide +kernel
theorem dX6_take_29 : decode cX6_take 29 = .ok (.aload_n 0, 1) := by decide +kernel
theorem dX6_take_30 : decode cX6_take 30 = .ok (.getfield 87, 3) := by decide +kernel
theorem dX6_take_33 : decode cX6_take 33 = .ok (.iaload, 1) := by decide +kernel
theorem dX6_take_34 : decode cX6_take 34 = .ok (.bipush 32, 2) := by decide +kernel
theorem dX6_take_36 : decode cX6_take 36 = .ok (.if_icmp .ne 16, 3) := by decide +kernel
theorem dX6_take_39 : decode cX6_take 39 = .ok (.aload_n 0, 1) := by decide +kernel
theorem dX6_take_40 : decode cX6_take 40 = .ok (.dup, 1) := by decide +kernel
theorem dX6_take_41 : decode cX6_take 41 = .ok (.getfield 87, 3) := by decide +kernel
theorem dX6_take_44 : decode cX6_take 44 = .ok (.iconst 1, 1) := by decide +kernel
theorem dX6_take_45 : decode cX6_take 45 = .ok (.iadd, 1) := by decide +kernel
theorem dX6_take_46 : decode cX6_take 46 = .ok (.putfield 87, 3) := by decide +kernel
theorem dX6_take_49 : decode cX6_take 49 = .ok (.goto (-49), 3) := by decide +kernel
theorem dX6_take_52 : decode cX6_take 52 = .ok (.aload_n 0, 1) := by decide +kernel
theorem dX6_take_53 : decode cX6_take 53 = .ok (.aload_n 0, 1) := by decide +kernel
theorem dX6_take_54 : decode cX6_take 54 = .ok (.getfield 87, 3) := by decide +kernel
theorem dX6_take_57 : decode cX6_take 57 = .ok (.putfield 90, 3) := by decide +kernel
theorem dX6_take_60 : decode cX6_take 60 = .ok (.aload_n 0, 1) := by decide +kernel
theorem dX6_take_61 : decode cX6_take 61 = .ok (.getfield 87, 3) := by decide +kernel
theorem dX6_take_64 : decode cX6_take 64 = .ok (.aload_n 0, 1) := by decide +kernel
theorem dX6_take_65 : decode cX6_take 65 = .ok (.getfield 84, 3) := by decide +kernel
theorem dX6_take_68 : decode cX6_take 68 = .ok (.if_icmp .ne 11, 3) := by decide +kernel
theorem dX6_take_71 : decode cX6_take 71 = .ok (.aload_n 0, 1) := by decide +kernel
theorem dX6_take_72 : decode cX6_take 72 = .ok (.iconst 0, 1) := by decide +kernel
theorem dX6_take_73 : decode cX6_take 73 = .ok (.putfield 93, 3) := by decide +kernel
theorem dX6_take_76 : decode cX6_take 76 = .ok (.goto 221, 3) := by decide +kernel
theorem dX6_take_79 : decode cX6_take 79 = .ok (.aload_n 0, 1) := by decide +kernel
theorem dX6_take_80 : decode cX6_take 80 = .ok (.aload_n 0, 1) := by decide +kernel
theorem dX6_take_81 : decode cX6_take 81 = .ok (.getfield 87, 3) := by decide +kernel
theorem dX6_take_84 : decode cX6_take 84 = .ok (.invokevirtual 96, 3) := by decide +kernel
theorem dX6_take_87 : decode cX6_take 87 = .ok (.ifCond .eq 62, 3) := by decide +kernel
theorem dX6_take_90 : decode cX6_take 90 = .ok (.aload_n 0, 1) := by decide +kernel
theorem dX6_take_91 : decode cX6_take 91 = .ok (.aload_n 0, 1) := by decide +kernel
theorem dX6_take_92 : decode cX6_take 92 = .ok (.getfield 87, 3) := by decide +kernel
theorem dX6_take_95 : decode cX6_take 95 = .ok (.invokevirtual 96, 3) := by decide +kernel
theorem dX6_take_98 : decode cX6_take 98 = .ok (.ifCond .eq 16, 3) := by decide +kernel
theorem dX6_take_101 : decode cX6_take 101 = .ok (.aload_n 0, 1) := by decide +kernel
theorem dX6_take_102 : decode cX6_take 102 = .ok (.dup, 1) := by decide +kernel
theorem dX6_take_103 : decode cX6_take 103 = .ok (.getfield 87, 3) := by decide +kernel
theorem dX6_take_106 : decode cX6_take 106 = .ok (.iconst 1, 1) := by decide +kernel
theorem dX6_take_107 : decode cX6_take 107 = .ok (.iadd, 1) := by decide +kernel
theorem dX6_take_108 : decode cX6_take 108 = .ok (.putfield 87, 3) := by decide +kernel
theorem dX6_take_111 : decode cX6_take 111 = .ok (.goto (-21), 3) := by decide +kernel
theorem dX6_take_114 : decode cX6_take 114 = .ok (.aload_n 0, 1) := by decide +kernel
theorem dX6_take_115 : decode cX6_take 115 = .ok (.aload_n 0, 1) := by decide +kernel
theorem dX6_take_116 : decode cX6_take 116 = .ok (.aload_n 0, 1) := by decide +kernel
theorem dX6_take_117 : decode cX6_take 117 = .ok (.getfield 90, 3) := by decide +kernel
theorem dX6_take_120 : decode cX6_take 120 = .ok (.aload_n 0, 1) := by decide +kernel
theorem dX6_take_121 : decode cX6_take 121 = .ok (.getfield 87, 3) := by decide +kernel
theorem dX6_take_124 : decode cX6_take 124 = .ok (.invokevirtual 100, 3) := by decide +kernel
theorem dX6_take_127 : decode cX6_take 127 = .ok (.putfield 104, 3) := by decide +kernel
theorem dX6_take_130 : decode cX6_take 130 = .ok (.aload_n 0, 1) := by decide +kernel
theorem dX6_take_131 : decode cX6_take 131 = .ok (.aload_n 0, 1) := by decide +kernel
theorem dX6_take_132 : decode cX6_take 132 = .ok (.getfield 104, 3) := by decide +kernel
theorem dX6_take_135 : decode cX6_take 135 = .ok (.ifCond .ge 7, 3) := by decide +kernel
theorem dX6_take_138 : decode cX6_take 138 = .ok (.iconst 5, 1) := by decide +kernel
theorem dX6_take_139 : decode cX6_take 139 = .ok (.goto 4, 3) := by decide +kernel
theorem dX6_take_142 : decode cX6_take 142 = .ok (.iconst 1, 1) := by decide +kernel
theorem dX6_take_143 : decode cX6_take 143 = .ok (.putfield 93, 3) := by decide +kernel
theorem dX6_take_146 : decode cX6_take 146 = .ok (.goto 151, 3) := by decide +kernel
theorem dX6_take_149 : decode cX6_take 149 = .ok (.aload_n 0, 1) := by decide +kernel
theorem dX6_take_150 : decode cX6_take 150 = .ok (.aload_n 0, 1) := by decide +kernel
theorem dX6_take_151 : decode cX6_take 151 = .ok (.getfield 87, 3) := by decide +kernel
theorem dX6_take_154 : decode cX6_take 154 = .ok (.invokevirtual 107, 3) := by decide +kernel
theorem dX6_take_157 : decode cX6_take 157 = .ok (.ifCond .eq 77, 3) := by decide +kernel
theorem dX6_take_160 : decode cX6_take 160 = .ok (.aload_n 0, 1) := by decide +kernel
theorem dX6_take_161 : decode cX6_take 161 = .ok (.iconst 3, 1) := by decide +kernel
theorem dX6_take_162 : decode cX6_take 162 = .ok (.putfield 93, 3) := by decide +kernel
theorem dX6_take_165 : decode cX6_take 165 = .ok (.aload_n 0, 1) := by decide +kernel
theorem dX6_take_166 : decode cX6_take 166 = .ok (.iconst 0, 1) := by decide +kernel
theorem dX6_take_167 : decode cX6_take 167 = .ok (.putfield 104, 3) := by decide +kernel
theorem dX6_take_170 : decode cX6_take 170 = .ok (.aload_n 0, 1) := by decide +kernel
theorem dX6_take_171 : decode cX6_take 171 = .ok (.aload_n 0, 1) := by decide +kernel
theorem dX6_take_172 : decode cX6_take 172 = .ok (.getfield 87, 3) := by decide +kernel
theorem dX6_take_175 : decode cX6_take 175 = .ok (.invokevirtual 107, 3) := by decide +kernel
theorem dX6_take_178 : decode cX6_take 178 = .ok (.ifCond .eq 119, 3) := by decide +kernel
theorem dX6_take_181 : decode cX6_take 181 = .ok (.aload_n 0, 1) := by decide +kernel
theorem dX6_take_182 : decode cX6_take 182 = .ok (.aload_n 0, 1) := by decide +kernel
theorem dX6_take_183 : decode cX6_take 183 = .ok (.getfield 104, 3) := by decide +kernel
theorem dX6_take_186 : decode cX6_take 186 = .ok (.ldc 110, 2) := by decide +kernel
theorem dX6_take_188 : decode cX6_take 188 = .ok (.if_icmp .le 10, 3) := by decide +kernel
theorem dX6_take_191 : decode cX6_take 191 = .ok (.aload_n 0, 1) := by decide +kernel
theorem dX6_take_192 : decode cX6_take 192 = .ok (.getfield 104, 3) := by decide +kernel
theorem dX6_take_195 : decode cX6_take 195 = .ok (.goto 23, 3) := by decide +kernel
theorem dX6_take_198 : decode cX6_take 198 = .ok (.bipush 10, 2) := by decide +kernel
theorem dX6_take_200 : decode cX6_take 200 = .ok (.aload_n 0, 1) := by decide +kernel
theorem dX6_take_201 : decode cX6_take 201 = .ok (.getfield 104, 3) := by decide +kernel
theorem dX6_take_204 : decode cX6_take 204 = .ok (.imul, 1) := by decide +kernel
theorem dX6_take_205 : decode cX6_take 205 = .ok (.aload_n 0, 1) := by decide +kernel
theorem dX6_take_206 : decode cX6_take 206 = .ok (.getfield 7, 3) := by decide +kernel
theorem dX6_take_209 : decode cX6_take 209 = .ok (.aload_n 0, 1) := by decide +kernel
theorem dX6_take_210 : decode cX6_take 210 = .ok (.getfield 87, 3) := by decide +kernel
theorem dX6_take_213 : decode cX6_take 213 = .ok (.iaload, 1) := by decide +kernel
theorem dX6_take_214 : decode cX6_take 214 = .ok (.iadd, 1) := by decide +kernel
theorem dX6_take_215 : decode cX6_take 215 = .ok (.bipush 48, 2) := by decide +kernel
theorem dX6_take_217 : decode cX6_take 217 = .ok (.isub, 1) := by decide +kernel
theorem dX6_take_218 : decode cX6_take 218 = .ok (.putfield 104, 3) := by decide +kernel
theorem dX6_take_221 : decode cX6_take 221 = .ok (.aload_n 0, 1) := by decide +kernel
theorem dX6_take_222 : decode cX6_take 222 = .ok (.dup, 1) := by decide +kernel
theorem dX6_take_223 : decode cX6_take 223 = .ok (.getfield 87, 3) := by decide +kernel
theorem dX6_take_226 : decode cX6_take 226 = .ok (.iconst 1, 1) := by decide +kernel
theorem dX6_take_227 : decode cX6_take 227 = .ok (.iadd, 1) := by decide +kernel
theorem dX6_take_228 : decode cX6_take 228 = .ok (.putfield 87, 3) := by decide +kernel
theorem dX6_take_231 : decode cX6_take 231 = .ok (.goto (-61), 3) := by decide +kernel
theorem dX6_take_234 : decode cX6_take 234 = .ok (.aload_n 0, 1) := by decide +kernel
theorem dX6_take_235 : decode cX6_take 235 = .ok (.aload_n 0, 1) := by decide +kernel
theorem dX6_take_236 : decode cX6_take 236 = .ok (.getfield 7, 3) := by decide +kernel
theorem dX6_take_239 : decode cX6_take 239 = .ok (.aload_n 0, 1) := by decide +kernel
theorem dX6_take_240 : decode cX6_take 240 = .ok (.getfield 87, 3) := by decide +kernel
theorem dX6_take_243 : decode cX6_take 243 = .ok (.iaload, 1) := by decide +kernel
theorem dX6_take_244 : decode cX6_take 244 = .ok (.putfield 104, 3) := by decide +kernel
theorem dX6_take_247 : decode cX6_take 247 = .ok (.aload_n 0, 1) := by decide +kernel
theorem dX6_take_248 : decode cX6_take 248 = .ok (.dup, 1) := by decide +kernel
theorem dX6_take_249 : decode cX6_take 249 = .ok (.getfield 87, 3) := by decide +kernel
theorem dX6_take_252 : decode cX6_take 252 = .ok (.iconst 1, 1) := by decide +kernel
theorem dX6_take_253 : decode cX6_take 253 = .ok (.iadd, 1) := by decide +kernel
theorem dX6_take_254 : decode cX6_take 254 = .ok (.putfield 87, 3) := by decide +kernel
theorem dX6_take_257 : decode cX6_take 257 = .ok (.aload_n 0, 1) := by decide +kernel
theorem dX6_take_258 : decode cX6_take 258 = .ok (.aload_n 0, 1) := by decide +kernel
theorem dX6_take_259 : decode cX6_take 259 = .ok (.getfield 104, 3) := by decide +kernel
theorem dX6_take_262 : decode cX6_take 262 = .ok (.bipush 65, 2) := by decide +kernel
theorem dX6_take_264 : decode cX6_take 264 = .ok (.if_icmp .lt 16, 3) := by decide +kernel
theorem dX6_take_267 : decode cX6_take 267 = .ok (.aload_n 0, 1) := by decide +kernel
theorem dX6_take_268 : decode cX6_take 268 = .ok (.getfield 104, 3) := by decide +kernel
theorem dX6_take_271 : decode cX6_take 271 = .ok (.bipush 70, 2) := by decide +kernel
theorem dX6_take_273 : decode cX6_take 273 = .ok (.if_icmp .gt 7, 3) := by decide +kernel
theorem dX6_take_276 : decode cX6_take 276 = .ok (.iconst 2, 1) := by decide +kernel
theorem dX6_take_277 : decode cX6_take 277 = .ok (.goto 17, 3) := by decide +kernel
theorem dX6_take_280 : decode cX6_take 280 = .ok (.aload_n 0, 1) := by decide +kernel
theorem dX6_take_281 : decode cX6_take 281 = .ok (.getfield 104, 3) := by decide +kernel
theorem dX6_take_284 : decode cX6_take 284 = .ok (.bipush 59, 2) := by decide +kernel
theorem dX6_take_286 : decode cX6_take 286 = .ok (.if_icmp .ne 7, 3) := by decide +kernel
theorem dX6_take_289 : decode cX6_take 289 = .ok (.iconst 4, 1) := by decide +kernel
theorem dX6_take_290 : decode cX6_take 290 = .ok (.goto 4, 3) := by decide +kernel
theorem dX6_take_293 : decode cX6_take 293 = .ok (.iconst 5, 1) := by decide +kernel
theorem dX6_take_294 : decode cX6_take 294 = .ok (.putfield 93, 3) := by decide +kernel
theorem dX6_take_297 : decode cX6_take 297 = .ok (.return_, 1) := by decide +kernel
theorem dX6_word_0 : decode cX6_word 0 = .ok (.aload_n 0, 1) := by decide +kernel
theorem dX6_word_1 : decode cX6_word 1 = .ok (.getfield 93, 3) := by decide +kernel
theorem dX6_word_4 : decode cX6_word 4 = .ok (.iconst 1, 1) := by decide +kernel
theorem dX6_word_5 : decode cX6_word 5 = .ok (.if_icmp .ne 11, 3) := by decide +kernel
theorem dX6_word_8 : decode cX6_word 8 = .ok (.aload_n 0, 1) := by decide +kernel
theorem dX6_word_9 : decode cX6_word 9 = .ok (.getfield 104, 3) := by decide +kernel
theorem dX6_word_12 : decode cX6_word 12 = .ok (.iload_n 1, 1) := by decide +kernel
theorem dX6_word_13 : decode cX6_word 13 = .ok (.if_icmp .eq 13, 3) := by decide +kernel
theorem dX6_word_16 : decode cX6_word 16 = .ok (.aload_n 0, 1) := by decide +kernel
theorem dX6_word_17 : decode cX6_word 17 = .ok (.iconst 1, 1) := by decide +kernel
theorem dX6_word_18 : decode cX6_word 18 = .ok (.aload_n 0, 1) := by decide +kernel
theorem dX6_word_19 : decode cX6_word 19 = .ok (.getfield 90, 3) := by decide +kernel
theorem dX6_word_22 : decode cX6_word 22 = .ok (.invokevirtual 111, 3) := by decide +kernel
theorem dX6_word_25 : decode cX6_word 25 = .ok (.ireturn, 1) := by decide +kernel
theorem dX6_word_26 : decode cX6_word 26 = .ok (.aload_n 0, 1) := by decide +kernel
theorem dX6_word_27 : decode cX6_word 27 = .ok (.invokevirtual 115, 3) := by decide +kernel
theorem dX6_word_30 : decode cX6_word 30 = .ok (.iconst 1, 1) := by decide +kernel
theorem dX6_word_31 : decode cX6_word 31 = .ok (.ireturn, 1) := by decide +kernel
theorem dX6_number_0 : decode cX6_number 0 = .ok (.aload_n 0, 1) := by decide +kernel
theorem dX6_number_1 : decode cX6_number 1 = .ok (.getfield 93, 3) := by decide +kernel
theorem dX6_number_4 : decode cX6_number 4 = .ok (.iconst 3, 1) := by decide +kernel
theorem dX6_number_5 : decode cX6_number 5 = .ok (.if_icmp .eq 13, 3) := by decide +kernel
theorem dX6_number_8 : decode cX6_number 8 = .ok (.aload_n 0, 1) := by decide +kernel
theorem dX6_number_9 : decode cX6_number 9 = .ok (.iconst 1, 1) := by decide +kernel
theorem dX6_number_10 : decode cX6_number 10 = .ok (.aload_n 0, 1) := by decide +kernel
theorem dX6_number_11 : decode cX6_number 11 = .ok (.getfield 90, 3) := by decide +kernel
theorem dX6_number_14 : decode cX6_number 14 = .ok (.invokevirtual 111, 3) := by decide +kernel
theorem dX6_number_17 : decode cX6_number 17 = .ok (.ireturn, 1) := by decide +kernel
theorem dX6_number_18 : decode cX6_number 18 = .ok (.aload_n 0, 1) := by decide +kernel
theorem dX6_number_19 : decode cX6_number 19 = .ok (.getfield 104, 3) := by decide +kernel
theorem dX6_number_22 : decode cX6_number 22 = .ok (.iload_n 1, 1) := by decide +kernel
theorem dX6_number_23 : decode cX6_number 23 = .ok (.if_icmp .lt 11, 3) := by decide +kernel
theorem dX6_number_26 : decode cX6_number 26 = .ok (.aload_n 0, 1) := by decide +kernel
theorem dX6_number_27 : decode cX6_number 27 = .ok (.getfield 104, 3) := by decide +kernel
theorem dX6_number_30 : decode cX6_number 30 = .ok (.iload_n 2, 1) := by decide +kernel
theorem dX6_number_31 : decode cX6_number 31 = .ok (.if_icmp .le 13, 3) := by decide +kernel
theorem dX6_number_34 : decode cX6_number 34 = .ok (.aload_n 0, 1) := by decide +kernel
theorem dX6_number_35 : decode cX6_number 35 = .ok (.iconst 2, 1) := by decide +kernel
theorem dX6_number_36 : decode cX6_number 36 = .ok (.aload_n 0, 1) := by decide +kernel
theorem dX6_number_37 : decode cX6_number 37 = .ok (.getfield 90, 3) := by decide +kernel
theorem dX6_number_40 : decode cX6_number 40 = .ok (.invokevirtual 111, 3) := by decide +kernel
theorem dX6_number_43 : decode cX6_number 43 = .ok (.ireturn, 1) := by decide +kernel
theorem dX6_number_44 : decode cX6_number 44 = .ok (.aload_n 0, 1) := by decide +kernel
theorem dX6_number_45 : decode cX6_number 45 = .ok (.aload_n 0, 1) := by decide +kernel
theorem dX6_number_46 : decode cX6_number 46 = .ok (.getfield 104, 3) := by decide +kernel
theorem dX6_number_49 : decode cX6_number 49 = .ok (.putfield 118, 3) := by decide +kernel
theorem dX6_number_52 : decode cX6_number 52 = .ok (.aload_n 0, 1) := by decide +kernel
theorem dX6_number_53 : decode cX6_number 53 = .ok (.invokevirtual 115, 3) := by decide +kernel
theorem dX6_number_56 : decode cX6_number 56 = .ok (.iconst 1, 1) := by decide +kernel
theorem dX6_number_57 : decode cX6_number 57 = .ok (.ireturn, 1) := by decide +kernel
theorem dX6_burdenLine_0 : decode cX6_burdenLine 0 = .ok (.aload_n 0, 1) := by decide +kernel
theorem dX6_burdenLine_1 : decode cX6_burdenLine 1 = .ok (.invokevirtual 115, 3) := by decide +kernel
theorem dX6_burdenLine_4 : decode cX6_burdenLine 4 = .ok (.aload_n 0, 1) := by decide +kernel
theorem dX6_burdenLine_5 : decode cX6_burdenLine 5 = .ok (.getfield 93, 3) := by decide +kernel
theorem dX6_burdenLine_8 : decode cX6_burdenLine 8 = .ok (.iconst 2, 1) := by decide +kernel
theorem dX6_burdenLine_9 : decode cX6_burdenLine 9 = .ok (.if_icmp .eq 13, 3) := by decide +kernel
theorem dX6_burdenLine_12 : decode cX6_burdenLine 12 = .ok (.aload_n 0, 1) := by decide +kernel
theorem dX6_burdenLine_13 : decode cX6_burdenLine 13 = .ok (.iconst 1, 1) := by decide +kernel
theorem dX6_burdenLine_14 : decode cX6_burdenLine 14 = .ok (.aload_n 0, 1) := by decide +kernel
theorem dX6_burdenLine_15 : decode cX6_burdenLine 15 = .ok (.getfield 90, 3) := by decide +kernel
theorem dX6_burdenLine_18 : decode cX6_burdenLine 18 = .ok (.invokevirtual 111, 3) := by decide +kernel
theorem dX6_burdenLine_21 : decode cX6_burdenLine 21 = .ok (.ireturn, 1) := by decide +kernel
theorem dX6_burdenLine_22 : decode cX6_burdenLine 22 = .ok (.bipush 6, 2) := by decide +kernel
theorem dX6_burdenLine_24 : decode cX6_burdenLine 24 = .ok (.aload_n 0, 1) := by decide +kernel
theorem dX6_burdenLine_25 : decode cX6_burdenLine 25 = .ok (.getfield 104, 3) := by decide +kernel
theorem dX6_burdenLine_28 : decode cX6_burdenLine 28 = .ok (.iadd, 1) := by decide +kernel
theorem dX6_burdenLine_29 : decode cX6_burdenLine 29 = .ok (.bipush 65, 2) := by decide +kernel
theorem dX6_burdenLine_31 : decode cX6_burdenLine 31 = .ok (.isub, 1) := by decide +kernel
theorem dX6_burdenLine_32 : decode cX6_burdenLine 32 = .ok (.istore_n 1, 1) := by decide +kernel
theorem dX6_burdenLine_33 : decode cX6_burdenLine 33 = .ok (.aload_n 0, 1) := by decide +kernel
theorem dX6_burdenLine_34 : decode cX6_burdenLine 34 = .ok (.getfield 16, 3) := by decide +kernel
theorem dX6_burdenLine_37 : decode cX6_burdenLine 37 = .ok (.iload_n 1, 1) := by decide +kernel
theorem dX6_burdenLine_38 : decode cX6_burdenLine 38 = .ok (.iaload, 1) := by decide +kernel
theorem dX6_burdenLine_39 : decode cX6_burdenLine 39 = .ok (.ifCond .le 13, 3) := by decide +kernel
theorem dX6_burdenLine_42 : decode cX6_burdenLine 42 = .ok (.aload_n 0, 1) := by decide +kernel
theorem dX6_burdenLine_43 : decode cX6_burdenLine 43 = .ok (.iconst 3, 1) := by decide +kernel
theorem dX6_burdenLine_44 : decode cX6_burdenLine 44 = .ok (.aload_n 0, 1) := by decide +kernel
theorem dX6_burdenLine_45 : decode cX6_burdenLine 45 = .ok (.getfield 90, 3) := by decide +kernel
theorem dX6_burdenLine_48 : decode cX6_burdenLine 48 = .ok (.invokevirtual 111, 3) := by decide +kernel
theorem dX6_burdenLine_51 : decode cX6_burdenLine 51 = .ok (.ireturn, 1) := by decide +kernel
theorem dX6_burdenLine_52 : decode cX6_burdenLine 52 = .ok (.aload_n 0, 1) := by decide +kernel
theorem dX6_burdenLine_53 : decode cX6_burdenLine 53 = .ok (.invokevirtual 115, 3) := by decide +kernel
theorem dX6_burdenLine_56 : decode cX6_burdenLine 56 = .ok (.aload_n 0, 1) := by decide +kernel
theorem dX6_burdenLine_57 : decode cX6_burdenLine 57 = .ok (.bipush 6, 2) := by decide +kernel
theorem dX6_burdenLine_59 : decode cX6_burdenLine 59 = .ok (.invokevirtual 121, 3) := by decide +kernel
theorem dX6_burdenLine_62 : decode cX6_burdenLine 62 = .ok (.ifCond .eq 14, 3) := by decide +kernel
theorem dX6_burdenLine_65 : decode cX6_burdenLine 65 = .ok (.aload_n 0, 1) := by decide +kernel
theorem dX6_burdenLine_66 : decode cX6_burdenLine 66 = .ok (.iconst 1, 1) := by decide +kernel
theorem dX6_burdenLine_67 : decode cX6_burdenLine 67 = .ok (.sipush 10000, 3) := by decide +kernel
theorem dX6_burdenLine_70 : decode cX6_burdenLine 70 = .ok (.invokevirtual 124, 3) := by decide +kernel
theorem dX6_burdenLine_73 : decode cX6_burdenLine 73 = .ok (.ifCond .ne 5, 3) := by decide +kernel
theorem dX6_burdenLine_76 : decode cX6_burdenLine 76 = .ok (.iconst 0, 1) := by decide +kernel
theorem dX6_burdenLine_77 : decode cX6_burdenLine 77 = .ok (.ireturn, 1) := by decide +kernel
theorem dX6_burdenLine_78 : decode cX6_burdenLine 78 = .ok (.aload_n 0, 1) := by decide +kernel
theorem dX6_burdenLine_79 : decode cX6_burdenLine 79 = .ok (.getfield 13, 3) := by decide +kernel
theorem dX6_burdenLine_82 : decode cX6_burdenLine 82 = .ok (.iload_n 1, 1) := by decide +kernel
theorem dX6_burdenLine_83 : decode cX6_burdenLine 83 = .ok (.aload_n 0, 1) := by decide +kernel
theorem dX6_burdenLine_84 : decode cX6_burdenLine 84 = .ok (.getfield 118, 3) := by decide +kernel
theorem dX6_burdenLine_87 : decode cX6_burdenLine 87 = .ok (.iastore, 1) := by decide +kernel
theorem dX6_burdenLine_88 : decode cX6_burdenLine 88 = .ok (.aload_n 0, 1) := by decide +kernel
theorem dX6_burdenLine_89 : decode cX6_burdenLine 89 = .ok (.bipush 7, 2) := by decide +kernel
theorem dX6_burdenLine_91 : decode cX6_burdenLine 91 = .ok (.invokevirtual 121, 3) := by decide +kernel
theorem dX6_burdenLine_94 : decode cX6_burdenLine 94 = .ok (.ifCond .eq 12, 3) := by decide +kernel
theorem dX6_burdenLine_97 : decode cX6_burdenLine 97 = .ok (.aload_n 0, 1) := by decide +kernel
theorem dX6_burdenLine_98 : decode cX6_burdenLine 98 = .ok (.iconst 1, 1) := by decide +kernel
theorem dX6_burdenLine_99 : decode cX6_burdenLine 99 = .ok (.iconst 4, 1) := by decide +kernel
theorem dX6_burdenLine_100 : decode cX6_burdenLine 100 = .ok (.invokevirtual 124, 3) := by decide +kernel
theorem dX6_burdenLine_103 : decode cX6_burdenLine 103 = .ok (.ifCond .ne 5, 3) := by decide +kernel
theorem dX6_burdenLine_106 : decode cX6_burdenLine 106 = .ok (.iconst 0, 1) := by decide +kernel
theorem dX6_burdenLine_107 : decode cX6_burdenLine 107 = .ok (.ireturn, 1) := by decide +kernel
theorem dX6_burdenLine_108 : decode cX6_burdenLine 108 = .ok (.aload_n 0, 1) := by decide +kernel
theorem dX6_burdenLine_109 : decode cX6_burdenLine 109 = .ok (.getfield 16, 3) := by decide +kernel
theorem dX6_burdenLine_112 : decode cX6_burdenLine 112 = .ok (.iload_n 1, 1) := by decide +kernel
theorem dX6_burdenLine_113 : decode cX6_burdenLine 113 = .ok (.aload_n 0, 1) := by decide +kernel
theorem dX6_burdenLine_114 : decode cX6_burdenLine 114 = .ok (.getfield 118, 3) := by decide +kernel
theorem dX6_burdenLine_117 : decode cX6_burdenLine 117 = .ok (.iastore, 1) := by decide +kernel
theorem dX6_burdenLine_118 : decode cX6_burdenLine 118 = .ok (.iconst 1, 1) := by decide +kernel
theorem dX6_burdenLine_119 : decode cX6_burdenLine 119 = .ok (.ireturn, 1) := by decide +kernel
theorem dX6_line_0 : decode cX6_line 0 = .ok (.aload_n 0, 1) := by decide +kernel
theorem dX6_line_1 : decode cX6_line 1 = .ok (.getfield 93, 3) := by decide +kernel
theorem dX6_line_4 : decode cX6_line 4 = .ok (.iconst 1, 1) := by decide +kernel
theorem dX6_line_5 : decode cX6_line 5 = .ok (.if_icmp .ne 11, 3) := by decide +kernel
theorem dX6_line_8 : decode cX6_line 8 = .ok (.aload_n 0, 1) := by decide +kernel
theorem dX6_line_9 : decode cX6_line 9 = .ok (.getfield 104, 3) := by decide +kernel
theorem dX6_line_12 : decode cX6_line 12 = .ok (.iconst 5, 1) := by decide +kernel
theorem dX6_line_13 : decode cX6_line 13 = .ok (.if_icmp .le 13, 3) := by decide +kernel
theorem dX6_line_16 : decode cX6_line 16 = .ok (.aload_n 0, 1) := by decide +kernel
theorem dX6_line_17 : decode cX6_line 17 = .ok (.iconst 1, 1) := by decide +kernel
theorem dX6_line_18 : decode cX6_line 18 = .ok (.aload_n 0, 1) := by decide +kernel
theorem dX6_line_19 : decode cX6_line 19 = .ok (.getfield 90, 3) := by decide +kernel
theorem dX6_line_22 : decode cX6_line 22 = .ok (.invokevirtual 111, 3) := by decide +kernel
theorem dX6_line_25 : decode cX6_line 25 = .ok (.ireturn, 1) := by decide +kernel
theorem dX6_line_26 : decode cX6_line 26 = .ok (.aload_n 0, 1) := by decide +kernel
theorem dX6_line_27 : decode cX6_line 27 = .ok (.getfield 104, 3) := by decide +kernel
theorem dX6_line_30 : decode cX6_line 30 = .ok (.iconst 5, 1) := by decide +kernel
theorem dX6_line_31 : decode cX6_line 31 = .ok (.if_icmp .ne 8, 3) := by decide +kernel
theorem dX6_line_34 : decode cX6_line 34 = .ok (.aload_n 0, 1) := by decide +kernel
theorem dX6_line_35 : decode cX6_line 35 = .ok (.invokevirtual 127, 3) := by decide +kernel
theorem dX6_line_38 : decode cX6_line 38 = .ok (.ireturn, 1) := by decide +kernel
theorem dX6_line_39 : decode cX6_line 39 = .ok (.iconst 3, 1) := by decide +kernel
theorem dX6_line_40 : decode cX6_line 40 = .ok (.aload_n 0, 1) := by decide +kernel
theorem dX6_line_41 : decode cX6_line 41 = .ok (.getfield 104, 3) := by decide +kernel
theorem dX6_line_44 : decode cX6_line 44 = .ok (.iadd, 1) := by decide +kernel
theorem dX6_line_45 : decode cX6_line 45 = .ok (.istore_n 1, 1) := by decide +kernel
theorem dX6_line_46 : decode cX6_line 46 = .ok (.aload_n 0, 1) := by decide +kernel
theorem dX6_line_47 : decode cX6_line 47 = .ok (.getfield 19, 3) := by decide +kernel
theorem dX6_line_50 : decode cX6_line 50 = .ok (.iload_n 1, 1) := by decide +kernel
theorem dX6_line_51 : decode cX6_line 51 = .ok (.iaload, 1) := by decide +kernel
theorem dX6_line_52 : decode cX6_line 52 = .ok (.ifCond .lt 13, 3) := by decide +kernel
theorem dX6_line_55 : decode cX6_line 55 = .ok (.aload_n 0, 1) := by decide +kernel
theorem dX6_line_56 : decode cX6_line 56 = .ok (.iconst 3, 1) := by decide +kernel
theorem dX6_line_57 : decode cX6_line 57 = .ok (.aload_n 0, 1) := by decide +kernel
theorem dX6_line_58 : decode cX6_line 58 = .ok (.getfield 90, 3) := by decide +kernel
theorem dX6_line_61 : decode cX6_line 61 = .ok (.invokevirtual 111, 3) := by decide +kernel
theorem dX6_line_64 : decode cX6_line 64 = .ok (.ireturn, 1) := by decide +kernel
theorem dX6_line_65 : decode cX6_line 65 = .ok (.aload_n 0, 1) := by decide +kernel
theorem dX6_line_66 : decode cX6_line 66 = .ok (.getfield 104, 3) := by decide +kernel
theorem dX6_line_69 : decode cX6_line 69 = .ok (.iconst 1, 1) := by decide +kernel
theorem dX6_line_70 : decode cX6_line 70 = .ok (.if_icmp .ne 8, 3) := by decide +kernel
theorem dX6_line_73 : decode cX6_line 73 = .ok (.bipush 9, 2) := by decide +kernel
theorem dX6_line_75 : decode cX6_line 75 = .ok (.goto 18, 3) := by decide +kernel
theorem dX6_line_78 : decode cX6_line 78 = .ok (.aload_n 0, 1) := by decide +kernel
theorem dX6_line_79 : decode cX6_line 79 = .ok (.getfield 104, 3) := by decide +kernel
theorem dX6_line_82 : decode cX6_line 82 = .ok (.iconst 2, 1) := by decide +kernel
theorem dX6_line_83 : decode cX6_line 83 = .ok (.if_icmp .ne 8, 3) := by decide +kernel
theorem dX6_line_86 : decode cX6_line 86 = .ok (.ldc 131, 2) := by decide +kernel
theorem dX6_line_88 : decode cX6_line 88 = .ok (.goto 5, 3) := by decide +kernel
theorem dX6_line_91 : decode cX6_line 91 = .ok (.bipush 60, 2) := by decide +kernel
theorem dX6_line_93 : decode cX6_line 93 = .ok (.istore_n 2, 1) := by decide +kernel
theorem dX6_line_94 : decode cX6_line 94 = .ok (.aload_n 0, 1) := by decide +kernel
theorem dX6_line_95 : decode cX6_line 95 = .ok (.invokevirtual 115, 3) := by decide +kernel
theorem dX6_line_98 : decode cX6_line 98 = .ok (.aload_n 0, 1) := by decide +kernel
theorem dX6_line_99 : decode cX6_line 99 = .ok (.iconst 0, 1) := by decide +kernel
theorem dX6_line_100 : decode cX6_line 100 = .ok (.iload_n 2, 1) := by decide +kernel
theorem dX6_line_101 : decode cX6_line 101 = .ok (.invokevirtual 124, 3) := by decide +kernel
theorem dX6_line_104 : decode cX6_line 104 = .ok (.ifCond .ne 5, 3) := by decide +kernel
theorem dX6_line_107 : decode cX6_line 107 = .ok (.iconst 0, 1) := by decide +kernel
theorem dX6_line_108 : decode cX6_line 108 = .ok (.ireturn, 1) := by decide +kernel
theorem dX6_line_109 : decode cX6_line 109 = .ok (.aload_n 0, 1) := by decide +kernel
theorem dX6_line_110 : decode cX6_line 110 = .ok (.getfield 19, 3) := by decide +kernel
theorem dX6_line_113 : decode cX6_line 113 = .ok (.iload_n 1, 1) := by decide +kernel
theorem dX6_line_114 : decode cX6_line 114 = .ok (.aload_n 0, 1) := by decide +kernel
theorem dX6_line_115 : decode cX6_line 115 = .ok (.getfield 118, 3) := by decide +kernel
theorem dX6_line_118 : decode cX6_line 118 = .ok (.iastore, 1) := by decide +kernel
theorem dX6_line_119 : decode cX6_line 119 = .ok (.iconst 1, 1) := by decide +kernel
theorem dX6_line_120 : decode cX6_line 120 = .ok (.ireturn, 1) := by decide +kernel
theorem dX6_statutes_0 : decode cX6_statutes 0 = .ok (.aload_n 0, 1) := by decide +kernel
theorem dX6_statutes_1 : decode cX6_statutes 1 = .ok (.iconst 0, 1) := by decide +kernel
theorem dX6_statutes_2 : decode cX6_statutes 2 = .ok (.putfield 75, 3) := by decide +kernel
theorem dX6_statutes_5 : decode cX6_statutes 5 = .ok (.aload_n 0, 1) := by decide +kernel
theorem dX6_statutes_6 : decode cX6_statutes 6 = .ok (.getfield 132, 3) := by decide +kernel
theorem dX6_statutes_9 : decode cX6_statutes 9 = .ok (.ifCond .ne 15, 3) := by decide +kernel
theorem dX6_statutes_12 : decode cX6_statutes 12 = .ok (.iload_n 1, 1) := by decide +kernel
theorem dX6_statutes_13 : decode cX6_statutes 13 = .ok (.ifCond .lt 11, 3) := by decide +kernel
theorem dX6_statutes_16 : decode cX6_statutes 16 = .ok (.iload_n 1, 1) := by decide +kernel
theorem dX6_statutes_17 : decode cX6_statutes 17 = .ok (.aload_n 0, 1) := by decide +kernel
theorem dX6_statutes_18 : decode cX6_statutes 18 = .ok (.getfield 78, 3) := by decide +kernel
theorem dX6_statutes_21 : decode cX6_statutes 21 = .ok (.if_icmp .le 6, 3) := by decide +kernel
theorem dX6_statutes_24 : decode cX6_statutes 24 = .ok (.bipush (-2), 2) := by decide +kernel
theorem dX6_statutes_26 : decode cX6_statutes 26 = .ok (.ireturn, 1) := by decide +kernel
theorem dX6_statutes_27 : decode cX6_statutes 27 = .ok (.aload_n 0, 1) := by decide +kernel
theorem dX6_statutes_28 : decode cX6_statutes 28 = .ok (.iload_n 1, 1) := by decide +kernel
theorem dX6_statutes_29 : decode cX6_statutes 29 = .ok (.putfield 84, 3) := by decide +kernel
theorem dX6_statutes_32 : decode cX6_statutes 32 = .ok (.aload_n 0, 1) := by decide +kernel
theorem dX6_statutes_33 : decode cX6_statutes 33 = .ok (.iconst 0, 1) := by decide +kernel
theorem dX6_statutes_34 : decode cX6_statutes 34 = .ok (.putfield 78, 3) := by decide +kernel
theorem dX6_statutes_37 : decode cX6_statutes 37 = .ok (.aload_n 0, 1) := by decide +kernel
theorem dX6_statutes_38 : decode cX6_statutes 38 = .ok (.iconst 0, 1) := by decide +kernel
theorem dX6_statutes_39 : decode cX6_statutes 39 = .ok (.putfield 81, 3) := by decide +kernel
theorem dX6_statutes_42 : decode cX6_statutes 42 = .ok (.aload_n 0, 1) := by decide +kernel
theorem dX6_statutes_43 : decode cX6_statutes 43 = .ok (.iconst (-1), 1) := by decide +kernel
theorem dX6_statutes_44 : decode cX6_statutes 44 = .ok (.putfield 25, 3) := by decide +kernel
theorem dX6_statutes_47 : decode cX6_statutes 47 = .ok (.bipush 6, 2) := by decide +kernel
theorem dX6_statutes_49 : decode cX6_statutes 49 = .ok (.istore_n 2, 1) := by decide +kernel
theorem dX6_statutes_50 : decode cX6_statutes 50 = .ok (.iload_n 2, 1) := by decide +kernel
theorem dX6_statutes_51 : decode cX6_statutes 51 = .ok (.bipush 12, 2) := by decide +kernel
theorem dX6_statutes_53 : decode cX6_statutes 53 = .ok (.if_icmp .ge 16, 3) := by decide +kernel
theorem dX6_statutes_56 : decode cX6_statutes 56 = .ok (.aload_n 0, 1) := by decide +kernel
theorem dX6_statutes_57 : decode cX6_statutes 57 = .ok (.getfield 16, 3) := by decide +kernel
theorem dX6_statutes_60 : decode cX6_statutes 60 = .ok (.iload_n 2, 1) := by decide +kernel
theorem dX6_statutes_61 : decode cX6_statutes 61 = .ok (.iconst 0, 1) := by decide +kernel
theorem dX6_statutes_62 : decode cX6_statutes 62 = .ok (.iastore, 1) := by decide +kernel
theorem dX6_statutes_63 : decode cX6_statutes 63 = .ok (.iinc 2 1, 3) := by decide +kernel
theorem dX6_statutes_66 : decode cX6_statutes 66 = .ok (.goto (-16), 3) := by decide +kernel
theorem dX6_statutes_69 : decode cX6_statutes 69 = .ok (.iconst 4, 1) := by decide +kernel
theorem dX6_statutes_70 : decode cX6_statutes 70 = .ok (.istore_n 2, 1) := by decide +kernel
theorem dX6_statutes_71 : decode cX6_statutes 71 = .ok (.iload_n 2, 1) := by decide +kernel
theorem dX6_statutes_72 : decode cX6_statutes 72 = .ok (.bipush 8, 2) := by decide +kernel
theorem dX6_statutes_74 : decode cX6_statutes 74 = .ok (.if_icmp .ge 16, 3) := by decide +kernel
theorem dX6_statutes_77 : decode cX6_statutes 77 = .ok (.aload_n 0, 1) := by decide +kernel
theorem dX6_statutes_78 : decode cX6_statutes 78 = .ok (.getfield 19, 3) := by decide +kernel
theorem dX6_statutes_81 : decode cX6_statutes 81 = .ok (.iload_n 2, 1) := by decide +kernel
theorem dX6_statutes_82 : decode cX6_statutes 82 = .ok (.iconst (-1), 1) := by decide +kernel
theorem dX6_statutes_83 : decode cX6_statutes 83 = .ok (.iastore, 1) := by decide +kernel
theorem dX6_statutes_84 : decode cX6_statutes 84 = .ok (.iinc 2 1, 3) := by decide +kernel
theorem dX6_statutes_87 : decode cX6_statutes 87 = .ok (.goto (-16), 3) := by decide +kernel
theorem dX6_statutes_90 : decode cX6_statutes 90 = .ok (.aload_n 0, 1) := by decide +kernel
theorem dX6_statutes_91 : decode cX6_statutes 91 = .ok (.iconst 0, 1) := by decide +kernel
theorem dX6_statutes_92 : decode cX6_statutes 92 = .ok (.putfield 87, 3) := by decide +kernel
theorem dX6_statutes_95 : decode cX6_statutes 95 = .ok (.aload_n 0, 1) := by decide +kernel
theorem dX6_statutes_96 : decode cX6_statutes 96 = .ok (.invokevirtual 115, 3) := by decide +kernel
theorem dX6_statutes_99 : decode cX6_statutes 99 = .ok (.aload_n 0, 1) := by decide +kernel
theorem dX6_statutes_100 : decode cX6_statutes 100 = .ok (.getfield 93, 3) := by decide +kernel
theorem dX6_statutes_103 : decode cX6_statutes 103 = .ok (.ifCond .eq 39, 3) := by decide +kernel
theorem dX6_statutes_106 : decode cX6_statutes 106 = .ok (.aload_n 0, 1) := by decide +kernel
theorem dX6_statutes_107 : decode cX6_statutes 107 = .ok (.invokevirtual 136, 3) := by decide +kernel
theorem dX6_statutes_110 : decode cX6_statutes 110 = .ok (.ifCond .ne 5, 3) := by decide +kernel
theorem dX6_statutes_113 : decode cX6_statutes 113 = .ok (.iconst (-1), 1) := by decide +kernel
theorem dX6_statutes_114 : decode cX6_statutes 114 = .ok (.ireturn, 1) := by decide +kernel
theorem dX6_statutes_115 : decode cX6_statutes 115 = .ok (.aload_n 0, 1) := by decide +kernel
theorem dX6_statutes_116 : decode cX6_statutes 116 = .ok (.getfield 93, 3) := by decide +kernel
theorem dX6_statutes_119 : decode cX6_statutes 119 = .ok (.iconst 4, 1) := by decide +kernel
theorem dX6_statutes_120 : decode cX6_statutes 120 = .ok (.if_icmp .eq 15, 3) := by decide +kernel
theorem dX6_statutes_123 : decode cX6_statutes 123 = .ok (.aload_n 0, 1) := by decide +kernel
theorem dX6_statutes_124 : decode cX6_statutes 124 = .ok (.iconst 1, 1) := by decide +kernel
theorem dX6_statutes_125 : decode cX6_statutes 125 = .ok (.aload_n 0, 1) := by decide +kernel
theorem dX6_statutes_126 : decode cX6_statutes 126 = .ok (.getfield 90, 3) := by decide +kernel
theorem dX6_statutes_129 : decode cX6_statutes 129 = .ok (.invokevirtual 111, 3) := by decide +kernel
theorem dX6_statutes_132 : decode cX6_statutes 132 = .ok (.istore_n 2, 1) := by decide +kernel
theorem dX6_statutes_133 : decode cX6_statutes 133 = .ok (.iconst (-1), 1) := by decide +kernel
theorem dX6_statutes_134 : decode cX6_statutes 134 = .ok (.ireturn, 1) := by decide +kernel
theorem dX6_statutes_135 : decode cX6_statutes 135 = .ok (.aload_n 0, 1) := by decide +kernel
theorem dX6_statutes_136 : decode cX6_statutes 136 = .ok (.invokevirtual 115, 3) := by decide +kernel
theorem dX6_statutes_139 : decode cX6_statutes 139 = .ok (.goto (-40), 3) := by decide +kernel
theorem dX6_statutes_142 : decode cX6_statutes 142 = .ok (.aload_n 0, 1) := by decide +kernel
theorem dX6_statutes_143 : decode cX6_statutes 143 = .ok (.iconst 0, 1) := by decide +kernel
theorem dX6_statutes_144 : decode cX6_statutes 144 = .ok (.putfield 139, 3) := by decide +kernel
theorem dX6_statutes_147 : decode cX6_statutes 147 = .ok (.iconst 0, 1) := by decide +kernel
theorem dX6_statutes_148 : decode cX6_statutes 148 = .ok (.istore_n 2, 1) := by decide +kernel
theorem dX6_statutes_149 : decode cX6_statutes 149 = .ok (.iload_n 2, 1) := by decide +kernel
theorem dX6_statutes_150 : decode cX6_statutes 150 = .ok (.bipush 6, 2) := by decide +kernel
theorem dX6_statutes_152 : decode cX6_statutes 152 = .ok (.if_icmp .ge 77, 3) := by decide +kernel
theorem dX6_statutes_155 : decode cX6_statutes 155 = .ok (.aload_n 0, 1) := by decide +kernel
theorem dX6_statutes_156 : decode cX6_statutes 156 = .ok (.getfield 13, 3) := by decide +kernel
theorem dX6_statutes_159 : decode cX6_statutes 159 = .ok (.iload_n 2, 1) := by decide +kernel
theorem dX6_statutes_160 : decode cX6_statutes 160 = .ok (.aload_n 0, 1) := by decide +kernel
theorem dX6_statutes_161 : decode cX6_statutes 161 = .ok (.getfield 13, 3) := by decide +kernel
theorem dX6_statutes_164 : decode cX6_statutes 164 = .ok (.bipush 6, 2) := by decide +kernel
theorem dX6_statutes_166 : decode cX6_statutes 166 = .ok (.iload_n 2, 1) := by decide +kernel
theorem dX6_statutes_167 : decode cX6_statutes 167 = .ok (.iadd, 1) := by decide +kernel
theorem dX6_statutes_168 : decode cX6_statutes 168 = .ok (.iaload, 1) := by decide +kernel
theorem dX6_statutes_169 : decode cX6_statutes 169 = .ok (.iastore, 1) := by decide +kernel
theorem dX6_statutes_170 : decode cX6_statutes 170 = .ok (.aload_n 0, 1) := by decide +kernel
theorem dX6_statutes_171 : decode cX6_statutes 171 = .ok (.getfield 16, 3) := by decide +kernel
theorem dX6_statutes_174 : decode cX6_statutes 174 = .ok (.iload_n 2, 1) := by decide +kernel
theorem dX6_statutes_175 : decode cX6_statutes 175 = .ok (.aload_n 0, 1) := by decide +kernel
theorem dX6_statutes_176 : decode cX6_statutes 176 = .ok (.getfield 16, 3) := by decide +kernel
theorem dX6_statutes_179 : decode cX6_statutes 179 = .ok (.bipush 6, 2) := by decide +kernel
theorem dX6_statutes_181 : decode cX6_statutes 181 = .ok (.iload_n 2, 1) := by decide +kernel
theorem dX6_statutes_182 : decode cX6_statutes 182 = .ok (.iadd, 1) := by decide +kernel
theorem dX6_statutes_183 : decode cX6_statutes 183 = .ok (.iaload, 1) := by decide +kernel
theorem dX6_statutes_184 : decode cX6_statutes 184 = .ok (.iastore, 1) := by decide +kernel
theorem dX6_statutes_185 : decode cX6_statutes 185 = .ok (.iconst 0, 1) := by decide +kernel
theorem dX6_statutes_186 : decode cX6_statutes 186 = .ok (.istore_n 3, 1) := by decide +kernel
theorem dX6_statutes_187 : decode cX6_statutes 187 = .ok (.iload_n 3, 1) := by decide +kernel
theorem dX6_statutes_188 : decode cX6_statutes 188 = .ok (.aload_n 0, 1) := by decide +kernel
theorem dX6_statutes_189 : decode cX6_statutes 189 = .ok (.getfield 16, 3) := by decide +kernel
theorem dX6_statutes_192 : decode cX6_statutes 192 = .ok (.iload_n 2, 1) := by decide +kernel
theorem dX6_statutes_193 : decode cX6_statutes 193 = .ok (.iaload, 1) := by decide +kernel
theorem dX6_statutes_194 : decode cX6_statutes 194 = .ok (.if_icmp .ge 29, 3) := by decide +kernel
theorem dX6_statutes_197 : decode cX6_statutes 197 = .ok (.aload_n 0, 1) := by decide +kernel
theorem dX6_statutes_198 : decode cX6_statutes 198 = .ok (.getfield 22, 3) := by decide +kernel
theorem dX6_statutes_201 : decode cX6_statutes 201 = .ok (.aload_n 0, 1) := by decide +kernel
theorem dX6_statutes_202 : decode cX6_statutes 202 = .ok (.getfield 139, 3) := by decide +kernel
theorem dX6_statutes_205 : decode cX6_statutes 205 = .ok (.iload_n 2, 1) := by decide +kernel
theorem dX6_statutes_206 : decode cX6_statutes 206 = .ok (.iastore, 1) := by decide +kernel
theorem dX6_statutes_207 : decode cX6_statutes 207 = .ok (.aload_n 0, 1) := by decide +kernel
theorem dX6_statutes_208 : decode cX6_statutes 208 = .ok (.dup, 1) := by decide +kernel
theorem dX6_statutes_209 : decode cX6_statutes 209 = .ok (.getfield 139, 3) := by decide +kernel
theorem dX6_statutes_212 : decode cX6_statutes 212 = .ok (.iconst 1, 1) := by decide +kernel
theorem dX6_statutes_213 : decode cX6_statutes 213 = .ok (.iadd, 1) := by decide +kernel
theorem dX6_statutes_214 : decode cX6_statutes 214 = .ok (.putfield 139, 3) := by decide +kernel
theorem dX6_statutes_217 : decode cX6_statutes 217 = .ok (.iinc 3 1, 3) := by decide +kernel
theorem dX6_statutes_220 : decode cX6_statutes 220 = .ok (.goto (-33), 3) := by decide +kernel
theorem dX6_statutes_223 : decode cX6_statutes 223 = .ok (.iinc 2 1, 3) := by decide +kernel
theorem dX6_statutes_226 : decode cX6_statutes 226 = .ok (.goto (-77), 3) := by decide +kernel
theorem dX6_statutes_229 : decode cX6_statutes 229 = .ok (.iconst 0, 1) := by decide +kernel
theorem dX6_statutes_230 : decode cX6_statutes 230 = .ok (.istore_n 2, 1) := by decide +kernel
theorem dX6_statutes_231 : decode cX6_statutes 231 = .ok (.iload_n 2, 1) := by decide +kernel
theorem dX6_statutes_232 : decode cX6_statutes 232 = .ok (.iconst 4, 1) := by decide +kernel
theorem dX6_statutes_233 : decode cX6_statutes 233 = .ok (.if_icmp .ge 38, 3) := by decide +kernel
theorem dX6_statutes_236 : decode cX6_statutes 236 = .ok (.aload_n 0, 1) := by decide +kernel
theorem dX6_statutes_237 : decode cX6_statutes 237 = .ok (.getfield 19, 3) := by decide +kernel
theorem dX6_statutes_240 : decode cX6_statutes 240 = .ok (.iload_n 2, 1) := by decide +kernel
theorem dX6_statutes_241 : decode cX6_statutes 241 = .ok (.aload_n 0, 1) := by decide +kernel
theorem dX6_statutes_242 : decode cX6_statutes 242 = .ok (.getfield 19, 3) := by decide +kernel
theorem dX6_statutes_245 : decode cX6_statutes 245 = .ok (.iconst 4, 1) := by decide +kernel
theorem dX6_statutes_246 : decode cX6_statutes 246 = .ok (.iload_n 2, 1) := by decide +kernel
theorem dX6_statutes_247 : decode cX6_statutes 247 = .ok (.iadd, 1) := by decide +kernel
theorem dX6_statutes_248 : decode cX6_statutes 248 = .ok (.iaload, 1) := by decide +kernel
theorem dX6_statutes_249 : decode cX6_statutes 249 = .ok (.ifCond .ge 7, 3) := by decide +kernel
theorem dX6_statutes_252 : decode cX6_statutes 252 = .ok (.iconst 0, 1) := by decide +kernel
theorem dX6_statutes_253 : decode cX6_statutes 253 = .ok (.goto 11, 3) := by decide +kernel
theorem dX6_statutes_256 : decode cX6_statutes 256 = .ok (.aload_n 0, 1) := by decide +kernel
theorem dX6_statutes_257 : decode cX6_statutes 257 = .ok (.getfield 19, 3) := by decide +kernel
theorem dX6_statutes_260 : decode cX6_statutes 260 = .ok (.iconst 4, 1) := by decide +kernel
theorem dX6_statutes_261 : decode cX6_statutes 261 = .ok (.iload_n 2, 1) := by decide +kernel
theorem dX6_statutes_262 : decode cX6_statutes 262 = .ok (.iadd, 1) := by decide +kernel
theorem dX6_statutes_263 : decode cX6_statutes 263 = .ok (.iaload, 1) := by decide +kernel
theorem dX6_statutes_264 : decode cX6_statutes 264 = .ok (.iastore, 1) := by decide +kernel
theorem dX6_statutes_265 : decode cX6_statutes 265 = .ok (.iinc 2 1, 3) := by decide +kernel
theorem dX6_statutes_268 : decode cX6_statutes 268 = .ok (.goto (-37), 3) := by decide +kernel
theorem dX6_statutes_271 : decode cX6_statutes 271 = .ok (.aload_n 0, 1) := by decide +kernel
theorem dX6_statutes_272 : decode cX6_statutes 272 = .ok (.getfield 139, 3) := by decide +kernel
theorem dX6_statutes_275 : decode cX6_statutes 275 = .ok (.ireturn, 1) := by decide +kernel
theorem dX6_fault_0 : decode cX6_fault 0 = .ok (.aload_n 0, 1) := by decide +kernel
theorem dX6_fault_1 : decode cX6_fault 1 = .ok (.iconst 0, 1) := by decide +kernel
theorem dX6_fault_2 : decode cX6_fault 2 = .ok (.putfield 75, 3) := by decide +kernel
theorem dX6_fault_5 : decode cX6_fault 5 = .ok (.iload_n 1, 1) := by decide +kernel
theorem dX6_fault_6 : decode cX6_fault 6 = .ok (.ifCond .ne 10, 3) := by decide +kernel
theorem dX6_fault_9 : decode cX6_fault 9 = .ok (.aload_n 0, 1) := by decide +kernel
theorem dX6_fault_10 : decode cX6_fault 10 = .ok (.getfield 81, 3) := by decide +kernel
theorem dX6_fault_13 : decode cX6_fault 13 = .ok (.goto 16, 3) := by decide +kernel
theorem dX6_fault_16 : decode cX6_fault 16 = .ok (.iload_n 1, 1) := by decide +kernel
theorem dX6_fault_17 : decode cX6_fault 17 = .ok (.iconst 1, 1) := by decide +kernel
theorem dX6_fault_18 : decode cX6_fault 18 = .ok (.if_icmp .ne 10, 3) := by decide +kernel
theorem dX6_fault_21 : decode cX6_fault 21 = .ok (.aload_n 0, 1) := by decide +kernel
theorem dX6_fault_22 : decode cX6_fault 22 = .ok (.getfield 25, 3) := by decide +kernel
theorem dX6_fault_25 : decode cX6_fault 25 = .ok (.goto 4, 3) := by decide +kernel
theorem dX6_fault_28 : decode cX6_fault 28 = .ok (.iconst (-1), 1) := by decide +kernel
theorem dX6_fault_29 : decode cX6_fault 29 = .ok (.ireturn, 1) := by decide +kernel
theorem dX6_man_0 : decode cX6_man 0 = .ok (.aload_n 0, 1) := by decide +kernel
theorem dX6_man_1 : decode cX6_man 1 = .ok (.iconst 0, 1) := by decide +kernel
theorem dX6_man_2 : decode cX6_man 2 = .ok (.putfield 75, 3) := by decide +kernel
theorem dX6_man_5 : decode cX6_man 5 = .ok (.iload_n 1, 1) := by decide +kernel
theorem dX6_man_6 : decode cX6_man 6 = .ok (.ifCond .lt 28, 3) := by decide +kernel
theorem dX6_man_9 : decode cX6_man 9 = .ok (.iload_n 1, 1) := by decide +kernel
theorem dX6_man_10 : decode cX6_man 10 = .ok (.ldc 131, 2) := by decide +kernel
theorem dX6_man_12 : decode cX6_man 12 = .ok (.if_icmp .gt 22, 3) := by decide +kernel
theorem dX6_man_15 : decode cX6_man 15 = .ok (.iload_n 2, 1) := by decide +kernel
theorem dX6_man_16 : decode cX6_man 16 = .ok (.ifCond .lt 18, 3) := by decide +kernel
theorem dX6_man_19 : decode cX6_man 19 = .ok (.iload_n 2, 1) := by decide +kernel
theorem dX6_man_20 : decode cX6_man 20 = .ok (.ldc 131, 2) := by decide +kernel
theorem dX6_man_22 : decode cX6_man 22 = .ok (.if_icmp .gt 12, 3) := by decide +kernel
