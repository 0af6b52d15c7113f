theorem d_La_law_0 : decode code 0 = .ok (.new 7, 3) := by decide +kernel
theorem d_La_law_3 : decode code 3 = .ok (.dup, 1) := by decide +kernel
theorem d_La_law_4 : decode code 4 = .ok (.invokespecial 9, 3) := by decide +kernel
theorem d_La_law_7 : decode code 7 = .ok (.astore_n 1, 1) := by decide +kernel
theorem d_La_law_8 : decode code 8 = .ok (.new 10, 3) := by decide +kernel
theorem d_La_law_11 : decode code 11 = .ok (.dup, 1) := by decide +kernel
theorem d_La_law_12 : decode code 12 = .ok (.invokespecial 12, 3) := by decide +kernel
theorem d_La_law_15 : decode code 15 = .ok (.astore_n 2, 1) := by decide +kernel
theorem d_La_law_16 : decode code 16 = .ok (.iconst 0, 1) := by decide +kernel
theorem d_La_law_17 : decode code 17 = .ok (.istore_n 3, 1) := by decide +kernel
theorem d_La_law_18 : decode code 18 = .ok (.iload_n 3, 1) := by decide +kernel
theorem d_La_law_19 : decode code 19 = .ok (.aload_n 0, 1) := by decide +kernel
theorem d_La_law_20 : decode code 20 = .ok (.arraylength, 1) := by decide +kernel
theorem d_La_law_21 : decode code 21 = .ok (.bipush (7), 2) := by decide +kernel
theorem d_La_law_23 : decode code 23 = .ok (.isub, 1) := by decide +kernel
theorem d_La_law_24 : decode code 24 = .ok (.if_icmp .gt (708), 3) := by decide +kernel
theorem d_La_law_27 : decode code 27 = .ok (.aload_n 0, 1) := by decide +kernel
theorem d_La_law_28 : decode code 28 = .ok (.iload_n 3, 1) := by decide +kernel
theorem d_La_law_29 : decode code 29 = .ok (.iaload, 1) := by decide +kernel
theorem d_La_law_30 : decode code 30 = .ok (.bipush (31), 2) := by decide +kernel
theorem d_La_law_32 : decode code 32 = .ok (.iand, 1) := by decide +kernel
theorem d_La_law_33 : decode code 33 = .ok (.tableswitch (693) 0 19 #[95, 118, 167, 190, 213, 236, 259, 334, 367, 390, 433, 456, 479, 512, 545, 568, 591, 614, 647, 670], 95) := by decide +kernel
theorem d_La_law_128 : decode code 128 = .ok (.aload_n 1, 1) := by decide +kernel
theorem d_La_law_129 : decode code 129 = .ok (.aload_n 0, 1) := by decide +kernel
theorem d_La_law_130 : decode code 130 = .ok (.iload_n 3, 1) := by decide +kernel
theorem d_La_law_131 : decode code 131 = .ok (.iconst 1, 1) := by decide +kernel
theorem d_La_law_132 : decode code 132 = .ok (.iadd, 1) := by decide +kernel
theorem d_La_law_133 : decode code 133 = .ok (.iaload, 1) := by decide +kernel
theorem d_La_law_134 : decode code 134 = .ok (.invokevirtual 13, 3) := by decide +kernel
theorem d_La_law_137 : decode code 137 = .ok (.aload_n 2, 1) := by decide +kernel
theorem d_La_law_138 : decode code 138 = .ok (.aload_n 0, 1) := by decide +kernel
theorem d_La_law_139 : decode code 139 = .ok (.iload_n 3, 1) := by decide +kernel
theorem d_La_law_140 : decode code 140 = .ok (.iconst 1, 1) := by decide +kernel
theorem d_La_law_141 : decode code 141 = .ok (.iadd, 1) := by decide +kernel
theorem d_La_law_142 : decode code 142 = .ok (.iaload, 1) := by decide +kernel
theorem d_La_law_143 : decode code 143 = .ok (.invokevirtual 17, 3) := by decide +kernel
theorem d_La_law_146 : decode code 146 = .ok (.if_icmp .eq (580), 3) := by decide +kernel
theorem d_La_law_149 : decode code 149 = .ok (.iconst 0, 1) := by decide +kernel
theorem d_La_law_150 : decode code 150 = .ok (.ireturn, 1) := by decide +kernel
theorem d_La_law_151 : decode code 151 = .ok (.aload_n 1, 1) := by decide +kernel
theorem d_La_law_152 : decode code 152 = .ok (.aload_n 0, 1) := by decide +kernel
theorem d_La_law_153 : decode code 153 = .ok (.iload_n 3, 1) := by decide +kernel
theorem d_La_law_154 : decode code 154 = .ok (.iconst 1, 1) := by decide +kernel
theorem d_La_law_155 : decode code 155 = .ok (.iadd, 1) := by decide +kernel
theorem d_La_law_156 : decode code 156 = .ok (.iaload, 1) := by decide +kernel
theorem d_La_law_157 : decode code 157 = .ok (.aload_n 0, 1) := by decide +kernel
theorem d_La_law_158 : decode code 158 = .ok (.iload_n 3, 1) := by decide +kernel
theorem d_La_law_159 : decode code 159 = .ok (.iconst 2, 1) := by decide +kernel
theorem d_La_law_160 : decode code 160 = .ok (.iadd, 1) := by decide +kernel
theorem d_La_law_161 : decode code 161 = .ok (.iaload, 1) := by decide +kernel
theorem d_La_law_162 : decode code 162 = .ok (.ifCond .eq (7), 3) := by decide +kernel
theorem d_La_law_165 : decode code 165 = .ok (.iconst 1, 1) := by decide +kernel
theorem d_La_law_166 : decode code 166 = .ok (.goto (4), 3) := by decide +kernel
theorem d_La_law_169 : decode code 169 = .ok (.iconst 0, 1) := by decide +kernel
theorem d_La_law_170 : decode code 170 = .ok (.invokevirtual 18, 3) := by decide +kernel
theorem d_La_law_173 : decode code 173 = .ok (.aload_n 2, 1) := by decide +kernel
theorem d_La_law_174 : decode code 174 = .ok (.aload_n 0, 1) := by decide +kernel
theorem d_La_law_175 : decode code 175 = .ok (.iload_n 3, 1) := by decide +kernel
theorem d_La_law_176 : decode code 176 = .ok (.iconst 1, 1) := by decide +kernel
theorem d_La_law_177 : decode code 177 = .ok (.iadd, 1) := by decide +kernel
theorem d_La_law_178 : decode code 178 = .ok (.iaload, 1) := by decide +kernel
theorem d_La_law_179 : decode code 179 = .ok (.aload_n 0, 1) := by decide +kernel
theorem d_La_law_180 : decode code 180 = .ok (.iload_n 3, 1) := by decide +kernel
theorem d_La_law_181 : decode code 181 = .ok (.iconst 2, 1) := by decide +kernel
theorem d_La_law_182 : decode code 182 = .ok (.iadd, 1) := by decide +kernel
theorem d_La_law_183 : decode code 183 = .ok (.iaload, 1) := by decide +kernel
theorem d_La_law_184 : decode code 184 = .ok (.ifCond .eq (7), 3) := by decide +kernel
theorem d_La_law_187 : decode code 187 = .ok (.iconst 1, 1) := by decide +kernel
theorem d_La_law_188 : decode code 188 = .ok (.goto (4), 3) := by decide +kernel
theorem d_La_law_191 : decode code 191 = .ok (.iconst 0, 1) := by decide +kernel
theorem d_La_law_192 : decode code 192 = .ok (.invokevirtual 22, 3) := by decide +kernel
theorem d_La_law_195 : decode code 195 = .ok (.if_icmp .eq (531), 3) := by decide +kernel
theorem d_La_law_198 : decode code 198 = .ok (.iconst 0, 1) := by decide +kernel
theorem d_La_law_199 : decode code 199 = .ok (.ireturn, 1) := by decide +kernel
theorem d_La_law_200 : decode code 200 = .ok (.aload_n 1, 1) := by decide +kernel
theorem d_La_law_201 : decode code 201 = .ok (.aload_n 0, 1) := by decide +kernel
theorem d_La_law_202 : decode code 202 = .ok (.iload_n 3, 1) := by decide +kernel
theorem d_La_law_203 : decode code 203 = .ok (.iconst 1, 1) := by decide +kernel
theorem d_La_law_204 : decode code 204 = .ok (.iadd, 1) := by decide +kernel
theorem d_La_law_205 : decode code 205 = .ok (.iaload, 1) := by decide +kernel
theorem d_La_law_206 : decode code 206 = .ok (.invokevirtual 23, 3) := by decide +kernel
theorem d_La_law_209 : decode code 209 = .ok (.aload_n 2, 1) := by decide +kernel
theorem d_La_law_210 : decode code 210 = .ok (.aload_n 0, 1) := by decide +kernel
theorem d_La_law_211 : decode code 211 = .ok (.iload_n 3, 1) := by decide +kernel
theorem d_La_law_212 : decode code 212 = .ok (.iconst 1, 1) := by decide +kernel
theorem d_La_law_213 : decode code 213 = .ok (.iadd, 1) := by decide +kernel
theorem d_La_law_214 : decode code 214 = .ok (.iaload, 1) := by decide +kernel
theorem d_La_law_215 : decode code 215 = .ok (.invokevirtual 26, 3) := by decide +kernel
theorem d_La_law_218 : decode code 218 = .ok (.if_icmp .eq (508), 3) := by decide +kernel
theorem d_La_law_221 : decode code 221 = .ok (.iconst 0, 1) := by decide +kernel
theorem d_La_law_222 : decode code 222 = .ok (.ireturn, 1) := by decide +kernel
theorem d_La_law_223 : decode code 223 = .ok (.aload_n 1, 1) := by decide +kernel
theorem d_La_law_224 : decode code 224 = .ok (.aload_n 0, 1) := by decide +kernel
theorem d_La_law_225 : decode code 225 = .ok (.iload_n 3, 1) := by decide +kernel
theorem d_La_law_226 : decode code 226 = .ok (.iconst 1, 1) := by decide +kernel
theorem d_La_law_227 : decode code 227 = .ok (.iadd, 1) := by decide +kernel
theorem d_La_law_228 : decode code 228 = .ok (.iaload, 1) := by decide +kernel
theorem d_La_law_229 : decode code 229 = .ok (.invokevirtual 27, 3) := by decide +kernel
theorem d_La_law_232 : decode code 232 = .ok (.aload_n 2, 1) := by decide +kernel
theorem d_La_law_233 : decode code 233 = .ok (.aload_n 0, 1) := by decide +kernel
theorem d_La_law_234 : decode code 234 = .ok (.iload_n 3, 1) := by decide +kernel
theorem d_La_law_235 : decode code 235 = .ok (.iconst 1, 1) := by decide +kernel
theorem d_La_law_236 : decode code 236 = .ok (.iadd, 1) := by decide +kernel
theorem d_La_law_237 : decode code 237 = .ok (.iaload, 1) := by decide +kernel
theorem d_La_law_238 : decode code 238 = .ok (.invokevirtual 30, 3) := by decide +kernel
theorem d_La_law_241 : decode code 241 = .ok (.if_icmp .eq (485), 3) := by decide +kernel
theorem d_La_law_244 : decode code 244 = .ok (.iconst 0, 1) := by decide +kernel
theorem d_La_law_245 : decode code 245 = .ok (.ireturn, 1) := by decide +kernel
theorem d_La_law_246 : decode code 246 = .ok (.aload_n 1, 1) := by decide +kernel
theorem d_La_law_247 : decode code 247 = .ok (.aload_n 0, 1) := by decide +kernel
theorem d_La_law_248 : decode code 248 = .ok (.iload_n 3, 1) := by decide +kernel
theorem d_La_law_249 : decode code 249 = .ok (.iconst 1, 1) := by decide +kernel
theorem d_La_law_250 : decode code 250 = .ok (.iadd, 1) := by decide +kernel
theorem d_La_law_251 : decode code 251 = .ok (.iaload, 1) := by decide +kernel
theorem d_La_law_252 : decode code 252 = .ok (.invokevirtual 31, 3) := by decide +kernel
theorem d_La_law_255 : decode code 255 = .ok (.aload_n 2, 1) := by decide +kernel
theorem d_La_law_256 : decode code 256 = .ok (.aload_n 0, 1) := by decide +kernel
theorem d_La_law_257 : decode code 257 = .ok (.iload_n 3, 1) := by decide +kernel
theorem d_La_law_258 : decode code 258 = .ok (.iconst 1, 1) := by decide +kernel
theorem d_La_law_259 : decode code 259 = .ok (.iadd, 1) := by decide +kernel
theorem d_La_law_260 : decode code 260 = .ok (.iaload, 1) := by decide +kernel
theorem d_La_law_261 : decode code 261 = .ok (.invokevirtual 34, 3) := by decide +kernel
theorem d_La_law_264 : decode code 264 = .ok (.if_icmp .eq (462), 3) := by decide +kernel
theorem d_La_law_267 : decode code 267 = .ok (.iconst 0, 1) := by decide +kernel
theorem d_La_law_268 : decode code 268 = .ok (.ireturn, 1) := by decide +kernel
theorem d_La_law_269 : decode code 269 = .ok (.aload_n 1, 1) := by decide +kernel
theorem d_La_law_270 : decode code 270 = .ok (.aload_n 0, 1) := by decide +kernel
theorem d_La_law_271 : decode code 271 = .ok (.iload_n 3, 1) := by decide +kernel
theorem d_La_law_272 : decode code 272 = .ok (.iconst 1, 1) := by decide +kernel
theorem d_La_law_273 : decode code 273 = .ok (.iadd, 1) := by decide +kernel
theorem d_La_law_274 : decode code 274 = .ok (.iaload, 1) := by decide +kernel
theorem d_La_law_275 : decode code 275 = .ok (.invokevirtual 35, 3) := by decide +kernel
theorem d_La_law_278 : decode code 278 = .ok (.aload_n 2, 1) := by decide +kernel
theorem d_La_law_279 : decode code 279 = .ok (.aload_n 0, 1) := by decide +kernel
theorem d_La_law_280 : decode code 280 = .ok (.iload_n 3, 1) := by decide +kernel
theorem d_La_law_281 : decode code 281 = .ok (.iconst 1, 1) := by decide +kernel
theorem d_La_law_282 : decode code 282 = .ok (.iadd, 1) := by decide +kernel
theorem d_La_law_283 : decode code 283 = .ok (.iaload, 1) := by decide +kernel
theorem d_La_law_284 : decode code 284 = .ok (.invokevirtual 38, 3) := by decide +kernel
theorem d_La_law_287 : decode code 287 = .ok (.if_icmp .eq (439), 3) := by decide +kernel
theorem d_La_law_290 : decode code 290 = .ok (.iconst 0, 1) := by decide +kernel
theorem d_La_law_291 : decode code 291 = .ok (.ireturn, 1) := by decide +kernel
theorem d_La_law_292 : decode code 292 = .ok (.aload_n 1, 1) := by decide +kernel
theorem d_La_law_293 : decode code 293 = .ok (.aload_n 0, 1) := by decide +kernel
theorem d_La_law_294 : decode code 294 = .ok (.iload_n 3, 1) := by decide +kernel
theorem d_La_law_295 : decode code 295 = .ok (.iconst 1, 1) := by decide +kernel
theorem d_La_law_296 : decode code 296 = .ok (.iadd, 1) := by decide +kernel
theorem d_La_law_297 : decode code 297 = .ok (.iaload, 1) := by decide +kernel
theorem d_La_law_298 : decode code 298 = .ok (.aload_n 0, 1) := by decide +kernel
theorem d_La_law_299 : decode code 299 = .ok (.iload_n 3, 1) := by decide +kernel
theorem d_La_law_300 : decode code 300 = .ok (.iconst 2, 1) := by decide +kernel
theorem d_La_law_301 : decode code 301 = .ok (.iadd, 1) := by decide +kernel
theorem d_La_law_302 : decode code 302 = .ok (.iaload, 1) := by decide +kernel
theorem d_La_law_303 : decode code 303 = .ok (.aload_n 0, 1) := by decide +kernel
theorem d_La_law_304 : decode code 304 = .ok (.iload_n 3, 1) := by decide +kernel
theorem d_La_law_305 : decode code 305 = .ok (.iconst 3, 1) := by decide +kernel
theorem d_La_law_306 : decode code 306 = .ok (.iadd, 1) := by decide +kernel
theorem d_La_law_307 : decode code 307 = .ok (.iaload, 1) := by decide +kernel
theorem d_La_law_308 : decode code 308 = .ok (.aload_n 0, 1) := by decide +kernel
theorem d_La_law_309 : decode code 309 = .ok (.iload_n 3, 1) := by decide +kernel
theorem d_La_law_310 : decode code 310 = .ok (.iconst 4, 1) := by decide +kernel
theorem d_La_law_311 : decode code 311 = .ok (.iadd, 1) := by decide +kernel
theorem d_La_law_312 : decode code 312 = .ok (.iaload, 1) := by decide +kernel
theorem d_La_law_313 : decode code 313 = .ok (.aload_n 0, 1) := by decide +kernel
theorem d_La_law_314 : decode code 314 = .ok (.iload_n 3, 1) := by decide +kernel
theorem d_La_law_315 : decode code 315 = .ok (.iconst 5, 1) := by decide +kernel
theorem d_La_law_316 : decode code 316 = .ok (.iadd, 1) := by decide +kernel
theorem d_La_law_317 : decode code 317 = .ok (.iaload, 1) := by decide +kernel
theorem d_La_law_318 : decode code 318 = .ok (.aload_n 0, 1) := by decide +kernel
theorem d_La_law_319 : decode code 319 = .ok (.iload_n 3, 1) := by decide +kernel
theorem d_La_law_320 : decode code 320 = .ok (.bipush (6), 2) := by decide +kernel
theorem d_La_law_322 : decode code 322 = .ok (.iadd, 1) := by decide +kernel
theorem d_La_law_323 : decode code 323 = .ok (.iaload, 1) := by decide +kernel
theorem d_La_law_324 : decode code 324 = .ok (.invokevirtual 39, 3) := by decide +kernel
theorem d_La_law_327 : decode code 327 = .ok (.aload_n 2, 1) := by decide +kernel
theorem d_La_law_328 : decode code 328 = .ok (.aload_n 0, 1) := by decide +kernel
theorem d_La_law_329 : decode code 329 = .ok (.iload_n 3, 1) := by decide +kernel
theorem d_La_law_330 : decode code 330 = .ok (.iconst 1, 1) := by decide +kernel
theorem d_La_law_331 : decode code 331 = .ok (.iadd, 1) := by decide +kernel
theorem d_La_law_332 : decode code 332 = .ok (.iaload, 1) := by decide +kernel
theorem d_La_law_333 : decode code 333 = .ok (.aload_n 0, 1) := by decide +kernel
theorem d_La_law_334 : decode code 334 = .ok (.iload_n 3, 1) := by decide +kernel
theorem d_La_law_335 : decode code 335 = .ok (.iconst 2, 1) := by decide +kernel
theorem d_La_law_336 : decode code 336 = .ok (.iadd, 1) := by decide +kernel
theorem d_La_law_337 : decode code 337 = .ok (.iaload, 1) := by decide +kernel
theorem d_La_law_338 : decode code 338 = .ok (.aload_n 0, 1) := by decide +kernel
theorem d_La_law_339 : decode code 339 = .ok (.iload_n 3, 1) := by decide +kernel
theorem d_La_law_340 : decode code 340 = .ok (.iconst 3, 1) := by decide +kernel
theorem d_La_law_341 : decode code 341 = .ok (.iadd, 1) := by decide +kernel
theorem d_La_law_342 : decode code 342 = .ok (.iaload, 1) := by decide +kernel
theorem d_La_law_343 : decode code 343 = .ok (.aload_n 0, 1) := by decide +kernel
theorem d_La_law_344 : decode code 344 = .ok (.iload_n 3, 1) := by decide +kernel
theorem d_La_law_345 : decode code 345 = .ok (.iconst 4, 1) := by decide +kernel
theorem d_La_law_346 : decode code 346 = .ok (.iadd, 1) := by decide +kernel
theorem d_La_law_347 : decode code 347 = .ok (.iaload, 1) := by decide +kernel
theorem d_La_law_348 : decode code 348 = .ok (.aload_n 0, 1) := by decide +kernel
theorem d_La_law_349 : decode code 349 = .ok (.iload_n 3, 1) := by decide +kernel
theorem d_La_law_350 : decode code 350 = .ok (.iconst 5, 1) := by decide +kernel
theorem d_La_law_351 : decode code 351 = .ok (.iadd, 1) := by decide +kernel
theorem d_La_law_352 : decode code 352 = .ok (.iaload, 1) := by decide +kernel
theorem d_La_law_353 : decode code 353 = .ok (.aload_n 0, 1) := by decide +kernel
theorem d_La_law_354 : decode code 354 = .ok (.iload_n 3, 1) := by decide +kernel
theorem d_La_law_355 : decode code 355 = .ok (.bipush (6), 2) := by decide +kernel
theorem d_La_law_357 : decode code 357 = .ok (.iadd, 1) := by decide +kernel
theorem d_La_law_358 : decode code 358 = .ok (.iaload, 1) := by decide +kernel
theorem d_La_law_359 : decode code 359 = .ok (.invokevirtual 43, 3) := by decide +kernel
theorem d_La_law_362 : decode code 362 = .ok (.if_icmp .eq (364), 3) := by decide +kernel
theorem d_La_law_365 : decode code 365 = .ok (.iconst 0, 1) := by decide +kernel
theorem d_La_law_366 : decode code 366 = .ok (.ireturn, 1) := by decide +kernel
theorem d_La_law_367 : decode code 367 = .ok (.aload_n 1, 1) := by decide +kernel
theorem d_La_law_368 : decode code 368 = .ok (.aload_n 0, 1) := by decide +kernel
theorem d_La_law_369 : decode code 369 = .ok (.iload_n 3, 1) := by decide +kernel
theorem d_La_law_370 : decode code 370 = .ok (.iconst 1, 1) := by decide +kernel
theorem d_La_law_371 : decode code 371 = .ok (.iadd, 1) := by decide +kernel
theorem d_La_law_372 : decode code 372 = .ok (.iaload, 1) := by decide +kernel
theorem d_La_law_373 : decode code 373 = .ok (.aload_n 0, 1) := by decide +kernel
theorem d_La_law_374 : decode code 374 = .ok (.iload_n 3, 1) := by decide +kernel
theorem d_La_law_375 : decode code 375 = .ok (.iconst 2, 1) := by decide +kernel
theorem d_La_law_376 : decode code 376 = .ok (.iadd, 1) := by decide +kernel
theorem d_La_law_377 : decode code 377 = .ok (.iaload, 1) := by decide +kernel
theorem d_La_law_378 : decode code 378 = .ok (.invokevirtual 44, 3) := by decide +kernel
theorem d_La_law_381 : decode code 381 = .ok (.aload_n 2, 1) := by decide +kernel
theorem d_La_law_382 : decode code 382 = .ok (.aload_n 0, 1) := by decide +kernel
theorem d_La_law_383 : decode code 383 = .ok (.iload_n 3, 1) := by decide +kernel
theorem d_La_law_384 : decode code 384 = .ok (.iconst 1, 1) := by decide +kernel
theorem d_La_law_385 : decode code 385 = .ok (.iadd, 1) := by decide +kernel
theorem d_La_law_386 : decode code 386 = .ok (.iaload, 1) := by decide +kernel
theorem d_La_law_387 : decode code 387 = .ok (.aload_n 0, 1) := by decide +kernel
theorem d_La_law_388 : decode code 388 = .ok (.iload_n 3, 1) := by decide +kernel
theorem d_La_law_389 : decode code 389 = .ok (.iconst 2, 1) := by decide +kernel
theorem d_La_law_390 : decode code 390 = .ok (.iadd, 1) := by decide +kernel
theorem d_La_law_391 : decode code 391 = .ok (.iaload, 1) := by decide +kernel
theorem d_La_law_392 : decode code 392 = .ok (.invokevirtual 48, 3) := by decide +kernel
theorem d_La_law_395 : decode code 395 = .ok (.if_icmp .eq (331), 3) := by decide +kernel
theorem d_La_law_398 : decode code 398 = .ok (.iconst 0, 1) := by decide +kernel
theorem d_La_law_399 : decode code 399 = .ok (.ireturn, 1) := by decide +kernel
theorem d_La_law_400 : decode code 400 = .ok (.aload_n 1, 1) := by decide +kernel
theorem d_La_law_401 : decode code 401 = .ok (.aload_n 0, 1) := by decide +kernel
theorem d_La_law_402 : decode code 402 = .ok (.iload_n 3, 1) := by decide +kernel
theorem d_La_law_403 : decode code 403 = .ok (.iconst 1, 1) := by decide +kernel
theorem d_La_law_404 : decode code 404 = .ok (.iadd, 1) := by decide +kernel
theorem d_La_law_405 : decode code 405 = .ok (.iaload, 1) := by decide +kernel
theorem d_La_law_406 : decode code 406 = .ok (.invokevirtual 49, 3) := by decide +kernel
theorem d_La_law_409 : decode code 409 = .ok (.aload_n 2, 1) := by decide +kernel
theorem d_La_law_410 : decode code 410 = .ok (.aload_n 0, 1) := by decide +kernel
theorem d_La_law_411 : decode code 411 = .ok (.iload_n 3, 1) := by decide +kernel
theorem d_La_law_412 : decode code 412 = .ok (.iconst 1, 1) := by decide +kernel
theorem d_La_law_413 : decode code 413 = .ok (.iadd, 1) := by decide +kernel
theorem d_La_law_414 : decode code 414 = .ok (.iaload, 1) := by decide +kernel
theorem d_La_law_415 : decode code 415 = .ok (.invokevirtual 52, 3) := by decide +kernel
theorem d_La_law_418 : decode code 418 = .ok (.if_icmp .eq (308), 3) := by decide +kernel
theorem d_La_law_421 : decode code 421 = .ok (.iconst 0, 1) := by decide +kernel
theorem d_La_law_422 : decode code 422 = .ok (.ireturn, 1) := by decide +kernel
theorem d_La_law_423 : decode code 423 = .ok (.aload_n 1, 1) := by decide +kernel
theorem d_La_law_424 : decode code 424 = .ok (.aload_n 0, 1) := by decide +kernel
theorem d_La_law_425 : decode code 425 = .ok (.iload_n 3, 1) := by decide +kernel
theorem d_La_law_426 : decode code 426 = .ok (.iconst 1, 1) := by decide +kernel
theorem d_La_law_427 : decode code 427 = .ok (.iadd, 1) := by decide +kernel
theorem d_La_law_428 : decode code 428 = .ok (.iaload, 1) := by decide +kernel
theorem d_La_law_429 : decode code 429 = .ok (.aload_n 0, 1) := by decide +kernel
theorem d_La_law_430 : decode code 430 = .ok (.iload_n 3, 1) := by decide +kernel
theorem d_La_law_431 : decode code 431 = .ok (.iconst 2, 1) := by decide +kernel
theorem d_La_law_432 : decode code 432 = .ok (.iadd, 1) := by decide +kernel
theorem d_La_law_433 : decode code 433 = .ok (.iaload, 1) := by decide +kernel
theorem d_La_law_434 : decode code 434 = .ok (.aload_n 0, 1) := by decide +kernel
theorem d_La_law_435 : decode code 435 = .ok (.iload_n 3, 1) := by decide +kernel
theorem d_La_law_436 : decode code 436 = .ok (.iconst 3, 1) := by decide +kernel
theorem d_La_law_437 : decode code 437 = .ok (.iadd, 1) := by decide +kernel
theorem d_La_law_438 : decode code 438 = .ok (.iaload, 1) := by decide +kernel
theorem d_La_law_439 : decode code 439 = .ok (.invokevirtual 53, 3) := by decide +kernel
theorem d_La_law_442 : decode code 442 = .ok (.aload_n 2, 1) := by decide +kernel
theorem d_La_law_443 : decode code 443 = .ok (.aload_n 0, 1) := by decide +kernel
theorem d_La_law_444 : decode code 444 = .ok (.iload_n 3, 1) := by decide +kernel
theorem d_La_law_445 : decode code 445 = .ok (.iconst 1, 1) := by decide +kernel
theorem d_La_law_446 : decode code 446 = .ok (.iadd, 1) := by decide +kernel
theorem d_La_law_447 : decode code 447 = .ok (.iaload, 1) := by decide +kernel
theorem d_La_law_448 : decode code 448 = .ok (.aload_n 0, 1) := by decide +kernel
theorem d_La_law_449 : decode code 449 = .ok (.iload_n 3, 1) := by decide +kernel
theorem d_La_law_450 : decode code 450 = .ok (.iconst 2, 1) := by decide +kernel
theorem d_La_law_451 : decode code 451 = .ok (.iadd, 1) := by decide +kernel
theorem d_La_law_452 : decode code 452 = .ok (.iaload, 1) := by decide +kernel
theorem d_La_law_453 : decode code 453 = .ok (.aload_n 0, 1) := by decide +kernel
theorem d_La_law_454 : decode code 454 = .ok (.iload_n 3, 1) := by decide +kernel
theorem d_La_law_455 : decode code 455 = .ok (.iconst 3, 1) := by decide +kernel
theorem d_La_law_456 : decode code 456 = .ok (.iadd, 1) := by decide +kernel
theorem d_La_law_457 : decode code 457 = .ok (.iaload, 1) := by decide +kernel
theorem d_La_law_458 : decode code 458 = .ok (.invokevirtual 57, 3) := by decide +kernel
theorem d_La_law_461 : decode code 461 = .ok (.if_icmp .eq (265), 3) := by decide +kernel
theorem d_La_law_464 : decode code 464 = .ok (.iconst 0, 1) := by decide +kernel
theorem d_La_law_465 : decode code 465 = .ok (.ireturn, 1) := by decide +kernel
theorem d_La_law_466 : decode code 466 = .ok (.aload_n 1, 1) := by decide +kernel
theorem d_La_law_467 : decode code 467 = .ok (.aload_n 0, 1) := by decide +kernel
theorem d_La_law_468 : decode code 468 = .ok (.iload_n 3, 1) := by decide +kernel
theorem d_La_law_469 : decode code 469 = .ok (.iconst 1, 1) := by decide +kernel
theorem d_La_law_470 : decode code 470 = .ok (.iadd, 1) := by decide +kernel
theorem d_La_law_471 : decode code 471 = .ok (.iaload, 1) := by decide +kernel
theorem d_La_law_472 : decode code 472 = .ok (.invokevirtual 58, 3) := by decide +kernel
theorem d_La_law_475 : decode code 475 = .ok (.aload_n 2, 1) := by decide +kernel
theorem d_La_law_476 : decode code 476 = .ok (.aload_n 0, 1) := by decide +kernel
theorem d_La_law_477 : decode code 477 = .ok (.iload_n 3, 1) := by decide +kernel
theorem d_La_law_478 : decode code 478 = .ok (.iconst 1, 1) := by decide +kernel
theorem d_La_law_479 : decode code 479 = .ok (.iadd, 1) := by decide +kernel
theorem d_La_law_480 : decode code 480 = .ok (.iaload, 1) := by decide +kernel
theorem d_La_law_481 : decode code 481 = .ok (.invokevirtual 61, 3) := by decide +kernel
theorem d_La_law_484 : decode code 484 = .ok (.if_icmp .eq (242), 3) := by decide +kernel
theorem d_La_law_487 : decode code 487 = .ok (.iconst 0, 1) := by decide +kernel
theorem d_La_law_488 : decode code 488 = .ok (.ireturn, 1) := by decide +kernel
theorem d_La_law_489 : decode code 489 = .ok (.aload_n 1, 1) := by decide +kernel
theorem d_La_law_490 : decode code 490 = .ok (.aload_n 0, 1) := by decide +kernel
theorem d_La_law_491 : decode code 491 = .ok (.iload_n 3, 1) := by decide +kernel
theorem d_La_law_492 : decode code 492 = .ok (.iconst 1, 1) := by decide +kernel
theorem d_La_law_493 : decode code 493 = .ok (.iadd, 1) := by decide +kernel
theorem d_La_law_494 : decode code 494 = .ok (.iaload, 1) := by decide +kernel
theorem d_La_law_495 : decode code 495 = .ok (.invokevirtual 62, 3) := by decide +kernel
theorem d_La_law_498 : decode code 498 = .ok (.aload_n 2, 1) := by decide +kernel
theorem d_La_law_499 : decode code 499 = .ok (.aload_n 0, 1) := by decide +kernel
theorem d_La_law_500 : decode code 500 = .ok (.iload_n 3, 1) := by decide +kernel
theorem d_La_law_501 : decode code 501 = .ok (.iconst 1, 1) := by decide +kernel
theorem d_La_law_502 : decode code 502 = .ok (.iadd, 1) := by decide +kernel
theorem d_La_law_503 : decode code 503 = .ok (.iaload, 1) := by decide +kernel
theorem d_La_law_504 : decode code 504 = .ok (.invokevirtual 65, 3) := by decide +kernel
theorem d_La_law_507 : decode code 507 = .ok (.if_icmp .eq (219), 3) := by decide +kernel
theorem d_La_law_510 : decode code 510 = .ok (.iconst 0, 1) := by decide +kernel
theorem d_La_law_511 : decode code 511 = .ok (.ireturn, 1) := by decide +kernel
theorem d_La_law_512 : decode code 512 = .ok (.aload_n 1, 1) := by decide +kernel
theorem d_La_law_513 : decode code 513 = .ok (.aload_n 0, 1) := by decide +kernel
theorem d_La_law_514 : decode code 514 = .ok (.iload_n 3, 1) := by decide +kernel
theorem d_La_law_515 : decode code 515 = .ok (.iconst 1, 1) := by decide +kernel
theorem d_La_law_516 : decode code 516 = .ok (.iadd, 1) := by decide +kernel
theorem d_La_law_517 : decode code 517 = .ok (.iaload, 1) := by decide +kernel
theorem d_La_law_518 : decode code 518 = .ok (.aload_n 0, 1) := by decide +kernel
theorem d_La_law_519 : decode code 519 = .ok (.iload_n 3, 1) := by decide +kernel
theorem d_La_law_520 : decode code 520 = .ok (.iconst 2, 1) := by decide +kernel
theorem d_La_law_521 : decode code 521 = .ok (.iadd, 1) := by decide +kernel
theorem d_La_law_522 : decode code 522 = .ok (.iaload, 1) := by decide +kernel
theorem d_La_law_523 : decode code 523 = .ok (.invokevirtual 66, 3) := by decide +kernel
theorem d_La_law_526 : decode code 526 = .ok (.aload_n 2, 1) := by decide +kernel
theorem d_La_law_527 : decode code 527 = .ok (.aload_n 0, 1) := by decide +kernel
theorem d_La_law_528 : decode code 528 = .ok (.iload_n 3, 1) := by decide +kernel
theorem d_La_law_529 : decode code 529 = .ok (.iconst 1, 1) := by decide +kernel
theorem d_La_law_530 : decode code 530 = .ok (.iadd, 1) := by decide +kernel
theorem d_La_law_531 : decode code 531 = .ok (.iaload, 1) := by decide +kernel
theorem d_La_law_532 : decode code 532 = .ok (.aload_n 0, 1) := by decide +kernel
theorem d_La_law_533 : decode code 533 = .ok (.iload_n 3, 1) := by decide +kernel
theorem d_La_law_534 : decode code 534 = .ok (.iconst 2, 1) := by decide +kernel
theorem d_La_law_535 : decode code 535 = .ok (.iadd, 1) := by decide +kernel
theorem d_La_law_536 : decode code 536 = .ok (.iaload, 1) := by decide +kernel
theorem d_La_law_537 : decode code 537 = .ok (.invokevirtual 69, 3) := by decide +kernel
theorem d_La_law_540 : decode code 540 = .ok (.if_icmp .eq (186), 3) := by decide +kernel
theorem d_La_law_543 : decode code 543 = .ok (.iconst 0, 1) := by decide +kernel
theorem d_La_law_544 : decode code 544 = .ok (.ireturn, 1) := by decide +kernel
theorem d_La_law_545 : decode code 545 = .ok (.aload_n 1, 1) := by decide +kernel
theorem d_La_law_546 : decode code 546 = .ok (.aload_n 0, 1) := by decide +kernel
theorem d_La_law_547 : decode code 547 = .ok (.iload_n 3, 1) := by decide +kernel
theorem d_La_law_548 : decode code 548 = .ok (.iconst 1, 1) := by decide +kernel
theorem d_La_law_549 : decode code 549 = .ok (.iadd, 1) := by decide +kernel
theorem d_La_law_550 : decode code 550 = .ok (.iaload, 1) := by decide +kernel
theorem d_La_law_551 : decode code 551 = .ok (.aload_n 0, 1) := by decide +kernel
theorem d_La_law_552 : decode code 552 = .ok (.iload_n 3, 1) := by decide +kernel
theorem d_La_law_553 : decode code 553 = .ok (.iconst 2, 1) := by decide +kernel
theorem d_La_law_554 : decode code 554 = .ok (.iadd, 1) := by decide +kernel
theorem d_La_law_555 : decode code 555 = .ok (.iaload, 1) := by decide +kernel
theorem d_La_law_556 : decode code 556 = .ok (.invokevirtual 70, 3) := by decide +kernel
theorem d_La_law_559 : decode code 559 = .ok (.aload_n 2, 1) := by decide +kernel
theorem d_La_law_560 : decode code 560 = .ok (.aload_n 0, 1) := by decide +kernel
theorem d_La_law_561 : decode code 561 = .ok (.iload_n 3, 1) := by decide +kernel
theorem d_La_law_562 : decode code 562 = .ok (.iconst 1, 1) := by decide +kernel
theorem d_La_law_563 : decode code 563 = .ok (.iadd, 1) := by decide +kernel
theorem d_La_law_564 : decode code 564 = .ok (.iaload, 1) := by decide +kernel
theorem d_La_law_565 : decode code 565 = .ok (.aload_n 0, 1) := by decide +kernel
theorem d_La_law_566 : decode code 566 = .ok (.iload_n 3, 1) := by decide +kernel
theorem d_La_law_567 : decode code 567 = .ok (.iconst 2, 1) := by decide +kernel
theorem d_La_law_568 : decode code 568 = .ok (.iadd, 1) := by decide +kernel
theorem d_La_law_569 : decode code 569 = .ok (.iaload, 1) := by decide +kernel
theorem d_La_law_570 : decode code 570 = .ok (.invokevirtual 73, 3) := by decide +kernel
theorem d_La_law_573 : decode code 573 = .ok (.if_icmp .eq (153), 3) := by decide +kernel
theorem d_La_law_576 : decode code 576 = .ok (.iconst 0, 1) := by decide +kernel
theorem d_La_law_577 : decode code 577 = .ok (.ireturn, 1) := by decide +kernel
theorem d_La_law_578 : decode code 578 = .ok (.aload_n 1, 1) := by decide +kernel
theorem d_La_law_579 : decode code 579 = .ok (.aload_n 0, 1) := by decide +kernel
theorem d_La_law_580 : decode code 580 = .ok (.iload_n 3, 1) := by decide +kernel
theorem d_La_law_581 : decode code 581 = .ok (.iconst 1, 1) := by decide +kernel
theorem d_La_law_582 : decode code 582 = .ok (.iadd, 1) := by decide +kernel
theorem d_La_law_583 : decode code 583 = .ok (.iaload, 1) := by decide +kernel
theorem d_La_law_584 : decode code 584 = .ok (.invokevirtual 74, 3) := by decide +kernel
theorem d_La_law_587 : decode code 587 = .ok (.aload_n 2, 1) := by decide +kernel
theorem d_La_law_588 : decode code 588 = .ok (.aload_n 0, 1) := by decide +kernel
theorem d_La_law_589 : decode code 589 = .ok (.iload_n 3, 1) := by decide +kernel
theorem d_La_law_590 : decode code 590 = .ok (.iconst 1, 1) := by decide +kernel
theorem d_La_law_591 : decode code 591 = .ok (.iadd, 1) := by decide +kernel
theorem d_La_law_592 : decode code 592 = .ok (.iaload, 1) := by decide +kernel
theorem d_La_law_593 : decode code 593 = .ok (.invokevirtual 77, 3) := by decide +kernel
theorem d_La_law_596 : decode code 596 = .ok (.if_icmp .eq (130), 3) := by decide +kernel
theorem d_La_law_599 : decode code 599 = .ok (.iconst 0, 1) := by decide +kernel
theorem d_La_law_600 : decode code 600 = .ok (.ireturn, 1) := by decide +kernel
theorem d_La_law_601 : decode code 601 = .ok (.aload_n 1, 1) := by decide +kernel
theorem d_La_law_602 : decode code 602 = .ok (.aload_n 0, 1) := by decide +kernel
theorem d_La_law_603 : decode code 603 = .ok (.iload_n 3, 1) := by decide +kernel
theorem d_La_law_604 : decode code 604 = .ok (.iconst 1, 1) := by decide +kernel
theorem d_La_law_605 : decode code 605 = .ok (.iadd, 1) := by decide +kernel
theorem d_La_law_606 : decode code 606 = .ok (.iaload, 1) := by decide +kernel
theorem d_La_law_607 : decode code 607 = .ok (.invokevirtual 78, 3) := by decide +kernel
theorem d_La_law_610 : decode code 610 = .ok (.aload_n 2, 1) := by decide +kernel
theorem d_La_law_611 : decode code 611 = .ok (.aload_n 0, 1) := by decide +kernel
theorem d_La_law_612 : decode code 612 = .ok (.iload_n 3, 1) := by decide +kernel
theorem d_La_law_613 : decode code 613 = .ok (.iconst 1, 1) := by decide +kernel
theorem d_La_law_614 : decode code 614 = .ok (.iadd, 1) := by decide +kernel
theorem d_La_law_615 : decode code 615 = .ok (.iaload, 1) := by decide +kernel
theorem d_La_law_616 : decode code 616 = .ok (.invokevirtual 81, 3) := by decide +kernel
theorem d_La_law_619 : decode code 619 = .ok (.if_icmp .eq (107), 3) := by decide +kernel
theorem d_La_law_622 : decode code 622 = .ok (.iconst 0, 1) := by decide +kernel
theorem d_La_law_623 : decode code 623 = .ok (.ireturn, 1) := by decide +kernel
theorem d_La_law_624 : decode code 624 = .ok (.aload_n 1, 1) := by decide +kernel
theorem d_La_law_625 : decode code 625 = .ok (.aload_n 0, 1) := by decide +kernel
theorem d_La_law_626 : decode code 626 = .ok (.iload_n 3, 1) := by decide +kernel
theorem d_La_law_627 : decode code 627 = .ok (.iconst 1, 1) := by decide +kernel
theorem d_La_law_628 : decode code 628 = .ok (.iadd, 1) := by decide +kernel
theorem d_La_law_629 : decode code 629 = .ok (.iaload, 1) := by decide +kernel
theorem d_La_law_630 : decode code 630 = .ok (.invokevirtual 82, 3) := by decide +kernel
theorem d_La_law_633 : decode code 633 = .ok (.aload_n 2, 1) := by decide +kernel
theorem d_La_law_634 : decode code 634 = .ok (.aload_n 0, 1) := by decide +kernel
theorem d_La_law_635 : decode code 635 = .ok (.iload_n 3, 1) := by decide +kernel
theorem d_La_law_636 : decode code 636 = .ok (.iconst 1, 1) := by decide +kernel
theorem d_La_law_637 : decode code 637 = .ok (.iadd, 1) := by decide +kernel
theorem d_La_law_638 : decode code 638 = .ok (.iaload, 1) := by decide +kernel
theorem d_La_law_639 : decode code 639 = .ok (.invokevirtual 85, 3) := by decide +kernel
theorem d_La_law_642 : decode code 642 = .ok (.if_icmp .eq (84), 3) := by decide +kernel
theorem d_La_law_645 : decode code 645 = .ok (.iconst 0, 1) := by decide +kernel
theorem d_La_law_646 : decode code 646 = .ok (.ireturn, 1) := by decide +kernel
theorem d_La_law_647 : decode code 647 = .ok (.aload_n 1, 1) := by decide +kernel
theorem d_La_law_648 : decode code 648 = .ok (.aload_n 0, 1) := by decide +kernel
theorem d_La_law_649 : decode code 649 = .ok (.iload_n 3, 1) := by decide +kernel
theorem d_La_law_650 : decode code 650 = .ok (.iconst 1, 1) := by decide +kernel
theorem d_La_law_651 : decode code 651 = .ok (.iadd, 1) := by decide +kernel
theorem d_La_law_652 : decode code 652 = .ok (.iaload, 1) := by decide +kernel
theorem d_La_law_653 : decode code 653 = .ok (.aload_n 0, 1) := by decide +kernel
theorem d_La_law_654 : decode code 654 = .ok (.iload_n 3, 1) := by decide +kernel
theorem d_La_law_655 : decode code 655 = .ok (.iconst 2, 1) := by decide +kernel
theorem d_La_law_656 : decode code 656 = .ok (.iadd, 1) := by decide +kernel
theorem d_La_law_657 : decode code 657 = .ok (.iaload, 1) := by decide +kernel
theorem d_La_law_658 : decode code 658 = .ok (.invokevirtual 86, 3) := by decide +kernel
theorem d_La_law_661 : decode code 661 = .ok (.aload_n 2, 1) := by decide +kernel
theorem d_La_law_662 : decode code 662 = .ok (.aload_n 0, 1) := by decide +kernel
theorem d_La_law_663 : decode code 663 = .ok (.iload_n 3, 1) := by decide +kernel
theorem d_La_law_664 : decode code 664 = .ok (.iconst 1, 1) := by decide +kernel
theorem d_La_law_665 : decode code 665 = .ok (.iadd, 1) := by decide +kernel
theorem d_La_law_666 : decode code 666 = .ok (.iaload, 1) := by decide +kernel
theorem d_La_law_667 : decode code 667 = .ok (.aload_n 0, 1) := by decide +kernel
theorem d_La_law_668 : decode code 668 = .ok (.iload_n 3, 1) := by decide +kernel
theorem d_La_law_669 : decode code 669 = .ok (.iconst 2, 1) := by decide +kernel
theorem d_La_law_670 : decode code 670 = .ok (.iadd, 1) := by decide +kernel
theorem d_La_law_671 : decode code 671 = .ok (.iaload, 1) := by decide +kernel
theorem d_La_law_672 : decode code 672 = .ok (.invokevirtual 89, 3) := by decide +kernel
theorem d_La_law_675 : decode code 675 = .ok (.if_icmp .eq (51), 3) := by decide +kernel
theorem d_La_law_678 : decode code 678 = .ok (.iconst 0, 1) := by decide +kernel
theorem d_La_law_679 : decode code 679 = .ok (.ireturn, 1) := by decide +kernel
theorem d_La_law_680 : decode code 680 = .ok (.aload_n 1, 1) := by decide +kernel
theorem d_La_law_681 : decode code 681 = .ok (.aload_n 0, 1) := by decide +kernel
theorem d_La_law_682 : decode code 682 = .ok (.iload_n 3, 1) := by decide +kernel
theorem d_La_law_683 : decode code 683 = .ok (.iconst 1, 1) := by decide +kernel
theorem d_La_law_684 : decode code 684 = .ok (.iadd, 1) := by decide +kernel
theorem d_La_law_685 : decode code 685 = .ok (.iaload, 1) := by decide +kernel
theorem d_La_law_686 : decode code 686 = .ok (.invokevirtual 90, 3) := by decide +kernel
theorem d_La_law_689 : decode code 689 = .ok (.aload_n 2, 1) := by decide +kernel
theorem d_La_law_690 : decode code 690 = .ok (.aload_n 0, 1) := by decide +kernel
theorem d_La_law_691 : decode code 691 = .ok (.iload_n 3, 1) := by decide +kernel
theorem d_La_law_692 : decode code 692 = .ok (.iconst 1, 1) := by decide +kernel
theorem d_La_law_693 : decode code 693 = .ok (.iadd, 1) := by decide +kernel
theorem d_La_law_694 : decode code 694 = .ok (.iaload, 1) := by decide +kernel
theorem d_La_law_695 : decode code 695 = .ok (.invokevirtual 93, 3) := by decide +kernel
theorem d_La_law_698 : decode code 698 = .ok (.if_icmp .eq (28), 3) := by decide +kernel
theorem d_La_law_701 : decode code 701 = .ok (.iconst 0, 1) := by decide +kernel
theorem d_La_law_702 : decode code 702 = .ok (.ireturn, 1) := by decide +kernel
theorem d_La_law_703 : decode code 703 = .ok (.aload_n 1, 1) := by decide +kernel
theorem d_La_law_704 : decode code 704 = .ok (.aload_n 0, 1) := by decide +kernel
theorem d_La_law_705 : decode code 705 = .ok (.iload_n 3, 1) := by decide +kernel
theorem d_La_law_706 : decode code 706 = .ok (.iconst 1, 1) := by decide +kernel
theorem d_La_law_707 : decode code 707 = .ok (.iadd, 1) := by decide +kernel
theorem d_La_law_708 : decode code 708 = .ok (.iaload, 1) := by decide +kernel
theorem d_La_law_709 : decode code 709 = .ok (.invokevirtual 94, 3) := by decide +kernel
theorem d_La_law_712 : decode code 712 = .ok (.aload_n 2, 1) := by decide +kernel
theorem d_La_law_713 : decode code 713 = .ok (.aload_n 0, 1) := by decide +kernel
theorem d_La_law_714 : decode code 714 = .ok (.iload_n 3, 1) := by decide +kernel
theorem d_La_law_715 : decode code 715 = .ok (.iconst 1, 1) := by decide +kernel
theorem d_La_law_716 : decode code 716 = .ok (.iadd, 1) := by decide +kernel
theorem d_La_law_717 : decode code 717 = .ok (.iaload, 1) := by decide +kernel
theorem d_La_law_718 : decode code 718 = .ok (.invokevirtual 97, 3) := by decide +kernel
theorem d_La_law_721 : decode code 721 = .ok (.if_icmp .eq (5), 3) := by decide +kernel
theorem d_La_law_724 : decode code 724 = .ok (.iconst 0, 1) := by decide +kernel
theorem d_La_law_725 : decode code 725 = .ok (.ireturn, 1) := by decide +kernel
theorem d_La_law_726 : decode code 726 = .ok (.iinc 3 (7), 3) := by decide +kernel
theorem d_La_law_729 : decode code 729 = .ok (.goto (-711), 3) := by decide +kernel
theorem d_La_law_732 : decode code 732 = .ok (.iconst 1, 1) := by decide +kernel
theorem d_La_law_733 : decode code 733 = .ok (.ireturn, 1) := by decide +kernel
