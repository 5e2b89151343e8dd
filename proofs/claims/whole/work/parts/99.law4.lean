/-! THE LAW: its tables (printed by gen/emit2.py) -/
abbrev c_L_law : ByteArray := code
theorem d_L_law_0 : decode c_L_law 0 = .ok (.new 8, 3) := by decide +kernel
theorem d_L_law_3 : decode c_L_law 3 = .ok (.dup, 1) := by decide +kernel
theorem d_L_law_4 : decode c_L_law 4 = .ok (.invokespecial 72, 3) := by decide +kernel
theorem d_L_law_7 : decode c_L_law 7 = .ok (.astore_n 1, 1) := by decide +kernel
theorem d_L_law_8 : decode c_L_law 8 = .ok (.new 73, 3) := by decide +kernel
theorem d_L_law_11 : decode c_L_law 11 = .ok (.dup, 1) := by decide +kernel
theorem d_L_law_12 : decode c_L_law 12 = .ok (.invokespecial 75, 3) := by decide +kernel
theorem d_L_law_15 : decode c_L_law 15 = .ok (.astore_n 2, 1) := by decide +kernel
theorem d_L_law_16 : decode c_L_law 16 = .ok (.iconst 1, 1) := by decide +kernel
theorem d_L_law_17 : decode c_L_law 17 = .ok (.newarray .long, 2) := by decide +kernel
theorem d_L_law_19 : decode c_L_law 19 = .ok (.astore_n 3, 1) := by decide +kernel
theorem d_L_law_20 : decode c_L_law 20 = .ok (.iconst 0, 1) := by decide +kernel
theorem d_L_law_21 : decode c_L_law 21 = .ok (.istore 4, 2) := by decide +kernel
theorem d_L_law_23 : decode c_L_law 23 = .ok (.iload 4, 2) := by decide +kernel
theorem d_L_law_25 : decode c_L_law 25 = .ok (.aload_n 0, 1) := by decide +kernel
theorem d_L_law_26 : decode c_L_law 26 = .ok (.arraylength, 1) := by decide +kernel
theorem d_L_law_27 : decode c_L_law 27 = .ok (.bipush 6, 2) := by decide +kernel
theorem d_L_law_29 : decode c_L_law 29 = .ok (.isub, 1) := by decide +kernel
theorem d_L_law_30 : decode c_L_law 30 = .ok (.if_icmp .gt 1474, 3) := by decide +kernel
theorem d_L_law_33 : decode c_L_law 33 = .ok (.aload_n 0, 1) := by decide +kernel
theorem d_L_law_34 : decode c_L_law 34 = .ok (.iload 4, 2) := by decide +kernel
theorem d_L_law_36 : decode c_L_law 36 = .ok (.iaload, 1) := by decide +kernel
theorem d_L_law_37 : decode c_L_law 37 = .ok (.bipush 31, 2) := by decide +kernel
theorem d_L_law_39 : decode c_L_law 39 = .ok (.iand, 1) := by decide +kernel
theorem d_L_law_40 : decode c_L_law 40 = .ok (.tableswitch 1458 0 20 #[100, 156, 224, 280, 348, 452, 520, 588, 679, 782, 878, 962, 1054, 1158, 1214, 1270, 1338, 1351, 1419, 1432, 1445], 100) := by decide +kernel
theorem d_L_law_140 : decode c_L_law 140 = .ok (.aload_n 1, 1) := by decide +kernel
theorem d_L_law_141 : decode c_L_law 141 = .ok (.aload_n 0, 1) := by decide +kernel
theorem d_L_law_142 : decode c_L_law 142 = .ok (.iload 4, 2) := by decide +kernel
theorem d_L_law_144 : decode c_L_law 144 = .ok (.iconst 1, 1) := by decide +kernel
theorem d_L_law_145 : decode c_L_law 145 = .ok (.iadd, 1) := by decide +kernel
theorem d_L_law_146 : decode c_L_law 146 = .ok (.iaload, 1) := by decide +kernel
theorem d_L_law_147 : decode c_L_law 147 = .ok (.aload_n 3, 1) := by decide +kernel
theorem d_L_law_148 : decode c_L_law 148 = .ok (.invokestatic 76, 3) := by decide +kernel
theorem d_L_law_151 : decode c_L_law 151 = .ok (.istore 5, 2) := by decide +kernel
theorem d_L_law_153 : decode c_L_law 153 = .ok (.aload_n 2, 1) := by decide +kernel
theorem d_L_law_154 : decode c_L_law 154 = .ok (.aload_n 0, 1) := by decide +kernel
theorem d_L_law_155 : decode c_L_law 155 = .ok (.iload 4, 2) := by decide +kernel
theorem d_L_law_157 : decode c_L_law 157 = .ok (.iconst 1, 1) := by decide +kernel
theorem d_L_law_158 : decode c_L_law 158 = .ok (.iadd, 1) := by decide +kernel
theorem d_L_law_159 : decode c_L_law 159 = .ok (.iaload, 1) := by decide +kernel
theorem d_L_law_160 : decode c_L_law 160 = .ok (.invokevirtual 81, 3) := by decide +kernel
theorem d_L_law_163 : decode c_L_law 163 = .ok (.istore 6, 2) := by decide +kernel
theorem d_L_law_165 : decode c_L_law 165 = .ok (.aload_n 2, 1) := by decide +kernel
theorem d_L_law_166 : decode c_L_law 166 = .ok (.invokevirtual 82, 3) := by decide +kernel
theorem d_L_law_169 : decode c_L_law 169 = .ok (.iload 5, 2) := by decide +kernel
theorem d_L_law_171 : decode c_L_law 171 = .ok (.if_icmp .eq 5, 3) := by decide +kernel
theorem d_L_law_174 : decode c_L_law 174 = .ok (.iconst 0, 1) := by decide +kernel
theorem d_L_law_175 : decode c_L_law 175 = .ok (.ireturn, 1) := by decide +kernel
theorem d_L_law_176 : decode c_L_law 176 = .ok (.iload 5, 2) := by decide +kernel
theorem d_L_law_178 : decode c_L_law 178 = .ok (.ifCond .ne 15, 3) := by decide +kernel
theorem d_L_law_181 : decode c_L_law 181 = .ok (.aload_n 3, 1) := by decide +kernel
theorem d_L_law_182 : decode c_L_law 182 = .ok (.iconst 0, 1) := by decide +kernel
theorem d_L_law_183 : decode c_L_law 183 = .ok (.laload, 1) := by decide +kernel
theorem d_L_law_184 : decode c_L_law 184 = .ok (.iload 6, 2) := by decide +kernel
theorem d_L_law_186 : decode c_L_law 186 = .ok (.i2l, 1) := by decide +kernel
theorem d_L_law_187 : decode c_L_law 187 = .ok (.lcmp, 1) := by decide +kernel
theorem d_L_law_188 : decode c_L_law 188 = .ok (.ifCond .eq 5, 3) := by decide +kernel
theorem d_L_law_191 : decode c_L_law 191 = .ok (.iconst 0, 1) := by decide +kernel
theorem d_L_law_192 : decode c_L_law 192 = .ok (.ireturn, 1) := by decide +kernel
theorem d_L_law_193 : decode c_L_law 193 = .ok (.goto 1305, 3) := by decide +kernel
theorem d_L_law_196 : decode c_L_law 196 = .ok (.aload_n 1, 1) := by decide +kernel
theorem d_L_law_197 : decode c_L_law 197 = .ok (.aload_n 0, 1) := by decide +kernel
theorem d_L_law_198 : decode c_L_law 198 = .ok (.iload 4, 2) := by decide +kernel
theorem d_L_law_200 : decode c_L_law 200 = .ok (.iconst 1, 1) := by decide +kernel
theorem d_L_law_201 : decode c_L_law 201 = .ok (.iadd, 1) := by decide +kernel
theorem d_L_law_202 : decode c_L_law 202 = .ok (.iaload, 1) := by decide +kernel
theorem d_L_law_203 : decode c_L_law 203 = .ok (.aload_n 0, 1) := by decide +kernel
theorem d_L_law_204 : decode c_L_law 204 = .ok (.iload 4, 2) := by decide +kernel
theorem d_L_law_206 : decode c_L_law 206 = .ok (.iconst 2, 1) := by decide +kernel
theorem d_L_law_207 : decode c_L_law 207 = .ok (.iadd, 1) := by decide +kernel
theorem d_L_law_208 : decode c_L_law 208 = .ok (.iaload, 1) := by decide +kernel
theorem d_L_law_209 : decode c_L_law 209 = .ok (.aload_n 3, 1) := by decide +kernel
theorem d_L_law_210 : decode c_L_law 210 = .ok (.invokestatic 86, 3) := by decide +kernel
theorem d_L_law_213 : decode c_L_law 213 = .ok (.istore 5, 2) := by decide +kernel
theorem d_L_law_215 : decode c_L_law 215 = .ok (.aload_n 2, 1) := by decide +kernel
theorem d_L_law_216 : decode c_L_law 216 = .ok (.aload_n 0, 1) := by decide +kernel
theorem d_L_law_217 : decode c_L_law 217 = .ok (.iload 4, 2) := by decide +kernel
theorem d_L_law_219 : decode c_L_law 219 = .ok (.iconst 1, 1) := by decide +kernel
theorem d_L_law_220 : decode c_L_law 220 = .ok (.iadd, 1) := by decide +kernel
theorem d_L_law_221 : decode c_L_law 221 = .ok (.iaload, 1) := by decide +kernel
theorem d_L_law_222 : decode c_L_law 222 = .ok (.aload_n 0, 1) := by decide +kernel
theorem d_L_law_223 : decode c_L_law 223 = .ok (.iload 4, 2) := by decide +kernel
theorem d_L_law_225 : decode c_L_law 225 = .ok (.iconst 2, 1) := by decide +kernel
theorem d_L_law_226 : decode c_L_law 226 = .ok (.iadd, 1) := by decide +kernel
theorem d_L_law_227 : decode c_L_law 227 = .ok (.iaload, 1) := by decide +kernel
theorem d_L_law_228 : decode c_L_law 228 = .ok (.invokevirtual 89, 3) := by decide +kernel
theorem d_L_law_231 : decode c_L_law 231 = .ok (.istore 6, 2) := by decide +kernel
theorem d_L_law_233 : decode c_L_law 233 = .ok (.aload_n 2, 1) := by decide +kernel
theorem d_L_law_234 : decode c_L_law 234 = .ok (.invokevirtual 82, 3) := by decide +kernel
theorem d_L_law_237 : decode c_L_law 237 = .ok (.iload 5, 2) := by decide +kernel
theorem d_L_law_239 : decode c_L_law 239 = .ok (.if_icmp .eq 5, 3) := by decide +kernel
theorem d_L_law_242 : decode c_L_law 242 = .ok (.iconst 0, 1) := by decide +kernel
theorem d_L_law_243 : decode c_L_law 243 = .ok (.ireturn, 1) := by decide +kernel
theorem d_L_law_244 : decode c_L_law 244 = .ok (.iload 5, 2) := by decide +kernel
theorem d_L_law_246 : decode c_L_law 246 = .ok (.ifCond .ne 15, 3) := by decide +kernel
theorem d_L_law_249 : decode c_L_law 249 = .ok (.aload_n 3, 1) := by decide +kernel
theorem d_L_law_250 : decode c_L_law 250 = .ok (.iconst 0, 1) := by decide +kernel
theorem d_L_law_251 : decode c_L_law 251 = .ok (.laload, 1) := by decide +kernel
theorem d_L_law_252 : decode c_L_law 252 = .ok (.iload 6, 2) := by decide +kernel
theorem d_L_law_254 : decode c_L_law 254 = .ok (.i2l, 1) := by decide +kernel
theorem d_L_law_255 : decode c_L_law 255 = .ok (.lcmp, 1) := by decide +kernel
theorem d_L_law_256 : decode c_L_law 256 = .ok (.ifCond .eq 5, 3) := by decide +kernel
theorem d_L_law_259 : decode c_L_law 259 = .ok (.iconst 0, 1) := by decide +kernel
theorem d_L_law_260 : decode c_L_law 260 = .ok (.ireturn, 1) := by decide +kernel
theorem d_L_law_261 : decode c_L_law 261 = .ok (.goto 1237, 3) := by decide +kernel
theorem d_L_law_264 : decode c_L_law 264 = .ok (.aload_n 1, 1) := by decide +kernel
theorem d_L_law_265 : decode c_L_law 265 = .ok (.aload_n 0, 1) := by decide +kernel
theorem d_L_law_266 : decode c_L_law 266 = .ok (.iload 4, 2) := by decide +kernel
theorem d_L_law_268 : decode c_L_law 268 = .ok (.iconst 1, 1) := by decide +kernel
theorem d_L_law_269 : decode c_L_law 269 = .ok (.iadd, 1) := by decide +kernel
theorem d_L_law_270 : decode c_L_law 270 = .ok (.iaload, 1) := by decide +kernel
theorem d_L_law_271 : decode c_L_law 271 = .ok (.aload_n 3, 1) := by decide +kernel
theorem d_L_law_272 : decode c_L_law 272 = .ok (.invokestatic 90, 3) := by decide +kernel
theorem d_L_law_275 : decode c_L_law 275 = .ok (.istore 5, 2) := by decide +kernel
theorem d_L_law_277 : decode c_L_law 277 = .ok (.aload_n 2, 1) := by decide +kernel
theorem d_L_law_278 : decode c_L_law 278 = .ok (.aload_n 0, 1) := by decide +kernel
theorem d_L_law_279 : decode c_L_law 279 = .ok (.iload 4, 2) := by decide +kernel
theorem d_L_law_281 : decode c_L_law 281 = .ok (.iconst 1, 1) := by decide +kernel
theorem d_L_law_282 : decode c_L_law 282 = .ok (.iadd, 1) := by decide +kernel
theorem d_L_law_283 : decode c_L_law 283 = .ok (.iaload, 1) := by decide +kernel
theorem d_L_law_284 : decode c_L_law 284 = .ok (.invokevirtual 92, 3) := by decide +kernel
theorem d_L_law_287 : decode c_L_law 287 = .ok (.istore 6, 2) := by decide +kernel
theorem d_L_law_289 : decode c_L_law 289 = .ok (.aload_n 2, 1) := by decide +kernel
theorem d_L_law_290 : decode c_L_law 290 = .ok (.invokevirtual 82, 3) := by decide +kernel
theorem d_L_law_293 : decode c_L_law 293 = .ok (.iload 5, 2) := by decide +kernel
theorem d_L_law_295 : decode c_L_law 295 = .ok (.if_icmp .eq 5, 3) := by decide +kernel
theorem d_L_law_298 : decode c_L_law 298 = .ok (.iconst 0, 1) := by decide +kernel
theorem d_L_law_299 : decode c_L_law 299 = .ok (.ireturn, 1) := by decide +kernel
theorem d_L_law_300 : decode c_L_law 300 = .ok (.iload 5, 2) := by decide +kernel
theorem d_L_law_302 : decode c_L_law 302 = .ok (.ifCond .ne 15, 3) := by decide +kernel
theorem d_L_law_305 : decode c_L_law 305 = .ok (.aload_n 3, 1) := by decide +kernel
theorem d_L_law_306 : decode c_L_law 306 = .ok (.iconst 0, 1) := by decide +kernel
theorem d_L_law_307 : decode c_L_law 307 = .ok (.laload, 1) := by decide +kernel
theorem d_L_law_308 : decode c_L_law 308 = .ok (.iload 6, 2) := by decide +kernel
theorem d_L_law_310 : decode c_L_law 310 = .ok (.i2l, 1) := by decide +kernel
theorem d_L_law_311 : decode c_L_law 311 = .ok (.lcmp, 1) := by decide +kernel
theorem d_L_law_312 : decode c_L_law 312 = .ok (.ifCond .eq 5, 3) := by decide +kernel
theorem d_L_law_315 : decode c_L_law 315 = .ok (.iconst 0, 1) := by decide +kernel
theorem d_L_law_316 : decode c_L_law 316 = .ok (.ireturn, 1) := by decide +kernel
theorem d_L_law_317 : decode c_L_law 317 = .ok (.goto 1181, 3) := by decide +kernel
theorem d_L_law_320 : decode c_L_law 320 = .ok (.aload_n 1, 1) := by decide +kernel
theorem d_L_law_321 : decode c_L_law 321 = .ok (.aload_n 0, 1) := by decide +kernel
theorem d_L_law_322 : decode c_L_law 322 = .ok (.iload 4, 2) := by decide +kernel
theorem d_L_law_324 : decode c_L_law 324 = .ok (.iconst 1, 1) := by decide +kernel
theorem d_L_law_325 : decode c_L_law 325 = .ok (.iadd, 1) := by decide +kernel
theorem d_L_law_326 : decode c_L_law 326 = .ok (.iaload, 1) := by decide +kernel
theorem d_L_law_327 : decode c_L_law 327 = .ok (.aload_n 0, 1) := by decide +kernel
theorem d_L_law_328 : decode c_L_law 328 = .ok (.iload 4, 2) := by decide +kernel
theorem d_L_law_330 : decode c_L_law 330 = .ok (.iconst 2, 1) := by decide +kernel
theorem d_L_law_331 : decode c_L_law 331 = .ok (.iadd, 1) := by decide +kernel
theorem d_L_law_332 : decode c_L_law 332 = .ok (.iaload, 1) := by decide +kernel
theorem d_L_law_333 : decode c_L_law 333 = .ok (.aload_n 3, 1) := by decide +kernel
theorem d_L_law_334 : decode c_L_law 334 = .ok (.invokestatic 93, 3) := by decide +kernel
theorem d_L_law_337 : decode c_L_law 337 = .ok (.istore 5, 2) := by decide +kernel
theorem d_L_law_339 : decode c_L_law 339 = .ok (.aload_n 2, 1) := by decide +kernel
theorem d_L_law_340 : decode c_L_law 340 = .ok (.aload_n 0, 1) := by decide +kernel
theorem d_L_law_341 : decode c_L_law 341 = .ok (.iload 4, 2) := by decide +kernel
theorem d_L_law_343 : decode c_L_law 343 = .ok (.iconst 1, 1) := by decide +kernel
theorem d_L_law_344 : decode c_L_law 344 = .ok (.iadd, 1) := by decide +kernel
theorem d_L_law_345 : decode c_L_law 345 = .ok (.iaload, 1) := by decide +kernel
theorem d_L_law_346 : decode c_L_law 346 = .ok (.aload_n 0, 1) := by decide +kernel
theorem d_L_law_347 : decode c_L_law 347 = .ok (.iload 4, 2) := by decide +kernel
theorem d_L_law_349 : decode c_L_law 349 = .ok (.iconst 2, 1) := by decide +kernel
theorem d_L_law_350 : decode c_L_law 350 = .ok (.iadd, 1) := by decide +kernel
theorem d_L_law_351 : decode c_L_law 351 = .ok (.iaload, 1) := by decide +kernel
theorem d_L_law_352 : decode c_L_law 352 = .ok (.invokevirtual 95, 3) := by decide +kernel
theorem d_L_law_355 : decode c_L_law 355 = .ok (.istore 6, 2) := by decide +kernel
theorem d_L_law_357 : decode c_L_law 357 = .ok (.aload_n 2, 1) := by decide +kernel
theorem d_L_law_358 : decode c_L_law 358 = .ok (.invokevirtual 82, 3) := by decide +kernel
theorem d_L_law_361 : decode c_L_law 361 = .ok (.iload 5, 2) := by decide +kernel
theorem d_L_law_363 : decode c_L_law 363 = .ok (.if_icmp .eq 5, 3) := by decide +kernel
theorem d_L_law_366 : decode c_L_law 366 = .ok (.iconst 0, 1) := by decide +kernel
theorem d_L_law_367 : decode c_L_law 367 = .ok (.ireturn, 1) := by decide +kernel
theorem d_L_law_368 : decode c_L_law 368 = .ok (.iload 5, 2) := by decide +kernel
theorem d_L_law_370 : decode c_L_law 370 = .ok (.ifCond .ne 15, 3) := by decide +kernel
theorem d_L_law_373 : decode c_L_law 373 = .ok (.aload_n 3, 1) := by decide +kernel
theorem d_L_law_374 : decode c_L_law 374 = .ok (.iconst 0, 1) := by decide +kernel
theorem d_L_law_375 : decode c_L_law 375 = .ok (.laload, 1) := by decide +kernel
theorem d_L_law_376 : decode c_L_law 376 = .ok (.iload 6, 2) := by decide +kernel
theorem d_L_law_378 : decode c_L_law 378 = .ok (.i2l, 1) := by decide +kernel
theorem d_L_law_379 : decode c_L_law 379 = .ok (.lcmp, 1) := by decide +kernel
theorem d_L_law_380 : decode c_L_law 380 = .ok (.ifCond .eq 5, 3) := by decide +kernel
theorem d_L_law_383 : decode c_L_law 383 = .ok (.iconst 0, 1) := by decide +kernel
theorem d_L_law_384 : decode c_L_law 384 = .ok (.ireturn, 1) := by decide +kernel
theorem d_L_law_385 : decode c_L_law 385 = .ok (.goto 1113, 3) := by decide +kernel
theorem d_L_law_388 : decode c_L_law 388 = .ok (.aload_n 1, 1) := by decide +kernel
theorem d_L_law_389 : decode c_L_law 389 = .ok (.aload_n 0, 1) := by decide +kernel
theorem d_L_law_390 : decode c_L_law 390 = .ok (.iload 4, 2) := by decide +kernel
theorem d_L_law_392 : decode c_L_law 392 = .ok (.iconst 1, 1) := by decide +kernel
theorem d_L_law_393 : decode c_L_law 393 = .ok (.iadd, 1) := by decide +kernel
theorem d_L_law_394 : decode c_L_law 394 = .ok (.iaload, 1) := by decide +kernel
theorem d_L_law_395 : decode c_L_law 395 = .ok (.aload_n 0, 1) := by decide +kernel
theorem d_L_law_396 : decode c_L_law 396 = .ok (.iload 4, 2) := by decide +kernel
theorem d_L_law_398 : decode c_L_law 398 = .ok (.iconst 2, 1) := by decide +kernel
theorem d_L_law_399 : decode c_L_law 399 = .ok (.iadd, 1) := by decide +kernel
theorem d_L_law_400 : decode c_L_law 400 = .ok (.iaload, 1) := by decide +kernel
theorem d_L_law_401 : decode c_L_law 401 = .ok (.aload_n 0, 1) := by decide +kernel
theorem d_L_law_402 : decode c_L_law 402 = .ok (.iload 4, 2) := by decide +kernel
theorem d_L_law_404 : decode c_L_law 404 = .ok (.iconst 3, 1) := by decide +kernel
theorem d_L_law_405 : decode c_L_law 405 = .ok (.iadd, 1) := by decide +kernel
theorem d_L_law_406 : decode c_L_law 406 = .ok (.iaload, 1) := by decide +kernel
theorem d_L_law_407 : decode c_L_law 407 = .ok (.aload_n 0, 1) := by decide +kernel
theorem d_L_law_408 : decode c_L_law 408 = .ok (.iload 4, 2) := by decide +kernel
theorem d_L_law_410 : decode c_L_law 410 = .ok (.iconst 4, 1) := by decide +kernel
theorem d_L_law_411 : decode c_L_law 411 = .ok (.iadd, 1) := by decide +kernel
theorem d_L_law_412 : decode c_L_law 412 = .ok (.iaload, 1) := by decide +kernel
theorem d_L_law_413 : decode c_L_law 413 = .ok (.aload_n 0, 1) := by decide +kernel
theorem d_L_law_414 : decode c_L_law 414 = .ok (.iload 4, 2) := by decide +kernel
theorem d_L_law_416 : decode c_L_law 416 = .ok (.iconst 5, 1) := by decide +kernel
theorem d_L_law_417 : decode c_L_law 417 = .ok (.iadd, 1) := by decide +kernel
theorem d_L_law_418 : decode c_L_law 418 = .ok (.iaload, 1) := by decide +kernel
theorem d_L_law_419 : decode c_L_law 419 = .ok (.aload_n 3, 1) := by decide +kernel
theorem d_L_law_420 : decode c_L_law 420 = .ok (.invokestatic 96, 3) := by decide +kernel
theorem d_L_law_423 : decode c_L_law 423 = .ok (.istore 5, 2) := by decide +kernel
theorem d_L_law_425 : decode c_L_law 425 = .ok (.aload_n 2, 1) := by decide +kernel
theorem d_L_law_426 : decode c_L_law 426 = .ok (.aload_n 0, 1) := by decide +kernel
theorem d_L_law_427 : decode c_L_law 427 = .ok (.iload 4, 2) := by decide +kernel
theorem d_L_law_429 : decode c_L_law 429 = .ok (.iconst 1, 1) := by decide +kernel
theorem d_L_law_430 : decode c_L_law 430 = .ok (.iadd, 1) := by decide +kernel
theorem d_L_law_431 : decode c_L_law 431 = .ok (.iaload, 1) := by decide +kernel
theorem d_L_law_432 : decode c_L_law 432 = .ok (.aload_n 0, 1) := by decide +kernel
theorem d_L_law_433 : decode c_L_law 433 = .ok (.iload 4, 2) := by decide +kernel
theorem d_L_law_435 : decode c_L_law 435 = .ok (.iconst 2, 1) := by decide +kernel
theorem d_L_law_436 : decode c_L_law 436 = .ok (.iadd, 1) := by decide +kernel
theorem d_L_law_437 : decode c_L_law 437 = .ok (.iaload, 1) := by decide +kernel
theorem d_L_law_438 : decode c_L_law 438 = .ok (.aload_n 0, 1) := by decide +kernel
theorem d_L_law_439 : decode c_L_law 439 = .ok (.iload 4, 2) := by decide +kernel
theorem d_L_law_441 : decode c_L_law 441 = .ok (.iconst 3, 1) := by decide +kernel
theorem d_L_law_442 : decode c_L_law 442 = .ok (.iadd, 1) := by decide +kernel
theorem d_L_law_443 : decode c_L_law 443 = .ok (.iaload, 1) := by decide +kernel
theorem d_L_law_444 : decode c_L_law 444 = .ok (.aload_n 0, 1) := by decide +kernel
theorem d_L_law_445 : decode c_L_law 445 = .ok (.iload 4, 2) := by decide +kernel
theorem d_L_law_447 : decode c_L_law 447 = .ok (.iconst 4, 1) := by decide +kernel
theorem d_L_law_448 : decode c_L_law 448 = .ok (.iadd, 1) := by decide +kernel
theorem d_L_law_449 : decode c_L_law 449 = .ok (.iaload, 1) := by decide +kernel
theorem d_L_law_450 : decode c_L_law 450 = .ok (.aload_n 0, 1) := by decide +kernel
theorem d_L_law_451 : decode c_L_law 451 = .ok (.iload 4, 2) := by decide +kernel
theorem d_L_law_453 : decode c_L_law 453 = .ok (.iconst 5, 1) := by decide +kernel
theorem d_L_law_454 : decode c_L_law 454 = .ok (.iadd, 1) := by decide +kernel
theorem d_L_law_455 : decode c_L_law 455 = .ok (.iaload, 1) := by decide +kernel
theorem d_L_law_456 : decode c_L_law 456 = .ok (.invokevirtual 99, 3) := by decide +kernel
theorem d_L_law_459 : decode c_L_law 459 = .ok (.istore 6, 2) := by decide +kernel
theorem d_L_law_461 : decode c_L_law 461 = .ok (.aload_n 2, 1) := by decide +kernel
theorem d_L_law_462 : decode c_L_law 462 = .ok (.invokevirtual 82, 3) := by decide +kernel
theorem d_L_law_465 : decode c_L_law 465 = .ok (.iload 5, 2) := by decide +kernel
theorem d_L_law_467 : decode c_L_law 467 = .ok (.if_icmp .eq 5, 3) := by decide +kernel
theorem d_L_law_470 : decode c_L_law 470 = .ok (.iconst 0, 1) := by decide +kernel
theorem d_L_law_471 : decode c_L_law 471 = .ok (.ireturn, 1) := by decide +kernel
theorem d_L_law_472 : decode c_L_law 472 = .ok (.iload 5, 2) := by decide +kernel
theorem d_L_law_474 : decode c_L_law 474 = .ok (.ifCond .ne 15, 3) := by decide +kernel
theorem d_L_law_477 : decode c_L_law 477 = .ok (.aload_n 3, 1) := by decide +kernel
theorem d_L_law_478 : decode c_L_law 478 = .ok (.iconst 0, 1) := by decide +kernel
theorem d_L_law_479 : decode c_L_law 479 = .ok (.laload, 1) := by decide +kernel
theorem d_L_law_480 : decode c_L_law 480 = .ok (.iload 6, 2) := by decide +kernel
theorem d_L_law_482 : decode c_L_law 482 = .ok (.i2l, 1) := by decide +kernel
theorem d_L_law_483 : decode c_L_law 483 = .ok (.lcmp, 1) := by decide +kernel
theorem d_L_law_484 : decode c_L_law 484 = .ok (.ifCond .eq 5, 3) := by decide +kernel
theorem d_L_law_487 : decode c_L_law 487 = .ok (.iconst 0, 1) := by decide +kernel
theorem d_L_law_488 : decode c_L_law 488 = .ok (.ireturn, 1) := by decide +kernel
theorem d_L_law_489 : decode c_L_law 489 = .ok (.goto 1009, 3) := by decide +kernel
theorem d_L_law_492 : decode c_L_law 492 = .ok (.aload_n 1, 1) := by decide +kernel
theorem d_L_law_493 : decode c_L_law 493 = .ok (.aload_n 0, 1) := by decide +kernel
theorem d_L_law_494 : decode c_L_law 494 = .ok (.iload 4, 2) := by decide +kernel
theorem d_L_law_496 : decode c_L_law 496 = .ok (.iconst 1, 1) := by decide +kernel
theorem d_L_law_497 : decode c_L_law 497 = .ok (.iadd, 1) := by decide +kernel
theorem d_L_law_498 : decode c_L_law 498 = .ok (.iaload, 1) := by decide +kernel
theorem d_L_law_499 : decode c_L_law 499 = .ok (.aload_n 0, 1) := by decide +kernel
theorem d_L_law_500 : decode c_L_law 500 = .ok (.iload 4, 2) := by decide +kernel
theorem d_L_law_502 : decode c_L_law 502 = .ok (.iconst 2, 1) := by decide +kernel
theorem d_L_law_503 : decode c_L_law 503 = .ok (.iadd, 1) := by decide +kernel
theorem d_L_law_504 : decode c_L_law 504 = .ok (.iaload, 1) := by decide +kernel
theorem d_L_law_505 : decode c_L_law 505 = .ok (.aload_n 3, 1) := by decide +kernel
theorem d_L_law_506 : decode c_L_law 506 = .ok (.invokestatic 100, 3) := by decide +kernel
theorem d_L_law_509 : decode c_L_law 509 = .ok (.istore 5, 2) := by decide +kernel
theorem d_L_law_511 : decode c_L_law 511 = .ok (.aload_n 2, 1) := by decide +kernel
theorem d_L_law_512 : decode c_L_law 512 = .ok (.aload_n 0, 1) := by decide +kernel
theorem d_L_law_513 : decode c_L_law 513 = .ok (.iload 4, 2) := by decide +kernel
theorem d_L_law_515 : decode c_L_law 515 = .ok (.iconst 1, 1) := by decide +kernel
theorem d_L_law_516 : decode c_L_law 516 = .ok (.iadd, 1) := by decide +kernel
theorem d_L_law_517 : decode c_L_law 517 = .ok (.iaload, 1) := by decide +kernel
theorem d_L_law_518 : decode c_L_law 518 = .ok (.aload_n 0, 1) := by decide +kernel
theorem d_L_law_519 : decode c_L_law 519 = .ok (.iload 4, 2) := by decide +kernel
theorem d_L_law_521 : decode c_L_law 521 = .ok (.iconst 2, 1) := by decide +kernel
theorem d_L_law_522 : decode c_L_law 522 = .ok (.iadd, 1) := by decide +kernel
theorem d_L_law_523 : decode c_L_law 523 = .ok (.iaload, 1) := by decide +kernel
theorem d_L_law_524 : decode c_L_law 524 = .ok (.invokevirtual 102, 3) := by decide +kernel
theorem d_L_law_527 : decode c_L_law 527 = .ok (.istore 6, 2) := by decide +kernel
theorem d_L_law_529 : decode c_L_law 529 = .ok (.aload_n 2, 1) := by decide +kernel
theorem d_L_law_530 : decode c_L_law 530 = .ok (.invokevirtual 82, 3) := by decide +kernel
theorem d_L_law_533 : decode c_L_law 533 = .ok (.iload 5, 2) := by decide +kernel
theorem d_L_law_535 : decode c_L_law 535 = .ok (.if_icmp .eq 5, 3) := by decide +kernel
theorem d_L_law_538 : decode c_L_law 538 = .ok (.iconst 0, 1) := by decide +kernel
theorem d_L_law_539 : decode c_L_law 539 = .ok (.ireturn, 1) := by decide +kernel
theorem d_L_law_540 : decode c_L_law 540 = .ok (.iload 5, 2) := by decide +kernel
theorem d_L_law_542 : decode c_L_law 542 = .ok (.ifCond .ne 15, 3) := by decide +kernel
theorem d_L_law_545 : decode c_L_law 545 = .ok (.aload_n 3, 1) := by decide +kernel
theorem d_L_law_546 : decode c_L_law 546 = .ok (.iconst 0, 1) := by decide +kernel
theorem d_L_law_547 : decode c_L_law 547 = .ok (.laload, 1) := by decide +kernel
theorem d_L_law_548 : decode c_L_law 548 = .ok (.iload 6, 2) := by decide +kernel
theorem d_L_law_550 : decode c_L_law 550 = .ok (.i2l, 1) := by decide +kernel
theorem d_L_law_551 : decode c_L_law 551 = .ok (.lcmp, 1) := by decide +kernel
theorem d_L_law_552 : decode c_L_law 552 = .ok (.ifCond .eq 5, 3) := by decide +kernel
theorem d_L_law_555 : decode c_L_law 555 = .ok (.iconst 0, 1) := by decide +kernel
theorem d_L_law_556 : decode c_L_law 556 = .ok (.ireturn, 1) := by decide +kernel
theorem d_L_law_557 : decode c_L_law 557 = .ok (.goto 941, 3) := by decide +kernel
theorem d_L_law_560 : decode c_L_law 560 = .ok (.aload_n 1, 1) := by decide +kernel
theorem d_L_law_561 : decode c_L_law 561 = .ok (.aload_n 0, 1) := by decide +kernel
theorem d_L_law_562 : decode c_L_law 562 = .ok (.iload 4, 2) := by decide +kernel
theorem d_L_law_564 : decode c_L_law 564 = .ok (.iconst 1, 1) := by decide +kernel
theorem d_L_law_565 : decode c_L_law 565 = .ok (.iadd, 1) := by decide +kernel
theorem d_L_law_566 : decode c_L_law 566 = .ok (.iaload, 1) := by decide +kernel
theorem d_L_law_567 : decode c_L_law 567 = .ok (.aload_n 0, 1) := by decide +kernel
theorem d_L_law_568 : decode c_L_law 568 = .ok (.iload 4, 2) := by decide +kernel
theorem d_L_law_570 : decode c_L_law 570 = .ok (.iconst 2, 1) := by decide +kernel
theorem d_L_law_571 : decode c_L_law 571 = .ok (.iadd, 1) := by decide +kernel
theorem d_L_law_572 : decode c_L_law 572 = .ok (.iaload, 1) := by decide +kernel
theorem d_L_law_573 : decode c_L_law 573 = .ok (.aload_n 3, 1) := by decide +kernel
theorem d_L_law_574 : decode c_L_law 574 = .ok (.invokestatic 103, 3) := by decide +kernel
theorem d_L_law_577 : decode c_L_law 577 = .ok (.istore 5, 2) := by decide +kernel
theorem d_L_law_579 : decode c_L_law 579 = .ok (.aload_n 2, 1) := by decide +kernel
theorem d_L_law_580 : decode c_L_law 580 = .ok (.aload_n 0, 1) := by decide +kernel
theorem d_L_law_581 : decode c_L_law 581 = .ok (.iload 4, 2) := by decide +kernel
theorem d_L_law_583 : decode c_L_law 583 = .ok (.iconst 1, 1) := by decide +kernel
theorem d_L_law_584 : decode c_L_law 584 = .ok (.iadd, 1) := by decide +kernel
theorem d_L_law_585 : decode c_L_law 585 = .ok (.iaload, 1) := by decide +kernel
theorem d_L_law_586 : decode c_L_law 586 = .ok (.aload_n 0, 1) := by decide +kernel
theorem d_L_law_587 : decode c_L_law 587 = .ok (.iload 4, 2) := by decide +kernel
theorem d_L_law_589 : decode c_L_law 589 = .ok (.iconst 2, 1) := by decide +kernel
theorem d_L_law_590 : decode c_L_law 590 = .ok (.iadd, 1) := by decide +kernel
theorem d_L_law_591 : decode c_L_law 591 = .ok (.iaload, 1) := by decide +kernel
theorem d_L_law_592 : decode c_L_law 592 = .ok (.invokevirtual 105, 3) := by decide +kernel
theorem d_L_law_595 : decode c_L_law 595 = .ok (.istore 6, 2) := by decide +kernel
theorem d_L_law_597 : decode c_L_law 597 = .ok (.aload_n 2, 1) := by decide +kernel
theorem d_L_law_598 : decode c_L_law 598 = .ok (.invokevirtual 82, 3) := by decide +kernel
theorem d_L_law_601 : decode c_L_law 601 = .ok (.iload 5, 2) := by decide +kernel
theorem d_L_law_603 : decode c_L_law 603 = .ok (.if_icmp .eq 5, 3) := by decide +kernel
theorem d_L_law_606 : decode c_L_law 606 = .ok (.iconst 0, 1) := by decide +kernel
theorem d_L_law_607 : decode c_L_law 607 = .ok (.ireturn, 1) := by decide +kernel
theorem d_L_law_608 : decode c_L_law 608 = .ok (.iload 5, 2) := by decide +kernel
theorem d_L_law_610 : decode c_L_law 610 = .ok (.ifCond .ne 15, 3) := by decide +kernel
theorem d_L_law_613 : decode c_L_law 613 = .ok (.aload_n 3, 1) := by decide +kernel
theorem d_L_law_614 : decode c_L_law 614 = .ok (.iconst 0, 1) := by decide +kernel
theorem d_L_law_615 : decode c_L_law 615 = .ok (.laload, 1) := by decide +kernel
theorem d_L_law_616 : decode c_L_law 616 = .ok (.iload 6, 2) := by decide +kernel
theorem d_L_law_618 : decode c_L_law 618 = .ok (.i2l, 1) := by decide +kernel
theorem d_L_law_619 : decode c_L_law 619 = .ok (.lcmp, 1) := by decide +kernel
theorem d_L_law_620 : decode c_L_law 620 = .ok (.ifCond .eq 5, 3) := by decide +kernel
theorem d_L_law_623 : decode c_L_law 623 = .ok (.iconst 0, 1) := by decide +kernel
theorem d_L_law_624 : decode c_L_law 624 = .ok (.ireturn, 1) := by decide +kernel
theorem d_L_law_625 : decode c_L_law 625 = .ok (.goto 873, 3) := by decide +kernel
theorem d_L_law_628 : decode c_L_law 628 = .ok (.aload_n 1, 1) := by decide +kernel
theorem d_L_law_629 : decode c_L_law 629 = .ok (.aload_n 0, 1) := by decide +kernel
theorem d_L_law_630 : decode c_L_law 630 = .ok (.iload 4, 2) := by decide +kernel
theorem d_L_law_632 : decode c_L_law 632 = .ok (.iconst 1, 1) := by decide +kernel
theorem d_L_law_633 : decode c_L_law 633 = .ok (.iadd, 1) := by decide +kernel
theorem d_L_law_634 : decode c_L_law 634 = .ok (.iaload, 1) := by decide +kernel
theorem d_L_law_635 : decode c_L_law 635 = .ok (.aload_n 0, 1) := by decide +kernel
theorem d_L_law_636 : decode c_L_law 636 = .ok (.iload 4, 2) := by decide +kernel
theorem d_L_law_638 : decode c_L_law 638 = .ok (.iconst 2, 1) := by decide +kernel
theorem d_L_law_639 : decode c_L_law 639 = .ok (.iadd, 1) := by decide +kernel
theorem d_L_law_640 : decode c_L_law 640 = .ok (.iaload, 1) := by decide +kernel
theorem d_L_law_641 : decode c_L_law 641 = .ok (.ifCond .eq 7, 3) := by decide +kernel
theorem d_L_law_644 : decode c_L_law 644 = .ok (.iconst 1, 1) := by decide +kernel
theorem d_L_law_645 : decode c_L_law 645 = .ok (.goto 4, 3) := by decide +kernel
theorem d_L_law_648 : decode c_L_law 648 = .ok (.iconst 0, 1) := by decide +kernel
theorem d_L_law_649 : decode c_L_law 649 = .ok (.aload_n 3, 1) := by decide +kernel
theorem d_L_law_650 : decode c_L_law 650 = .ok (.invokestatic 106, 3) := by decide +kernel
theorem d_L_law_653 : decode c_L_law 653 = .ok (.istore 5, 2) := by decide +kernel
theorem d_L_law_655 : decode c_L_law 655 = .ok (.aload_n 2, 1) := by decide +kernel
theorem d_L_law_656 : decode c_L_law 656 = .ok (.aload_n 0, 1) := by decide +kernel
theorem d_L_law_657 : decode c_L_law 657 = .ok (.iload 4, 2) := by decide +kernel
theorem d_L_law_659 : decode c_L_law 659 = .ok (.iconst 1, 1) := by decide +kernel
theorem d_L_law_660 : decode c_L_law 660 = .ok (.iadd, 1) := by decide +kernel
theorem d_L_law_661 : decode c_L_law 661 = .ok (.iaload, 1) := by decide +kernel
theorem d_L_law_662 : decode c_L_law 662 = .ok (.aload_n 0, 1) := by decide +kernel
theorem d_L_law_663 : decode c_L_law 663 = .ok (.iload 4, 2) := by decide +kernel
theorem d_L_law_665 : decode c_L_law 665 = .ok (.iconst 2, 1) := by decide +kernel
theorem d_L_law_666 : decode c_L_law 666 = .ok (.iadd, 1) := by decide +kernel
theorem d_L_law_667 : decode c_L_law 667 = .ok (.iaload, 1) := by decide +kernel
theorem d_L_law_668 : decode c_L_law 668 = .ok (.ifCond .eq 7, 3) := by decide +kernel
theorem d_L_law_671 : decode c_L_law 671 = .ok (.iconst 1, 1) := by decide +kernel
theorem d_L_law_672 : decode c_L_law 672 = .ok (.goto 4, 3) := by decide +kernel
theorem d_L_law_675 : decode c_L_law 675 = .ok (.iconst 0, 1) := by decide +kernel
theorem d_L_law_676 : decode c_L_law 676 = .ok (.invokevirtual 109, 3) := by decide +kernel
theorem d_L_law_679 : decode c_L_law 679 = .ok (.istore 6, 2) := by decide +kernel
theorem d_L_law_681 : decode c_L_law 681 = .ok (.aload_n 2, 1) := by decide +kernel
theorem d_L_law_682 : decode c_L_law 682 = .ok (.invokevirtual 82, 3) := by decide +kernel
theorem d_L_law_685 : decode c_L_law 685 = .ok (.iload 5, 2) := by decide +kernel
theorem d_L_law_687 : decode c_L_law 687 = .ok (.if_icmp .eq 5, 3) := by decide +kernel
theorem d_L_law_690 : decode c_L_law 690 = .ok (.iconst 0, 1) := by decide +kernel
theorem d_L_law_691 : decode c_L_law 691 = .ok (.ireturn, 1) := by decide +kernel
theorem d_L_law_692 : decode c_L_law 692 = .ok (.iload 5, 2) := by decide +kernel
theorem d_L_law_694 : decode c_L_law 694 = .ok (.ifCond .ne 22, 3) := by decide +kernel
theorem d_L_law_697 : decode c_L_law 697 = .ok (.aload_n 3, 1) := by decide +kernel
theorem d_L_law_698 : decode c_L_law 698 = .ok (.iconst 0, 1) := by decide +kernel
theorem d_L_law_699 : decode c_L_law 699 = .ok (.laload, 1) := by decide +kernel
theorem d_L_law_700 : decode c_L_law 700 = .ok (.iload 6, 2) := by decide +kernel
theorem d_L_law_702 : decode c_L_law 702 = .ok (.ifCond .eq 7, 3) := by decide +kernel
theorem d_L_law_705 : decode c_L_law 705 = .ok (.lconst 1, 1) := by decide +kernel
theorem d_L_law_706 : decode c_L_law 706 = .ok (.goto 4, 3) := by decide +kernel
theorem d_L_law_709 : decode c_L_law 709 = .ok (.lconst 0, 1) := by decide +kernel
theorem d_L_law_710 : decode c_L_law 710 = .ok (.lcmp, 1) := by decide +kernel
theorem d_L_law_711 : decode c_L_law 711 = .ok (.ifCond .eq 5, 3) := by decide +kernel
theorem d_L_law_714 : decode c_L_law 714 = .ok (.iconst 0, 1) := by decide +kernel
theorem d_L_law_715 : decode c_L_law 715 = .ok (.ireturn, 1) := by decide +kernel
theorem d_L_law_716 : decode c_L_law 716 = .ok (.goto 782, 3) := by decide +kernel
theorem d_L_law_719 : decode c_L_law 719 = .ok (.aload_n 1, 1) := by decide +kernel
theorem d_L_law_720 : decode c_L_law 720 = .ok (.aload_n 0, 1) := by decide +kernel
theorem d_L_law_721 : decode c_L_law 721 = .ok (.iload 4, 2) := by decide +kernel
theorem d_L_law_723 : decode c_L_law 723 = .ok (.iconst 1, 1) := by decide +kernel
theorem d_L_law_724 : decode c_L_law 724 = .ok (.iadd, 1) := by decide +kernel
theorem d_L_law_725 : decode c_L_law 725 = .ok (.iaload, 1) := by decide +kernel
theorem d_L_law_726 : decode c_L_law 726 = .ok (.aload_n 0, 1) := by decide +kernel
theorem d_L_law_727 : decode c_L_law 727 = .ok (.iload 4, 2) := by decide +kernel
theorem d_L_law_729 : decode c_L_law 729 = .ok (.iconst 2, 1) := by decide +kernel
theorem d_L_law_730 : decode c_L_law 730 = .ok (.iadd, 1) := by decide +kernel
theorem d_L_law_731 : decode c_L_law 731 = .ok (.iaload, 1) := by decide +kernel
theorem d_L_law_732 : decode c_L_law 732 = .ok (.aload_n 0, 1) := by decide +kernel
theorem d_L_law_733 : decode c_L_law 733 = .ok (.iload 4, 2) := by decide +kernel
theorem d_L_law_735 : decode c_L_law 735 = .ok (.iconst 3, 1) := by decide +kernel
theorem d_L_law_736 : decode c_L_law 736 = .ok (.iadd, 1) := by decide +kernel
theorem d_L_law_737 : decode c_L_law 737 = .ok (.iaload, 1) := by decide +kernel
theorem d_L_law_738 : decode c_L_law 738 = .ok (.ifCond .eq 7, 3) := by decide +kernel
theorem d_L_law_741 : decode c_L_law 741 = .ok (.iconst 1, 1) := by decide +kernel
theorem d_L_law_742 : decode c_L_law 742 = .ok (.goto 4, 3) := by decide +kernel
theorem d_L_law_745 : decode c_L_law 745 = .ok (.iconst 0, 1) := by decide +kernel
theorem d_L_law_746 : decode c_L_law 746 = .ok (.aload_n 3, 1) := by decide +kernel
theorem d_L_law_747 : decode c_L_law 747 = .ok (.invokestatic 110, 3) := by decide +kernel
theorem d_L_law_750 : decode c_L_law 750 = .ok (.istore 5, 2) := by decide +kernel
theorem d_L_law_752 : decode c_L_law 752 = .ok (.aload_n 2, 1) := by decide +kernel
theorem d_L_law_753 : decode c_L_law 753 = .ok (.aload_n 0, 1) := by decide +kernel
theorem d_L_law_754 : decode c_L_law 754 = .ok (.iload 4, 2) := by decide +kernel
theorem d_L_law_756 : decode c_L_law 756 = .ok (.iconst 1, 1) := by decide +kernel
theorem d_L_law_757 : decode c_L_law 757 = .ok (.iadd, 1) := by decide +kernel
theorem d_L_law_758 : decode c_L_law 758 = .ok (.iaload, 1) := by decide +kernel
theorem d_L_law_759 : decode c_L_law 759 = .ok (.aload_n 0, 1) := by decide +kernel
theorem d_L_law_760 : decode c_L_law 760 = .ok (.iload 4, 2) := by decide +kernel
theorem d_L_law_762 : decode c_L_law 762 = .ok (.iconst 2, 1) := by decide +kernel
theorem d_L_law_763 : decode c_L_law 763 = .ok (.iadd, 1) := by decide +kernel
theorem d_L_law_764 : decode c_L_law 764 = .ok (.iaload, 1) := by decide +kernel
theorem d_L_law_765 : decode c_L_law 765 = .ok (.aload_n 0, 1) := by decide +kernel
theorem d_L_law_766 : decode c_L_law 766 = .ok (.iload 4, 2) := by decide +kernel
theorem d_L_law_768 : decode c_L_law 768 = .ok (.iconst 3, 1) := by decide +kernel
theorem d_L_law_769 : decode c_L_law 769 = .ok (.iadd, 1) := by decide +kernel
theorem d_L_law_770 : decode c_L_law 770 = .ok (.iaload, 1) := by decide +kernel
theorem d_L_law_771 : decode c_L_law 771 = .ok (.ifCond .eq 7, 3) := by decide +kernel
theorem d_L_law_774 : decode c_L_law 774 = .ok (.iconst 1, 1) := by decide +kernel
theorem d_L_law_775 : decode c_L_law 775 = .ok (.goto 4, 3) := by decide +kernel
theorem d_L_law_778 : decode c_L_law 778 = .ok (.iconst 0, 1) := by decide +kernel
theorem d_L_law_779 : decode c_L_law 779 = .ok (.invokevirtual 113, 3) := by decide +kernel
theorem d_L_law_782 : decode c_L_law 782 = .ok (.istore 6, 2) := by decide +kernel
theorem d_L_law_784 : decode c_L_law 784 = .ok (.aload_n 2, 1) := by decide +kernel
theorem d_L_law_785 : decode c_L_law 785 = .ok (.invokevirtual 82, 3) := by decide +kernel
theorem d_L_law_788 : decode c_L_law 788 = .ok (.iload 5, 2) := by decide +kernel
theorem d_L_law_790 : decode c_L_law 790 = .ok (.if_icmp .eq 5, 3) := by decide +kernel
theorem d_L_law_793 : decode c_L_law 793 = .ok (.iconst 0, 1) := by decide +kernel
theorem d_L_law_794 : decode c_L_law 794 = .ok (.ireturn, 1) := by decide +kernel
theorem d_L_law_795 : decode c_L_law 795 = .ok (.iload 5, 2) := by decide +kernel
theorem d_L_law_797 : decode c_L_law 797 = .ok (.ifCond .ne 22, 3) := by decide +kernel
theorem d_L_law_800 : decode c_L_law 800 = .ok (.aload_n 3, 1) := by decide +kernel
theorem d_L_law_801 : decode c_L_law 801 = .ok (.iconst 0, 1) := by decide +kernel
theorem d_L_law_802 : decode c_L_law 802 = .ok (.laload, 1) := by decide +kernel
theorem d_L_law_803 : decode c_L_law 803 = .ok (.iload 6, 2) := by decide +kernel
theorem d_L_law_805 : decode c_L_law 805 = .ok (.ifCond .eq 7, 3) := by decide +kernel
theorem d_L_law_808 : decode c_L_law 808 = .ok (.lconst 1, 1) := by decide +kernel
theorem d_L_law_809 : decode c_L_law 809 = .ok (.goto 4, 3) := by decide +kernel
theorem d_L_law_812 : decode c_L_law 812 = .ok (.lconst 0, 1) := by decide +kernel
theorem d_L_law_813 : decode c_L_law 813 = .ok (.lcmp, 1) := by decide +kernel
theorem d_L_law_814 : decode c_L_law 814 = .ok (.ifCond .eq 5, 3) := by decide +kernel
theorem d_L_law_817 : decode c_L_law 817 = .ok (.iconst 0, 1) := by decide +kernel
theorem d_L_law_818 : decode c_L_law 818 = .ok (.ireturn, 1) := by decide +kernel
theorem d_L_law_819 : decode c_L_law 819 = .ok (.goto 679, 3) := by decide +kernel
theorem d_L_law_822 : decode c_L_law 822 = .ok (.aload_n 1, 1) := by decide +kernel
theorem d_L_law_823 : decode c_L_law 823 = .ok (.aload_n 0, 1) := by decide +kernel
theorem d_L_law_824 : decode c_L_law 824 = .ok (.iload 4, 2) := by decide +kernel
theorem d_L_law_826 : decode c_L_law 826 = .ok (.iconst 1, 1) := by decide +kernel
theorem d_L_law_827 : decode c_L_law 827 = .ok (.iadd, 1) := by decide +kernel
theorem d_L_law_828 : decode c_L_law 828 = .ok (.iaload, 1) := by decide +kernel
theorem d_L_law_829 : decode c_L_law 829 = .ok (.aload_n 0, 1) := by decide +kernel
theorem d_L_law_830 : decode c_L_law 830 = .ok (.iload 4, 2) := by decide +kernel
theorem d_L_law_832 : decode c_L_law 832 = .ok (.iconst 2, 1) := by decide +kernel
theorem d_L_law_833 : decode c_L_law 833 = .ok (.iadd, 1) := by decide +kernel
theorem d_L_law_834 : decode c_L_law 834 = .ok (.iaload, 1) := by decide +kernel
theorem d_L_law_835 : decode c_L_law 835 = .ok (.ifCond .eq 7, 3) := by decide +kernel
theorem d_L_law_838 : decode c_L_law 838 = .ok (.iconst 1, 1) := by decide +kernel
theorem d_L_law_839 : decode c_L_law 839 = .ok (.goto 4, 3) := by decide +kernel
theorem d_L_law_842 : decode c_L_law 842 = .ok (.iconst 0, 1) := by decide +kernel
theorem d_L_law_843 : decode c_L_law 843 = .ok (.aload_n 0, 1) := by decide +kernel
theorem d_L_law_844 : decode c_L_law 844 = .ok (.iload 4, 2) := by decide +kernel
theorem d_L_law_846 : decode c_L_law 846 = .ok (.iconst 3, 1) := by decide +kernel
theorem d_L_law_847 : decode c_L_law 847 = .ok (.iadd, 1) := by decide +kernel
theorem d_L_law_848 : decode c_L_law 848 = .ok (.iaload, 1) := by decide +kernel
theorem d_L_law_849 : decode c_L_law 849 = .ok (.aload_n 3, 1) := by decide +kernel
theorem d_L_law_850 : decode c_L_law 850 = .ok (.invokestatic 114, 3) := by decide +kernel
theorem d_L_law_853 : decode c_L_law 853 = .ok (.istore 5, 2) := by decide +kernel
theorem d_L_law_855 : decode c_L_law 855 = .ok (.aload_n 2, 1) := by decide +kernel
theorem d_L_law_856 : decode c_L_law 856 = .ok (.aload_n 0, 1) := by decide +kernel
theorem d_L_law_857 : decode c_L_law 857 = .ok (.iload 4, 2) := by decide +kernel
theorem d_L_law_859 : decode c_L_law 859 = .ok (.iconst 1, 1) := by decide +kernel
theorem d_L_law_860 : decode c_L_law 860 = .ok (.iadd, 1) := by decide +kernel
theorem d_L_law_861 : decode c_L_law 861 = .ok (.iaload, 1) := by decide +kernel
theorem d_L_law_862 : decode c_L_law 862 = .ok (.aload_n 0, 1) := by decide +kernel
theorem d_L_law_863 : decode c_L_law 863 = .ok (.iload 4, 2) := by decide +kernel
theorem d_L_law_865 : decode c_L_law 865 = .ok (.iconst 2, 1) := by decide +kernel
theorem d_L_law_866 : decode c_L_law 866 = .ok (.iadd, 1) := by decide +kernel
theorem d_L_law_867 : decode c_L_law 867 = .ok (.iaload, 1) := by decide +kernel
theorem d_L_law_868 : decode c_L_law 868 = .ok (.ifCond .eq 7, 3) := by decide +kernel
theorem d_L_law_871 : decode c_L_law 871 = .ok (.iconst 1, 1) := by decide +kernel
theorem d_L_law_872 : decode c_L_law 872 = .ok (.goto 4, 3) := by decide +kernel
theorem d_L_law_875 : decode c_L_law 875 = .ok (.iconst 0, 1) := by decide +kernel
theorem d_L_law_876 : decode c_L_law 876 = .ok (.aload_n 0, 1) := by decide +kernel
theorem d_L_law_877 : decode c_L_law 877 = .ok (.iload 4, 2) := by decide +kernel
theorem d_L_law_879 : decode c_L_law 879 = .ok (.iconst 3, 1) := by decide +kernel
theorem d_L_law_880 : decode c_L_law 880 = .ok (.iadd, 1) := by decide +kernel
theorem d_L_law_881 : decode c_L_law 881 = .ok (.iaload, 1) := by decide +kernel
theorem d_L_law_882 : decode c_L_law 882 = .ok (.invokevirtual 117, 3) := by decide +kernel
theorem d_L_law_885 : decode c_L_law 885 = .ok (.istore 6, 2) := by decide +kernel
theorem d_L_law_887 : decode c_L_law 887 = .ok (.aload_n 2, 1) := by decide +kernel
theorem d_L_law_888 : decode c_L_law 888 = .ok (.invokevirtual 82, 3) := by decide +kernel
theorem d_L_law_891 : decode c_L_law 891 = .ok (.iload 5, 2) := by decide +kernel
theorem d_L_law_893 : decode c_L_law 893 = .ok (.if_icmp .eq 5, 3) := by decide +kernel
theorem d_L_law_896 : decode c_L_law 896 = .ok (.iconst 0, 1) := by decide +kernel
theorem d_L_law_897 : decode c_L_law 897 = .ok (.ireturn, 1) := by decide +kernel
theorem d_L_law_898 : decode c_L_law 898 = .ok (.iload 5, 2) := by decide +kernel
theorem d_L_law_900 : decode c_L_law 900 = .ok (.ifCond .ne 15, 3) := by decide +kernel
theorem d_L_law_903 : decode c_L_law 903 = .ok (.aload_n 3, 1) := by decide +kernel
theorem d_L_law_904 : decode c_L_law 904 = .ok (.iconst 0, 1) := by decide +kernel
theorem d_L_law_905 : decode c_L_law 905 = .ok (.laload, 1) := by decide +kernel
theorem d_L_law_906 : decode c_L_law 906 = .ok (.iload 6, 2) := by decide +kernel
theorem d_L_law_908 : decode c_L_law 908 = .ok (.i2l, 1) := by decide +kernel
theorem d_L_law_909 : decode c_L_law 909 = .ok (.lcmp, 1) := by decide +kernel
theorem d_L_law_910 : decode c_L_law 910 = .ok (.ifCond .eq 5, 3) := by decide +kernel
theorem d_L_law_913 : decode c_L_law 913 = .ok (.iconst 0, 1) := by decide +kernel
theorem d_L_law_914 : decode c_L_law 914 = .ok (.ireturn, 1) := by decide +kernel
theorem d_L_law_915 : decode c_L_law 915 = .ok (.goto 583, 3) := by decide +kernel
theorem d_L_law_918 : decode c_L_law 918 = .ok (.aload_n 1, 1) := by decide +kernel
theorem d_L_law_919 : decode c_L_law 919 = .ok (.aload_n 0, 1) := by decide +kernel
theorem d_L_law_920 : decode c_L_law 920 = .ok (.iload 4, 2) := by decide +kernel
theorem d_L_law_922 : decode c_L_law 922 = .ok (.iconst 1, 1) := by decide +kernel
theorem d_L_law_923 : decode c_L_law 923 = .ok (.iadd, 1) := by decide +kernel
theorem d_L_law_924 : decode c_L_law 924 = .ok (.iaload, 1) := by decide +kernel
theorem d_L_law_925 : decode c_L_law 925 = .ok (.aload_n 0, 1) := by decide +kernel
theorem d_L_law_926 : decode c_L_law 926 = .ok (.iload 4, 2) := by decide +kernel
theorem d_L_law_928 : decode c_L_law 928 = .ok (.iconst 2, 1) := by decide +kernel
theorem d_L_law_929 : decode c_L_law 929 = .ok (.iadd, 1) := by decide +kernel
theorem d_L_law_930 : decode c_L_law 930 = .ok (.iaload, 1) := by decide +kernel
theorem d_L_law_931 : decode c_L_law 931 = .ok (.ifCond .eq 7, 3) := by decide +kernel
theorem d_L_law_934 : decode c_L_law 934 = .ok (.iconst 1, 1) := by decide +kernel
theorem d_L_law_935 : decode c_L_law 935 = .ok (.goto 4, 3) := by decide +kernel
theorem d_L_law_938 : decode c_L_law 938 = .ok (.iconst 0, 1) := by decide +kernel
theorem d_L_law_939 : decode c_L_law 939 = .ok (.aload_n 3, 1) := by decide +kernel
theorem d_L_law_940 : decode c_L_law 940 = .ok (.invokestatic 118, 3) := by decide +kernel
theorem d_L_law_943 : decode c_L_law 943 = .ok (.istore 5, 2) := by decide +kernel
theorem d_L_law_945 : decode c_L_law 945 = .ok (.aload_n 2, 1) := by decide +kernel
theorem d_L_law_946 : decode c_L_law 946 = .ok (.aload_n 0, 1) := by decide +kernel
theorem d_L_law_947 : decode c_L_law 947 = .ok (.iload 4, 2) := by decide +kernel
theorem d_L_law_949 : decode c_L_law 949 = .ok (.iconst 1, 1) := by decide +kernel
theorem d_L_law_950 : decode c_L_law 950 = .ok (.iadd, 1) := by decide +kernel
theorem d_L_law_951 : decode c_L_law 951 = .ok (.iaload, 1) := by decide +kernel
theorem d_L_law_952 : decode c_L_law 952 = .ok (.aload_n 0, 1) := by decide +kernel
theorem d_L_law_953 : decode c_L_law 953 = .ok (.iload 4, 2) := by decide +kernel
theorem d_L_law_955 : decode c_L_law 955 = .ok (.iconst 2, 1) := by decide +kernel
theorem d_L_law_956 : decode c_L_law 956 = .ok (.iadd, 1) := by decide +kernel
theorem d_L_law_957 : decode c_L_law 957 = .ok (.iaload, 1) := by decide +kernel
theorem d_L_law_958 : decode c_L_law 958 = .ok (.ifCond .eq 7, 3) := by decide +kernel
theorem d_L_law_961 : decode c_L_law 961 = .ok (.iconst 1, 1) := by decide +kernel
theorem d_L_law_962 : decode c_L_law 962 = .ok (.goto 4, 3) := by decide +kernel
theorem d_L_law_965 : decode c_L_law 965 = .ok (.iconst 0, 1) := by decide +kernel
theorem d_L_law_966 : decode c_L_law 966 = .ok (.invokevirtual 120, 3) := by decide +kernel
theorem d_L_law_969 : decode c_L_law 969 = .ok (.istore 6, 2) := by decide +kernel
theorem d_L_law_971 : decode c_L_law 971 = .ok (.aload_n 2, 1) := by decide +kernel
theorem d_L_law_972 : decode c_L_law 972 = .ok (.invokevirtual 82, 3) := by decide +kernel
theorem d_L_law_975 : decode c_L_law 975 = .ok (.iload 5, 2) := by decide +kernel
theorem d_L_law_977 : decode c_L_law 977 = .ok (.if_icmp .eq 5, 3) := by decide +kernel
theorem d_L_law_980 : decode c_L_law 980 = .ok (.iconst 0, 1) := by decide +kernel
theorem d_L_law_981 : decode c_L_law 981 = .ok (.ireturn, 1) := by decide +kernel
theorem d_L_law_982 : decode c_L_law 982 = .ok (.iload 5, 2) := by decide +kernel
theorem d_L_law_984 : decode c_L_law 984 = .ok (.ifCond .ne 15, 3) := by decide +kernel
theorem d_L_law_987 : decode c_L_law 987 = .ok (.aload_n 3, 1) := by decide +kernel
theorem d_L_law_988 : decode c_L_law 988 = .ok (.iconst 0, 1) := by decide +kernel
theorem d_L_law_989 : decode c_L_law 989 = .ok (.laload, 1) := by decide +kernel
theorem d_L_law_990 : decode c_L_law 990 = .ok (.iload 6, 2) := by decide +kernel
theorem d_L_law_992 : decode c_L_law 992 = .ok (.i2l, 1) := by decide +kernel
theorem d_L_law_993 : decode c_L_law 993 = .ok (.lcmp, 1) := by decide +kernel
theorem d_L_law_994 : decode c_L_law 994 = .ok (.ifCond .eq 5, 3) := by decide +kernel
theorem d_L_law_997 : decode c_L_law 997 = .ok (.iconst 0, 1) := by decide +kernel
theorem d_L_law_998 : decode c_L_law 998 = .ok (.ireturn, 1) := by decide +kernel
theorem d_L_law_999 : decode c_L_law 999 = .ok (.goto 499, 3) := by decide +kernel
theorem d_L_law_1002 : decode c_L_law 1002 = .ok (.aload_n 1, 1) := by decide +kernel
theorem d_L_law_1003 : decode c_L_law 1003 = .ok (.aload_n 0, 1) := by decide +kernel
theorem d_L_law_1004 : decode c_L_law 1004 = .ok (.iload 4, 2) := by decide +kernel
theorem d_L_law_1006 : decode c_L_law 1006 = .ok (.iconst 1, 1) := by decide +kernel
theorem d_L_law_1007 : decode c_L_law 1007 = .ok (.iadd, 1) := by decide +kernel
theorem d_L_law_1008 : decode c_L_law 1008 = .ok (.iaload, 1) := by decide +kernel
theorem d_L_law_1009 : decode c_L_law 1009 = .ok (.aload_n 0, 1) := by decide +kernel
theorem d_L_law_1010 : decode c_L_law 1010 = .ok (.iload 4, 2) := by decide +kernel
theorem d_L_law_1012 : decode c_L_law 1012 = .ok (.iconst 2, 1) := by decide +kernel
theorem d_L_law_1013 : decode c_L_law 1013 = .ok (.iadd, 1) := by decide +kernel
theorem d_L_law_1014 : decode c_L_law 1014 = .ok (.iaload, 1) := by decide +kernel
theorem d_L_law_1015 : decode c_L_law 1015 = .ok (.aload_n 0, 1) := by decide +kernel
theorem d_L_law_1016 : decode c_L_law 1016 = .ok (.iload 4, 2) := by decide +kernel
theorem d_L_law_1018 : decode c_L_law 1018 = .ok (.iconst 3, 1) := by decide +kernel
theorem d_L_law_1019 : decode c_L_law 1019 = .ok (.iadd, 1) := by decide +kernel
theorem d_L_law_1020 : decode c_L_law 1020 = .ok (.iaload, 1) := by decide +kernel
theorem d_L_law_1021 : decode c_L_law 1021 = .ok (.aload_n 0, 1) := by decide +kernel
theorem d_L_law_1022 : decode c_L_law 1022 = .ok (.iload 4, 2) := by decide +kernel
theorem d_L_law_1024 : decode c_L_law 1024 = .ok (.iconst 4, 1) := by decide +kernel
theorem d_L_law_1025 : decode c_L_law 1025 = .ok (.iadd, 1) := by decide +kernel
theorem d_L_law_1026 : decode c_L_law 1026 = .ok (.iaload, 1) := by decide +kernel
theorem d_L_law_1027 : decode c_L_law 1027 = .ok (.aload_n 3, 1) := by decide +kernel
theorem d_L_law_1028 : decode c_L_law 1028 = .ok (.invokestatic 121, 3) := by decide +kernel
theorem d_L_law_1031 : decode c_L_law 1031 = .ok (.istore 5, 2) := by decide +kernel
theorem d_L_law_1033 : decode c_L_law 1033 = .ok (.aload_n 2, 1) := by decide +kernel
theorem d_L_law_1034 : decode c_L_law 1034 = .ok (.aload_n 0, 1) := by decide +kernel
theorem d_L_law_1035 : decode c_L_law 1035 = .ok (.iload 4, 2) := by decide +kernel
theorem d_L_law_1037 : decode c_L_law 1037 = .ok (.iconst 1, 1) := by decide +kernel
theorem d_L_law_1038 : decode c_L_law 1038 = .ok (.iadd, 1) := by decide +kernel
theorem d_L_law_1039 : decode c_L_law 1039 = .ok (.iaload, 1) := by decide +kernel
theorem d_L_law_1040 : decode c_L_law 1040 = .ok (.aload_n 0, 1) := by decide +kernel
theorem d_L_law_1041 : decode c_L_law 1041 = .ok (.iload 4, 2) := by decide +kernel
theorem d_L_law_1043 : decode c_L_law 1043 = .ok (.iconst 2, 1) := by decide +kernel
theorem d_L_law_1044 : decode c_L_law 1044 = .ok (.iadd, 1) := by decide +kernel
theorem d_L_law_1045 : decode c_L_law 1045 = .ok (.iaload, 1) := by decide +kernel
theorem d_L_law_1046 : decode c_L_law 1046 = .ok (.aload_n 0, 1) := by decide +kernel
theorem d_L_law_1047 : decode c_L_law 1047 = .ok (.iload 4, 2) := by decide +kernel
theorem d_L_law_1049 : decode c_L_law 1049 = .ok (.iconst 3, 1) := by decide +kernel
theorem d_L_law_1050 : decode c_L_law 1050 = .ok (.iadd, 1) := by decide +kernel
theorem d_L_law_1051 : decode c_L_law 1051 = .ok (.iaload, 1) := by decide +kernel
theorem d_L_law_1052 : decode c_L_law 1052 = .ok (.aload_n 0, 1) := by decide +kernel
theorem d_L_law_1053 : decode c_L_law 1053 = .ok (.iload 4, 2) := by decide +kernel
theorem d_L_law_1055 : decode c_L_law 1055 = .ok (.iconst 4, 1) := by decide +kernel
theorem d_L_law_1056 : decode c_L_law 1056 = .ok (.iadd, 1) := by decide +kernel
theorem d_L_law_1057 : decode c_L_law 1057 = .ok (.iaload, 1) := by decide +kernel
theorem d_L_law_1058 : decode c_L_law 1058 = .ok (.invokevirtual 124, 3) := by decide +kernel
theorem d_L_law_1061 : decode c_L_law 1061 = .ok (.istore 6, 2) := by decide +kernel
theorem d_L_law_1063 : decode c_L_law 1063 = .ok (.aload_n 2, 1) := by decide +kernel
theorem d_L_law_1064 : decode c_L_law 1064 = .ok (.invokevirtual 82, 3) := by decide +kernel
theorem d_L_law_1067 : decode c_L_law 1067 = .ok (.iload 5, 2) := by decide +kernel
theorem d_L_law_1069 : decode c_L_law 1069 = .ok (.if_icmp .eq 5, 3) := by decide +kernel
theorem d_L_law_1072 : decode c_L_law 1072 = .ok (.iconst 0, 1) := by decide +kernel
theorem d_L_law_1073 : decode c_L_law 1073 = .ok (.ireturn, 1) := by decide +kernel
theorem d_L_law_1074 : decode c_L_law 1074 = .ok (.iload 5, 2) := by decide +kernel
theorem d_L_law_1076 : decode c_L_law 1076 = .ok (.ifCond .ne 15, 3) := by decide +kernel
theorem d_L_law_1079 : decode c_L_law 1079 = .ok (.aload_n 3, 1) := by decide +kernel
theorem d_L_law_1080 : decode c_L_law 1080 = .ok (.iconst 0, 1) := by decide +kernel
theorem d_L_law_1081 : decode c_L_law 1081 = .ok (.laload, 1) := by decide +kernel
theorem d_L_law_1082 : decode c_L_law 1082 = .ok (.iload 6, 2) := by decide +kernel
theorem d_L_law_1084 : decode c_L_law 1084 = .ok (.i2l, 1) := by decide +kernel
theorem d_L_law_1085 : decode c_L_law 1085 = .ok (.lcmp, 1) := by decide +kernel
theorem d_L_law_1086 : decode c_L_law 1086 = .ok (.ifCond .eq 5, 3) := by decide +kernel
theorem d_L_law_1089 : decode c_L_law 1089 = .ok (.iconst 0, 1) := by decide +kernel
theorem d_L_law_1090 : decode c_L_law 1090 = .ok (.ireturn, 1) := by decide +kernel
theorem d_L_law_1091 : decode c_L_law 1091 = .ok (.goto 407, 3) := by decide +kernel
theorem d_L_law_1094 : decode c_L_law 1094 = .ok (.aload_n 1, 1) := by decide +kernel
theorem d_L_law_1095 : decode c_L_law 1095 = .ok (.aload_n 0, 1) := by decide +kernel
theorem d_L_law_1096 : decode c_L_law 1096 = .ok (.iload 4, 2) := by decide +kernel
theorem d_L_law_1098 : decode c_L_law 1098 = .ok (.iconst 1, 1) := by decide +kernel
theorem d_L_law_1099 : decode c_L_law 1099 = .ok (.iadd, 1) := by decide +kernel
theorem d_L_law_1100 : decode c_L_law 1100 = .ok (.iaload, 1) := by decide +kernel
theorem d_L_law_1101 : decode c_L_law 1101 = .ok (.aload_n 0, 1) := by decide +kernel
theorem d_L_law_1102 : decode c_L_law 1102 = .ok (.iload 4, 2) := by decide +kernel
theorem d_L_law_1104 : decode c_L_law 1104 = .ok (.iconst 2, 1) := by decide +kernel
theorem d_L_law_1105 : decode c_L_law 1105 = .ok (.iadd, 1) := by decide +kernel
theorem d_L_law_1106 : decode c_L_law 1106 = .ok (.iaload, 1) := by decide +kernel
theorem d_L_law_1107 : decode c_L_law 1107 = .ok (.aload_n 0, 1) := by decide +kernel
theorem d_L_law_1108 : decode c_L_law 1108 = .ok (.iload 4, 2) := by decide +kernel
theorem d_L_law_1110 : decode c_L_law 1110 = .ok (.iconst 3, 1) := by decide +kernel
theorem d_L_law_1111 : decode c_L_law 1111 = .ok (.iadd, 1) := by decide +kernel
theorem d_L_law_1112 : decode c_L_law 1112 = .ok (.iaload, 1) := by decide +kernel
theorem d_L_law_1113 : decode c_L_law 1113 = .ok (.aload_n 0, 1) := by decide +kernel
theorem d_L_law_1114 : decode c_L_law 1114 = .ok (.iload 4, 2) := by decide +kernel
theorem d_L_law_1116 : decode c_L_law 1116 = .ok (.iconst 4, 1) := by decide +kernel
theorem d_L_law_1117 : decode c_L_law 1117 = .ok (.iadd, 1) := by decide +kernel
theorem d_L_law_1118 : decode c_L_law 1118 = .ok (.iaload, 1) := by decide +kernel
theorem d_L_law_1119 : decode c_L_law 1119 = .ok (.aload_n 0, 1) := by decide +kernel
theorem d_L_law_1120 : decode c_L_law 1120 = .ok (.iload 4, 2) := by decide +kernel
theorem d_L_law_1122 : decode c_L_law 1122 = .ok (.iconst 5, 1) := by decide +kernel
theorem d_L_law_1123 : decode c_L_law 1123 = .ok (.iadd, 1) := by decide +kernel
theorem d_L_law_1124 : decode c_L_law 1124 = .ok (.iaload, 1) := by decide +kernel
theorem d_L_law_1125 : decode c_L_law 1125 = .ok (.aload_n 3, 1) := by decide +kernel
theorem d_L_law_1126 : decode c_L_law 1126 = .ok (.invokestatic 125, 3) := by decide +kernel
theorem d_L_law_1129 : decode c_L_law 1129 = .ok (.istore 5, 2) := by decide +kernel
theorem d_L_law_1131 : decode c_L_law 1131 = .ok (.aload_n 2, 1) := by decide +kernel
theorem d_L_law_1132 : decode c_L_law 1132 = .ok (.aload_n 0, 1) := by decide +kernel
theorem d_L_law_1133 : decode c_L_law 1133 = .ok (.iload 4, 2) := by decide +kernel
theorem d_L_law_1135 : decode c_L_law 1135 = .ok (.iconst 1, 1) := by decide +kernel
theorem d_L_law_1136 : decode c_L_law 1136 = .ok (.iadd, 1) := by decide +kernel
theorem d_L_law_1137 : decode c_L_law 1137 = .ok (.iaload, 1) := by decide +kernel
theorem d_L_law_1138 : decode c_L_law 1138 = .ok (.aload_n 0, 1) := by decide +kernel
theorem d_L_law_1139 : decode c_L_law 1139 = .ok (.iload 4, 2) := by decide +kernel
theorem d_L_law_1141 : decode c_L_law 1141 = .ok (.iconst 2, 1) := by decide +kernel
theorem d_L_law_1142 : decode c_L_law 1142 = .ok (.iadd, 1) := by decide +kernel
theorem d_L_law_1143 : decode c_L_law 1143 = .ok (.iaload, 1) := by decide +kernel
theorem d_L_law_1144 : decode c_L_law 1144 = .ok (.aload_n 0, 1) := by decide +kernel
theorem d_L_law_1145 : decode c_L_law 1145 = .ok (.iload 4, 2) := by decide +kernel
theorem d_L_law_1147 : decode c_L_law 1147 = .ok (.iconst 3, 1) := by decide +kernel
theorem d_L_law_1148 : decode c_L_law 1148 = .ok (.iadd, 1) := by decide +kernel
theorem d_L_law_1149 : decode c_L_law 1149 = .ok (.iaload, 1) := by decide +kernel
theorem d_L_law_1150 : decode c_L_law 1150 = .ok (.aload_n 0, 1) := by decide +kernel
theorem d_L_law_1151 : decode c_L_law 1151 = .ok (.iload 4, 2) := by decide +kernel
theorem d_L_law_1153 : decode c_L_law 1153 = .ok (.iconst 4, 1) := by decide +kernel
theorem d_L_law_1154 : decode c_L_law 1154 = .ok (.iadd, 1) := by decide +kernel
theorem d_L_law_1155 : decode c_L_law 1155 = .ok (.iaload, 1) := by decide +kernel
theorem d_L_law_1156 : decode c_L_law 1156 = .ok (.aload_n 0, 1) := by decide +kernel
theorem d_L_law_1157 : decode c_L_law 1157 = .ok (.iload 4, 2) := by decide +kernel
theorem d_L_law_1159 : decode c_L_law 1159 = .ok (.iconst 5, 1) := by decide +kernel
theorem d_L_law_1160 : decode c_L_law 1160 = .ok (.iadd, 1) := by decide +kernel
theorem d_L_law_1161 : decode c_L_law 1161 = .ok (.iaload, 1) := by decide +kernel
theorem d_L_law_1162 : decode c_L_law 1162 = .ok (.invokevirtual 127, 3) := by decide +kernel
theorem d_L_law_1165 : decode c_L_law 1165 = .ok (.istore 6, 2) := by decide +kernel
theorem d_L_law_1167 : decode c_L_law 1167 = .ok (.aload_n 2, 1) := by decide +kernel
theorem d_L_law_1168 : decode c_L_law 1168 = .ok (.invokevirtual 82, 3) := by decide +kernel
theorem d_L_law_1171 : decode c_L_law 1171 = .ok (.iload 5, 2) := by decide +kernel
theorem d_L_law_1173 : decode c_L_law 1173 = .ok (.if_icmp .eq 5, 3) := by decide +kernel
theorem d_L_law_1176 : decode c_L_law 1176 = .ok (.iconst 0, 1) := by decide +kernel
theorem d_L_law_1177 : decode c_L_law 1177 = .ok (.ireturn, 1) := by decide +kernel
theorem d_L_law_1178 : decode c_L_law 1178 = .ok (.iload 5, 2) := by decide +kernel
theorem d_L_law_1180 : decode c_L_law 1180 = .ok (.ifCond .ne 15, 3) := by decide +kernel
theorem d_L_law_1183 : decode c_L_law 1183 = .ok (.aload_n 3, 1) := by decide +kernel
theorem d_L_law_1184 : decode c_L_law 1184 = .ok (.iconst 0, 1) := by decide +kernel
theorem d_L_law_1185 : decode c_L_law 1185 = .ok (.laload, 1) := by decide +kernel
theorem d_L_law_1186 : decode c_L_law 1186 = .ok (.iload 6, 2) := by decide +kernel
theorem d_L_law_1188 : decode c_L_law 1188 = .ok (.i2l, 1) := by decide +kernel
theorem d_L_law_1189 : decode c_L_law 1189 = .ok (.lcmp, 1) := by decide +kernel
theorem d_L_law_1190 : decode c_L_law 1190 = .ok (.ifCond .eq 5, 3) := by decide +kernel
theorem d_L_law_1193 : decode c_L_law 1193 = .ok (.iconst 0, 1) := by decide +kernel
theorem d_L_law_1194 : decode c_L_law 1194 = .ok (.ireturn, 1) := by decide +kernel
theorem d_L_law_1195 : decode c_L_law 1195 = .ok (.goto 303, 3) := by decide +kernel
theorem d_L_law_1198 : decode c_L_law 1198 = .ok (.aload_n 1, 1) := by decide +kernel
theorem d_L_law_1199 : decode c_L_law 1199 = .ok (.aload_n 0, 1) := by decide +kernel
theorem d_L_law_1200 : decode c_L_law 1200 = .ok (.iload 4, 2) := by decide +kernel
theorem d_L_law_1202 : decode c_L_law 1202 = .ok (.iconst 1, 1) := by decide +kernel
theorem d_L_law_1203 : decode c_L_law 1203 = .ok (.iadd, 1) := by decide +kernel
theorem d_L_law_1204 : decode c_L_law 1204 = .ok (.iaload, 1) := by decide +kernel
theorem d_L_law_1205 : decode c_L_law 1205 = .ok (.aload_n 3, 1) := by decide +kernel
theorem d_L_law_1206 : decode c_L_law 1206 = .ok (.invokestatic 128, 3) := by decide +kernel
theorem d_L_law_1209 : decode c_L_law 1209 = .ok (.istore 5, 2) := by decide +kernel
theorem d_L_law_1211 : decode c_L_law 1211 = .ok (.aload_n 2, 1) := by decide +kernel
theorem d_L_law_1212 : decode c_L_law 1212 = .ok (.aload_n 0, 1) := by decide +kernel
theorem d_L_law_1213 : decode c_L_law 1213 = .ok (.iload 4, 2) := by decide +kernel
theorem d_L_law_1215 : decode c_L_law 1215 = .ok (.iconst 1, 1) := by decide +kernel
theorem d_L_law_1216 : decode c_L_law 1216 = .ok (.iadd, 1) := by decide +kernel
theorem d_L_law_1217 : decode c_L_law 1217 = .ok (.iaload, 1) := by decide +kernel
theorem d_L_law_1218 : decode c_L_law 1218 = .ok (.invokevirtual 130, 3) := by decide +kernel
theorem d_L_law_1221 : decode c_L_law 1221 = .ok (.istore 6, 2) := by decide +kernel
theorem d_L_law_1223 : decode c_L_law 1223 = .ok (.aload_n 2, 1) := by decide +kernel
theorem d_L_law_1224 : decode c_L_law 1224 = .ok (.invokevirtual 82, 3) := by decide +kernel
theorem d_L_law_1227 : decode c_L_law 1227 = .ok (.iload 5, 2) := by decide +kernel
theorem d_L_law_1229 : decode c_L_law 1229 = .ok (.if_icmp .eq 5, 3) := by decide +kernel
theorem d_L_law_1232 : decode c_L_law 1232 = .ok (.iconst 0, 1) := by decide +kernel
theorem d_L_law_1233 : decode c_L_law 1233 = .ok (.ireturn, 1) := by decide +kernel
theorem d_L_law_1234 : decode c_L_law 1234 = .ok (.iload 5, 2) := by decide +kernel
theorem d_L_law_1236 : decode c_L_law 1236 = .ok (.ifCond .ne 15, 3) := by decide +kernel
theorem d_L_law_1239 : decode c_L_law 1239 = .ok (.aload_n 3, 1) := by decide +kernel
theorem d_L_law_1240 : decode c_L_law 1240 = .ok (.iconst 0, 1) := by decide +kernel
theorem d_L_law_1241 : decode c_L_law 1241 = .ok (.laload, 1) := by decide +kernel
theorem d_L_law_1242 : decode c_L_law 1242 = .ok (.iload 6, 2) := by decide +kernel
theorem d_L_law_1244 : decode c_L_law 1244 = .ok (.i2l, 1) := by decide +kernel
theorem d_L_law_1245 : decode c_L_law 1245 = .ok (.lcmp, 1) := by decide +kernel
theorem d_L_law_1246 : decode c_L_law 1246 = .ok (.ifCond .eq 5, 3) := by decide +kernel
theorem d_L_law_1249 : decode c_L_law 1249 = .ok (.iconst 0, 1) := by decide +kernel
theorem d_L_law_1250 : decode c_L_law 1250 = .ok (.ireturn, 1) := by decide +kernel
theorem d_L_law_1251 : decode c_L_law 1251 = .ok (.goto 247, 3) := by decide +kernel
theorem d_L_law_1254 : decode c_L_law 1254 = .ok (.aload_n 1, 1) := by decide +kernel
theorem d_L_law_1255 : decode c_L_law 1255 = .ok (.aload_n 0, 1) := by decide +kernel
theorem d_L_law_1256 : decode c_L_law 1256 = .ok (.iload 4, 2) := by decide +kernel
theorem d_L_law_1258 : decode c_L_law 1258 = .ok (.iconst 1, 1) := by decide +kernel
theorem d_L_law_1259 : decode c_L_law 1259 = .ok (.iadd, 1) := by decide +kernel
theorem d_L_law_1260 : decode c_L_law 1260 = .ok (.iaload, 1) := by decide +kernel
theorem d_L_law_1261 : decode c_L_law 1261 = .ok (.aload_n 3, 1) := by decide +kernel
theorem d_L_law_1262 : decode c_L_law 1262 = .ok (.invokestatic 131, 3) := by decide +kernel
theorem d_L_law_1265 : decode c_L_law 1265 = .ok (.istore 5, 2) := by decide +kernel
theorem d_L_law_1267 : decode c_L_law 1267 = .ok (.aload_n 2, 1) := by decide +kernel
theorem d_L_law_1268 : decode c_L_law 1268 = .ok (.aload_n 0, 1) := by decide +kernel
theorem d_L_law_1269 : decode c_L_law 1269 = .ok (.iload 4, 2) := by decide +kernel
theorem d_L_law_1271 : decode c_L_law 1271 = .ok (.iconst 1, 1) := by decide +kernel
theorem d_L_law_1272 : decode c_L_law 1272 = .ok (.iadd, 1) := by decide +kernel
theorem d_L_law_1273 : decode c_L_law 1273 = .ok (.iaload, 1) := by decide +kernel
theorem d_L_law_1274 : decode c_L_law 1274 = .ok (.invokevirtual 133, 3) := by decide +kernel
theorem d_L_law_1277 : decode c_L_law 1277 = .ok (.istore 6, 2) := by decide +kernel
theorem d_L_law_1279 : decode c_L_law 1279 = .ok (.aload_n 2, 1) := by decide +kernel
theorem d_L_law_1280 : decode c_L_law 1280 = .ok (.invokevirtual 82, 3) := by decide +kernel
theorem d_L_law_1283 : decode c_L_law 1283 = .ok (.iload 5, 2) := by decide +kernel
theorem d_L_law_1285 : decode c_L_law 1285 = .ok (.if_icmp .eq 5, 3) := by decide +kernel
theorem d_L_law_1288 : decode c_L_law 1288 = .ok (.iconst 0, 1) := by decide +kernel
theorem d_L_law_1289 : decode c_L_law 1289 = .ok (.ireturn, 1) := by decide +kernel
theorem d_L_law_1290 : decode c_L_law 1290 = .ok (.iload 5, 2) := by decide +kernel
theorem d_L_law_1292 : decode c_L_law 1292 = .ok (.ifCond .ne 15, 3) := by decide +kernel
theorem d_L_law_1295 : decode c_L_law 1295 = .ok (.aload_n 3, 1) := by decide +kernel
theorem d_L_law_1296 : decode c_L_law 1296 = .ok (.iconst 0, 1) := by decide +kernel
theorem d_L_law_1297 : decode c_L_law 1297 = .ok (.laload, 1) := by decide +kernel
theorem d_L_law_1298 : decode c_L_law 1298 = .ok (.iload 6, 2) := by decide +kernel
theorem d_L_law_1300 : decode c_L_law 1300 = .ok (.i2l, 1) := by decide +kernel
theorem d_L_law_1301 : decode c_L_law 1301 = .ok (.lcmp, 1) := by decide +kernel
theorem d_L_law_1302 : decode c_L_law 1302 = .ok (.ifCond .eq 5, 3) := by decide +kernel
theorem d_L_law_1305 : decode c_L_law 1305 = .ok (.iconst 0, 1) := by decide +kernel
theorem d_L_law_1306 : decode c_L_law 1306 = .ok (.ireturn, 1) := by decide +kernel
theorem d_L_law_1307 : decode c_L_law 1307 = .ok (.goto 191, 3) := by decide +kernel
theorem d_L_law_1310 : decode c_L_law 1310 = .ok (.aload_n 1, 1) := by decide +kernel
theorem d_L_law_1311 : decode c_L_law 1311 = .ok (.aload_n 0, 1) := by decide +kernel
theorem d_L_law_1312 : decode c_L_law 1312 = .ok (.iload 4, 2) := by decide +kernel
theorem d_L_law_1314 : decode c_L_law 1314 = .ok (.iconst 1, 1) := by decide +kernel
theorem d_L_law_1315 : decode c_L_law 1315 = .ok (.iadd, 1) := by decide +kernel
theorem d_L_law_1316 : decode c_L_law 1316 = .ok (.iaload, 1) := by decide +kernel
theorem d_L_law_1317 : decode c_L_law 1317 = .ok (.aload_n 0, 1) := by decide +kernel
theorem d_L_law_1318 : decode c_L_law 1318 = .ok (.iload 4, 2) := by decide +kernel
theorem d_L_law_1320 : decode c_L_law 1320 = .ok (.iconst 2, 1) := by decide +kernel
theorem d_L_law_1321 : decode c_L_law 1321 = .ok (.iadd, 1) := by decide +kernel
theorem d_L_law_1322 : decode c_L_law 1322 = .ok (.iaload, 1) := by decide +kernel
theorem d_L_law_1323 : decode c_L_law 1323 = .ok (.aload_n 3, 1) := by decide +kernel
theorem d_L_law_1324 : decode c_L_law 1324 = .ok (.invokestatic 134, 3) := by decide +kernel
theorem d_L_law_1327 : decode c_L_law 1327 = .ok (.istore 5, 2) := by decide +kernel
theorem d_L_law_1329 : decode c_L_law 1329 = .ok (.aload_n 2, 1) := by decide +kernel
theorem d_L_law_1330 : decode c_L_law 1330 = .ok (.aload_n 0, 1) := by decide +kernel
theorem d_L_law_1331 : decode c_L_law 1331 = .ok (.iload 4, 2) := by decide +kernel
theorem d_L_law_1333 : decode c_L_law 1333 = .ok (.iconst 1, 1) := by decide +kernel
theorem d_L_law_1334 : decode c_L_law 1334 = .ok (.iadd, 1) := by decide +kernel
theorem d_L_law_1335 : decode c_L_law 1335 = .ok (.iaload, 1) := by decide +kernel
theorem d_L_law_1336 : decode c_L_law 1336 = .ok (.aload_n 0, 1) := by decide +kernel
theorem d_L_law_1337 : decode c_L_law 1337 = .ok (.iload 4, 2) := by decide +kernel
theorem d_L_law_1339 : decode c_L_law 1339 = .ok (.iconst 2, 1) := by decide +kernel
theorem d_L_law_1340 : decode c_L_law 1340 = .ok (.iadd, 1) := by decide +kernel
theorem d_L_law_1341 : decode c_L_law 1341 = .ok (.iaload, 1) := by decide +kernel
theorem d_L_law_1342 : decode c_L_law 1342 = .ok (.invokevirtual 136, 3) := by decide +kernel
theorem d_L_law_1345 : decode c_L_law 1345 = .ok (.istore 6, 2) := by decide +kernel
theorem d_L_law_1347 : decode c_L_law 1347 = .ok (.aload_n 2, 1) := by decide +kernel
theorem d_L_law_1348 : decode c_L_law 1348 = .ok (.invokevirtual 82, 3) := by decide +kernel
theorem d_L_law_1351 : decode c_L_law 1351 = .ok (.iload 5, 2) := by decide +kernel
theorem d_L_law_1353 : decode c_L_law 1353 = .ok (.if_icmp .eq 5, 3) := by decide +kernel
theorem d_L_law_1356 : decode c_L_law 1356 = .ok (.iconst 0, 1) := by decide +kernel
theorem d_L_law_1357 : decode c_L_law 1357 = .ok (.ireturn, 1) := by decide +kernel
theorem d_L_law_1358 : decode c_L_law 1358 = .ok (.iload 5, 2) := by decide +kernel
theorem d_L_law_1360 : decode c_L_law 1360 = .ok (.ifCond .ne 15, 3) := by decide +kernel
theorem d_L_law_1363 : decode c_L_law 1363 = .ok (.aload_n 3, 1) := by decide +kernel
theorem d_L_law_1364 : decode c_L_law 1364 = .ok (.iconst 0, 1) := by decide +kernel
theorem d_L_law_1365 : decode c_L_law 1365 = .ok (.laload, 1) := by decide +kernel
theorem d_L_law_1366 : decode c_L_law 1366 = .ok (.iload 6, 2) := by decide +kernel
theorem d_L_law_1368 : decode c_L_law 1368 = .ok (.i2l, 1) := by decide +kernel
theorem d_L_law_1369 : decode c_L_law 1369 = .ok (.lcmp, 1) := by decide +kernel
theorem d_L_law_1370 : decode c_L_law 1370 = .ok (.ifCond .eq 5, 3) := by decide +kernel
theorem d_L_law_1373 : decode c_L_law 1373 = .ok (.iconst 0, 1) := by decide +kernel
theorem d_L_law_1374 : decode c_L_law 1374 = .ok (.ireturn, 1) := by decide +kernel
theorem d_L_law_1375 : decode c_L_law 1375 = .ok (.goto 123, 3) := by decide +kernel
theorem d_L_law_1378 : decode c_L_law 1378 = .ok (.aload_n 1, 1) := by decide +kernel
theorem d_L_law_1379 : decode c_L_law 1379 = .ok (.invokevirtual 137, 3) := by decide +kernel
theorem d_L_law_1382 : decode c_L_law 1382 = .ok (.aload_n 2, 1) := by decide +kernel
theorem d_L_law_1383 : decode c_L_law 1383 = .ok (.invokevirtual 140, 3) := by decide +kernel
theorem d_L_law_1386 : decode c_L_law 1386 = .ok (.if_icmp .eq 112, 3) := by decide +kernel
theorem d_L_law_1389 : decode c_L_law 1389 = .ok (.iconst 0, 1) := by decide +kernel
theorem d_L_law_1390 : decode c_L_law 1390 = .ok (.ireturn, 1) := by decide +kernel
theorem d_L_law_1391 : decode c_L_law 1391 = .ok (.aload_n 1, 1) := by decide +kernel
theorem d_L_law_1392 : decode c_L_law 1392 = .ok (.aload_n 0, 1) := by decide +kernel
theorem d_L_law_1393 : decode c_L_law 1393 = .ok (.iload 4, 2) := by decide +kernel
theorem d_L_law_1395 : decode c_L_law 1395 = .ok (.iconst 1, 1) := by decide +kernel
theorem d_L_law_1396 : decode c_L_law 1396 = .ok (.iadd, 1) := by decide +kernel
theorem d_L_law_1397 : decode c_L_law 1397 = .ok (.iaload, 1) := by decide +kernel
theorem d_L_law_1398 : decode c_L_law 1398 = .ok (.aload_n 0, 1) := by decide +kernel
theorem d_L_law_1399 : decode c_L_law 1399 = .ok (.iload 4, 2) := by decide +kernel
theorem d_L_law_1401 : decode c_L_law 1401 = .ok (.iconst 2, 1) := by decide +kernel
theorem d_L_law_1402 : decode c_L_law 1402 = .ok (.iadd, 1) := by decide +kernel
theorem d_L_law_1403 : decode c_L_law 1403 = .ok (.iaload, 1) := by decide +kernel
theorem d_L_law_1404 : decode c_L_law 1404 = .ok (.aload_n 3, 1) := by decide +kernel
theorem d_L_law_1405 : decode c_L_law 1405 = .ok (.invokestatic 141, 3) := by decide +kernel
theorem d_L_law_1408 : decode c_L_law 1408 = .ok (.istore 5, 2) := by decide +kernel
theorem d_L_law_1410 : decode c_L_law 1410 = .ok (.aload_n 2, 1) := by decide +kernel
theorem d_L_law_1411 : decode c_L_law 1411 = .ok (.aload_n 0, 1) := by decide +kernel
theorem d_L_law_1412 : decode c_L_law 1412 = .ok (.iload 4, 2) := by decide +kernel
theorem d_L_law_1414 : decode c_L_law 1414 = .ok (.iconst 1, 1) := by decide +kernel
theorem d_L_law_1415 : decode c_L_law 1415 = .ok (.iadd, 1) := by decide +kernel
theorem d_L_law_1416 : decode c_L_law 1416 = .ok (.iaload, 1) := by decide +kernel
theorem d_L_law_1417 : decode c_L_law 1417 = .ok (.aload_n 0, 1) := by decide +kernel
theorem d_L_law_1418 : decode c_L_law 1418 = .ok (.iload 4, 2) := by decide +kernel
theorem d_L_law_1420 : decode c_L_law 1420 = .ok (.iconst 2, 1) := by decide +kernel
theorem d_L_law_1421 : decode c_L_law 1421 = .ok (.iadd, 1) := by decide +kernel
theorem d_L_law_1422 : decode c_L_law 1422 = .ok (.iaload, 1) := by decide +kernel
theorem d_L_law_1423 : decode c_L_law 1423 = .ok (.invokevirtual 143, 3) := by decide +kernel
theorem d_L_law_1426 : decode c_L_law 1426 = .ok (.istore 6, 2) := by decide +kernel
theorem d_L_law_1428 : decode c_L_law 1428 = .ok (.aload_n 2, 1) := by decide +kernel
theorem d_L_law_1429 : decode c_L_law 1429 = .ok (.invokevirtual 82, 3) := by decide +kernel
theorem d_L_law_1432 : decode c_L_law 1432 = .ok (.iload 5, 2) := by decide +kernel
theorem d_L_law_1434 : decode c_L_law 1434 = .ok (.if_icmp .eq 5, 3) := by decide +kernel
theorem d_L_law_1437 : decode c_L_law 1437 = .ok (.iconst 0, 1) := by decide +kernel
theorem d_L_law_1438 : decode c_L_law 1438 = .ok (.ireturn, 1) := by decide +kernel
theorem d_L_law_1439 : decode c_L_law 1439 = .ok (.iload 5, 2) := by decide +kernel
theorem d_L_law_1441 : decode c_L_law 1441 = .ok (.ifCond .ne 15, 3) := by decide +kernel
theorem d_L_law_1444 : decode c_L_law 1444 = .ok (.aload_n 3, 1) := by decide +kernel
theorem d_L_law_1445 : decode c_L_law 1445 = .ok (.iconst 0, 1) := by decide +kernel
theorem d_L_law_1446 : decode c_L_law 1446 = .ok (.laload, 1) := by decide +kernel
theorem d_L_law_1447 : decode c_L_law 1447 = .ok (.iload 6, 2) := by decide +kernel
theorem d_L_law_1449 : decode c_L_law 1449 = .ok (.i2l, 1) := by decide +kernel
theorem d_L_law_1450 : decode c_L_law 1450 = .ok (.lcmp, 1) := by decide +kernel
theorem d_L_law_1451 : decode c_L_law 1451 = .ok (.ifCond .eq 5, 3) := by decide +kernel
theorem d_L_law_1454 : decode c_L_law 1454 = .ok (.iconst 0, 1) := by decide +kernel
theorem d_L_law_1455 : decode c_L_law 1455 = .ok (.ireturn, 1) := by decide +kernel
theorem d_L_law_1456 : decode c_L_law 1456 = .ok (.goto 42, 3) := by decide +kernel
theorem d_L_law_1459 : decode c_L_law 1459 = .ok (.aload_n 1, 1) := by decide +kernel
theorem d_L_law_1460 : decode c_L_law 1460 = .ok (.invokevirtual 144, 3) := by decide +kernel
theorem d_L_law_1463 : decode c_L_law 1463 = .ok (.aload_n 2, 1) := by decide +kernel
theorem d_L_law_1464 : decode c_L_law 1464 = .ok (.invokevirtual 147, 3) := by decide +kernel
theorem d_L_law_1467 : decode c_L_law 1467 = .ok (.if_icmp .eq 31, 3) := by decide +kernel
theorem d_L_law_1470 : decode c_L_law 1470 = .ok (.iconst 0, 1) := by decide +kernel
theorem d_L_law_1471 : decode c_L_law 1471 = .ok (.ireturn, 1) := by decide +kernel
theorem d_L_law_1472 : decode c_L_law 1472 = .ok (.aload_n 1, 1) := by decide +kernel
theorem d_L_law_1473 : decode c_L_law 1473 = .ok (.invokevirtual 148, 3) := by decide +kernel
theorem d_L_law_1476 : decode c_L_law 1476 = .ok (.aload_n 2, 1) := by decide +kernel
theorem d_L_law_1477 : decode c_L_law 1477 = .ok (.invokevirtual 151, 3) := by decide +kernel
theorem d_L_law_1480 : decode c_L_law 1480 = .ok (.if_icmp .eq 18, 3) := by decide +kernel
theorem d_L_law_1483 : decode c_L_law 1483 = .ok (.iconst 0, 1) := by decide +kernel
theorem d_L_law_1484 : decode c_L_law 1484 = .ok (.ireturn, 1) := by decide +kernel
theorem d_L_law_1485 : decode c_L_law 1485 = .ok (.aload_n 1, 1) := by decide +kernel
theorem d_L_law_1486 : decode c_L_law 1486 = .ok (.invokevirtual 152, 3) := by decide +kernel
theorem d_L_law_1489 : decode c_L_law 1489 = .ok (.aload_n 2, 1) := by decide +kernel
theorem d_L_law_1490 : decode c_L_law 1490 = .ok (.invokevirtual 155, 3) := by decide +kernel
theorem d_L_law_1493 : decode c_L_law 1493 = .ok (.if_icmp .eq 5, 3) := by decide +kernel
theorem d_L_law_1496 : decode c_L_law 1496 = .ok (.iconst 0, 1) := by decide +kernel
theorem d_L_law_1497 : decode c_L_law 1497 = .ok (.ireturn, 1) := by decide +kernel
theorem d_L_law_1498 : decode c_L_law 1498 = .ok (.iinc 4 6, 3) := by decide +kernel
theorem d_L_law_1501 : decode c_L_law 1501 = .ok (.goto (-1478), 3) := by decide +kernel
theorem d_L_law_1504 : decode c_L_law 1504 = .ok (.iconst 1, 1) := by decide +kernel
theorem d_L_law_1505 : decode c_L_law 1505 = .ok (.ireturn, 1) := by decide +kernel
theorem law_offs : ∀ j, j < [140, 196, 264, 320, 388, 492, 560, 628, 719, 822, 918, 1002, 1094, 1198, 1254, 1310, 1378, 1391, 1459, 1472, 1485].length → ∃ off, (#[100, 156, 224, 280, 348, 452, 520, 588, 679, 782, 878, 962, 1054, 1158, 1214, 1270, 1338, 1351, 1419, 1432, 1445] : Array Int)[j]? = some off ∧ ((40 : Nat) : Int) + off = (([140, 196, 264, 320, 388, 492, 560, 628, 719, 822, 918, 1002, 1094, 1198, 1254, 1310, 1378, 1391, 1459, 1472, 1485].getD j 0 : Nat) : Int) := by
  intro j hj
  rcases (show j = 0 ∨ j = 1 ∨ j = 2 ∨ j = 3 ∨ j = 4 ∨ j = 5 ∨ j = 6 ∨ j = 7 ∨ j = 8 ∨ j = 9 ∨ j = 10 ∨ j = 11 ∨ j = 12 ∨ j = 13 ∨ j = 14 ∨ j = 15 ∨ j = 16 ∨ j = 17 ∨ j = 18 ∨ j = 19 ∨ j = 20 by simp at hj; omega) with rfl | rfl | rfl | rfl | rfl | rfl | rfl | rfl | rfl | rfl | rfl | rfl | rfl | rfl | rfl | rfl | rfl | rfl | rfl | rfl | rfl
  · exact ⟨_, rfl, rfl⟩
  · exact ⟨_, rfl, rfl⟩
  · exact ⟨_, rfl, rfl⟩
  · exact ⟨_, rfl, rfl⟩
  · exact ⟨_, rfl, rfl⟩
  · exact ⟨_, rfl, rfl⟩
  · exact ⟨_, rfl, rfl⟩
  · exact ⟨_, rfl, rfl⟩
  · exact ⟨_, rfl, rfl⟩
  · exact ⟨_, rfl, rfl⟩
  · exact ⟨_, rfl, rfl⟩
  · exact ⟨_, rfl, rfl⟩
  · exact ⟨_, rfl, rfl⟩
  · exact ⟨_, rfl, rfl⟩
  · exact ⟨_, rfl, rfl⟩
  · exact ⟨_, rfl, rfl⟩
  · exact ⟨_, rfl, rfl⟩
  · exact ⟨_, rfl, rfl⟩
  · exact ⟨_, rfl, rfl⟩
  · exact ⟨_, rfl, rfl⟩
  · exact ⟨_, rfl, rfl⟩
def t_Lwi (l : Launch) (s0 : State) (D : va_G) (ca : Nat → ClassId) (d mc ms b L : Nat) (xs : Nat → Int32) : List (Nat × cr_T) := [(0, cr_new D kc s0.heap.size mc ms 0 10 [.null, .null, .null, .null, .null, .null, .null, .null, .null, .int 0] 3),
  (3, cr_dup 4),
  (4, cr_calIh l (cr_W0 s0) s0.heap.size y_C_init cw_C_init d mc ms 0 7 7),
  (7, cr_astore 1 8),
  (8, cr_new D kc s0.heap.size mc ms 11 41 [.int 0, .int 0, .int 0, .null, .int 0, .null, .null, .null, .null, .null, .null, .null, .null, .null, .null, .null, .int 0, .null, .null, .int 0, .null, .null, .int 0, .null, .null, .null, .null, .null, .int 0, .null, .null, .null, .int 0, .null, .int 0, .null, .null, .null, .null, .null, .null] 11),
  (11, cr_dup 12),
  (12, cr_calIh l (cr_W0 s0) s0.heap.size y_M_init cw_M_init d mc ms 0 7 15),
  (15, cr_astore 2 16),
  (16, cr_push (.int 1) 17),
  (17, cr_newa D kc s0.heap.size mc ms (ca 1) 8 19 (fun N => (N, .inr (.inl (fun _ => 0))))),
  (19, cr_astore 3 20),
  (20, cr_push (.int 0) 21),
  (21, cr_istore 4 23)]
set_option maxHeartbeats 4000000 in
set_option maxRecDepth 20000 in
theorem s_Lwi {p : Program} {l : Launch} {e : Env} {R : Room} {m : MethodId} {args : Array Value} {below : List Frame} {meth : Method} {c : Code} {s0 : State} {D : va_G} {ca : Nat → ClassId} {e0 d mc ms b L : Nat} {xs : Nat → Int32} {Q : cr_Q} (Z : cr_Z0 s0 D ca e0) (hx : p.tables.exec = Jvm.exec) (hb : c.code = c_L_law) (hml : c.maxLocals = 7) (hown : s0.vm.findClass "CardRightsLaw" = some m.cls) (hr : meth.sig.returnType = some .boolean) (hlk : meth.locks = false) (hR : R = cr_rm d mc ms) (hX : va_X b L xs s0 s0.heap) (hL : L ≤ 3072) : ∀ x ∈ t_Lwi l s0 D ca d mc ms b L xs, cr_Snd p l e R s0 m args below meth c s0.heap.size mc ms Q x.1 x.2 := by
  have hU : cr_W0 s0 s0 := State.WarmedH.refl s0
  have hlo : s0.heap.size ≤ s0.heap.size := Nat.le_refl _
  have hK := cr_Z0K Z hU
  have hRc : R.cells = mc := by rw [hR]; rfl
  have hRs : R.slots = ms := by rw [hR]; rfl
  unfold t_Lwi
  refine cr_cons (cr_new_ok (C := R_C) (T := T_C) (N := 10) tt_C hx hb (k_C Z hU args) (fun _ h => h) ty_C hown (cr_w Z w_27 rfl hU args) (cr_w Z w_28 rfl hU args) (cr_w Z w_1 rfl hU args) hK rfl (by decide +kernel) hlo hRc hRs d_L_law_0 rfl) ?_
  refine cr_cons (cr_dup_ok hx hb d_L_law_3 rfl) ?_
  refine cr_cons (cr_calIh_ok hx hb hml hown hU hlo hR (cr_W0_st s0) (u_C_init Z) (cr_w Z w_29 rfl hU args) (cr_w Z w_30 rfl hU args) rfl (by decide) (by decide +kernel) (by decide) d_L_law_4 rfl) ?_
  refine cr_cons (cr_astore_n_ok hx hb d_L_law_7 rfl rfl) ?_
  refine cr_cons (cr_new_ok (C := R_M) (T := T_M) (N := 41) tt_M hx hb (k_M Z hU args) (fun _ h => h) ty_M hown (cr_w Z w_811 rfl hU args) (cr_w Z w_812 rfl hU args) (cr_w Z w_10 rfl hU args) hK rfl (by decide +kernel) hlo hRc hRs d_L_law_8 rfl) ?_
  refine cr_cons (cr_dup_ok hx hb d_L_law_11 rfl) ?_
  refine cr_cons (cr_calIh_ok hx hb hml hown hU hlo hR (cr_W0_st s0) (u_M_init Z) (cr_w Z w_813 rfl hU args) (cr_w Z w_814 rfl hU args) rfl (by decide) (by decide +kernel) (by decide) d_L_law_12 rfl) ?_
  refine cr_cons (cr_astore_n_ok hx hb d_L_law_15 rfl rfl) ?_
  refine cr_cons (cr_iconst_ok hx hb d_L_law_16 (by decide) rfl) ?_
  refine cr_cons (cr_newa_ok (t0 := 0) (atype := .long) (ty := .long) hx hb (cr_wa (ty := .long) Z w_122 hU args) rfl rfl rfl (fun _ => rfl) (hK.2 1 _ rfl).2 hlo hRc hRs d_L_law_17 rfl) ?_
  refine cr_cons (cr_astore_n_ok hx hb d_L_law_19 rfl rfl) ?_
  refine cr_cons (cr_iconst_ok hx hb d_L_law_20 (by decide) rfl) ?_
  refine cr_cons (cr_istore_ok hx hb d_L_law_21 rfl) ?_
  exact cr_nil
def t_Lwh (l : Launch) (s0 : State) (D : va_G) (ca : Nat → ClassId) (d mc ms b L : Nat) (xs : Nat → Int32) : List (Nat × cr_T) := [(23, cr_iload 4 25),
  (25, cr_aload 0 26),
  (26, cr_slen s0 b L 27),
  (27, cr_push (.int 6) 29),
  (29, cr_isub 30),
  (30, cr_icgt 1504 33),
  (33, cr_aload 0 34),
  (34, cr_iload 4 36),
  (36, cr_sld s0 b L xs 37),
  (37, cr_push (.int 31) 39),
  (39, cr_iand 40),
  (40, cr_tsw [140, 196, 264, 320, 388, 492, 560, 628, 719, 822, 918, 1002, 1094, 1198, 1254, 1310, 1378, 1391, 1459, 1472, 1485] 1498),
  (1498, cr_iinc 4 6 1501),
  (1501, cr_goto 23),
  (1504, cr_push (.int 1) 1505),
  (1505, cr_zret mc ms .boolean)]
set_option maxHeartbeats 4000000 in
set_option maxRecDepth 20000 in
theorem s_Lwh {p : Program} {l : Launch} {e : Env} {R : Room} {m : MethodId} {args : Array Value} {below : List Frame} {meth : Method} {c : Code} {s0 : State} {D : va_G} {ca : Nat → ClassId} {e0 d mc ms b L : Nat} {xs : Nat → Int32} {Q : cr_Q} (Z : cr_Z0 s0 D ca e0) (hx : p.tables.exec = Jvm.exec) (hb : c.code = c_L_law) (hml : c.maxLocals = 7) (hown : s0.vm.findClass "CardRightsLaw" = some m.cls) (hr : meth.sig.returnType = some .boolean) (hlk : meth.locks = false) (hR : R = cr_rm d mc ms) (hX : va_X b L xs s0 s0.heap) (hL : L ≤ 3072) : ∀ x ∈ t_Lwh l s0 D ca d mc ms b L xs, cr_Snd p l e R s0 m args below meth c s0.heap.size mc ms Q x.1 x.2 := by
  have hU : cr_W0 s0 s0 := State.WarmedH.refl s0
  have hlo : s0.heap.size ≤ s0.heap.size := Nat.le_refl _
  have hK := cr_Z0K Z hU
  have hRc : R.cells = mc := by rw [hR]; rfl
  have hRs : R.slots = ms := by rw [hR]; rfl
  unfold t_Lwh
  refine cr_cons (cr_iload_ok hx hb d_L_law_23 rfl) ?_
  refine cr_cons (cr_aload_n_ok hx hb d_L_law_25 rfl rfl) ?_
  refine cr_cons (cr_slen_ok hx hb hX d_L_law_26 rfl) ?_
  refine cr_cons (cr_bipush_ok hx hb d_L_law_27 (by decide) rfl) ?_
  refine cr_cons (cr_isub_ok hx hb d_L_law_29 rfl) ?_
  refine cr_cons (cr_icgt_ok hx hb d_L_law_30 (by decide) rfl) ?_
  refine cr_cons (cr_aload_n_ok hx hb d_L_law_33 rfl rfl) ?_
  refine cr_cons (cr_iload_ok hx hb d_L_law_34 rfl) ?_
  refine cr_cons (cr_sld_ok hx hb hX (by omega) d_L_law_36 rfl) ?_
  refine cr_cons (cr_bipush_ok hx hb d_L_law_37 (by decide) rfl) ?_
  refine cr_cons (cr_iand_ok hx hb d_L_law_39 rfl) ?_
  refine cr_cons (cr_tsw_ok hx hb d_L_law_40 (by decide) (by decide) (by decide) law_offs) ?_
  refine cr_cons (cr_iinc_ok hx hb d_L_law_1498 (by decide) rfl) ?_
  refine cr_cons (cr_goto_ok hx hb d_L_law_1501 (by decide)) ?_
  refine cr_cons (cr_iconst_ok hx hb d_L_law_1504 (by decide) rfl) ?_
  refine cr_cons (cr_zret_ok hx hb hr hlk d_L_law_1505) ?_
  exact cr_nil
def t_Lw0 (l : Launch) (s0 : State) (D : va_G) (ca : Nat → ClassId) (d mc ms b L : Nat) (xs : Nat → Int32) : List (Nat × cr_T) := [(140, cr_aload 1 141),
  (141, cr_aload 0 142),
  (142, cr_iload 4 144),
  (144, cr_push (.int 1) 145),
  (145, cr_iadd 146),
  (146, cr_sld s0 b L xs 147),
  (147, cr_aload 3 148),
  (148, cr_calSh l (cr_W0 s0) s0.heap.size y_L_room cw_L_room d mc ms 3 7 151),
  (151, cr_istore 5 153),
  (153, cr_aload 2 154),
  (154, cr_aload 0 155),
  (155, cr_iload 4 157),
  (157, cr_push (.int 1) 158),
  (158, cr_iadd 159),
  (159, cr_sld s0 b L xs 160),
  (160, cr_calVh D kc l (cr_W0 s0) s0.heap.size 11 y_M_room cw_M_room (fun _ => none) d mc ms 1 7 163),
  (163, cr_istore 6 165),
  (165, cr_aload 2 166),
  (166, cr_calVh D kc l (cr_W0 s0) s0.heap.size 11 y_M_thrown cw_M_thrown (fun _ => none) d mc ms 0 7 169),
  (169, cr_iload 5 171),
  (171, cr_iceq 176 174),
  (174, cr_push (.int 0) 175),
  (175, cr_zret mc ms .boolean),
  (176, cr_iload 5 178),
  (178, cr_ifne 193 181),
  (181, cr_aload 3 182),
  (182, cr_push (.int 0) 183),
  (183, cr_lald D kc (ca 1) 184),
  (184, cr_iload 6 186),
  (186, cr_i2l 187),
  (187, cr_lcmp 188),
  (188, cr_ifeq 193 191),
  (191, cr_push (.int 0) 192),
  (192, cr_zret mc ms .boolean),
  (193, cr_goto 1498),
  (1498, cr_iinc 4 6 1501),
  (1501, cr_goto 23)]
set_option maxHeartbeats 4000000 in
set_option maxRecDepth 20000 in
theorem s_Lw0 {p : Program} {l : Launch} {e : Env} {R : Room} {m : MethodId} {args : Array Value} {below : List Frame} {meth : Method} {c : Code} {s0 : State} {D : va_G} {ca : Nat → ClassId} {e0 d mc ms b L : Nat} {xs : Nat → Int32} {Q : cr_Q} (Z : cr_Z0 s0 D ca e0) (hx : p.tables.exec = Jvm.exec) (hb : c.code = c_L_law) (hml : c.maxLocals = 7) (hown : s0.vm.findClass "CardRightsLaw" = some m.cls) (hr : meth.sig.returnType = some .boolean) (hlk : meth.locks = false) (hR : R = cr_rm d mc ms) (hX : va_X b L xs s0 s0.heap) (hL : L ≤ 3072) : ∀ x ∈ t_Lw0 l s0 D ca d mc ms b L xs, cr_Snd p l e R s0 m args below meth c s0.heap.size mc ms Q x.1 x.2 := by
  have hU : cr_W0 s0 s0 := State.WarmedH.refl s0
  have hlo : s0.heap.size ≤ s0.heap.size := Nat.le_refl _
  have hK := cr_Z0K Z hU
  have hRc : R.cells = mc := by rw [hR]; rfl
  have hRs : R.slots = ms := by rw [hR]; rfl
  unfold t_Lw0
  refine cr_cons (cr_aload_n_ok hx hb d_L_law_140 rfl rfl) ?_
  refine cr_cons (cr_aload_n_ok hx hb d_L_law_141 rfl rfl) ?_
  refine cr_cons (cr_iload_ok hx hb d_L_law_142 rfl) ?_
  refine cr_cons (cr_iconst_ok hx hb d_L_law_144 (by decide) rfl) ?_
  refine cr_cons (cr_iadd_ok hx hb d_L_law_145 rfl) ?_
  refine cr_cons (cr_sld_ok hx hb hX (by omega) d_L_law_146 rfl) ?_
  refine cr_cons (cr_aload_n_ok hx hb d_L_law_147 rfl rfl) ?_
  refine cr_cons (cr_calSh_ok hx hb hml hown hU hlo hR (cr_W0_st s0) (u_L_room Z) (cr_w Z w_255 rfl hU args) (cr_w Z w_256 rfl hU args) (by decide) (by decide +kernel) (by decide) d_L_law_148 rfl) ?_
  refine cr_cons (cr_istore_ok hx hb d_L_law_151 rfl) ?_
  refine cr_cons (cr_aload_n_ok hx hb d_L_law_153 rfl rfl) ?_
  refine cr_cons (cr_aload_n_ok hx hb d_L_law_154 rfl rfl) ?_
  refine cr_cons (cr_iload_ok hx hb d_L_law_155 rfl) ?_
  refine cr_cons (cr_iconst_ok hx hb d_L_law_157 (by decide) rfl) ?_
  refine cr_cons (cr_iadd_ok hx hb d_L_law_158 rfl) ?_
  refine cr_cons (cr_sld_ok hx hb hX (by omega) d_L_law_159 rfl) ?_
  refine cr_cons (cr_calVh_ok (C := R_M) (Tf := T_M) (N := 41) hx hb hml hown hU hlo hR (cr_W0_st s0) (fun kd hp cell h9 => by cases h9) hK rfl (u_M_room Z) (cr_w Z w_947 rfl hU args) (cr_w Z w_948 rfl hU args) (cr_w Z w_949 rfl hU args) (by decide) (by decide +kernel) (by decide) d_L_law_160 rfl) ?_
  refine cr_cons (cr_istore_ok hx hb d_L_law_163 rfl) ?_
  refine cr_cons (cr_aload_n_ok hx hb d_L_law_165 rfl rfl) ?_
  refine cr_cons (cr_calVh_ok (C := R_M) (Tf := T_M) (N := 41) hx hb hml hown hU hlo hR (cr_W0_st s0) (fun kd hp cell h9 => by cases h9) hK rfl (u_M_thrown Z) (cr_w Z w_943 rfl hU args) (cr_w Z w_944 rfl hU args) (cr_w Z w_945 rfl hU args) (by decide) (by decide +kernel) (by decide) d_L_law_166 rfl) ?_
  refine cr_cons (cr_iload_ok hx hb d_L_law_169 rfl) ?_
  refine cr_cons (cr_iceq_ok hx hb d_L_law_171 (by decide) rfl) ?_
  refine cr_cons (cr_iconst_ok hx hb d_L_law_174 (by decide) rfl) ?_
  refine cr_cons (cr_zret_ok hx hb hr hlk d_L_law_175) ?_
  refine cr_cons (cr_iload_ok hx hb d_L_law_176 rfl) ?_
  refine cr_cons (cr_ifne_ok hx hb d_L_law_178 (by decide) rfl) ?_
  refine cr_cons (cr_aload_n_ok hx hb d_L_law_181 rfl rfl) ?_
  refine cr_cons (cr_iconst_ok hx hb d_L_law_182 (by decide) rfl) ?_
  refine cr_cons (cr_lald_ok (t0 := 1) hx hb hK rfl d_L_law_183 rfl) ?_
  refine cr_cons (cr_iload_ok hx hb d_L_law_184 rfl) ?_
  refine cr_cons (cr_i2l_ok hx hb d_L_law_186 rfl) ?_
  refine cr_cons (cr_lcmp_ok hx hb d_L_law_187 rfl) ?_
  refine cr_cons (cr_ifeq_ok hx hb d_L_law_188 (by decide) rfl) ?_
  refine cr_cons (cr_iconst_ok hx hb d_L_law_191 (by decide) rfl) ?_
  refine cr_cons (cr_zret_ok hx hb hr hlk d_L_law_192) ?_
  refine cr_cons (cr_goto_ok hx hb d_L_law_193 (by decide)) ?_
  refine cr_cons (cr_iinc_ok hx hb d_L_law_1498 (by decide) rfl) ?_
  refine cr_cons (cr_goto_ok hx hb d_L_law_1501 (by decide)) ?_
  exact cr_nil
def t_Lw1 (l : Launch) (s0 : State) (D : va_G) (ca : Nat → ClassId) (d mc ms b L : Nat) (xs : Nat → Int32) : List (Nat × cr_T) := [(196, cr_aload 1 197),
  (197, cr_aload 0 198),
  (198, cr_iload 4 200),
  (200, cr_push (.int 1) 201),
  (201, cr_iadd 202),
  (202, cr_sld s0 b L xs 203),
  (203, cr_aload 0 204),
  (204, cr_iload 4 206),
  (206, cr_push (.int 2) 207),
  (207, cr_iadd 208),
  (208, cr_sld s0 b L xs 209),
  (209, cr_aload 3 210),
  (210, cr_calSh l (cr_W0 s0) s0.heap.size y_L_door cw_L_door d mc ms 4 7 213),
  (213, cr_istore 5 215),
  (215, cr_aload 2 216),
  (216, cr_aload 0 217),
  (217, cr_iload 4 219),
  (219, cr_push (.int 1) 220),
  (220, cr_iadd 221),
  (221, cr_sld s0 b L xs 222),
  (222, cr_aload 0 223),
  (223, cr_iload 4 225),
  (225, cr_push (.int 2) 226),
  (226, cr_iadd 227),
  (227, cr_sld s0 b L xs 228),
  (228, cr_calVh D kc l (cr_W0 s0) s0.heap.size 11 y_M_door cw_M_door (fun _ => none) d mc ms 2 7 231),
  (231, cr_istore 6 233),
  (233, cr_aload 2 234),
  (234, cr_calVh D kc l (cr_W0 s0) s0.heap.size 11 y_M_thrown cw_M_thrown (fun _ => none) d mc ms 0 7 237),
  (237, cr_iload 5 239),
  (239, cr_iceq 244 242),
  (242, cr_push (.int 0) 243),
  (243, cr_zret mc ms .boolean),
  (244, cr_iload 5 246),
  (246, cr_ifne 261 249),
  (249, cr_aload 3 250),
  (250, cr_push (.int 0) 251),
  (251, cr_lald D kc (ca 1) 252),
  (252, cr_iload 6 254),
  (254, cr_i2l 255),
  (255, cr_lcmp 256),
  (256, cr_ifeq 261 259),
  (259, cr_push (.int 0) 260),
  (260, cr_zret mc ms .boolean),
  (261, cr_goto 1498),
  (1498, cr_iinc 4 6 1501),
  (1501, cr_goto 23)]
set_option maxHeartbeats 4000000 in
set_option maxRecDepth 20000 in
theorem s_Lw1 {p : Program} {l : Launch} {e : Env} {R : Room} {m : MethodId} {args : Array Value} {below : List Frame} {meth : Method} {c : Code} {s0 : State} {D : va_G} {ca : Nat → ClassId} {e0 d mc ms b L : Nat} {xs : Nat → Int32} {Q : cr_Q} (Z : cr_Z0 s0 D ca e0) (hx : p.tables.exec = Jvm.exec) (hb : c.code = c_L_law) (hml : c.maxLocals = 7) (hown : s0.vm.findClass "CardRightsLaw" = some m.cls) (hr : meth.sig.returnType = some .boolean) (hlk : meth.locks = false) (hR : R = cr_rm d mc ms) (hX : va_X b L xs s0 s0.heap) (hL : L ≤ 3072) : ∀ x ∈ t_Lw1 l s0 D ca d mc ms b L xs, cr_Snd p l e R s0 m args below meth c s0.heap.size mc ms Q x.1 x.2 := by
  have hU : cr_W0 s0 s0 := State.WarmedH.refl s0
  have hlo : s0.heap.size ≤ s0.heap.size := Nat.le_refl _
  have hK := cr_Z0K Z hU
  have hRc : R.cells = mc := by rw [hR]; rfl
  have hRs : R.slots = ms := by rw [hR]; rfl
  unfold t_Lw1
  refine cr_cons (cr_aload_n_ok hx hb d_L_law_196 rfl rfl) ?_
  refine cr_cons (cr_aload_n_ok hx hb d_L_law_197 rfl rfl) ?_
  refine cr_cons (cr_iload_ok hx hb d_L_law_198 rfl) ?_
  refine cr_cons (cr_iconst_ok hx hb d_L_law_200 (by decide) rfl) ?_
  refine cr_cons (cr_iadd_ok hx hb d_L_law_201 rfl) ?_
  refine cr_cons (cr_sld_ok hx hb hX (by omega) d_L_law_202 rfl) ?_
  refine cr_cons (cr_aload_n_ok hx hb d_L_law_203 rfl rfl) ?_
  refine cr_cons (cr_iload_ok hx hb d_L_law_204 rfl) ?_
  refine cr_cons (cr_iconst_ok hx hb d_L_law_206 (by decide) rfl) ?_
  refine cr_cons (cr_iadd_ok hx hb d_L_law_207 rfl) ?_
  refine cr_cons (cr_sld_ok hx hb hX (by omega) d_L_law_208 rfl) ?_
  refine cr_cons (cr_aload_n_ok hx hb d_L_law_209 rfl rfl) ?_
  refine cr_cons (cr_calSh_ok hx hb hml hown hU hlo hR (cr_W0_st s0) (u_L_door Z) (cr_w Z w_432 rfl hU args) (cr_w Z w_433 rfl hU args) (by decide) (by decide +kernel) (by decide) d_L_law_210 rfl) ?_
  refine cr_cons (cr_istore_ok hx hb d_L_law_213 rfl) ?_
  refine cr_cons (cr_aload_n_ok hx hb d_L_law_215 rfl rfl) ?_
  refine cr_cons (cr_aload_n_ok hx hb d_L_law_216 rfl rfl) ?_
  refine cr_cons (cr_iload_ok hx hb d_L_law_217 rfl) ?_
  refine cr_cons (cr_iconst_ok hx hb d_L_law_219 (by decide) rfl) ?_
  refine cr_cons (cr_iadd_ok hx hb d_L_law_220 rfl) ?_
  refine cr_cons (cr_sld_ok hx hb hX (by omega) d_L_law_221 rfl) ?_
  refine cr_cons (cr_aload_n_ok hx hb d_L_law_222 rfl rfl) ?_
  refine cr_cons (cr_iload_ok hx hb d_L_law_223 rfl) ?_
  refine cr_cons (cr_iconst_ok hx hb d_L_law_225 (by decide) rfl) ?_
  refine cr_cons (cr_iadd_ok hx hb d_L_law_226 rfl) ?_
  refine cr_cons (cr_sld_ok hx hb hX (by omega) d_L_law_227 rfl) ?_
  refine cr_cons (cr_calVh_ok (C := R_M) (Tf := T_M) (N := 41) hx hb hml hown hU hlo hR (cr_W0_st s0) (fun kd hp cell h9 => by cases h9) hK rfl (u_M_door Z) (cr_w Z w_958 rfl hU args) (cr_w Z w_959 rfl hU args) (cr_w Z w_960 rfl hU args) (by decide) (by decide +kernel) (by decide) d_L_law_228 rfl) ?_
  refine cr_cons (cr_istore_ok hx hb d_L_law_231 rfl) ?_
  refine cr_cons (cr_aload_n_ok hx hb d_L_law_233 rfl rfl) ?_
  refine cr_cons (cr_calVh_ok (C := R_M) (Tf := T_M) (N := 41) hx hb hml hown hU hlo hR (cr_W0_st s0) (fun kd hp cell h9 => by cases h9) hK rfl (u_M_thrown Z) (cr_w Z w_943 rfl hU args) (cr_w Z w_944 rfl hU args) (cr_w Z w_945 rfl hU args) (by decide) (by decide +kernel) (by decide) d_L_law_234 rfl) ?_
  refine cr_cons (cr_iload_ok hx hb d_L_law_237 rfl) ?_
  refine cr_cons (cr_iceq_ok hx hb d_L_law_239 (by decide) rfl) ?_
  refine cr_cons (cr_iconst_ok hx hb d_L_law_242 (by decide) rfl) ?_
  refine cr_cons (cr_zret_ok hx hb hr hlk d_L_law_243) ?_
  refine cr_cons (cr_iload_ok hx hb d_L_law_244 rfl) ?_
  refine cr_cons (cr_ifne_ok hx hb d_L_law_246 (by decide) rfl) ?_
  refine cr_cons (cr_aload_n_ok hx hb d_L_law_249 rfl rfl) ?_
  refine cr_cons (cr_iconst_ok hx hb d_L_law_250 (by decide) rfl) ?_
  refine cr_cons (cr_lald_ok (t0 := 1) hx hb hK rfl d_L_law_251 rfl) ?_
  refine cr_cons (cr_iload_ok hx hb d_L_law_252 rfl) ?_
  refine cr_cons (cr_i2l_ok hx hb d_L_law_254 rfl) ?_
  refine cr_cons (cr_lcmp_ok hx hb d_L_law_255 rfl) ?_
  refine cr_cons (cr_ifeq_ok hx hb d_L_law_256 (by decide) rfl) ?_
  refine cr_cons (cr_iconst_ok hx hb d_L_law_259 (by decide) rfl) ?_
  refine cr_cons (cr_zret_ok hx hb hr hlk d_L_law_260) ?_
  refine cr_cons (cr_goto_ok hx hb d_L_law_261 (by decide)) ?_
  refine cr_cons (cr_iinc_ok hx hb d_L_law_1498 (by decide) rfl) ?_
  refine cr_cons (cr_goto_ok hx hb d_L_law_1501 (by decide)) ?_
  exact cr_nil
def t_Lw2 (l : Launch) (s0 : State) (D : va_G) (ca : Nat → ClassId) (d mc ms b L : Nat) (xs : Nat → Int32) : List (Nat × cr_T) := [(264, cr_aload 1 265),
  (265, cr_aload 0 266),
  (266, cr_iload 4 268),
  (268, cr_push (.int 1) 269),
  (269, cr_iadd 270),
  (270, cr_sld s0 b L xs 271),
  (271, cr_aload 3 272),
  (272, cr_calSh l (cr_W0 s0) s0.heap.size y_L_person cw_L_person d mc ms 3 7 275),
  (275, cr_istore 5 277),
  (277, cr_aload 2 278),
  (278, cr_aload 0 279),
  (279, cr_iload 4 281),
  (281, cr_push (.int 1) 282),
  (282, cr_iadd 283),
  (283, cr_sld s0 b L xs 284),
  (284, cr_calVh D kc l (cr_W0 s0) s0.heap.size 11 y_M_person cw_M_person (fun _ => none) d mc ms 1 7 287),
  (287, cr_istore 6 289),
  (289, cr_aload 2 290),
  (290, cr_calVh D kc l (cr_W0 s0) s0.heap.size 11 y_M_thrown cw_M_thrown (fun _ => none) d mc ms 0 7 293),
  (293, cr_iload 5 295),
  (295, cr_iceq 300 298),
  (298, cr_push (.int 0) 299),
  (299, cr_zret mc ms .boolean),
  (300, cr_iload 5 302),
  (302, cr_ifne 317 305),
  (305, cr_aload 3 306),
  (306, cr_push (.int 0) 307),
  (307, cr_lald D kc (ca 1) 308),
  (308, cr_iload 6 310),
  (310, cr_i2l 311),
  (311, cr_lcmp 312),
  (312, cr_ifeq 317 315),
  (315, cr_push (.int 0) 316),
  (316, cr_zret mc ms .boolean),
  (317, cr_goto 1498),
  (1498, cr_iinc 4 6 1501),
  (1501, cr_goto 23)]
set_option maxHeartbeats 4000000 in
set_option maxRecDepth 20000 in
theorem s_Lw2 {p : Program} {l : Launch} {e : Env} {R : Room} {m : MethodId} {args : Array Value} {below : List Frame} {meth : Method} {c : Code} {s0 : State} {D : va_G} {ca : Nat → ClassId} {e0 d mc ms b L : Nat} {xs : Nat → Int32} {Q : cr_Q} (Z : cr_Z0 s0 D ca e0) (hx : p.tables.exec = Jvm.exec) (hb : c.code = c_L_law) (hml : c.maxLocals = 7) (hown : s0.vm.findClass "CardRightsLaw" = some m.cls) (hr : meth.sig.returnType = some .boolean) (hlk : meth.locks = false) (hR : R = cr_rm d mc ms) (hX : va_X b L xs s0 s0.heap) (hL : L ≤ 3072) : ∀ x ∈ t_Lw2 l s0 D ca d mc ms b L xs, cr_Snd p l e R s0 m args below meth c s0.heap.size mc ms Q x.1 x.2 := by
  have hU : cr_W0 s0 s0 := State.WarmedH.refl s0
  have hlo : s0.heap.size ≤ s0.heap.size := Nat.le_refl _
  have hK := cr_Z0K Z hU
  have hRc : R.cells = mc := by rw [hR]; rfl
  have hRs : R.slots = ms := by rw [hR]; rfl
  unfold t_Lw2
  refine cr_cons (cr_aload_n_ok hx hb d_L_law_264 rfl rfl) ?_
  refine cr_cons (cr_aload_n_ok hx hb d_L_law_265 rfl rfl) ?_
  refine cr_cons (cr_iload_ok hx hb d_L_law_266 rfl) ?_
  refine cr_cons (cr_iconst_ok hx hb d_L_law_268 (by decide) rfl) ?_
  refine cr_cons (cr_iadd_ok hx hb d_L_law_269 rfl) ?_
  refine cr_cons (cr_sld_ok hx hb hX (by omega) d_L_law_270 rfl) ?_
  refine cr_cons (cr_aload_n_ok hx hb d_L_law_271 rfl rfl) ?_
  refine cr_cons (cr_calSh_ok hx hb hml hown hU hlo hR (cr_W0_st s0) (u_L_person Z) (cr_w Z w_496 rfl hU args) (cr_w Z w_497 rfl hU args) (by decide) (by decide +kernel) (by decide) d_L_law_272 rfl) ?_
  refine cr_cons (cr_istore_ok hx hb d_L_law_275 rfl) ?_
  refine cr_cons (cr_aload_n_ok hx hb d_L_law_277 rfl rfl) ?_
  refine cr_cons (cr_aload_n_ok hx hb d_L_law_278 rfl rfl) ?_
  refine cr_cons (cr_iload_ok hx hb d_L_law_279 rfl) ?_
  refine cr_cons (cr_iconst_ok hx hb d_L_law_281 (by decide) rfl) ?_
  refine cr_cons (cr_iadd_ok hx hb d_L_law_282 rfl) ?_
  refine cr_cons (cr_sld_ok hx hb hX (by omega) d_L_law_283 rfl) ?_
  refine cr_cons (cr_calVh_ok (C := R_M) (Tf := T_M) (N := 41) hx hb hml hown hU hlo hR (cr_W0_st s0) (fun kd hp cell h9 => by cases h9) hK rfl (u_M_person Z) (cr_w Z w_962 rfl hU args) (cr_w Z w_963 rfl hU args) (cr_w Z w_964 rfl hU args) (by decide) (by decide +kernel) (by decide) d_L_law_284 rfl) ?_
  refine cr_cons (cr_istore_ok hx hb d_L_law_287 rfl) ?_
  refine cr_cons (cr_aload_n_ok hx hb d_L_law_289 rfl rfl) ?_
  refine cr_cons (cr_calVh_ok (C := R_M) (Tf := T_M) (N := 41) hx hb hml hown hU hlo hR (cr_W0_st s0) (fun kd hp cell h9 => by cases h9) hK rfl (u_M_thrown Z) (cr_w Z w_943 rfl hU args) (cr_w Z w_944 rfl hU args) (cr_w Z w_945 rfl hU args) (by decide) (by decide +kernel) (by decide) d_L_law_290 rfl) ?_
  refine cr_cons (cr_iload_ok hx hb d_L_law_293 rfl) ?_
  refine cr_cons (cr_iceq_ok hx hb d_L_law_295 (by decide) rfl) ?_
  refine cr_cons (cr_iconst_ok hx hb d_L_law_298 (by decide) rfl) ?_
  refine cr_cons (cr_zret_ok hx hb hr hlk d_L_law_299) ?_
  refine cr_cons (cr_iload_ok hx hb d_L_law_300 rfl) ?_
  refine cr_cons (cr_ifne_ok hx hb d_L_law_302 (by decide) rfl) ?_
  refine cr_cons (cr_aload_n_ok hx hb d_L_law_305 rfl rfl) ?_
  refine cr_cons (cr_iconst_ok hx hb d_L_law_306 (by decide) rfl) ?_
  refine cr_cons (cr_lald_ok (t0 := 1) hx hb hK rfl d_L_law_307 rfl) ?_
  refine cr_cons (cr_iload_ok hx hb d_L_law_308 rfl) ?_
  refine cr_cons (cr_i2l_ok hx hb d_L_law_310 rfl) ?_
  refine cr_cons (cr_lcmp_ok hx hb d_L_law_311 rfl) ?_
  refine cr_cons (cr_ifeq_ok hx hb d_L_law_312 (by decide) rfl) ?_
  refine cr_cons (cr_iconst_ok hx hb d_L_law_315 (by decide) rfl) ?_
  refine cr_cons (cr_zret_ok hx hb hr hlk d_L_law_316) ?_
  refine cr_cons (cr_goto_ok hx hb d_L_law_317 (by decide)) ?_
  refine cr_cons (cr_iinc_ok hx hb d_L_law_1498 (by decide) rfl) ?_
  refine cr_cons (cr_goto_ok hx hb d_L_law_1501 (by decide)) ?_
  exact cr_nil
def t_Lw3 (l : Launch) (s0 : State) (D : va_G) (ca : Nat → ClassId) (d mc ms b L : Nat) (xs : Nat → Int32) : List (Nat × cr_T) := [(320, cr_aload 1 321),
  (321, cr_aload 0 322),
  (322, cr_iload 4 324),
  (324, cr_push (.int 1) 325),
  (325, cr_iadd 326),
  (326, cr_sld s0 b L xs 327),
  (327, cr_aload 0 328),
  (328, cr_iload 4 330),
  (330, cr_push (.int 2) 331),
  (331, cr_iadd 332),
  (332, cr_sld s0 b L xs 333),
  (333, cr_aload 3 334),
  (334, cr_calSh l (cr_W0 s0) s0.heap.size y_L_card cw_L_card d mc ms 4 7 337),
  (337, cr_istore 5 339),
  (339, cr_aload 2 340),
  (340, cr_aload 0 341),
  (341, cr_iload 4 343),
  (343, cr_push (.int 1) 344),
  (344, cr_iadd 345),
  (345, cr_sld s0 b L xs 346),
  (346, cr_aload 0 347),
  (347, cr_iload 4 349),
  (349, cr_push (.int 2) 350),
  (350, cr_iadd 351),
  (351, cr_sld s0 b L xs 352),
  (352, cr_calVh D kc l (cr_W0 s0) s0.heap.size 11 y_M_card cw_M_card (fun _ => none) d mc ms 2 7 355),
  (355, cr_istore 6 357),
  (357, cr_aload 2 358),
  (358, cr_calVh D kc l (cr_W0 s0) s0.heap.size 11 y_M_thrown cw_M_thrown (fun _ => none) d mc ms 0 7 361),
  (361, cr_iload 5 363),
  (363, cr_iceq 368 366),
  (366, cr_push (.int 0) 367),
  (367, cr_zret mc ms .boolean),
  (368, cr_iload 5 370),
  (370, cr_ifne 385 373),
  (373, cr_aload 3 374),
  (374, cr_push (.int 0) 375),
  (375, cr_lald D kc (ca 1) 376),
  (376, cr_iload 6 378),
  (378, cr_i2l 379),
  (379, cr_lcmp 380),
  (380, cr_ifeq 385 383),
  (383, cr_push (.int 0) 384),
  (384, cr_zret mc ms .boolean),
  (385, cr_goto 1498),
  (1498, cr_iinc 4 6 1501),
  (1501, cr_goto 23)]
set_option maxHeartbeats 4000000 in
set_option maxRecDepth 20000 in
theorem s_Lw3 {p : Program} {l : Launch} {e : Env} {R : Room} {m : MethodId} {args : Array Value} {below : List Frame} {meth : Method} {c : Code} {s0 : State} {D : va_G} {ca : Nat → ClassId} {e0 d mc ms b L : Nat} {xs : Nat → Int32} {Q : cr_Q} (Z : cr_Z0 s0 D ca e0) (hx : p.tables.exec = Jvm.exec) (hb : c.code = c_L_law) (hml : c.maxLocals = 7) (hown : s0.vm.findClass "CardRightsLaw" = some m.cls) (hr : meth.sig.returnType = some .boolean) (hlk : meth.locks = false) (hR : R = cr_rm d mc ms) (hX : va_X b L xs s0 s0.heap) (hL : L ≤ 3072) : ∀ x ∈ t_Lw3 l s0 D ca d mc ms b L xs, cr_Snd p l e R s0 m args below meth c s0.heap.size mc ms Q x.1 x.2 := by
  have hU : cr_W0 s0 s0 := State.WarmedH.refl s0
  have hlo : s0.heap.size ≤ s0.heap.size := Nat.le_refl _
  have hK := cr_Z0K Z hU
  have hRc : R.cells = mc := by rw [hR]; rfl
  have hRs : R.slots = ms := by rw [hR]; rfl
  unfold t_Lw3
  refine cr_cons (cr_aload_n_ok hx hb d_L_law_320 rfl rfl) ?_
  refine cr_cons (cr_aload_n_ok hx hb d_L_law_321 rfl rfl) ?_
  refine cr_cons (cr_iload_ok hx hb d_L_law_322 rfl) ?_
  refine cr_cons (cr_iconst_ok hx hb d_L_law_324 (by decide) rfl) ?_
  refine cr_cons (cr_iadd_ok hx hb d_L_law_325 rfl) ?_
  refine cr_cons (cr_sld_ok hx hb hX (by omega) d_L_law_326 rfl) ?_
  refine cr_cons (cr_aload_n_ok hx hb d_L_law_327 rfl rfl) ?_
  refine cr_cons (cr_iload_ok hx hb d_L_law_328 rfl) ?_
  refine cr_cons (cr_iconst_ok hx hb d_L_law_330 (by decide) rfl) ?_
  refine cr_cons (cr_iadd_ok hx hb d_L_law_331 rfl) ?_
  refine cr_cons (cr_sld_ok hx hb hX (by omega) d_L_law_332 rfl) ?_
  refine cr_cons (cr_aload_n_ok hx hb d_L_law_333 rfl rfl) ?_
  refine cr_cons (cr_calSh_ok hx hb hml hown hU hlo hR (cr_W0_st s0) (u_L_card Z) (cr_w Z w_533 rfl hU args) (cr_w Z w_534 rfl hU args) (by decide) (by decide +kernel) (by decide) d_L_law_334 rfl) ?_
  refine cr_cons (cr_istore_ok hx hb d_L_law_337 rfl) ?_
  refine cr_cons (cr_aload_n_ok hx hb d_L_law_339 rfl rfl) ?_
  refine cr_cons (cr_aload_n_ok hx hb d_L_law_340 rfl rfl) ?_
  refine cr_cons (cr_iload_ok hx hb d_L_law_341 rfl) ?_
  refine cr_cons (cr_iconst_ok hx hb d_L_law_343 (by decide) rfl) ?_
  refine cr_cons (cr_iadd_ok hx hb d_L_law_344 rfl) ?_
  refine cr_cons (cr_sld_ok hx hb hX (by omega) d_L_law_345 rfl) ?_
  refine cr_cons (cr_aload_n_ok hx hb d_L_law_346 rfl rfl) ?_
  refine cr_cons (cr_iload_ok hx hb d_L_law_347 rfl) ?_
  refine cr_cons (cr_iconst_ok hx hb d_L_law_349 (by decide) rfl) ?_
  refine cr_cons (cr_iadd_ok hx hb d_L_law_350 rfl) ?_
  refine cr_cons (cr_sld_ok hx hb hX (by omega) d_L_law_351 rfl) ?_
  refine cr_cons (cr_calVh_ok (C := R_M) (Tf := T_M) (N := 41) hx hb hml hown hU hlo hR (cr_W0_st s0) (fun kd hp cell h9 => by cases h9) hK rfl (u_M_card Z) (cr_w Z w_966 rfl hU args) (cr_w Z w_967 rfl hU args) (cr_w Z w_968 rfl hU args) (by decide) (by decide +kernel) (by decide) d_L_law_352 rfl) ?_
  refine cr_cons (cr_istore_ok hx hb d_L_law_355 rfl) ?_
  refine cr_cons (cr_aload_n_ok hx hb d_L_law_357 rfl rfl) ?_
  refine cr_cons (cr_calVh_ok (C := R_M) (Tf := T_M) (N := 41) hx hb hml hown hU hlo hR (cr_W0_st s0) (fun kd hp cell h9 => by cases h9) hK rfl (u_M_thrown Z) (cr_w Z w_943 rfl hU args) (cr_w Z w_944 rfl hU args) (cr_w Z w_945 rfl hU args) (by decide) (by decide +kernel) (by decide) d_L_law_358 rfl) ?_
  refine cr_cons (cr_iload_ok hx hb d_L_law_361 rfl) ?_
  refine cr_cons (cr_iceq_ok hx hb d_L_law_363 (by decide) rfl) ?_
  refine cr_cons (cr_iconst_ok hx hb d_L_law_366 (by decide) rfl) ?_
  refine cr_cons (cr_zret_ok hx hb hr hlk d_L_law_367) ?_
  refine cr_cons (cr_iload_ok hx hb d_L_law_368 rfl) ?_
  refine cr_cons (cr_ifne_ok hx hb d_L_law_370 (by decide) rfl) ?_
  refine cr_cons (cr_aload_n_ok hx hb d_L_law_373 rfl rfl) ?_
  refine cr_cons (cr_iconst_ok hx hb d_L_law_374 (by decide) rfl) ?_
  refine cr_cons (cr_lald_ok (t0 := 1) hx hb hK rfl d_L_law_375 rfl) ?_
  refine cr_cons (cr_iload_ok hx hb d_L_law_376 rfl) ?_
  refine cr_cons (cr_i2l_ok hx hb d_L_law_378 rfl) ?_
  refine cr_cons (cr_lcmp_ok hx hb d_L_law_379 rfl) ?_
  refine cr_cons (cr_ifeq_ok hx hb d_L_law_380 (by decide) rfl) ?_
  refine cr_cons (cr_iconst_ok hx hb d_L_law_383 (by decide) rfl) ?_
  refine cr_cons (cr_zret_ok hx hb hr hlk d_L_law_384) ?_
  refine cr_cons (cr_goto_ok hx hb d_L_law_385 (by decide)) ?_
  refine cr_cons (cr_iinc_ok hx hb d_L_law_1498 (by decide) rfl) ?_
  refine cr_cons (cr_goto_ok hx hb d_L_law_1501 (by decide)) ?_
  exact cr_nil
def t_Lw4 (l : Launch) (s0 : State) (D : va_G) (ca : Nat → ClassId) (d mc ms b L : Nat) (xs : Nat → Int32) : List (Nat × cr_T) := [(388, cr_aload 1 389),
  (389, cr_aload 0 390),
  (390, cr_iload 4 392),
  (392, cr_push (.int 1) 393),
  (393, cr_iadd 394),
  (394, cr_sld s0 b L xs 395),
  (395, cr_aload 0 396),
  (396, cr_iload 4 398),
  (398, cr_push (.int 2) 399),
  (399, cr_iadd 400),
  (400, cr_sld s0 b L xs 401),
  (401, cr_aload 0 402),
  (402, cr_iload 4 404),
  (404, cr_push (.int 3) 405),
  (405, cr_iadd 406),
  (406, cr_sld s0 b L xs 407),
  (407, cr_aload 0 408),
  (408, cr_iload 4 410),
  (410, cr_push (.int 4) 411),
  (411, cr_iadd 412),
  (412, cr_sld s0 b L xs 413),
  (413, cr_aload 0 414),
  (414, cr_iload 4 416),
  (416, cr_push (.int 5) 417),
  (417, cr_iadd 418),
  (418, cr_sld s0 b L xs 419),
  (419, cr_aload 3 420),
  (420, cr_calSh l (cr_W0 s0) s0.heap.size y_L_right cw_L_right d mc ms 7 7 423),
  (423, cr_istore 5 425),
  (425, cr_aload 2 426),
  (426, cr_aload 0 427),
  (427, cr_iload 4 429),
  (429, cr_push (.int 1) 430),
  (430, cr_iadd 431),
  (431, cr_sld s0 b L xs 432),
  (432, cr_aload 0 433),
  (433, cr_iload 4 435),
  (435, cr_push (.int 2) 436),
  (436, cr_iadd 437),
  (437, cr_sld s0 b L xs 438),
  (438, cr_aload 0 439),
  (439, cr_iload 4 441),
  (441, cr_push (.int 3) 442),
  (442, cr_iadd 443),
  (443, cr_sld s0 b L xs 444),
  (444, cr_aload 0 445),
  (445, cr_iload 4 447),
  (447, cr_push (.int 4) 448),
  (448, cr_iadd 449),
  (449, cr_sld s0 b L xs 450),
  (450, cr_aload 0 451),
  (451, cr_iload 4 453),
  (453, cr_push (.int 5) 454),
  (454, cr_iadd 455),
  (455, cr_sld s0 b L xs 456),
  (456, cr_calVh D kc l (cr_W0 s0) s0.heap.size 11 y_M_right cw_M_right (fun _ => none) d mc ms 5 7 459),
  (459, cr_istore 6 461),
  (461, cr_aload 2 462),
  (462, cr_calVh D kc l (cr_W0 s0) s0.heap.size 11 y_M_thrown cw_M_thrown (fun _ => none) d mc ms 0 7 465),
  (465, cr_iload 5 467),
  (467, cr_iceq 472 470),
  (470, cr_push (.int 0) 471),
  (471, cr_zret mc ms .boolean),
  (472, cr_iload 5 474),
  (474, cr_ifne 489 477),
  (477, cr_aload 3 478),
  (478, cr_push (.int 0) 479),
  (479, cr_lald D kc (ca 1) 480),
  (480, cr_iload 6 482),
  (482, cr_i2l 483),
  (483, cr_lcmp 484),
  (484, cr_ifeq 489 487),
  (487, cr_push (.int 0) 488),
  (488, cr_zret mc ms .boolean),
  (489, cr_goto 1498),
  (1498, cr_iinc 4 6 1501),
  (1501, cr_goto 23)]
set_option maxHeartbeats 4000000 in
set_option maxRecDepth 20000 in
theorem s_Lw4 {p : Program} {l : Launch} {e : Env} {R : Room} {m : MethodId} {args : Array Value} {below : List Frame} {meth : Method} {c : Code} {s0 : State} {D : va_G} {ca : Nat → ClassId} {e0 d mc ms b L : Nat} {xs : Nat → Int32} {Q : cr_Q} (Z : cr_Z0 s0 D ca e0) (hx : p.tables.exec = Jvm.exec) (hb : c.code = c_L_law) (hml : c.maxLocals = 7) (hown : s0.vm.findClass "CardRightsLaw" = some m.cls) (hr : meth.sig.returnType = some .boolean) (hlk : meth.locks = false) (hR : R = cr_rm d mc ms) (hX : va_X b L xs s0 s0.heap) (hL : L ≤ 3072) : ∀ x ∈ t_Lw4 l s0 D ca d mc ms b L xs, cr_Snd p l e R s0 m args below meth c s0.heap.size mc ms Q x.1 x.2 := by
  have hU : cr_W0 s0 s0 := State.WarmedH.refl s0
  have hlo : s0.heap.size ≤ s0.heap.size := Nat.le_refl _
  have hK := cr_Z0K Z hU
  have hRc : R.cells = mc := by rw [hR]; rfl
  have hRs : R.slots = ms := by rw [hR]; rfl
  unfold t_Lw4
  refine cr_cons (cr_aload_n_ok hx hb d_L_law_388 rfl rfl) ?_
  refine cr_cons (cr_aload_n_ok hx hb d_L_law_389 rfl rfl) ?_
  refine cr_cons (cr_iload_ok hx hb d_L_law_390 rfl) ?_
  refine cr_cons (cr_iconst_ok hx hb d_L_law_392 (by decide) rfl) ?_
  refine cr_cons (cr_iadd_ok hx hb d_L_law_393 rfl) ?_
  refine cr_cons (cr_sld_ok hx hb hX (by omega) d_L_law_394 rfl) ?_
  refine cr_cons (cr_aload_n_ok hx hb d_L_law_395 rfl rfl) ?_
  refine cr_cons (cr_iload_ok hx hb d_L_law_396 rfl) ?_
  refine cr_cons (cr_iconst_ok hx hb d_L_law_398 (by decide) rfl) ?_
  refine cr_cons (cr_iadd_ok hx hb d_L_law_399 rfl) ?_
  refine cr_cons (cr_sld_ok hx hb hX (by omega) d_L_law_400 rfl) ?_
  refine cr_cons (cr_aload_n_ok hx hb d_L_law_401 rfl rfl) ?_
  refine cr_cons (cr_iload_ok hx hb d_L_law_402 rfl) ?_
  refine cr_cons (cr_iconst_ok hx hb d_L_law_404 (by decide) rfl) ?_
  refine cr_cons (cr_iadd_ok hx hb d_L_law_405 rfl) ?_
  refine cr_cons (cr_sld_ok hx hb hX (by omega) d_L_law_406 rfl) ?_
  refine cr_cons (cr_aload_n_ok hx hb d_L_law_407 rfl rfl) ?_
  refine cr_cons (cr_iload_ok hx hb d_L_law_408 rfl) ?_
  refine cr_cons (cr_iconst_ok hx hb d_L_law_410 (by decide) rfl) ?_
  refine cr_cons (cr_iadd_ok hx hb d_L_law_411 rfl) ?_
  refine cr_cons (cr_sld_ok hx hb hX (by omega) d_L_law_412 rfl) ?_
  refine cr_cons (cr_aload_n_ok hx hb d_L_law_413 rfl rfl) ?_
  refine cr_cons (cr_iload_ok hx hb d_L_law_414 rfl) ?_
  refine cr_cons (cr_iconst_ok hx hb d_L_law_416 (by decide) rfl) ?_
  refine cr_cons (cr_iadd_ok hx hb d_L_law_417 rfl) ?_
  refine cr_cons (cr_sld_ok hx hb hX (by omega) d_L_law_418 rfl) ?_
  refine cr_cons (cr_aload_n_ok hx hb d_L_law_419 rfl rfl) ?_
  refine cr_cons (cr_calSh_ok hx hb hml hown hU hlo hR (cr_W0_st s0) (u_L_right Z) (cr_w Z w_570 rfl hU args) (cr_w Z w_571 rfl hU args) (by decide) (by decide +kernel) (by decide) d_L_law_420 rfl) ?_
  refine cr_cons (cr_istore_ok hx hb d_L_law_423 rfl) ?_
  refine cr_cons (cr_aload_n_ok hx hb d_L_law_425 rfl rfl) ?_
  refine cr_cons (cr_aload_n_ok hx hb d_L_law_426 rfl rfl) ?_
  refine cr_cons (cr_iload_ok hx hb d_L_law_427 rfl) ?_
  refine cr_cons (cr_iconst_ok hx hb d_L_law_429 (by decide) rfl) ?_
  refine cr_cons (cr_iadd_ok hx hb d_L_law_430 rfl) ?_
  refine cr_cons (cr_sld_ok hx hb hX (by omega) d_L_law_431 rfl) ?_
  refine cr_cons (cr_aload_n_ok hx hb d_L_law_432 rfl rfl) ?_
  refine cr_cons (cr_iload_ok hx hb d_L_law_433 rfl) ?_
  refine cr_cons (cr_iconst_ok hx hb d_L_law_435 (by decide) rfl) ?_
  refine cr_cons (cr_iadd_ok hx hb d_L_law_436 rfl) ?_
  refine cr_cons (cr_sld_ok hx hb hX (by omega) d_L_law_437 rfl) ?_
  refine cr_cons (cr_aload_n_ok hx hb d_L_law_438 rfl rfl) ?_
  refine cr_cons (cr_iload_ok hx hb d_L_law_439 rfl) ?_
  refine cr_cons (cr_iconst_ok hx hb d_L_law_441 (by decide) rfl) ?_
  refine cr_cons (cr_iadd_ok hx hb d_L_law_442 rfl) ?_
  refine cr_cons (cr_sld_ok hx hb hX (by omega) d_L_law_443 rfl) ?_
  refine cr_cons (cr_aload_n_ok hx hb d_L_law_444 rfl rfl) ?_
  refine cr_cons (cr_iload_ok hx hb d_L_law_445 rfl) ?_
  refine cr_cons (cr_iconst_ok hx hb d_L_law_447 (by decide) rfl) ?_
  refine cr_cons (cr_iadd_ok hx hb d_L_law_448 rfl) ?_
  refine cr_cons (cr_sld_ok hx hb hX (by omega) d_L_law_449 rfl) ?_
  refine cr_cons (cr_aload_n_ok hx hb d_L_law_450 rfl rfl) ?_
  refine cr_cons (cr_iload_ok hx hb d_L_law_451 rfl) ?_
  refine cr_cons (cr_iconst_ok hx hb d_L_law_453 (by decide) rfl) ?_
  refine cr_cons (cr_iadd_ok hx hb d_L_law_454 rfl) ?_
  refine cr_cons (cr_sld_ok hx hb hX (by omega) d_L_law_455 rfl) ?_
  refine cr_cons (cr_calVh_ok (C := R_M) (Tf := T_M) (N := 41) hx hb hml hown hU hlo hR (cr_W0_st s0) (fun kd hp cell h9 => by cases h9) hK rfl (u_M_right Z) (cr_w Z w_978 rfl hU args) (cr_w Z w_979 rfl hU args) (cr_w Z w_980 rfl hU args) (by decide) (by decide +kernel) (by decide) d_L_law_456 rfl) ?_
  refine cr_cons (cr_istore_ok hx hb d_L_law_459 rfl) ?_
  refine cr_cons (cr_aload_n_ok hx hb d_L_law_461 rfl rfl) ?_
  refine cr_cons (cr_calVh_ok (C := R_M) (Tf := T_M) (N := 41) hx hb hml hown hU hlo hR (cr_W0_st s0) (fun kd hp cell h9 => by cases h9) hK rfl (u_M_thrown Z) (cr_w Z w_943 rfl hU args) (cr_w Z w_944 rfl hU args) (cr_w Z w_945 rfl hU args) (by decide) (by decide +kernel) (by decide) d_L_law_462 rfl) ?_
  refine cr_cons (cr_iload_ok hx hb d_L_law_465 rfl) ?_
  refine cr_cons (cr_iceq_ok hx hb d_L_law_467 (by decide) rfl) ?_
  refine cr_cons (cr_iconst_ok hx hb d_L_law_470 (by decide) rfl) ?_
  refine cr_cons (cr_zret_ok hx hb hr hlk d_L_law_471) ?_
  refine cr_cons (cr_iload_ok hx hb d_L_law_472 rfl) ?_
  refine cr_cons (cr_ifne_ok hx hb d_L_law_474 (by decide) rfl) ?_
  refine cr_cons (cr_aload_n_ok hx hb d_L_law_477 rfl rfl) ?_
  refine cr_cons (cr_iconst_ok hx hb d_L_law_478 (by decide) rfl) ?_
  refine cr_cons (cr_lald_ok (t0 := 1) hx hb hK rfl d_L_law_479 rfl) ?_
  refine cr_cons (cr_iload_ok hx hb d_L_law_480 rfl) ?_
  refine cr_cons (cr_i2l_ok hx hb d_L_law_482 rfl) ?_
  refine cr_cons (cr_lcmp_ok hx hb d_L_law_483 rfl) ?_
  refine cr_cons (cr_ifeq_ok hx hb d_L_law_484 (by decide) rfl) ?_
  refine cr_cons (cr_iconst_ok hx hb d_L_law_487 (by decide) rfl) ?_
  refine cr_cons (cr_zret_ok hx hb hr hlk d_L_law_488) ?_
  refine cr_cons (cr_goto_ok hx hb d_L_law_489 (by decide)) ?_
  refine cr_cons (cr_iinc_ok hx hb d_L_law_1498 (by decide) rfl) ?_
  refine cr_cons (cr_goto_ok hx hb d_L_law_1501 (by decide)) ?_
  exact cr_nil
def t_Lw5 (l : Launch) (s0 : State) (D : va_G) (ca : Nat → ClassId) (d mc ms b L : Nat) (xs : Nat → Int32) : List (Nat × cr_T) := [(492, cr_aload 1 493),
  (493, cr_aload 0 494),
  (494, cr_iload 4 496),
  (496, cr_push (.int 1) 497),
  (497, cr_iadd 498),
  (498, cr_sld s0 b L xs 499),
  (499, cr_aload 0 500),
  (500, cr_iload 4 502),
  (502, cr_push (.int 2) 503),
  (503, cr_iadd 504),
  (504, cr_sld s0 b L xs 505),
  (505, cr_aload 3 506),
  (506, cr_calSh l (cr_W0 s0) s0.heap.size y_L_end cw_L_end d mc ms 4 7 509),
  (509, cr_istore 5 511),
  (511, cr_aload 2 512),
  (512, cr_aload 0 513),
  (513, cr_iload 4 515),
  (515, cr_push (.int 1) 516),
  (516, cr_iadd 517),
  (517, cr_sld s0 b L xs 518),
  (518, cr_aload 0 519),
  (519, cr_iload 4 521),
  (521, cr_push (.int 2) 522),
  (522, cr_iadd 523),
  (523, cr_sld s0 b L xs 524),
  (524, cr_calVh D kc l (cr_W0 s0) s0.heap.size 11 y_M_end cw_M_end (fun _ => none) d mc ms 2 7 527),
  (527, cr_istore 6 529),
  (529, cr_aload 2 530),
  (530, cr_calVh D kc l (cr_W0 s0) s0.heap.size 11 y_M_thrown cw_M_thrown (fun _ => none) d mc ms 0 7 533),
  (533, cr_iload 5 535),
  (535, cr_iceq 540 538),
  (538, cr_push (.int 0) 539),
  (539, cr_zret mc ms .boolean),
  (540, cr_iload 5 542),
  (542, cr_ifne 557 545),
  (545, cr_aload 3 546),
  (546, cr_push (.int 0) 547),
  (547, cr_lald D kc (ca 1) 548),
  (548, cr_iload 6 550),
  (550, cr_i2l 551),
  (551, cr_lcmp 552),
  (552, cr_ifeq 557 555),
  (555, cr_push (.int 0) 556),
  (556, cr_zret mc ms .boolean),
  (557, cr_goto 1498),
  (1498, cr_iinc 4 6 1501),
  (1501, cr_goto 23)]
set_option maxHeartbeats 4000000 in
set_option maxRecDepth 20000 in
theorem s_Lw5 {p : Program} {l : Launch} {e : Env} {R : Room} {m : MethodId} {args : Array Value} {below : List Frame} {meth : Method} {c : Code} {s0 : State} {D : va_G} {ca : Nat → ClassId} {e0 d mc ms b L : Nat} {xs : Nat → Int32} {Q : cr_Q} (Z : cr_Z0 s0 D ca e0) (hx : p.tables.exec = Jvm.exec) (hb : c.code = c_L_law) (hml : c.maxLocals = 7) (hown : s0.vm.findClass "CardRightsLaw" = some m.cls) (hr : meth.sig.returnType = some .boolean) (hlk : meth.locks = false) (hR : R = cr_rm d mc ms) (hX : va_X b L xs s0 s0.heap) (hL : L ≤ 3072) : ∀ x ∈ t_Lw5 l s0 D ca d mc ms b L xs, cr_Snd p l e R s0 m args below meth c s0.heap.size mc ms Q x.1 x.2 := by
  have hU : cr_W0 s0 s0 := State.WarmedH.refl s0
  have hlo : s0.heap.size ≤ s0.heap.size := Nat.le_refl _
  have hK := cr_Z0K Z hU
  have hRc : R.cells = mc := by rw [hR]; rfl
  have hRs : R.slots = ms := by rw [hR]; rfl
  unfold t_Lw5
  refine cr_cons (cr_aload_n_ok hx hb d_L_law_492 rfl rfl) ?_
  refine cr_cons (cr_aload_n_ok hx hb d_L_law_493 rfl rfl) ?_
  refine cr_cons (cr_iload_ok hx hb d_L_law_494 rfl) ?_
  refine cr_cons (cr_iconst_ok hx hb d_L_law_496 (by decide) rfl) ?_
  refine cr_cons (cr_iadd_ok hx hb d_L_law_497 rfl) ?_
  refine cr_cons (cr_sld_ok hx hb hX (by omega) d_L_law_498 rfl) ?_
  refine cr_cons (cr_aload_n_ok hx hb d_L_law_499 rfl rfl) ?_
  refine cr_cons (cr_iload_ok hx hb d_L_law_500 rfl) ?_
  refine cr_cons (cr_iconst_ok hx hb d_L_law_502 (by decide) rfl) ?_
  refine cr_cons (cr_iadd_ok hx hb d_L_law_503 rfl) ?_
  refine cr_cons (cr_sld_ok hx hb hX (by omega) d_L_law_504 rfl) ?_
  refine cr_cons (cr_aload_n_ok hx hb d_L_law_505 rfl rfl) ?_
  refine cr_cons (cr_calSh_ok hx hb hml hown hU hlo hR (cr_W0_st s0) (u_L_end Z) (cr_w Z w_603 rfl hU args) (cr_w Z w_604 rfl hU args) (by decide) (by decide +kernel) (by decide) d_L_law_506 rfl) ?_
  refine cr_cons (cr_istore_ok hx hb d_L_law_509 rfl) ?_
  refine cr_cons (cr_aload_n_ok hx hb d_L_law_511 rfl rfl) ?_
  refine cr_cons (cr_aload_n_ok hx hb d_L_law_512 rfl rfl) ?_
  refine cr_cons (cr_iload_ok hx hb d_L_law_513 rfl) ?_
  refine cr_cons (cr_iconst_ok hx hb d_L_law_515 (by decide) rfl) ?_
  refine cr_cons (cr_iadd_ok hx hb d_L_law_516 rfl) ?_
  refine cr_cons (cr_sld_ok hx hb hX (by omega) d_L_law_517 rfl) ?_
  refine cr_cons (cr_aload_n_ok hx hb d_L_law_518 rfl rfl) ?_
  refine cr_cons (cr_iload_ok hx hb d_L_law_519 rfl) ?_
  refine cr_cons (cr_iconst_ok hx hb d_L_law_521 (by decide) rfl) ?_
  refine cr_cons (cr_iadd_ok hx hb d_L_law_522 rfl) ?_
  refine cr_cons (cr_sld_ok hx hb hX (by omega) d_L_law_523 rfl) ?_
  refine cr_cons (cr_calVh_ok (C := R_M) (Tf := T_M) (N := 41) hx hb hml hown hU hlo hR (cr_W0_st s0) (fun kd hp cell h9 => by cases h9) hK rfl (u_M_end Z) (cr_w Z w_982 rfl hU args) (cr_w Z w_983 rfl hU args) (cr_w Z w_984 rfl hU args) (by decide) (by decide +kernel) (by decide) d_L_law_524 rfl) ?_
  refine cr_cons (cr_istore_ok hx hb d_L_law_527 rfl) ?_
  refine cr_cons (cr_aload_n_ok hx hb d_L_law_529 rfl rfl) ?_
  refine cr_cons (cr_calVh_ok (C := R_M) (Tf := T_M) (N := 41) hx hb hml hown hU hlo hR (cr_W0_st s0) (fun kd hp cell h9 => by cases h9) hK rfl (u_M_thrown Z) (cr_w Z w_943 rfl hU args) (cr_w Z w_944 rfl hU args) (cr_w Z w_945 rfl hU args) (by decide) (by decide +kernel) (by decide) d_L_law_530 rfl) ?_
  refine cr_cons (cr_iload_ok hx hb d_L_law_533 rfl) ?_
  refine cr_cons (cr_iceq_ok hx hb d_L_law_535 (by decide) rfl) ?_
  refine cr_cons (cr_iconst_ok hx hb d_L_law_538 (by decide) rfl) ?_
  refine cr_cons (cr_zret_ok hx hb hr hlk d_L_law_539) ?_
  refine cr_cons (cr_iload_ok hx hb d_L_law_540 rfl) ?_
  refine cr_cons (cr_ifne_ok hx hb d_L_law_542 (by decide) rfl) ?_
  refine cr_cons (cr_aload_n_ok hx hb d_L_law_545 rfl rfl) ?_
  refine cr_cons (cr_iconst_ok hx hb d_L_law_546 (by decide) rfl) ?_
  refine cr_cons (cr_lald_ok (t0 := 1) hx hb hK rfl d_L_law_547 rfl) ?_
  refine cr_cons (cr_iload_ok hx hb d_L_law_548 rfl) ?_
  refine cr_cons (cr_i2l_ok hx hb d_L_law_550 rfl) ?_
  refine cr_cons (cr_lcmp_ok hx hb d_L_law_551 rfl) ?_
  refine cr_cons (cr_ifeq_ok hx hb d_L_law_552 (by decide) rfl) ?_
  refine cr_cons (cr_iconst_ok hx hb d_L_law_555 (by decide) rfl) ?_
  refine cr_cons (cr_zret_ok hx hb hr hlk d_L_law_556) ?_
  refine cr_cons (cr_goto_ok hx hb d_L_law_557 (by decide)) ?_
  refine cr_cons (cr_iinc_ok hx hb d_L_law_1498 (by decide) rfl) ?_
  refine cr_cons (cr_goto_ok hx hb d_L_law_1501 (by decide)) ?_
  exact cr_nil
def t_Lw6 (l : Launch) (s0 : State) (D : va_G) (ca : Nat → ClassId) (d mc ms b L : Nat) (xs : Nat → Int32) : List (Nat × cr_T) := [(560, cr_aload 1 561),
  (561, cr_aload 0 562),
  (562, cr_iload 4 564),
  (564, cr_push (.int 1) 565),
  (565, cr_iadd 566),
  (566, cr_sld s0 b L xs 567),
  (567, cr_aload 0 568),
  (568, cr_iload 4 570),
  (570, cr_push (.int 2) 571),
  (571, cr_iadd 572),
  (572, cr_sld s0 b L xs 573),
  (573, cr_aload 3 574),
  (574, cr_calSh l (cr_W0 s0) s0.heap.size y_L_lost cw_L_lost d mc ms 4 7 577),
  (577, cr_istore 5 579),
  (579, cr_aload 2 580),
  (580, cr_aload 0 581),
  (581, cr_iload 4 583),
  (583, cr_push (.int 1) 584),
  (584, cr_iadd 585),
  (585, cr_sld s0 b L xs 586),
  (586, cr_aload 0 587),
  (587, cr_iload 4 589),
  (589, cr_push (.int 2) 590),
  (590, cr_iadd 591),
  (591, cr_sld s0 b L xs 592),
  (592, cr_calVh D kc l (cr_W0 s0) s0.heap.size 11 y_M_lost cw_M_lost (fun _ => none) d mc ms 2 7 595),
  (595, cr_istore 6 597),
  (597, cr_aload 2 598),
  (598, cr_calVh D kc l (cr_W0 s0) s0.heap.size 11 y_M_thrown cw_M_thrown (fun _ => none) d mc ms 0 7 601),
  (601, cr_iload 5 603),
  (603, cr_iceq 608 606),
  (606, cr_push (.int 0) 607),
  (607, cr_zret mc ms .boolean),
  (608, cr_iload 5 610),
  (610, cr_ifne 625 613),
  (613, cr_aload 3 614),
  (614, cr_push (.int 0) 615),
  (615, cr_lald D kc (ca 1) 616),
  (616, cr_iload 6 618),
  (618, cr_i2l 619),
  (619, cr_lcmp 620),
  (620, cr_ifeq 625 623),
  (623, cr_push (.int 0) 624),
  (624, cr_zret mc ms .boolean),
  (625, cr_goto 1498),
  (1498, cr_iinc 4 6 1501),
  (1501, cr_goto 23)]
set_option maxHeartbeats 4000000 in
set_option maxRecDepth 20000 in
theorem s_Lw6 {p : Program} {l : Launch} {e : Env} {R : Room} {m : MethodId} {args : Array Value} {below : List Frame} {meth : Method} {c : Code} {s0 : State} {D : va_G} {ca : Nat → ClassId} {e0 d mc ms b L : Nat} {xs : Nat → Int32} {Q : cr_Q} (Z : cr_Z0 s0 D ca e0) (hx : p.tables.exec = Jvm.exec) (hb : c.code = c_L_law) (hml : c.maxLocals = 7) (hown : s0.vm.findClass "CardRightsLaw" = some m.cls) (hr : meth.sig.returnType = some .boolean) (hlk : meth.locks = false) (hR : R = cr_rm d mc ms) (hX : va_X b L xs s0 s0.heap) (hL : L ≤ 3072) : ∀ x ∈ t_Lw6 l s0 D ca d mc ms b L xs, cr_Snd p l e R s0 m args below meth c s0.heap.size mc ms Q x.1 x.2 := by
  have hU : cr_W0 s0 s0 := State.WarmedH.refl s0
  have hlo : s0.heap.size ≤ s0.heap.size := Nat.le_refl _
  have hK := cr_Z0K Z hU
  have hRc : R.cells = mc := by rw [hR]; rfl
  have hRs : R.slots = ms := by rw [hR]; rfl
  unfold t_Lw6
  refine cr_cons (cr_aload_n_ok hx hb d_L_law_560 rfl rfl) ?_
  refine cr_cons (cr_aload_n_ok hx hb d_L_law_561 rfl rfl) ?_
  refine cr_cons (cr_iload_ok hx hb d_L_law_562 rfl) ?_
  refine cr_cons (cr_iconst_ok hx hb d_L_law_564 (by decide) rfl) ?_
  refine cr_cons (cr_iadd_ok hx hb d_L_law_565 rfl) ?_
  refine cr_cons (cr_sld_ok hx hb hX (by omega) d_L_law_566 rfl) ?_
  refine cr_cons (cr_aload_n_ok hx hb d_L_law_567 rfl rfl) ?_
  refine cr_cons (cr_iload_ok hx hb d_L_law_568 rfl) ?_
  refine cr_cons (cr_iconst_ok hx hb d_L_law_570 (by decide) rfl) ?_
  refine cr_cons (cr_iadd_ok hx hb d_L_law_571 rfl) ?_
  refine cr_cons (cr_sld_ok hx hb hX (by omega) d_L_law_572 rfl) ?_
  refine cr_cons (cr_aload_n_ok hx hb d_L_law_573 rfl rfl) ?_
  refine cr_cons (cr_calSh_ok hx hb hml hown hU hlo hR (cr_W0_st s0) (u_L_lost Z) (cr_w Z w_611 rfl hU args) (cr_w Z w_612 rfl hU args) (by decide) (by decide +kernel) (by decide) d_L_law_574 rfl) ?_
  refine cr_cons (cr_istore_ok hx hb d_L_law_577 rfl) ?_
  refine cr_cons (cr_aload_n_ok hx hb d_L_law_579 rfl rfl) ?_
  refine cr_cons (cr_aload_n_ok hx hb d_L_law_580 rfl rfl) ?_
  refine cr_cons (cr_iload_ok hx hb d_L_law_581 rfl) ?_
  refine cr_cons (cr_iconst_ok hx hb d_L_law_583 (by decide) rfl) ?_
  refine cr_cons (cr_iadd_ok hx hb d_L_law_584 rfl) ?_
  refine cr_cons (cr_sld_ok hx hb hX (by omega) d_L_law_585 rfl) ?_
  refine cr_cons (cr_aload_n_ok hx hb d_L_law_586 rfl rfl) ?_
  refine cr_cons (cr_iload_ok hx hb d_L_law_587 rfl) ?_
  refine cr_cons (cr_iconst_ok hx hb d_L_law_589 (by decide) rfl) ?_
  refine cr_cons (cr_iadd_ok hx hb d_L_law_590 rfl) ?_
  refine cr_cons (cr_sld_ok hx hb hX (by omega) d_L_law_591 rfl) ?_
  refine cr_cons (cr_calVh_ok (C := R_M) (Tf := T_M) (N := 41) hx hb hml hown hU hlo hR (cr_W0_st s0) (fun kd hp cell h9 => by cases h9) hK rfl (u_M_lost Z) (cr_w Z w_990 rfl hU args) (cr_w Z w_991 rfl hU args) (cr_w Z w_992 rfl hU args) (by decide) (by decide +kernel) (by decide) d_L_law_592 rfl) ?_
  refine cr_cons (cr_istore_ok hx hb d_L_law_595 rfl) ?_
  refine cr_cons (cr_aload_n_ok hx hb d_L_law_597 rfl rfl) ?_
  refine cr_cons (cr_calVh_ok (C := R_M) (Tf := T_M) (N := 41) hx hb hml hown hU hlo hR (cr_W0_st s0) (fun kd hp cell h9 => by cases h9) hK rfl (u_M_thrown Z) (cr_w Z w_943 rfl hU args) (cr_w Z w_944 rfl hU args) (cr_w Z w_945 rfl hU args) (by decide) (by decide +kernel) (by decide) d_L_law_598 rfl) ?_
  refine cr_cons (cr_iload_ok hx hb d_L_law_601 rfl) ?_
  refine cr_cons (cr_iceq_ok hx hb d_L_law_603 (by decide) rfl) ?_
  refine cr_cons (cr_iconst_ok hx hb d_L_law_606 (by decide) rfl) ?_
  refine cr_cons (cr_zret_ok hx hb hr hlk d_L_law_607) ?_
  refine cr_cons (cr_iload_ok hx hb d_L_law_608 rfl) ?_
  refine cr_cons (cr_ifne_ok hx hb d_L_law_610 (by decide) rfl) ?_
  refine cr_cons (cr_aload_n_ok hx hb d_L_law_613 rfl rfl) ?_
  refine cr_cons (cr_iconst_ok hx hb d_L_law_614 (by decide) rfl) ?_
  refine cr_cons (cr_lald_ok (t0 := 1) hx hb hK rfl d_L_law_615 rfl) ?_
  refine cr_cons (cr_iload_ok hx hb d_L_law_616 rfl) ?_
  refine cr_cons (cr_i2l_ok hx hb d_L_law_618 rfl) ?_
  refine cr_cons (cr_lcmp_ok hx hb d_L_law_619 rfl) ?_
  refine cr_cons (cr_ifeq_ok hx hb d_L_law_620 (by decide) rfl) ?_
  refine cr_cons (cr_iconst_ok hx hb d_L_law_623 (by decide) rfl) ?_
  refine cr_cons (cr_zret_ok hx hb hr hlk d_L_law_624) ?_
  refine cr_cons (cr_goto_ok hx hb d_L_law_625 (by decide)) ?_
  refine cr_cons (cr_iinc_ok hx hb d_L_law_1498 (by decide) rfl) ?_
  refine cr_cons (cr_goto_ok hx hb d_L_law_1501 (by decide)) ?_
  exact cr_nil
def t_Lw7 (l : Launch) (s0 : State) (D : va_G) (ca : Nat → ClassId) (d mc ms b L : Nat) (xs : Nat → Int32) : List (Nat × cr_T) := [(628, cr_aload 1 629),
  (629, cr_aload 0 630),
  (630, cr_iload 4 632),
  (632, cr_push (.int 1) 633),
  (633, cr_iadd 634),
  (634, cr_sld s0 b L xs 635),
  (635, cr_aload 0 636),
  (636, cr_iload 4 638),
  (638, cr_push (.int 2) 639),
  (639, cr_iadd 640),
  (640, cr_sld s0 b L xs 641),
  (641, cr_ifeq 648 644),
  (644, cr_push (.int 1) 645),
  (645, cr_goto 649),
  (648, cr_push (.int 0) 649),
  (649, cr_aload 3 650),
  (650, cr_calSh l (cr_W0 s0) s0.heap.size y_L_two cw_L_two d mc ms 4 7 653),
  (653, cr_istore 5 655),
  (655, cr_aload 2 656),
  (656, cr_aload 0 657),
  (657, cr_iload 4 659),
  (659, cr_push (.int 1) 660),
  (660, cr_iadd 661),
  (661, cr_sld s0 b L xs 662),
  (662, cr_aload 0 663),
  (663, cr_iload 4 665),
  (665, cr_push (.int 2) 666),
  (666, cr_iadd 667),
  (667, cr_sld s0 b L xs 668),
  (668, cr_ifeq 675 671),
  (671, cr_push (.int 1) 672),
  (672, cr_goto 676),
  (675, cr_push (.int 0) 676),
  (676, cr_calVh D kc l (cr_W0 s0) s0.heap.size 11 y_M_two cw_M_two (fun _ => none) d mc ms 2 7 679),
  (679, cr_istore 6 681),
  (681, cr_aload 2 682),
  (682, cr_calVh D kc l (cr_W0 s0) s0.heap.size 11 y_M_thrown cw_M_thrown (fun _ => none) d mc ms 0 7 685),
  (685, cr_iload 5 687),
  (687, cr_iceq 692 690),
  (690, cr_push (.int 0) 691),
  (691, cr_zret mc ms .boolean),
  (692, cr_iload 5 694),
  (694, cr_ifne 716 697),
  (697, cr_aload 3 698),
  (698, cr_push (.int 0) 699),
  (699, cr_lald D kc (ca 1) 700),
  (700, cr_iload 6 702),
  (702, cr_ifeq 709 705),
  (705, cr_push (.long 1) 706),
  (706, cr_goto 710),
  (709, cr_push (.long 0) 710),
  (710, cr_lcmp 711),
  (711, cr_ifeq 716 714),
  (714, cr_push (.int 0) 715),
  (715, cr_zret mc ms .boolean),
  (716, cr_goto 1498),
  (1498, cr_iinc 4 6 1501),
  (1501, cr_goto 23)]
set_option maxHeartbeats 4000000 in
set_option maxRecDepth 20000 in
theorem s_Lw7 {p : Program} {l : Launch} {e : Env} {R : Room} {m : MethodId} {args : Array Value} {below : List Frame} {meth : Method} {c : Code} {s0 : State} {D : va_G} {ca : Nat → ClassId} {e0 d mc ms b L : Nat} {xs : Nat → Int32} {Q : cr_Q} (Z : cr_Z0 s0 D ca e0) (hx : p.tables.exec = Jvm.exec) (hb : c.code = c_L_law) (hml : c.maxLocals = 7) (hown : s0.vm.findClass "CardRightsLaw" = some m.cls) (hr : meth.sig.returnType = some .boolean) (hlk : meth.locks = false) (hR : R = cr_rm d mc ms) (hX : va_X b L xs s0 s0.heap) (hL : L ≤ 3072) : ∀ x ∈ t_Lw7 l s0 D ca d mc ms b L xs, cr_Snd p l e R s0 m args below meth c s0.heap.size mc ms Q x.1 x.2 := by
  have hU : cr_W0 s0 s0 := State.WarmedH.refl s0
  have hlo : s0.heap.size ≤ s0.heap.size := Nat.le_refl _
  have hK := cr_Z0K Z hU
  have hRc : R.cells = mc := by rw [hR]; rfl
  have hRs : R.slots = ms := by rw [hR]; rfl
  unfold t_Lw7
  refine cr_cons (cr_aload_n_ok hx hb d_L_law_628 rfl rfl) ?_
  refine cr_cons (cr_aload_n_ok hx hb d_L_law_629 rfl rfl) ?_
  refine cr_cons (cr_iload_ok hx hb d_L_law_630 rfl) ?_
  refine cr_cons (cr_iconst_ok hx hb d_L_law_632 (by decide) rfl) ?_
  refine cr_cons (cr_iadd_ok hx hb d_L_law_633 rfl) ?_
  refine cr_cons (cr_sld_ok hx hb hX (by omega) d_L_law_634 rfl) ?_
  refine cr_cons (cr_aload_n_ok hx hb d_L_law_635 rfl rfl) ?_
  refine cr_cons (cr_iload_ok hx hb d_L_law_636 rfl) ?_
  refine cr_cons (cr_iconst_ok hx hb d_L_law_638 (by decide) rfl) ?_
  refine cr_cons (cr_iadd_ok hx hb d_L_law_639 rfl) ?_
  refine cr_cons (cr_sld_ok hx hb hX (by omega) d_L_law_640 rfl) ?_
  refine cr_cons (cr_ifeq_ok hx hb d_L_law_641 (by decide) rfl) ?_
  refine cr_cons (cr_iconst_ok hx hb d_L_law_644 (by decide) rfl) ?_
  refine cr_cons (cr_goto_ok hx hb d_L_law_645 (by decide)) ?_
  refine cr_cons (cr_iconst_ok hx hb d_L_law_648 (by decide) rfl) ?_
  refine cr_cons (cr_aload_n_ok hx hb d_L_law_649 rfl rfl) ?_
  refine cr_cons (cr_calSh_ok hx hb hml hown hU hlo hR (cr_W0_st s0) (u_L_two Z) (cr_w Z w_623 rfl hU args) (cr_w Z w_624 rfl hU args) (by decide) (by decide +kernel) (by decide) d_L_law_650 rfl) ?_
  refine cr_cons (cr_istore_ok hx hb d_L_law_653 rfl) ?_
  refine cr_cons (cr_aload_n_ok hx hb d_L_law_655 rfl rfl) ?_
  refine cr_cons (cr_aload_n_ok hx hb d_L_law_656 rfl rfl) ?_
  refine cr_cons (cr_iload_ok hx hb d_L_law_657 rfl) ?_
  refine cr_cons (cr_iconst_ok hx hb d_L_law_659 (by decide) rfl) ?_
  refine cr_cons (cr_iadd_ok hx hb d_L_law_660 rfl) ?_
  refine cr_cons (cr_sld_ok hx hb hX (by omega) d_L_law_661 rfl) ?_
  refine cr_cons (cr_aload_n_ok hx hb d_L_law_662 rfl rfl) ?_
  refine cr_cons (cr_iload_ok hx hb d_L_law_663 rfl) ?_
  refine cr_cons (cr_iconst_ok hx hb d_L_law_665 (by decide) rfl) ?_
  refine cr_cons (cr_iadd_ok hx hb d_L_law_666 rfl) ?_
  refine cr_cons (cr_sld_ok hx hb hX (by omega) d_L_law_667 rfl) ?_
  refine cr_cons (cr_ifeq_ok hx hb d_L_law_668 (by decide) rfl) ?_
  refine cr_cons (cr_iconst_ok hx hb d_L_law_671 (by decide) rfl) ?_
  refine cr_cons (cr_goto_ok hx hb d_L_law_672 (by decide)) ?_
  refine cr_cons (cr_iconst_ok hx hb d_L_law_675 (by decide) rfl) ?_
  refine cr_cons (cr_calVh_ok (C := R_M) (Tf := T_M) (N := 41) hx hb hml hown hU hlo hR (cr_W0_st s0) (fun kd hp cell h9 => by cases h9) hK rfl (u_M_two Z) (cr_w Z w_994 rfl hU args) (cr_w Z w_995 rfl hU args) (cr_w Z w_996 rfl hU args) (by decide) (by decide +kernel) (by decide) d_L_law_676 rfl) ?_
  refine cr_cons (cr_istore_ok hx hb d_L_law_679 rfl) ?_
  refine cr_cons (cr_aload_n_ok hx hb d_L_law_681 rfl rfl) ?_
  refine cr_cons (cr_calVh_ok (C := R_M) (Tf := T_M) (N := 41) hx hb hml hown hU hlo hR (cr_W0_st s0) (fun kd hp cell h9 => by cases h9) hK rfl (u_M_thrown Z) (cr_w Z w_943 rfl hU args) (cr_w Z w_944 rfl hU args) (cr_w Z w_945 rfl hU args) (by decide) (by decide +kernel) (by decide) d_L_law_682 rfl) ?_
  refine cr_cons (cr_iload_ok hx hb d_L_law_685 rfl) ?_
  refine cr_cons (cr_iceq_ok hx hb d_L_law_687 (by decide) rfl) ?_
  refine cr_cons (cr_iconst_ok hx hb d_L_law_690 (by decide) rfl) ?_
  refine cr_cons (cr_zret_ok hx hb hr hlk d_L_law_691) ?_
  refine cr_cons (cr_iload_ok hx hb d_L_law_692 rfl) ?_
  refine cr_cons (cr_ifne_ok hx hb d_L_law_694 (by decide) rfl) ?_
  refine cr_cons (cr_aload_n_ok hx hb d_L_law_697 rfl rfl) ?_
  refine cr_cons (cr_iconst_ok hx hb d_L_law_698 (by decide) rfl) ?_
  refine cr_cons (cr_lald_ok (t0 := 1) hx hb hK rfl d_L_law_699 rfl) ?_
  refine cr_cons (cr_iload_ok hx hb d_L_law_700 rfl) ?_
  refine cr_cons (cr_ifeq_ok hx hb d_L_law_702 (by decide) rfl) ?_
  refine cr_cons (cr_lconst_ok hx hb d_L_law_705 (by decide) rfl) ?_
  refine cr_cons (cr_goto_ok hx hb d_L_law_706 (by decide)) ?_
  refine cr_cons (cr_lconst_ok hx hb d_L_law_709 (by decide) rfl) ?_
  refine cr_cons (cr_lcmp_ok hx hb d_L_law_710 rfl) ?_
  refine cr_cons (cr_ifeq_ok hx hb d_L_law_711 (by decide) rfl) ?_
  refine cr_cons (cr_iconst_ok hx hb d_L_law_714 (by decide) rfl) ?_
  refine cr_cons (cr_zret_ok hx hb hr hlk d_L_law_715) ?_
  refine cr_cons (cr_goto_ok hx hb d_L_law_716 (by decide)) ?_
  refine cr_cons (cr_iinc_ok hx hb d_L_law_1498 (by decide) rfl) ?_
  refine cr_cons (cr_goto_ok hx hb d_L_law_1501 (by decide)) ?_
  exact cr_nil
def t_Lw8 (l : Launch) (s0 : State) (D : va_G) (ca : Nat → ClassId) (d mc ms b L : Nat) (xs : Nat → Int32) : List (Nat × cr_T) := [(719, cr_aload 1 720),
  (720, cr_aload 0 721),
  (721, cr_iload 4 723),
  (723, cr_push (.int 1) 724),
  (724, cr_iadd 725),
  (725, cr_sld s0 b L xs 726),
  (726, cr_aload 0 727),
  (727, cr_iload 4 729),
  (729, cr_push (.int 2) 730),
  (730, cr_iadd 731),
  (731, cr_sld s0 b L xs 732),
  (732, cr_aload 0 733),
  (733, cr_iload 4 735),
  (735, cr_push (.int 3) 736),
  (736, cr_iadd 737),
  (737, cr_sld s0 b L xs 738),
  (738, cr_ifeq 745 741),
  (741, cr_push (.int 1) 742),
  (742, cr_goto 746),
  (745, cr_push (.int 0) 746),
  (746, cr_aload 3 747),
  (747, cr_calSh l (cr_W0 s0) s0.heap.size y_L_airlock cw_L_airlock d mc ms 5 7 750),
  (750, cr_istore 5 752),
  (752, cr_aload 2 753),
  (753, cr_aload 0 754),
  (754, cr_iload 4 756),
  (756, cr_push (.int 1) 757),
  (757, cr_iadd 758),
  (758, cr_sld s0 b L xs 759),
  (759, cr_aload 0 760),
  (760, cr_iload 4 762),
  (762, cr_push (.int 2) 763),
  (763, cr_iadd 764),
  (764, cr_sld s0 b L xs 765),
  (765, cr_aload 0 766),
  (766, cr_iload 4 768),
  (768, cr_push (.int 3) 769),
  (769, cr_iadd 770),
  (770, cr_sld s0 b L xs 771),
  (771, cr_ifeq 778 774),
  (774, cr_push (.int 1) 775),
  (775, cr_goto 779),
  (778, cr_push (.int 0) 779),
  (779, cr_calVh D kc l (cr_W0 s0) s0.heap.size 11 y_M_airlock cw_M_airlock (fun _ => none) d mc ms 3 7 782),
  (782, cr_istore 6 784),
  (784, cr_aload 2 785),
  (785, cr_calVh D kc l (cr_W0 s0) s0.heap.size 11 y_M_thrown cw_M_thrown (fun _ => none) d mc ms 0 7 788),
  (788, cr_iload 5 790),
  (790, cr_iceq 795 793),
  (793, cr_push (.int 0) 794),
  (794, cr_zret mc ms .boolean),
  (795, cr_iload 5 797),
  (797, cr_ifne 819 800),
  (800, cr_aload 3 801),
  (801, cr_push (.int 0) 802),
  (802, cr_lald D kc (ca 1) 803),
  (803, cr_iload 6 805),
  (805, cr_ifeq 812 808),
  (808, cr_push (.long 1) 809),
  (809, cr_goto 813),
  (812, cr_push (.long 0) 813),
  (813, cr_lcmp 814),
  (814, cr_ifeq 819 817),
  (817, cr_push (.int 0) 818),
  (818, cr_zret mc ms .boolean),
  (819, cr_goto 1498),
  (1498, cr_iinc 4 6 1501),
  (1501, cr_goto 23)]
set_option maxHeartbeats 4000000 in
set_option maxRecDepth 20000 in
theorem s_Lw8 {p : Program} {l : Launch} {e : Env} {R : Room} {m : MethodId} {args : Array Value} {below : List Frame} {meth : Method} {c : Code} {s0 : State} {D : va_G} {ca : Nat → ClassId} {e0 d mc ms b L : Nat} {xs : Nat → Int32} {Q : cr_Q} (Z : cr_Z0 s0 D ca e0) (hx : p.tables.exec = Jvm.exec) (hb : c.code = c_L_law) (hml : c.maxLocals = 7) (hown : s0.vm.findClass "CardRightsLaw" = some m.cls) (hr : meth.sig.returnType = some .boolean) (hlk : meth.locks = false) (hR : R = cr_rm d mc ms) (hX : va_X b L xs s0 s0.heap) (hL : L ≤ 3072) : ∀ x ∈ t_Lw8 l s0 D ca d mc ms b L xs, cr_Snd p l e R s0 m args below meth c s0.heap.size mc ms Q x.1 x.2 := by
  have hU : cr_W0 s0 s0 := State.WarmedH.refl s0
  have hlo : s0.heap.size ≤ s0.heap.size := Nat.le_refl _
  have hK := cr_Z0K Z hU
  have hRc : R.cells = mc := by rw [hR]; rfl
  have hRs : R.slots = ms := by rw [hR]; rfl
  unfold t_Lw8
  refine cr_cons (cr_aload_n_ok hx hb d_L_law_719 rfl rfl) ?_
  refine cr_cons (cr_aload_n_ok hx hb d_L_law_720 rfl rfl) ?_
  refine cr_cons (cr_iload_ok hx hb d_L_law_721 rfl) ?_
  refine cr_cons (cr_iconst_ok hx hb d_L_law_723 (by decide) rfl) ?_
  refine cr_cons (cr_iadd_ok hx hb d_L_law_724 rfl) ?_
  refine cr_cons (cr_sld_ok hx hb hX (by omega) d_L_law_725 rfl) ?_
  refine cr_cons (cr_aload_n_ok hx hb d_L_law_726 rfl rfl) ?_
  refine cr_cons (cr_iload_ok hx hb d_L_law_727 rfl) ?_
  refine cr_cons (cr_iconst_ok hx hb d_L_law_729 (by decide) rfl) ?_
  refine cr_cons (cr_iadd_ok hx hb d_L_law_730 rfl) ?_
  refine cr_cons (cr_sld_ok hx hb hX (by omega) d_L_law_731 rfl) ?_
  refine cr_cons (cr_aload_n_ok hx hb d_L_law_732 rfl rfl) ?_
  refine cr_cons (cr_iload_ok hx hb d_L_law_733 rfl) ?_
  refine cr_cons (cr_iconst_ok hx hb d_L_law_735 (by decide) rfl) ?_
  refine cr_cons (cr_iadd_ok hx hb d_L_law_736 rfl) ?_
  refine cr_cons (cr_sld_ok hx hb hX (by omega) d_L_law_737 rfl) ?_
  refine cr_cons (cr_ifeq_ok hx hb d_L_law_738 (by decide) rfl) ?_
  refine cr_cons (cr_iconst_ok hx hb d_L_law_741 (by decide) rfl) ?_
  refine cr_cons (cr_goto_ok hx hb d_L_law_742 (by decide)) ?_
  refine cr_cons (cr_iconst_ok hx hb d_L_law_745 (by decide) rfl) ?_
  refine cr_cons (cr_aload_n_ok hx hb d_L_law_746 rfl rfl) ?_
  refine cr_cons (cr_calSh_ok hx hb hml hown hU hlo hR (cr_W0_st s0) (u_L_airlock Z) (cr_w Z w_635 rfl hU args) (cr_w Z w_636 rfl hU args) (by decide) (by decide +kernel) (by decide) d_L_law_747 rfl) ?_
  refine cr_cons (cr_istore_ok hx hb d_L_law_750 rfl) ?_
  refine cr_cons (cr_aload_n_ok hx hb d_L_law_752 rfl rfl) ?_
  refine cr_cons (cr_aload_n_ok hx hb d_L_law_753 rfl rfl) ?_
  refine cr_cons (cr_iload_ok hx hb d_L_law_754 rfl) ?_
  refine cr_cons (cr_iconst_ok hx hb d_L_law_756 (by decide) rfl) ?_
  refine cr_cons (cr_iadd_ok hx hb d_L_law_757 rfl) ?_
  refine cr_cons (cr_sld_ok hx hb hX (by omega) d_L_law_758 rfl) ?_
  refine cr_cons (cr_aload_n_ok hx hb d_L_law_759 rfl rfl) ?_
  refine cr_cons (cr_iload_ok hx hb d_L_law_760 rfl) ?_
  refine cr_cons (cr_iconst_ok hx hb d_L_law_762 (by decide) rfl) ?_
  refine cr_cons (cr_iadd_ok hx hb d_L_law_763 rfl) ?_
  refine cr_cons (cr_sld_ok hx hb hX (by omega) d_L_law_764 rfl) ?_
  refine cr_cons (cr_aload_n_ok hx hb d_L_law_765 rfl rfl) ?_
  refine cr_cons (cr_iload_ok hx hb d_L_law_766 rfl) ?_
  refine cr_cons (cr_iconst_ok hx hb d_L_law_768 (by decide) rfl) ?_
  refine cr_cons (cr_iadd_ok hx hb d_L_law_769 rfl) ?_
  refine cr_cons (cr_sld_ok hx hb hX (by omega) d_L_law_770 rfl) ?_
  refine cr_cons (cr_ifeq_ok hx hb d_L_law_771 (by decide) rfl) ?_
  refine cr_cons (cr_iconst_ok hx hb d_L_law_774 (by decide) rfl) ?_
  refine cr_cons (cr_goto_ok hx hb d_L_law_775 (by decide)) ?_
  refine cr_cons (cr_iconst_ok hx hb d_L_law_778 (by decide) rfl) ?_
  refine cr_cons (cr_calVh_ok (C := R_M) (Tf := T_M) (N := 41) hx hb hml hown hU hlo hR (cr_W0_st s0) (fun kd hp cell h9 => by cases h9) hK rfl (u_M_airlock Z) (cr_w Z w_998 rfl hU args) (cr_w Z w_999 rfl hU args) (cr_w Z w_1000 rfl hU args) (by decide) (by decide +kernel) (by decide) d_L_law_779 rfl) ?_
  refine cr_cons (cr_istore_ok hx hb d_L_law_782 rfl) ?_
  refine cr_cons (cr_aload_n_ok hx hb d_L_law_784 rfl rfl) ?_
  refine cr_cons (cr_calVh_ok (C := R_M) (Tf := T_M) (N := 41) hx hb hml hown hU hlo hR (cr_W0_st s0) (fun kd hp cell h9 => by cases h9) hK rfl (u_M_thrown Z) (cr_w Z w_943 rfl hU args) (cr_w Z w_944 rfl hU args) (cr_w Z w_945 rfl hU args) (by decide) (by decide +kernel) (by decide) d_L_law_785 rfl) ?_
  refine cr_cons (cr_iload_ok hx hb d_L_law_788 rfl) ?_
  refine cr_cons (cr_iceq_ok hx hb d_L_law_790 (by decide) rfl) ?_
  refine cr_cons (cr_iconst_ok hx hb d_L_law_793 (by decide) rfl) ?_
  refine cr_cons (cr_zret_ok hx hb hr hlk d_L_law_794) ?_
  refine cr_cons (cr_iload_ok hx hb d_L_law_795 rfl) ?_
  refine cr_cons (cr_ifne_ok hx hb d_L_law_797 (by decide) rfl) ?_
  refine cr_cons (cr_aload_n_ok hx hb d_L_law_800 rfl rfl) ?_
  refine cr_cons (cr_iconst_ok hx hb d_L_law_801 (by decide) rfl) ?_
  refine cr_cons (cr_lald_ok (t0 := 1) hx hb hK rfl d_L_law_802 rfl) ?_
  refine cr_cons (cr_iload_ok hx hb d_L_law_803 rfl) ?_
  refine cr_cons (cr_ifeq_ok hx hb d_L_law_805 (by decide) rfl) ?_
  refine cr_cons (cr_lconst_ok hx hb d_L_law_808 (by decide) rfl) ?_
  refine cr_cons (cr_goto_ok hx hb d_L_law_809 (by decide)) ?_
  refine cr_cons (cr_lconst_ok hx hb d_L_law_812 (by decide) rfl) ?_
  refine cr_cons (cr_lcmp_ok hx hb d_L_law_813 rfl) ?_
  refine cr_cons (cr_ifeq_ok hx hb d_L_law_814 (by decide) rfl) ?_
  refine cr_cons (cr_iconst_ok hx hb d_L_law_817 (by decide) rfl) ?_
  refine cr_cons (cr_zret_ok hx hb hr hlk d_L_law_818) ?_
  refine cr_cons (cr_goto_ok hx hb d_L_law_819 (by decide)) ?_
  refine cr_cons (cr_iinc_ok hx hb d_L_law_1498 (by decide) rfl) ?_
  refine cr_cons (cr_goto_ok hx hb d_L_law_1501 (by decide)) ?_
  exact cr_nil
def t_Lw9 (l : Launch) (s0 : State) (D : va_G) (ca : Nat → ClassId) (d mc ms b L : Nat) (xs : Nat → Int32) : List (Nat × cr_T) := [(822, cr_aload 1 823),
  (823, cr_aload 0 824),
  (824, cr_iload 4 826),
  (826, cr_push (.int 1) 827),
  (827, cr_iadd 828),
  (828, cr_sld s0 b L xs 829),
  (829, cr_aload 0 830),
  (830, cr_iload 4 832),
  (832, cr_push (.int 2) 833),
  (833, cr_iadd 834),
  (834, cr_sld s0 b L xs 835),
  (835, cr_ifeq 842 838),
  (838, cr_push (.int 1) 839),
  (839, cr_goto 843),
  (842, cr_push (.int 0) 843),
  (843, cr_aload 0 844),
  (844, cr_iload 4 846),
  (846, cr_push (.int 3) 847),
  (847, cr_iadd 848),
  (848, cr_sld s0 b L xs 849),
  (849, cr_aload 3 850),
  (850, cr_calSh l (cr_W0 s0) s0.heap.size y_L_state cw_L_state d mc ms 5 7 853),
  (853, cr_istore 5 855),
  (855, cr_aload 2 856),
  (856, cr_aload 0 857),
  (857, cr_iload 4 859),
  (859, cr_push (.int 1) 860),
  (860, cr_iadd 861),
  (861, cr_sld s0 b L xs 862),
  (862, cr_aload 0 863),
  (863, cr_iload 4 865),
  (865, cr_push (.int 2) 866),
  (866, cr_iadd 867),
  (867, cr_sld s0 b L xs 868),
  (868, cr_ifeq 875 871),
  (871, cr_push (.int 1) 872),
  (872, cr_goto 876),
  (875, cr_push (.int 0) 876),
  (876, cr_aload 0 877),
  (877, cr_iload 4 879),
  (879, cr_push (.int 3) 880),
  (880, cr_iadd 881),
  (881, cr_sld s0 b L xs 882),
  (882, cr_calVh D kc l (cr_W0 s0) s0.heap.size 11 y_M_state cw_M_state (fun _ => none) d mc ms 3 7 885),
  (885, cr_istore 6 887),
  (887, cr_aload 2 888),
  (888, cr_calVh D kc l (cr_W0 s0) s0.heap.size 11 y_M_thrown cw_M_thrown (fun _ => none) d mc ms 0 7 891),
  (891, cr_iload 5 893),
  (893, cr_iceq 898 896),
  (896, cr_push (.int 0) 897),
  (897, cr_zret mc ms .boolean),
  (898, cr_iload 5 900),
  (900, cr_ifne 915 903),
  (903, cr_aload 3 904),
  (904, cr_push (.int 0) 905),
  (905, cr_lald D kc (ca 1) 906),
  (906, cr_iload 6 908),
  (908, cr_i2l 909),
  (909, cr_lcmp 910),
  (910, cr_ifeq 915 913),
  (913, cr_push (.int 0) 914),
  (914, cr_zret mc ms .boolean),
  (915, cr_goto 1498),
  (1498, cr_iinc 4 6 1501),
  (1501, cr_goto 23)]
set_option maxHeartbeats 4000000 in
set_option maxRecDepth 20000 in
theorem s_Lw9 {p : Program} {l : Launch} {e : Env} {R : Room} {m : MethodId} {args : Array Value} {below : List Frame} {meth : Method} {c : Code} {s0 : State} {D : va_G} {ca : Nat → ClassId} {e0 d mc ms b L : Nat} {xs : Nat → Int32} {Q : cr_Q} (Z : cr_Z0 s0 D ca e0) (hx : p.tables.exec = Jvm.exec) (hb : c.code = c_L_law) (hml : c.maxLocals = 7) (hown : s0.vm.findClass "CardRightsLaw" = some m.cls) (hr : meth.sig.returnType = some .boolean) (hlk : meth.locks = false) (hR : R = cr_rm d mc ms) (hX : va_X b L xs s0 s0.heap) (hL : L ≤ 3072) : ∀ x ∈ t_Lw9 l s0 D ca d mc ms b L xs, cr_Snd p l e R s0 m args below meth c s0.heap.size mc ms Q x.1 x.2 := by
  have hU : cr_W0 s0 s0 := State.WarmedH.refl s0
  have hlo : s0.heap.size ≤ s0.heap.size := Nat.le_refl _
  have hK := cr_Z0K Z hU
  have hRc : R.cells = mc := by rw [hR]; rfl
  have hRs : R.slots = ms := by rw [hR]; rfl
  unfold t_Lw9
  refine cr_cons (cr_aload_n_ok hx hb d_L_law_822 rfl rfl) ?_
  refine cr_cons (cr_aload_n_ok hx hb d_L_law_823 rfl rfl) ?_
  refine cr_cons (cr_iload_ok hx hb d_L_law_824 rfl) ?_
  refine cr_cons (cr_iconst_ok hx hb d_L_law_826 (by decide) rfl) ?_
  refine cr_cons (cr_iadd_ok hx hb d_L_law_827 rfl) ?_
  refine cr_cons (cr_sld_ok hx hb hX (by omega) d_L_law_828 rfl) ?_
  refine cr_cons (cr_aload_n_ok hx hb d_L_law_829 rfl rfl) ?_
  refine cr_cons (cr_iload_ok hx hb d_L_law_830 rfl) ?_
  refine cr_cons (cr_iconst_ok hx hb d_L_law_832 (by decide) rfl) ?_
  refine cr_cons (cr_iadd_ok hx hb d_L_law_833 rfl) ?_
  refine cr_cons (cr_sld_ok hx hb hX (by omega) d_L_law_834 rfl) ?_
  refine cr_cons (cr_ifeq_ok hx hb d_L_law_835 (by decide) rfl) ?_
  refine cr_cons (cr_iconst_ok hx hb d_L_law_838 (by decide) rfl) ?_
  refine cr_cons (cr_goto_ok hx hb d_L_law_839 (by decide)) ?_
  refine cr_cons (cr_iconst_ok hx hb d_L_law_842 (by decide) rfl) ?_
  refine cr_cons (cr_aload_n_ok hx hb d_L_law_843 rfl rfl) ?_
  refine cr_cons (cr_iload_ok hx hb d_L_law_844 rfl) ?_
  refine cr_cons (cr_iconst_ok hx hb d_L_law_846 (by decide) rfl) ?_
  refine cr_cons (cr_iadd_ok hx hb d_L_law_847 rfl) ?_
  refine cr_cons (cr_sld_ok hx hb hX (by omega) d_L_law_848 rfl) ?_
  refine cr_cons (cr_aload_n_ok hx hb d_L_law_849 rfl rfl) ?_
  refine cr_cons (cr_calSh_ok hx hb hml hown hU hlo hR (cr_W0_st s0) (u_L_state Z) (cr_w Z w_651 rfl hU args) (cr_w Z w_652 rfl hU args) (by decide) (by decide +kernel) (by decide) d_L_law_850 rfl) ?_
  refine cr_cons (cr_istore_ok hx hb d_L_law_853 rfl) ?_
  refine cr_cons (cr_aload_n_ok hx hb d_L_law_855 rfl rfl) ?_
  refine cr_cons (cr_aload_n_ok hx hb d_L_law_856 rfl rfl) ?_
  refine cr_cons (cr_iload_ok hx hb d_L_law_857 rfl) ?_
  refine cr_cons (cr_iconst_ok hx hb d_L_law_859 (by decide) rfl) ?_
  refine cr_cons (cr_iadd_ok hx hb d_L_law_860 rfl) ?_
  refine cr_cons (cr_sld_ok hx hb hX (by omega) d_L_law_861 rfl) ?_
  refine cr_cons (cr_aload_n_ok hx hb d_L_law_862 rfl rfl) ?_
  refine cr_cons (cr_iload_ok hx hb d_L_law_863 rfl) ?_
  refine cr_cons (cr_iconst_ok hx hb d_L_law_865 (by decide) rfl) ?_
  refine cr_cons (cr_iadd_ok hx hb d_L_law_866 rfl) ?_
  refine cr_cons (cr_sld_ok hx hb hX (by omega) d_L_law_867 rfl) ?_
  refine cr_cons (cr_ifeq_ok hx hb d_L_law_868 (by decide) rfl) ?_
  refine cr_cons (cr_iconst_ok hx hb d_L_law_871 (by decide) rfl) ?_
  refine cr_cons (cr_goto_ok hx hb d_L_law_872 (by decide)) ?_
  refine cr_cons (cr_iconst_ok hx hb d_L_law_875 (by decide) rfl) ?_
  refine cr_cons (cr_aload_n_ok hx hb d_L_law_876 rfl rfl) ?_
  refine cr_cons (cr_iload_ok hx hb d_L_law_877 rfl) ?_
  refine cr_cons (cr_iconst_ok hx hb d_L_law_879 (by decide) rfl) ?_
  refine cr_cons (cr_iadd_ok hx hb d_L_law_880 rfl) ?_
  refine cr_cons (cr_sld_ok hx hb hX (by omega) d_L_law_881 rfl) ?_
  refine cr_cons (cr_calVh_ok (C := R_M) (Tf := T_M) (N := 41) hx hb hml hown hU hlo hR (cr_W0_st s0) (fun kd hp cell h9 => by cases h9) hK rfl (u_M_state Z) (cr_w Z w_1002 rfl hU args) (cr_w Z w_1003 rfl hU args) (cr_w Z w_1004 rfl hU args) (by decide) (by decide +kernel) (by decide) d_L_law_882 rfl) ?_
  refine cr_cons (cr_istore_ok hx hb d_L_law_885 rfl) ?_
  refine cr_cons (cr_aload_n_ok hx hb d_L_law_887 rfl rfl) ?_
  refine cr_cons (cr_calVh_ok (C := R_M) (Tf := T_M) (N := 41) hx hb hml hown hU hlo hR (cr_W0_st s0) (fun kd hp cell h9 => by cases h9) hK rfl (u_M_thrown Z) (cr_w Z w_943 rfl hU args) (cr_w Z w_944 rfl hU args) (cr_w Z w_945 rfl hU args) (by decide) (by decide +kernel) (by decide) d_L_law_888 rfl) ?_
  refine cr_cons (cr_iload_ok hx hb d_L_law_891 rfl) ?_
  refine cr_cons (cr_iceq_ok hx hb d_L_law_893 (by decide) rfl) ?_
  refine cr_cons (cr_iconst_ok hx hb d_L_law_896 (by decide) rfl) ?_
  refine cr_cons (cr_zret_ok hx hb hr hlk d_L_law_897) ?_
  refine cr_cons (cr_iload_ok hx hb d_L_law_898 rfl) ?_
  refine cr_cons (cr_ifne_ok hx hb d_L_law_900 (by decide) rfl) ?_
  refine cr_cons (cr_aload_n_ok hx hb d_L_law_903 rfl rfl) ?_
  refine cr_cons (cr_iconst_ok hx hb d_L_law_904 (by decide) rfl) ?_
  refine cr_cons (cr_lald_ok (t0 := 1) hx hb hK rfl d_L_law_905 rfl) ?_
  refine cr_cons (cr_iload_ok hx hb d_L_law_906 rfl) ?_
  refine cr_cons (cr_i2l_ok hx hb d_L_law_908 rfl) ?_
  refine cr_cons (cr_lcmp_ok hx hb d_L_law_909 rfl) ?_
  refine cr_cons (cr_ifeq_ok hx hb d_L_law_910 (by decide) rfl) ?_
  refine cr_cons (cr_iconst_ok hx hb d_L_law_913 (by decide) rfl) ?_
  refine cr_cons (cr_zret_ok hx hb hr hlk d_L_law_914) ?_
  refine cr_cons (cr_goto_ok hx hb d_L_law_915 (by decide)) ?_
  refine cr_cons (cr_iinc_ok hx hb d_L_law_1498 (by decide) rfl) ?_
  refine cr_cons (cr_goto_ok hx hb d_L_law_1501 (by decide)) ?_
  exact cr_nil
def t_Lw10 (l : Launch) (s0 : State) (D : va_G) (ca : Nat → ClassId) (d mc ms b L : Nat) (xs : Nat → Int32) : List (Nat × cr_T) := [(918, cr_aload 1 919),
  (919, cr_aload 0 920),
  (920, cr_iload 4 922),
  (922, cr_push (.int 1) 923),
  (923, cr_iadd 924),
  (924, cr_sld s0 b L xs 925),
  (925, cr_aload 0 926),
  (926, cr_iload 4 928),
  (928, cr_push (.int 2) 929),
  (929, cr_iadd 930),
  (930, cr_sld s0 b L xs 931),
  (931, cr_ifeq 938 934),
  (934, cr_push (.int 1) 935),
  (935, cr_goto 939),
  (938, cr_push (.int 0) 939),
  (939, cr_aload 3 940),
  (940, cr_calSh l (cr_W0 s0) s0.heap.size y_L_off cw_L_off d mc ms 4 7 943),
  (943, cr_istore 5 945),
  (945, cr_aload 2 946),
  (946, cr_aload 0 947),
  (947, cr_iload 4 949),
  (949, cr_push (.int 1) 950),
  (950, cr_iadd 951),
  (951, cr_sld s0 b L xs 952),
  (952, cr_aload 0 953),
  (953, cr_iload 4 955),
  (955, cr_push (.int 2) 956),
  (956, cr_iadd 957),
  (957, cr_sld s0 b L xs 958),
  (958, cr_ifeq 965 961),
  (961, cr_push (.int 1) 962),
  (962, cr_goto 966),
  (965, cr_push (.int 0) 966),
  (966, cr_calVh D kc l (cr_W0 s0) s0.heap.size 11 y_M_off cw_M_off (fun _ => none) d mc ms 2 7 969),
  (969, cr_istore 6 971),
  (971, cr_aload 2 972),
  (972, cr_calVh D kc l (cr_W0 s0) s0.heap.size 11 y_M_thrown cw_M_thrown (fun _ => none) d mc ms 0 7 975),
  (975, cr_iload 5 977),
  (977, cr_iceq 982 980),
  (980, cr_push (.int 0) 981),
  (981, cr_zret mc ms .boolean),
  (982, cr_iload 5 984),
  (984, cr_ifne 999 987),
  (987, cr_aload 3 988),
  (988, cr_push (.int 0) 989),
  (989, cr_lald D kc (ca 1) 990),
  (990, cr_iload 6 992),
  (992, cr_i2l 993),
  (993, cr_lcmp 994),
  (994, cr_ifeq 999 997),
  (997, cr_push (.int 0) 998),
  (998, cr_zret mc ms .boolean),
  (999, cr_goto 1498),
  (1498, cr_iinc 4 6 1501),
  (1501, cr_goto 23)]
set_option maxHeartbeats 4000000 in
set_option maxRecDepth 20000 in
theorem s_Lw10 {p : Program} {l : Launch} {e : Env} {R : Room} {m : MethodId} {args : Array Value} {below : List Frame} {meth : Method} {c : Code} {s0 : State} {D : va_G} {ca : Nat → ClassId} {e0 d mc ms b L : Nat} {xs : Nat → Int32} {Q : cr_Q} (Z : cr_Z0 s0 D ca e0) (hx : p.tables.exec = Jvm.exec) (hb : c.code = c_L_law) (hml : c.maxLocals = 7) (hown : s0.vm.findClass "CardRightsLaw" = some m.cls) (hr : meth.sig.returnType = some .boolean) (hlk : meth.locks = false) (hR : R = cr_rm d mc ms) (hX : va_X b L xs s0 s0.heap) (hL : L ≤ 3072) : ∀ x ∈ t_Lw10 l s0 D ca d mc ms b L xs, cr_Snd p l e R s0 m args below meth c s0.heap.size mc ms Q x.1 x.2 := by
  have hU : cr_W0 s0 s0 := State.WarmedH.refl s0
  have hlo : s0.heap.size ≤ s0.heap.size := Nat.le_refl _
  have hK := cr_Z0K Z hU
  have hRc : R.cells = mc := by rw [hR]; rfl
  have hRs : R.slots = ms := by rw [hR]; rfl
  unfold t_Lw10
  refine cr_cons (cr_aload_n_ok hx hb d_L_law_918 rfl rfl) ?_
  refine cr_cons (cr_aload_n_ok hx hb d_L_law_919 rfl rfl) ?_
  refine cr_cons (cr_iload_ok hx hb d_L_law_920 rfl) ?_
  refine cr_cons (cr_iconst_ok hx hb d_L_law_922 (by decide) rfl) ?_
  refine cr_cons (cr_iadd_ok hx hb d_L_law_923 rfl) ?_
  refine cr_cons (cr_sld_ok hx hb hX (by omega) d_L_law_924 rfl) ?_
  refine cr_cons (cr_aload_n_ok hx hb d_L_law_925 rfl rfl) ?_
  refine cr_cons (cr_iload_ok hx hb d_L_law_926 rfl) ?_
  refine cr_cons (cr_iconst_ok hx hb d_L_law_928 (by decide) rfl) ?_
  refine cr_cons (cr_iadd_ok hx hb d_L_law_929 rfl) ?_
  refine cr_cons (cr_sld_ok hx hb hX (by omega) d_L_law_930 rfl) ?_
  refine cr_cons (cr_ifeq_ok hx hb d_L_law_931 (by decide) rfl) ?_
  refine cr_cons (cr_iconst_ok hx hb d_L_law_934 (by decide) rfl) ?_
  refine cr_cons (cr_goto_ok hx hb d_L_law_935 (by decide)) ?_
  refine cr_cons (cr_iconst_ok hx hb d_L_law_938 (by decide) rfl) ?_
  refine cr_cons (cr_aload_n_ok hx hb d_L_law_939 rfl rfl) ?_
  refine cr_cons (cr_calSh_ok hx hb hml hown hU hlo hR (cr_W0_st s0) (u_L_off Z) (cr_w Z w_663 rfl hU args) (cr_w Z w_664 rfl hU args) (by decide) (by decide +kernel) (by decide) d_L_law_940 rfl) ?_
  refine cr_cons (cr_istore_ok hx hb d_L_law_943 rfl) ?_
  refine cr_cons (cr_aload_n_ok hx hb d_L_law_945 rfl rfl) ?_
  refine cr_cons (cr_aload_n_ok hx hb d_L_law_946 rfl rfl) ?_
  refine cr_cons (cr_iload_ok hx hb d_L_law_947 rfl) ?_
  refine cr_cons (cr_iconst_ok hx hb d_L_law_949 (by decide) rfl) ?_
  refine cr_cons (cr_iadd_ok hx hb d_L_law_950 rfl) ?_
  refine cr_cons (cr_sld_ok hx hb hX (by omega) d_L_law_951 rfl) ?_
  refine cr_cons (cr_aload_n_ok hx hb d_L_law_952 rfl rfl) ?_
  refine cr_cons (cr_iload_ok hx hb d_L_law_953 rfl) ?_
  refine cr_cons (cr_iconst_ok hx hb d_L_law_955 (by decide) rfl) ?_
  refine cr_cons (cr_iadd_ok hx hb d_L_law_956 rfl) ?_
  refine cr_cons (cr_sld_ok hx hb hX (by omega) d_L_law_957 rfl) ?_
  refine cr_cons (cr_ifeq_ok hx hb d_L_law_958 (by decide) rfl) ?_
  refine cr_cons (cr_iconst_ok hx hb d_L_law_961 (by decide) rfl) ?_
  refine cr_cons (cr_goto_ok hx hb d_L_law_962 (by decide)) ?_
  refine cr_cons (cr_iconst_ok hx hb d_L_law_965 (by decide) rfl) ?_
  refine cr_cons (cr_calVh_ok (C := R_M) (Tf := T_M) (N := 41) hx hb hml hown hU hlo hR (cr_W0_st s0) (fun kd hp cell h9 => by cases h9) hK rfl (u_M_off Z) (cr_w Z w_1038 rfl hU args) (cr_w Z w_1039 rfl hU args) (cr_w Z w_1040 rfl hU args) (by decide) (by decide +kernel) (by decide) d_L_law_966 rfl) ?_
  refine cr_cons (cr_istore_ok hx hb d_L_law_969 rfl) ?_
  refine cr_cons (cr_aload_n_ok hx hb d_L_law_971 rfl rfl) ?_
  refine cr_cons (cr_calVh_ok (C := R_M) (Tf := T_M) (N := 41) hx hb hml hown hU hlo hR (cr_W0_st s0) (fun kd hp cell h9 => by cases h9) hK rfl (u_M_thrown Z) (cr_w Z w_943 rfl hU args) (cr_w Z w_944 rfl hU args) (cr_w Z w_945 rfl hU args) (by decide) (by decide +kernel) (by decide) d_L_law_972 rfl) ?_
  refine cr_cons (cr_iload_ok hx hb d_L_law_975 rfl) ?_
  refine cr_cons (cr_iceq_ok hx hb d_L_law_977 (by decide) rfl) ?_
  refine cr_cons (cr_iconst_ok hx hb d_L_law_980 (by decide) rfl) ?_
  refine cr_cons (cr_zret_ok hx hb hr hlk d_L_law_981) ?_
  refine cr_cons (cr_iload_ok hx hb d_L_law_982 rfl) ?_
  refine cr_cons (cr_ifne_ok hx hb d_L_law_984 (by decide) rfl) ?_
  refine cr_cons (cr_aload_n_ok hx hb d_L_law_987 rfl rfl) ?_
  refine cr_cons (cr_iconst_ok hx hb d_L_law_988 (by decide) rfl) ?_
  refine cr_cons (cr_lald_ok (t0 := 1) hx hb hK rfl d_L_law_989 rfl) ?_
  refine cr_cons (cr_iload_ok hx hb d_L_law_990 rfl) ?_
  refine cr_cons (cr_i2l_ok hx hb d_L_law_992 rfl) ?_
  refine cr_cons (cr_lcmp_ok hx hb d_L_law_993 rfl) ?_
  refine cr_cons (cr_ifeq_ok hx hb d_L_law_994 (by decide) rfl) ?_
  refine cr_cons (cr_iconst_ok hx hb d_L_law_997 (by decide) rfl) ?_
  refine cr_cons (cr_zret_ok hx hb hr hlk d_L_law_998) ?_
  refine cr_cons (cr_goto_ok hx hb d_L_law_999 (by decide)) ?_
  refine cr_cons (cr_iinc_ok hx hb d_L_law_1498 (by decide) rfl) ?_
  refine cr_cons (cr_goto_ok hx hb d_L_law_1501 (by decide)) ?_
  exact cr_nil
def t_Lw11 (l : Launch) (s0 : State) (D : va_G) (ca : Nat → ClassId) (d mc ms b L : Nat) (xs : Nat → Int32) : List (Nat × cr_T) := [(1002, cr_aload 1 1003),
  (1003, cr_aload 0 1004),
  (1004, cr_iload 4 1006),
  (1006, cr_push (.int 1) 1007),
  (1007, cr_iadd 1008),
  (1008, cr_sld s0 b L xs 1009),
  (1009, cr_aload 0 1010),
  (1010, cr_iload 4 1012),
  (1012, cr_push (.int 2) 1013),
  (1013, cr_iadd 1014),
  (1014, cr_sld s0 b L xs 1015),
  (1015, cr_aload 0 1016),
  (1016, cr_iload 4 1018),
  (1018, cr_push (.int 3) 1019),
  (1019, cr_iadd 1020),
  (1020, cr_sld s0 b L xs 1021),
  (1021, cr_aload 0 1022),
  (1022, cr_iload 4 1024),
  (1024, cr_push (.int 4) 1025),
  (1025, cr_iadd 1026),
  (1026, cr_sld s0 b L xs 1027),
  (1027, cr_aload 3 1028),
  (1028, cr_calSh l (cr_W0 s0) s0.heap.size y_L_asks cw_L_asks d mc ms 6 7 1031),
  (1031, cr_istore 5 1033),
  (1033, cr_aload 2 1034),
  (1034, cr_aload 0 1035),
  (1035, cr_iload 4 1037),
  (1037, cr_push (.int 1) 1038),
  (1038, cr_iadd 1039),
  (1039, cr_sld s0 b L xs 1040),
  (1040, cr_aload 0 1041),
  (1041, cr_iload 4 1043),
  (1043, cr_push (.int 2) 1044),
  (1044, cr_iadd 1045),
  (1045, cr_sld s0 b L xs 1046),
  (1046, cr_aload 0 1047),
  (1047, cr_iload 4 1049),
  (1049, cr_push (.int 3) 1050),
  (1050, cr_iadd 1051),
  (1051, cr_sld s0 b L xs 1052),
  (1052, cr_aload 0 1053),
  (1053, cr_iload 4 1055),
  (1055, cr_push (.int 4) 1056),
  (1056, cr_iadd 1057),
  (1057, cr_sld s0 b L xs 1058),
  (1058, cr_calVh D kc l (cr_W0 s0) s0.heap.size 11 y_M_asks cw_M_asks (fun _ => none) d mc ms 4 7 1061),
  (1061, cr_istore 6 1063),
  (1063, cr_aload 2 1064),
  (1064, cr_calVh D kc l (cr_W0 s0) s0.heap.size 11 y_M_thrown cw_M_thrown (fun _ => none) d mc ms 0 7 1067),
  (1067, cr_iload 5 1069),
  (1069, cr_iceq 1074 1072),
  (1072, cr_push (.int 0) 1073),
  (1073, cr_zret mc ms .boolean),
  (1074, cr_iload 5 1076),
  (1076, cr_ifne 1091 1079),
  (1079, cr_aload 3 1080),
  (1080, cr_push (.int 0) 1081),
  (1081, cr_lald D kc (ca 1) 1082),
  (1082, cr_iload 6 1084),
  (1084, cr_i2l 1085),
  (1085, cr_lcmp 1086),
  (1086, cr_ifeq 1091 1089),
  (1089, cr_push (.int 0) 1090),
  (1090, cr_zret mc ms .boolean),
  (1091, cr_goto 1498),
  (1498, cr_iinc 4 6 1501),
  (1501, cr_goto 23)]
set_option maxHeartbeats 4000000 in
set_option maxRecDepth 20000 in
theorem s_Lw11 {p : Program} {l : Launch} {e : Env} {R : Room} {m : MethodId} {args : Array Value} {below : List Frame} {meth : Method} {c : Code} {s0 : State} {D : va_G} {ca : Nat → ClassId} {e0 d mc ms b L : Nat} {xs : Nat → Int32} {Q : cr_Q} (Z : cr_Z0 s0 D ca e0) (hx : p.tables.exec = Jvm.exec) (hb : c.code = c_L_law) (hml : c.maxLocals = 7) (hown : s0.vm.findClass "CardRightsLaw" = some m.cls) (hr : meth.sig.returnType = some .boolean) (hlk : meth.locks = false) (hR : R = cr_rm d mc ms) (hX : va_X b L xs s0 s0.heap) (hL : L ≤ 3072) : ∀ x ∈ t_Lw11 l s0 D ca d mc ms b L xs, cr_Snd p l e R s0 m args below meth c s0.heap.size mc ms Q x.1 x.2 := by
  have hU : cr_W0 s0 s0 := State.WarmedH.refl s0
  have hlo : s0.heap.size ≤ s0.heap.size := Nat.le_refl _
  have hK := cr_Z0K Z hU
  have hRc : R.cells = mc := by rw [hR]; rfl
  have hRs : R.slots = ms := by rw [hR]; rfl
  unfold t_Lw11
  refine cr_cons (cr_aload_n_ok hx hb d_L_law_1002 rfl rfl) ?_
  refine cr_cons (cr_aload_n_ok hx hb d_L_law_1003 rfl rfl) ?_
  refine cr_cons (cr_iload_ok hx hb d_L_law_1004 rfl) ?_
  refine cr_cons (cr_iconst_ok hx hb d_L_law_1006 (by decide) rfl) ?_
  refine cr_cons (cr_iadd_ok hx hb d_L_law_1007 rfl) ?_
  refine cr_cons (cr_sld_ok hx hb hX (by omega) d_L_law_1008 rfl) ?_
  refine cr_cons (cr_aload_n_ok hx hb d_L_law_1009 rfl rfl) ?_
  refine cr_cons (cr_iload_ok hx hb d_L_law_1010 rfl) ?_
  refine cr_cons (cr_iconst_ok hx hb d_L_law_1012 (by decide) rfl) ?_
  refine cr_cons (cr_iadd_ok hx hb d_L_law_1013 rfl) ?_
  refine cr_cons (cr_sld_ok hx hb hX (by omega) d_L_law_1014 rfl) ?_
  refine cr_cons (cr_aload_n_ok hx hb d_L_law_1015 rfl rfl) ?_
  refine cr_cons (cr_iload_ok hx hb d_L_law_1016 rfl) ?_
  refine cr_cons (cr_iconst_ok hx hb d_L_law_1018 (by decide) rfl) ?_
  refine cr_cons (cr_iadd_ok hx hb d_L_law_1019 rfl) ?_
  refine cr_cons (cr_sld_ok hx hb hX (by omega) d_L_law_1020 rfl) ?_
  refine cr_cons (cr_aload_n_ok hx hb d_L_law_1021 rfl rfl) ?_
  refine cr_cons (cr_iload_ok hx hb d_L_law_1022 rfl) ?_
  refine cr_cons (cr_iconst_ok hx hb d_L_law_1024 (by decide) rfl) ?_
  refine cr_cons (cr_iadd_ok hx hb d_L_law_1025 rfl) ?_
  refine cr_cons (cr_sld_ok hx hb hX (by omega) d_L_law_1026 rfl) ?_
  refine cr_cons (cr_aload_n_ok hx hb d_L_law_1027 rfl rfl) ?_
  refine cr_cons (cr_calSh_ok hx hb hml hown hU hlo hR (cr_W0_st s0) (u_L_asks Z) (cr_w Z w_719 rfl hU args) (cr_w Z w_720 rfl hU args) (by decide) (by decide +kernel) (by decide) d_L_law_1028 rfl) ?_
  refine cr_cons (cr_istore_ok hx hb d_L_law_1031 rfl) ?_
  refine cr_cons (cr_aload_n_ok hx hb d_L_law_1033 rfl rfl) ?_
  refine cr_cons (cr_aload_n_ok hx hb d_L_law_1034 rfl rfl) ?_
  refine cr_cons (cr_iload_ok hx hb d_L_law_1035 rfl) ?_
  refine cr_cons (cr_iconst_ok hx hb d_L_law_1037 (by decide) rfl) ?_
  refine cr_cons (cr_iadd_ok hx hb d_L_law_1038 rfl) ?_
  refine cr_cons (cr_sld_ok hx hb hX (by omega) d_L_law_1039 rfl) ?_
  refine cr_cons (cr_aload_n_ok hx hb d_L_law_1040 rfl rfl) ?_
  refine cr_cons (cr_iload_ok hx hb d_L_law_1041 rfl) ?_
  refine cr_cons (cr_iconst_ok hx hb d_L_law_1043 (by decide) rfl) ?_
  refine cr_cons (cr_iadd_ok hx hb d_L_law_1044 rfl) ?_
  refine cr_cons (cr_sld_ok hx hb hX (by omega) d_L_law_1045 rfl) ?_
  refine cr_cons (cr_aload_n_ok hx hb d_L_law_1046 rfl rfl) ?_
  refine cr_cons (cr_iload_ok hx hb d_L_law_1047 rfl) ?_
  refine cr_cons (cr_iconst_ok hx hb d_L_law_1049 (by decide) rfl) ?_
  refine cr_cons (cr_iadd_ok hx hb d_L_law_1050 rfl) ?_
  refine cr_cons (cr_sld_ok hx hb hX (by omega) d_L_law_1051 rfl) ?_
  refine cr_cons (cr_aload_n_ok hx hb d_L_law_1052 rfl rfl) ?_
  refine cr_cons (cr_iload_ok hx hb d_L_law_1053 rfl) ?_
  refine cr_cons (cr_iconst_ok hx hb d_L_law_1055 (by decide) rfl) ?_
  refine cr_cons (cr_iadd_ok hx hb d_L_law_1056 rfl) ?_
  refine cr_cons (cr_sld_ok hx hb hX (by omega) d_L_law_1057 rfl) ?_
  refine cr_cons (cr_calVh_ok (C := R_M) (Tf := T_M) (N := 41) hx hb hml hown hU hlo hR (cr_W0_st s0) (fun kd hp cell h9 => by cases h9) hK rfl (u_M_asks Z) (cr_w Z w_1010 rfl hU args) (cr_w Z w_1011 rfl hU args) (cr_w Z w_1012 rfl hU args) (by decide) (by decide +kernel) (by decide) d_L_law_1058 rfl) ?_
  refine cr_cons (cr_istore_ok hx hb d_L_law_1061 rfl) ?_
  refine cr_cons (cr_aload_n_ok hx hb d_L_law_1063 rfl rfl) ?_
  refine cr_cons (cr_calVh_ok (C := R_M) (Tf := T_M) (N := 41) hx hb hml hown hU hlo hR (cr_W0_st s0) (fun kd hp cell h9 => by cases h9) hK rfl (u_M_thrown Z) (cr_w Z w_943 rfl hU args) (cr_w Z w_944 rfl hU args) (cr_w Z w_945 rfl hU args) (by decide) (by decide +kernel) (by decide) d_L_law_1064 rfl) ?_
  refine cr_cons (cr_iload_ok hx hb d_L_law_1067 rfl) ?_
  refine cr_cons (cr_iceq_ok hx hb d_L_law_1069 (by decide) rfl) ?_
  refine cr_cons (cr_iconst_ok hx hb d_L_law_1072 (by decide) rfl) ?_
  refine cr_cons (cr_zret_ok hx hb hr hlk d_L_law_1073) ?_
  refine cr_cons (cr_iload_ok hx hb d_L_law_1074 rfl) ?_
  refine cr_cons (cr_ifne_ok hx hb d_L_law_1076 (by decide) rfl) ?_
  refine cr_cons (cr_aload_n_ok hx hb d_L_law_1079 rfl rfl) ?_
  refine cr_cons (cr_iconst_ok hx hb d_L_law_1080 (by decide) rfl) ?_
  refine cr_cons (cr_lald_ok (t0 := 1) hx hb hK rfl d_L_law_1081 rfl) ?_
  refine cr_cons (cr_iload_ok hx hb d_L_law_1082 rfl) ?_
  refine cr_cons (cr_i2l_ok hx hb d_L_law_1084 rfl) ?_
  refine cr_cons (cr_lcmp_ok hx hb d_L_law_1085 rfl) ?_
  refine cr_cons (cr_ifeq_ok hx hb d_L_law_1086 (by decide) rfl) ?_
  refine cr_cons (cr_iconst_ok hx hb d_L_law_1089 (by decide) rfl) ?_
  refine cr_cons (cr_zret_ok hx hb hr hlk d_L_law_1090) ?_
  refine cr_cons (cr_goto_ok hx hb d_L_law_1091 (by decide)) ?_
  refine cr_cons (cr_iinc_ok hx hb d_L_law_1498 (by decide) rfl) ?_
  refine cr_cons (cr_goto_ok hx hb d_L_law_1501 (by decide)) ?_
  exact cr_nil
def t_Lw12 (l : Launch) (s0 : State) (D : va_G) (ca : Nat → ClassId) (d mc ms b L : Nat) (xs : Nat → Int32) : List (Nat × cr_T) := [(1094, cr_aload 1 1095),
  (1095, cr_aload 0 1096),
  (1096, cr_iload 4 1098),
  (1098, cr_push (.int 1) 1099),
  (1099, cr_iadd 1100),
  (1100, cr_sld s0 b L xs 1101),
  (1101, cr_aload 0 1102),
  (1102, cr_iload 4 1104),
  (1104, cr_push (.int 2) 1105),
  (1105, cr_iadd 1106),
  (1106, cr_sld s0 b L xs 1107),
  (1107, cr_aload 0 1108),
  (1108, cr_iload 4 1110),
  (1110, cr_push (.int 3) 1111),
  (1111, cr_iadd 1112),
  (1112, cr_sld s0 b L xs 1113),
  (1113, cr_aload 0 1114),
  (1114, cr_iload 4 1116),
  (1116, cr_push (.int 4) 1117),
  (1117, cr_iadd 1118),
  (1118, cr_sld s0 b L xs 1119),
  (1119, cr_aload 0 1120),
  (1120, cr_iload 4 1122),
  (1122, cr_push (.int 5) 1123),
  (1123, cr_iadd 1124),
  (1124, cr_sld s0 b L xs 1125),
  (1125, cr_aload 3 1126),
  (1126, cr_calSh l (cr_W0 s0) s0.heap.size y_L_both cw_L_both d mc ms 7 7 1129),
  (1129, cr_istore 5 1131),
  (1131, cr_aload 2 1132),
  (1132, cr_aload 0 1133),
  (1133, cr_iload 4 1135),
  (1135, cr_push (.int 1) 1136),
  (1136, cr_iadd 1137),
  (1137, cr_sld s0 b L xs 1138),
  (1138, cr_aload 0 1139),
  (1139, cr_iload 4 1141),
  (1141, cr_push (.int 2) 1142),
  (1142, cr_iadd 1143),
  (1143, cr_sld s0 b L xs 1144),
  (1144, cr_aload 0 1145),
  (1145, cr_iload 4 1147),
  (1147, cr_push (.int 3) 1148),
  (1148, cr_iadd 1149),
  (1149, cr_sld s0 b L xs 1150),
  (1150, cr_aload 0 1151),
  (1151, cr_iload 4 1153),
  (1153, cr_push (.int 4) 1154),
  (1154, cr_iadd 1155),
  (1155, cr_sld s0 b L xs 1156),
  (1156, cr_aload 0 1157),
  (1157, cr_iload 4 1159),
  (1159, cr_push (.int 5) 1160),
  (1160, cr_iadd 1161),
  (1161, cr_sld s0 b L xs 1162),
  (1162, cr_calVh D kc l (cr_W0 s0) s0.heap.size 11 y_M_both cw_M_both (fun _ => none) d mc ms 5 7 1165),
  (1165, cr_istore 6 1167),
  (1167, cr_aload 2 1168),
  (1168, cr_calVh D kc l (cr_W0 s0) s0.heap.size 11 y_M_thrown cw_M_thrown (fun _ => none) d mc ms 0 7 1171),
  (1171, cr_iload 5 1173),
  (1173, cr_iceq 1178 1176),
  (1176, cr_push (.int 0) 1177),
  (1177, cr_zret mc ms .boolean),
  (1178, cr_iload 5 1180),
  (1180, cr_ifne 1195 1183),
  (1183, cr_aload 3 1184),
  (1184, cr_push (.int 0) 1185),
  (1185, cr_lald D kc (ca 1) 1186),
  (1186, cr_iload 6 1188),
  (1188, cr_i2l 1189),
  (1189, cr_lcmp 1190),
  (1190, cr_ifeq 1195 1193),
  (1193, cr_push (.int 0) 1194),
  (1194, cr_zret mc ms .boolean),
  (1195, cr_goto 1498),
  (1498, cr_iinc 4 6 1501),
  (1501, cr_goto 23)]
set_option maxHeartbeats 4000000 in
set_option maxRecDepth 20000 in
theorem s_Lw12 {p : Program} {l : Launch} {e : Env} {R : Room} {m : MethodId} {args : Array Value} {below : List Frame} {meth : Method} {c : Code} {s0 : State} {D : va_G} {ca : Nat → ClassId} {e0 d mc ms b L : Nat} {xs : Nat → Int32} {Q : cr_Q} (Z : cr_Z0 s0 D ca e0) (hx : p.tables.exec = Jvm.exec) (hb : c.code = c_L_law) (hml : c.maxLocals = 7) (hown : s0.vm.findClass "CardRightsLaw" = some m.cls) (hr : meth.sig.returnType = some .boolean) (hlk : meth.locks = false) (hR : R = cr_rm d mc ms) (hX : va_X b L xs s0 s0.heap) (hL : L ≤ 3072) : ∀ x ∈ t_Lw12 l s0 D ca d mc ms b L xs, cr_Snd p l e R s0 m args below meth c s0.heap.size mc ms Q x.1 x.2 := by
  have hU : cr_W0 s0 s0 := State.WarmedH.refl s0
  have hlo : s0.heap.size ≤ s0.heap.size := Nat.le_refl _
  have hK := cr_Z0K Z hU
  have hRc : R.cells = mc := by rw [hR]; rfl
  have hRs : R.slots = ms := by rw [hR]; rfl
  unfold t_Lw12
  refine cr_cons (cr_aload_n_ok hx hb d_L_law_1094 rfl rfl) ?_
  refine cr_cons (cr_aload_n_ok hx hb d_L_law_1095 rfl rfl) ?_
  refine cr_cons (cr_iload_ok hx hb d_L_law_1096 rfl) ?_
  refine cr_cons (cr_iconst_ok hx hb d_L_law_1098 (by decide) rfl) ?_
  refine cr_cons (cr_iadd_ok hx hb d_L_law_1099 rfl) ?_
  refine cr_cons (cr_sld_ok hx hb hX (by omega) d_L_law_1100 rfl) ?_
  refine cr_cons (cr_aload_n_ok hx hb d_L_law_1101 rfl rfl) ?_
  refine cr_cons (cr_iload_ok hx hb d_L_law_1102 rfl) ?_
  refine cr_cons (cr_iconst_ok hx hb d_L_law_1104 (by decide) rfl) ?_
  refine cr_cons (cr_iadd_ok hx hb d_L_law_1105 rfl) ?_
  refine cr_cons (cr_sld_ok hx hb hX (by omega) d_L_law_1106 rfl) ?_
  refine cr_cons (cr_aload_n_ok hx hb d_L_law_1107 rfl rfl) ?_
  refine cr_cons (cr_iload_ok hx hb d_L_law_1108 rfl) ?_
  refine cr_cons (cr_iconst_ok hx hb d_L_law_1110 (by decide) rfl) ?_
  refine cr_cons (cr_iadd_ok hx hb d_L_law_1111 rfl) ?_
  refine cr_cons (cr_sld_ok hx hb hX (by omega) d_L_law_1112 rfl) ?_
  refine cr_cons (cr_aload_n_ok hx hb d_L_law_1113 rfl rfl) ?_
  refine cr_cons (cr_iload_ok hx hb d_L_law_1114 rfl) ?_
  refine cr_cons (cr_iconst_ok hx hb d_L_law_1116 (by decide) rfl) ?_
  refine cr_cons (cr_iadd_ok hx hb d_L_law_1117 rfl) ?_
  refine cr_cons (cr_sld_ok hx hb hX (by omega) d_L_law_1118 rfl) ?_
  refine cr_cons (cr_aload_n_ok hx hb d_L_law_1119 rfl rfl) ?_
  refine cr_cons (cr_iload_ok hx hb d_L_law_1120 rfl) ?_
  refine cr_cons (cr_iconst_ok hx hb d_L_law_1122 (by decide) rfl) ?_
  refine cr_cons (cr_iadd_ok hx hb d_L_law_1123 rfl) ?_
  refine cr_cons (cr_sld_ok hx hb hX (by omega) d_L_law_1124 rfl) ?_
  refine cr_cons (cr_aload_n_ok hx hb d_L_law_1125 rfl rfl) ?_
  refine cr_cons (cr_calSh_ok hx hb hml hown hU hlo hR (cr_W0_st s0) (u_L_both Z) (cr_w Z w_772 rfl hU args) (cr_w Z w_773 rfl hU args) (by decide) (by decide +kernel) (by decide) d_L_law_1126 rfl) ?_
  refine cr_cons (cr_istore_ok hx hb d_L_law_1129 rfl) ?_
  refine cr_cons (cr_aload_n_ok hx hb d_L_law_1131 rfl rfl) ?_
  refine cr_cons (cr_aload_n_ok hx hb d_L_law_1132 rfl rfl) ?_
  refine cr_cons (cr_iload_ok hx hb d_L_law_1133 rfl) ?_
  refine cr_cons (cr_iconst_ok hx hb d_L_law_1135 (by decide) rfl) ?_
  refine cr_cons (cr_iadd_ok hx hb d_L_law_1136 rfl) ?_
  refine cr_cons (cr_sld_ok hx hb hX (by omega) d_L_law_1137 rfl) ?_
  refine cr_cons (cr_aload_n_ok hx hb d_L_law_1138 rfl rfl) ?_
  refine cr_cons (cr_iload_ok hx hb d_L_law_1139 rfl) ?_
  refine cr_cons (cr_iconst_ok hx hb d_L_law_1141 (by decide) rfl) ?_
  refine cr_cons (cr_iadd_ok hx hb d_L_law_1142 rfl) ?_
  refine cr_cons (cr_sld_ok hx hb hX (by omega) d_L_law_1143 rfl) ?_
  refine cr_cons (cr_aload_n_ok hx hb d_L_law_1144 rfl rfl) ?_
  refine cr_cons (cr_iload_ok hx hb d_L_law_1145 rfl) ?_
  refine cr_cons (cr_iconst_ok hx hb d_L_law_1147 (by decide) rfl) ?_
  refine cr_cons (cr_iadd_ok hx hb d_L_law_1148 rfl) ?_
  refine cr_cons (cr_sld_ok hx hb hX (by omega) d_L_law_1149 rfl) ?_
  refine cr_cons (cr_aload_n_ok hx hb d_L_law_1150 rfl rfl) ?_
  refine cr_cons (cr_iload_ok hx hb d_L_law_1151 rfl) ?_
  refine cr_cons (cr_iconst_ok hx hb d_L_law_1153 (by decide) rfl) ?_
  refine cr_cons (cr_iadd_ok hx hb d_L_law_1154 rfl) ?_
  refine cr_cons (cr_sld_ok hx hb hX (by omega) d_L_law_1155 rfl) ?_
  refine cr_cons (cr_aload_n_ok hx hb d_L_law_1156 rfl rfl) ?_
  refine cr_cons (cr_iload_ok hx hb d_L_law_1157 rfl) ?_
  refine cr_cons (cr_iconst_ok hx hb d_L_law_1159 (by decide) rfl) ?_
  refine cr_cons (cr_iadd_ok hx hb d_L_law_1160 rfl) ?_
  refine cr_cons (cr_sld_ok hx hb hX (by omega) d_L_law_1161 rfl) ?_
  refine cr_cons (cr_calVh_ok (C := R_M) (Tf := T_M) (N := 41) hx hb hml hown hU hlo hR (cr_W0_st s0) (fun kd hp cell h9 => by cases h9) hK rfl (u_M_both Z) (cr_w Z w_1034 rfl hU args) (cr_w Z w_1035 rfl hU args) (cr_w Z w_1036 rfl hU args) (by decide) (by decide +kernel) (by decide) d_L_law_1162 rfl) ?_
  refine cr_cons (cr_istore_ok hx hb d_L_law_1165 rfl) ?_
  refine cr_cons (cr_aload_n_ok hx hb d_L_law_1167 rfl rfl) ?_
  refine cr_cons (cr_calVh_ok (C := R_M) (Tf := T_M) (N := 41) hx hb hml hown hU hlo hR (cr_W0_st s0) (fun kd hp cell h9 => by cases h9) hK rfl (u_M_thrown Z) (cr_w Z w_943 rfl hU args) (cr_w Z w_944 rfl hU args) (cr_w Z w_945 rfl hU args) (by decide) (by decide +kernel) (by decide) d_L_law_1168 rfl) ?_
  refine cr_cons (cr_iload_ok hx hb d_L_law_1171 rfl) ?_
  refine cr_cons (cr_iceq_ok hx hb d_L_law_1173 (by decide) rfl) ?_
  refine cr_cons (cr_iconst_ok hx hb d_L_law_1176 (by decide) rfl) ?_
  refine cr_cons (cr_zret_ok hx hb hr hlk d_L_law_1177) ?_
  refine cr_cons (cr_iload_ok hx hb d_L_law_1178 rfl) ?_
  refine cr_cons (cr_ifne_ok hx hb d_L_law_1180 (by decide) rfl) ?_
  refine cr_cons (cr_aload_n_ok hx hb d_L_law_1183 rfl rfl) ?_
  refine cr_cons (cr_iconst_ok hx hb d_L_law_1184 (by decide) rfl) ?_
  refine cr_cons (cr_lald_ok (t0 := 1) hx hb hK rfl d_L_law_1185 rfl) ?_
  refine cr_cons (cr_iload_ok hx hb d_L_law_1186 rfl) ?_
  refine cr_cons (cr_i2l_ok hx hb d_L_law_1188 rfl) ?_
  refine cr_cons (cr_lcmp_ok hx hb d_L_law_1189 rfl) ?_
  refine cr_cons (cr_ifeq_ok hx hb d_L_law_1190 (by decide) rfl) ?_
  refine cr_cons (cr_iconst_ok hx hb d_L_law_1193 (by decide) rfl) ?_
  refine cr_cons (cr_zret_ok hx hb hr hlk d_L_law_1194) ?_
  refine cr_cons (cr_goto_ok hx hb d_L_law_1195 (by decide)) ?_
  refine cr_cons (cr_iinc_ok hx hb d_L_law_1498 (by decide) rfl) ?_
  refine cr_cons (cr_goto_ok hx hb d_L_law_1501 (by decide)) ?_
  exact cr_nil
def t_Lw13 (l : Launch) (s0 : State) (D : va_G) (ca : Nat → ClassId) (d mc ms b L : Nat) (xs : Nat → Int32) : List (Nat × cr_T) := [(1198, cr_aload 1 1199),
  (1199, cr_aload 0 1200),
  (1200, cr_iload 4 1202),
  (1202, cr_push (.int 1) 1203),
  (1203, cr_iadd 1204),
  (1204, cr_sld s0 b L xs 1205),
  (1205, cr_aload 3 1206),
  (1206, cr_calSh l (cr_W0 s0) s0.heap.size y_L_where cw_L_where d mc ms 3 7 1209),
  (1209, cr_istore 5 1211),
  (1211, cr_aload 2 1212),
  (1212, cr_aload 0 1213),
  (1213, cr_iload 4 1215),
  (1215, cr_push (.int 1) 1216),
  (1216, cr_iadd 1217),
  (1217, cr_sld s0 b L xs 1218),
  (1218, cr_calVh D kc l (cr_W0 s0) s0.heap.size 11 y_M_where cw_M_where (fun _ => none) d mc ms 1 7 1221),
  (1221, cr_istore 6 1223),
  (1223, cr_aload 2 1224),
  (1224, cr_calVh D kc l (cr_W0 s0) s0.heap.size 11 y_M_thrown cw_M_thrown (fun _ => none) d mc ms 0 7 1227),
  (1227, cr_iload 5 1229),
  (1229, cr_iceq 1234 1232),
  (1232, cr_push (.int 0) 1233),
  (1233, cr_zret mc ms .boolean),
  (1234, cr_iload 5 1236),
  (1236, cr_ifne 1251 1239),
  (1239, cr_aload 3 1240),
  (1240, cr_push (.int 0) 1241),
  (1241, cr_lald D kc (ca 1) 1242),
  (1242, cr_iload 6 1244),
  (1244, cr_i2l 1245),
  (1245, cr_lcmp 1246),
  (1246, cr_ifeq 1251 1249),
  (1249, cr_push (.int 0) 1250),
  (1250, cr_zret mc ms .boolean),
  (1251, cr_goto 1498),
  (1498, cr_iinc 4 6 1501),
  (1501, cr_goto 23)]
set_option maxHeartbeats 4000000 in
set_option maxRecDepth 20000 in
theorem s_Lw13 {p : Program} {l : Launch} {e : Env} {R : Room} {m : MethodId} {args : Array Value} {below : List Frame} {meth : Method} {c : Code} {s0 : State} {D : va_G} {ca : Nat → ClassId} {e0 d mc ms b L : Nat} {xs : Nat → Int32} {Q : cr_Q} (Z : cr_Z0 s0 D ca e0) (hx : p.tables.exec = Jvm.exec) (hb : c.code = c_L_law) (hml : c.maxLocals = 7) (hown : s0.vm.findClass "CardRightsLaw" = some m.cls) (hr : meth.sig.returnType = some .boolean) (hlk : meth.locks = false) (hR : R = cr_rm d mc ms) (hX : va_X b L xs s0 s0.heap) (hL : L ≤ 3072) : ∀ x ∈ t_Lw13 l s0 D ca d mc ms b L xs, cr_Snd p l e R s0 m args below meth c s0.heap.size mc ms Q x.1 x.2 := by
  have hU : cr_W0 s0 s0 := State.WarmedH.refl s0
  have hlo : s0.heap.size ≤ s0.heap.size := Nat.le_refl _
  have hK := cr_Z0K Z hU
  have hRc : R.cells = mc := by rw [hR]; rfl
  have hRs : R.slots = ms := by rw [hR]; rfl
  unfold t_Lw13
  refine cr_cons (cr_aload_n_ok hx hb d_L_law_1198 rfl rfl) ?_
  refine cr_cons (cr_aload_n_ok hx hb d_L_law_1199 rfl rfl) ?_
  refine cr_cons (cr_iload_ok hx hb d_L_law_1200 rfl) ?_
  refine cr_cons (cr_iconst_ok hx hb d_L_law_1202 (by decide) rfl) ?_
  refine cr_cons (cr_iadd_ok hx hb d_L_law_1203 rfl) ?_
  refine cr_cons (cr_sld_ok hx hb hX (by omega) d_L_law_1204 rfl) ?_
  refine cr_cons (cr_aload_n_ok hx hb d_L_law_1205 rfl rfl) ?_
  refine cr_cons (cr_calSh_ok hx hb hml hown hU hlo hR (cr_W0_st s0) (u_L_where Z) (cr_w Z w_780 rfl hU args) (cr_w Z w_781 rfl hU args) (by decide) (by decide +kernel) (by decide) d_L_law_1206 rfl) ?_
  refine cr_cons (cr_istore_ok hx hb d_L_law_1209 rfl) ?_
  refine cr_cons (cr_aload_n_ok hx hb d_L_law_1211 rfl rfl) ?_
  refine cr_cons (cr_aload_n_ok hx hb d_L_law_1212 rfl rfl) ?_
  refine cr_cons (cr_iload_ok hx hb d_L_law_1213 rfl) ?_
  refine cr_cons (cr_iconst_ok hx hb d_L_law_1215 (by decide) rfl) ?_
  refine cr_cons (cr_iadd_ok hx hb d_L_law_1216 rfl) ?_
  refine cr_cons (cr_sld_ok hx hb hX (by omega) d_L_law_1217 rfl) ?_
  refine cr_cons (cr_calVh_ok (C := R_M) (Tf := T_M) (N := 41) hx hb hml hown hU hlo hR (cr_W0_st s0) (fun kd hp cell h9 => by cases h9) hK rfl (u_M_where Z) (cr_w Z w_1042 rfl hU args) (cr_w Z w_1043 rfl hU args) (cr_w Z w_1044 rfl hU args) (by decide) (by decide +kernel) (by decide) d_L_law_1218 rfl) ?_
  refine cr_cons (cr_istore_ok hx hb d_L_law_1221 rfl) ?_
  refine cr_cons (cr_aload_n_ok hx hb d_L_law_1223 rfl rfl) ?_
  refine cr_cons (cr_calVh_ok (C := R_M) (Tf := T_M) (N := 41) hx hb hml hown hU hlo hR (cr_W0_st s0) (fun kd hp cell h9 => by cases h9) hK rfl (u_M_thrown Z) (cr_w Z w_943 rfl hU args) (cr_w Z w_944 rfl hU args) (cr_w Z w_945 rfl hU args) (by decide) (by decide +kernel) (by decide) d_L_law_1224 rfl) ?_
  refine cr_cons (cr_iload_ok hx hb d_L_law_1227 rfl) ?_
  refine cr_cons (cr_iceq_ok hx hb d_L_law_1229 (by decide) rfl) ?_
  refine cr_cons (cr_iconst_ok hx hb d_L_law_1232 (by decide) rfl) ?_
  refine cr_cons (cr_zret_ok hx hb hr hlk d_L_law_1233) ?_
  refine cr_cons (cr_iload_ok hx hb d_L_law_1234 rfl) ?_
  refine cr_cons (cr_ifne_ok hx hb d_L_law_1236 (by decide) rfl) ?_
  refine cr_cons (cr_aload_n_ok hx hb d_L_law_1239 rfl rfl) ?_
  refine cr_cons (cr_iconst_ok hx hb d_L_law_1240 (by decide) rfl) ?_
  refine cr_cons (cr_lald_ok (t0 := 1) hx hb hK rfl d_L_law_1241 rfl) ?_
  refine cr_cons (cr_iload_ok hx hb d_L_law_1242 rfl) ?_
  refine cr_cons (cr_i2l_ok hx hb d_L_law_1244 rfl) ?_
  refine cr_cons (cr_lcmp_ok hx hb d_L_law_1245 rfl) ?_
  refine cr_cons (cr_ifeq_ok hx hb d_L_law_1246 (by decide) rfl) ?_
  refine cr_cons (cr_iconst_ok hx hb d_L_law_1249 (by decide) rfl) ?_
  refine cr_cons (cr_zret_ok hx hb hr hlk d_L_law_1250) ?_
  refine cr_cons (cr_goto_ok hx hb d_L_law_1251 (by decide)) ?_
  refine cr_cons (cr_iinc_ok hx hb d_L_law_1498 (by decide) rfl) ?_
  refine cr_cons (cr_goto_ok hx hb d_L_law_1501 (by decide)) ?_
  exact cr_nil
def t_Lw14 (l : Launch) (s0 : State) (D : va_G) (ca : Nat → ClassId) (d mc ms b L : Nat) (xs : Nat → Int32) : List (Nat × cr_T) := [(1254, cr_aload 1 1255),
  (1255, cr_aload 0 1256),
  (1256, cr_iload 4 1258),
  (1258, cr_push (.int 1) 1259),
  (1259, cr_iadd 1260),
  (1260, cr_sld s0 b L xs 1261),
  (1261, cr_aload 3 1262),
  (1262, cr_calSh l (cr_W0 s0) s0.heap.size y_L_inside cw_L_inside d mc ms 3 7 1265),
  (1265, cr_istore 5 1267),
  (1267, cr_aload 2 1268),
  (1268, cr_aload 0 1269),
  (1269, cr_iload 4 1271),
  (1271, cr_push (.int 1) 1272),
  (1272, cr_iadd 1273),
  (1273, cr_sld s0 b L xs 1274),
  (1274, cr_calVh D kc l (cr_W0 s0) s0.heap.size 11 y_M_inside cw_M_inside (fun _ => none) d mc ms 1 7 1277),
  (1277, cr_istore 6 1279),
  (1279, cr_aload 2 1280),
  (1280, cr_calVh D kc l (cr_W0 s0) s0.heap.size 11 y_M_thrown cw_M_thrown (fun _ => none) d mc ms 0 7 1283),
  (1283, cr_iload 5 1285),
  (1285, cr_iceq 1290 1288),
  (1288, cr_push (.int 0) 1289),
  (1289, cr_zret mc ms .boolean),
  (1290, cr_iload 5 1292),
  (1292, cr_ifne 1307 1295),
  (1295, cr_aload 3 1296),
  (1296, cr_push (.int 0) 1297),
  (1297, cr_lald D kc (ca 1) 1298),
  (1298, cr_iload 6 1300),
  (1300, cr_i2l 1301),
  (1301, cr_lcmp 1302),
  (1302, cr_ifeq 1307 1305),
  (1305, cr_push (.int 0) 1306),
  (1306, cr_zret mc ms .boolean),
  (1307, cr_goto 1498),
  (1498, cr_iinc 4 6 1501),
  (1501, cr_goto 23)]
set_option maxHeartbeats 4000000 in
set_option maxRecDepth 20000 in
theorem s_Lw14 {p : Program} {l : Launch} {e : Env} {R : Room} {m : MethodId} {args : Array Value} {below : List Frame} {meth : Method} {c : Code} {s0 : State} {D : va_G} {ca : Nat → ClassId} {e0 d mc ms b L : Nat} {xs : Nat → Int32} {Q : cr_Q} (Z : cr_Z0 s0 D ca e0) (hx : p.tables.exec = Jvm.exec) (hb : c.code = c_L_law) (hml : c.maxLocals = 7) (hown : s0.vm.findClass "CardRightsLaw" = some m.cls) (hr : meth.sig.returnType = some .boolean) (hlk : meth.locks = false) (hR : R = cr_rm d mc ms) (hX : va_X b L xs s0 s0.heap) (hL : L ≤ 3072) : ∀ x ∈ t_Lw14 l s0 D ca d mc ms b L xs, cr_Snd p l e R s0 m args below meth c s0.heap.size mc ms Q x.1 x.2 := by
  have hU : cr_W0 s0 s0 := State.WarmedH.refl s0
  have hlo : s0.heap.size ≤ s0.heap.size := Nat.le_refl _
  have hK := cr_Z0K Z hU
  have hRc : R.cells = mc := by rw [hR]; rfl
  have hRs : R.slots = ms := by rw [hR]; rfl
  unfold t_Lw14
  refine cr_cons (cr_aload_n_ok hx hb d_L_law_1254 rfl rfl) ?_
  refine cr_cons (cr_aload_n_ok hx hb d_L_law_1255 rfl rfl) ?_
  refine cr_cons (cr_iload_ok hx hb d_L_law_1256 rfl) ?_
  refine cr_cons (cr_iconst_ok hx hb d_L_law_1258 (by decide) rfl) ?_
  refine cr_cons (cr_iadd_ok hx hb d_L_law_1259 rfl) ?_
  refine cr_cons (cr_sld_ok hx hb hX (by omega) d_L_law_1260 rfl) ?_
  refine cr_cons (cr_aload_n_ok hx hb d_L_law_1261 rfl rfl) ?_
  refine cr_cons (cr_calSh_ok hx hb hml hown hU hlo hR (cr_W0_st s0) (u_L_inside Z) (cr_w Z w_787 rfl hU args) (cr_w Z w_788 rfl hU args) (by decide) (by decide +kernel) (by decide) d_L_law_1262 rfl) ?_
  refine cr_cons (cr_istore_ok hx hb d_L_law_1265 rfl) ?_
  refine cr_cons (cr_aload_n_ok hx hb d_L_law_1267 rfl rfl) ?_
  refine cr_cons (cr_aload_n_ok hx hb d_L_law_1268 rfl rfl) ?_
  refine cr_cons (cr_iload_ok hx hb d_L_law_1269 rfl) ?_
  refine cr_cons (cr_iconst_ok hx hb d_L_law_1271 (by decide) rfl) ?_
  refine cr_cons (cr_iadd_ok hx hb d_L_law_1272 rfl) ?_
  refine cr_cons (cr_sld_ok hx hb hX (by omega) d_L_law_1273 rfl) ?_
  refine cr_cons (cr_calVh_ok (C := R_M) (Tf := T_M) (N := 41) hx hb hml hown hU hlo hR (cr_W0_st s0) (fun kd hp cell h9 => by cases h9) hK rfl (u_M_inside Z) (cr_w Z w_1046 rfl hU args) (cr_w Z w_1047 rfl hU args) (cr_w Z w_1048 rfl hU args) (by decide) (by decide +kernel) (by decide) d_L_law_1274 rfl) ?_
  refine cr_cons (cr_istore_ok hx hb d_L_law_1277 rfl) ?_
  refine cr_cons (cr_aload_n_ok hx hb d_L_law_1279 rfl rfl) ?_
  refine cr_cons (cr_calVh_ok (C := R_M) (Tf := T_M) (N := 41) hx hb hml hown hU hlo hR (cr_W0_st s0) (fun kd hp cell h9 => by cases h9) hK rfl (u_M_thrown Z) (cr_w Z w_943 rfl hU args) (cr_w Z w_944 rfl hU args) (cr_w Z w_945 rfl hU args) (by decide) (by decide +kernel) (by decide) d_L_law_1280 rfl) ?_
  refine cr_cons (cr_iload_ok hx hb d_L_law_1283 rfl) ?_
  refine cr_cons (cr_iceq_ok hx hb d_L_law_1285 (by decide) rfl) ?_
  refine cr_cons (cr_iconst_ok hx hb d_L_law_1288 (by decide) rfl) ?_
  refine cr_cons (cr_zret_ok hx hb hr hlk d_L_law_1289) ?_
  refine cr_cons (cr_iload_ok hx hb d_L_law_1290 rfl) ?_
  refine cr_cons (cr_ifne_ok hx hb d_L_law_1292 (by decide) rfl) ?_
  refine cr_cons (cr_aload_n_ok hx hb d_L_law_1295 rfl rfl) ?_
  refine cr_cons (cr_iconst_ok hx hb d_L_law_1296 (by decide) rfl) ?_
  refine cr_cons (cr_lald_ok (t0 := 1) hx hb hK rfl d_L_law_1297 rfl) ?_
  refine cr_cons (cr_iload_ok hx hb d_L_law_1298 rfl) ?_
  refine cr_cons (cr_i2l_ok hx hb d_L_law_1300 rfl) ?_
  refine cr_cons (cr_lcmp_ok hx hb d_L_law_1301 rfl) ?_
  refine cr_cons (cr_ifeq_ok hx hb d_L_law_1302 (by decide) rfl) ?_
  refine cr_cons (cr_iconst_ok hx hb d_L_law_1305 (by decide) rfl) ?_
  refine cr_cons (cr_zret_ok hx hb hr hlk d_L_law_1306) ?_
  refine cr_cons (cr_goto_ok hx hb d_L_law_1307 (by decide)) ?_
  refine cr_cons (cr_iinc_ok hx hb d_L_law_1498 (by decide) rfl) ?_
  refine cr_cons (cr_goto_ok hx hb d_L_law_1501 (by decide)) ?_
  exact cr_nil
def t_Lw15 (l : Launch) (s0 : State) (D : va_G) (ca : Nat → ClassId) (d mc ms b L : Nat) (xs : Nat → Int32) : List (Nat × cr_T) := [(1310, cr_aload 1 1311),
  (1311, cr_aload 0 1312),
  (1312, cr_iload 4 1314),
  (1314, cr_push (.int 1) 1315),
  (1315, cr_iadd 1316),
  (1316, cr_sld s0 b L xs 1317),
  (1317, cr_aload 0 1318),
  (1318, cr_iload 4 1320),
  (1320, cr_push (.int 2) 1321),
  (1321, cr_iadd 1322),
  (1322, cr_sld s0 b L xs 1323),
  (1323, cr_aload 3 1324),
  (1324, cr_calSh l (cr_W0 s0) s0.heap.size y_L_muster cw_L_muster d mc ms 4 7 1327),
  (1327, cr_istore 5 1329),
  (1329, cr_aload 2 1330),
  (1330, cr_aload 0 1331),
  (1331, cr_iload 4 1333),
  (1333, cr_push (.int 1) 1334),
  (1334, cr_iadd 1335),
  (1335, cr_sld s0 b L xs 1336),
  (1336, cr_aload 0 1337),
  (1337, cr_iload 4 1339),
  (1339, cr_push (.int 2) 1340),
  (1340, cr_iadd 1341),
  (1341, cr_sld s0 b L xs 1342),
  (1342, cr_calVh D kc l (cr_W0 s0) s0.heap.size 11 y_M_muster cw_M_muster (fun _ => none) d mc ms 2 7 1345),
  (1345, cr_istore 6 1347),
  (1347, cr_aload 2 1348),
  (1348, cr_calVh D kc l (cr_W0 s0) s0.heap.size 11 y_M_thrown cw_M_thrown (fun _ => none) d mc ms 0 7 1351),
  (1351, cr_iload 5 1353),
  (1353, cr_iceq 1358 1356),
  (1356, cr_push (.int 0) 1357),
  (1357, cr_zret mc ms .boolean),
  (1358, cr_iload 5 1360),
  (1360, cr_ifne 1375 1363),
  (1363, cr_aload 3 1364),
  (1364, cr_push (.int 0) 1365),
  (1365, cr_lald D kc (ca 1) 1366),
  (1366, cr_iload 6 1368),
  (1368, cr_i2l 1369),
  (1369, cr_lcmp 1370),
  (1370, cr_ifeq 1375 1373),
  (1373, cr_push (.int 0) 1374),
  (1374, cr_zret mc ms .boolean),
  (1375, cr_goto 1498),
  (1498, cr_iinc 4 6 1501),
  (1501, cr_goto 23)]
set_option maxHeartbeats 4000000 in
set_option maxRecDepth 20000 in
theorem s_Lw15 {p : Program} {l : Launch} {e : Env} {R : Room} {m : MethodId} {args : Array Value} {below : List Frame} {meth : Method} {c : Code} {s0 : State} {D : va_G} {ca : Nat → ClassId} {e0 d mc ms b L : Nat} {xs : Nat → Int32} {Q : cr_Q} (Z : cr_Z0 s0 D ca e0) (hx : p.tables.exec = Jvm.exec) (hb : c.code = c_L_law) (hml : c.maxLocals = 7) (hown : s0.vm.findClass "CardRightsLaw" = some m.cls) (hr : meth.sig.returnType = some .boolean) (hlk : meth.locks = false) (hR : R = cr_rm d mc ms) (hX : va_X b L xs s0 s0.heap) (hL : L ≤ 3072) : ∀ x ∈ t_Lw15 l s0 D ca d mc ms b L xs, cr_Snd p l e R s0 m args below meth c s0.heap.size mc ms Q x.1 x.2 := by
  have hU : cr_W0 s0 s0 := State.WarmedH.refl s0
  have hlo : s0.heap.size ≤ s0.heap.size := Nat.le_refl _
  have hK := cr_Z0K Z hU
  have hRc : R.cells = mc := by rw [hR]; rfl
  have hRs : R.slots = ms := by rw [hR]; rfl
  unfold t_Lw15
  refine cr_cons (cr_aload_n_ok hx hb d_L_law_1310 rfl rfl) ?_
  refine cr_cons (cr_aload_n_ok hx hb d_L_law_1311 rfl rfl) ?_
  refine cr_cons (cr_iload_ok hx hb d_L_law_1312 rfl) ?_
  refine cr_cons (cr_iconst_ok hx hb d_L_law_1314 (by decide) rfl) ?_
  refine cr_cons (cr_iadd_ok hx hb d_L_law_1315 rfl) ?_
  refine cr_cons (cr_sld_ok hx hb hX (by omega) d_L_law_1316 rfl) ?_
  refine cr_cons (cr_aload_n_ok hx hb d_L_law_1317 rfl rfl) ?_
  refine cr_cons (cr_iload_ok hx hb d_L_law_1318 rfl) ?_
  refine cr_cons (cr_iconst_ok hx hb d_L_law_1320 (by decide) rfl) ?_
  refine cr_cons (cr_iadd_ok hx hb d_L_law_1321 rfl) ?_
  refine cr_cons (cr_sld_ok hx hb hX (by omega) d_L_law_1322 rfl) ?_
  refine cr_cons (cr_aload_n_ok hx hb d_L_law_1323 rfl rfl) ?_
  refine cr_cons (cr_calSh_ok hx hb hml hown hU hlo hR (cr_W0_st s0) (u_L_muster Z) (cr_w Z w_794 rfl hU args) (cr_w Z w_795 rfl hU args) (by decide) (by decide +kernel) (by decide) d_L_law_1324 rfl) ?_
  refine cr_cons (cr_istore_ok hx hb d_L_law_1327 rfl) ?_
  refine cr_cons (cr_aload_n_ok hx hb d_L_law_1329 rfl rfl) ?_
  refine cr_cons (cr_aload_n_ok hx hb d_L_law_1330 rfl rfl) ?_
  refine cr_cons (cr_iload_ok hx hb d_L_law_1331 rfl) ?_
  refine cr_cons (cr_iconst_ok hx hb d_L_law_1333 (by decide) rfl) ?_
  refine cr_cons (cr_iadd_ok hx hb d_L_law_1334 rfl) ?_
  refine cr_cons (cr_sld_ok hx hb hX (by omega) d_L_law_1335 rfl) ?_
  refine cr_cons (cr_aload_n_ok hx hb d_L_law_1336 rfl rfl) ?_
  refine cr_cons (cr_iload_ok hx hb d_L_law_1337 rfl) ?_
  refine cr_cons (cr_iconst_ok hx hb d_L_law_1339 (by decide) rfl) ?_
  refine cr_cons (cr_iadd_ok hx hb d_L_law_1340 rfl) ?_
  refine cr_cons (cr_sld_ok hx hb hX (by omega) d_L_law_1341 rfl) ?_
  refine cr_cons (cr_calVh_ok (C := R_M) (Tf := T_M) (N := 41) hx hb hml hown hU hlo hR (cr_W0_st s0) (fun kd hp cell h9 => by cases h9) hK rfl (u_M_muster Z) (cr_w Z w_1050 rfl hU args) (cr_w Z w_1051 rfl hU args) (cr_w Z w_1052 rfl hU args) (by decide) (by decide +kernel) (by decide) d_L_law_1342 rfl) ?_
  refine cr_cons (cr_istore_ok hx hb d_L_law_1345 rfl) ?_
  refine cr_cons (cr_aload_n_ok hx hb d_L_law_1347 rfl rfl) ?_
  refine cr_cons (cr_calVh_ok (C := R_M) (Tf := T_M) (N := 41) hx hb hml hown hU hlo hR (cr_W0_st s0) (fun kd hp cell h9 => by cases h9) hK rfl (u_M_thrown Z) (cr_w Z w_943 rfl hU args) (cr_w Z w_944 rfl hU args) (cr_w Z w_945 rfl hU args) (by decide) (by decide +kernel) (by decide) d_L_law_1348 rfl) ?_
  refine cr_cons (cr_iload_ok hx hb d_L_law_1351 rfl) ?_
  refine cr_cons (cr_iceq_ok hx hb d_L_law_1353 (by decide) rfl) ?_
  refine cr_cons (cr_iconst_ok hx hb d_L_law_1356 (by decide) rfl) ?_
  refine cr_cons (cr_zret_ok hx hb hr hlk d_L_law_1357) ?_
  refine cr_cons (cr_iload_ok hx hb d_L_law_1358 rfl) ?_
  refine cr_cons (cr_ifne_ok hx hb d_L_law_1360 (by decide) rfl) ?_
  refine cr_cons (cr_aload_n_ok hx hb d_L_law_1363 rfl rfl) ?_
  refine cr_cons (cr_iconst_ok hx hb d_L_law_1364 (by decide) rfl) ?_
  refine cr_cons (cr_lald_ok (t0 := 1) hx hb hK rfl d_L_law_1365 rfl) ?_
  refine cr_cons (cr_iload_ok hx hb d_L_law_1366 rfl) ?_
  refine cr_cons (cr_i2l_ok hx hb d_L_law_1368 rfl) ?_
  refine cr_cons (cr_lcmp_ok hx hb d_L_law_1369 rfl) ?_
  refine cr_cons (cr_ifeq_ok hx hb d_L_law_1370 (by decide) rfl) ?_
  refine cr_cons (cr_iconst_ok hx hb d_L_law_1373 (by decide) rfl) ?_
  refine cr_cons (cr_zret_ok hx hb hr hlk d_L_law_1374) ?_
  refine cr_cons (cr_goto_ok hx hb d_L_law_1375 (by decide)) ?_
  refine cr_cons (cr_iinc_ok hx hb d_L_law_1498 (by decide) rfl) ?_
  refine cr_cons (cr_goto_ok hx hb d_L_law_1501 (by decide)) ?_
  exact cr_nil
def t_Lw16 (l : Launch) (s0 : State) (D : va_G) (ca : Nat → ClassId) (d mc ms b L : Nat) (xs : Nat → Int32) : List (Nat × cr_T) := [(1378, cr_aload 1 1379),
  (1379, cr_calVh D kc l (cr_W0 s0) s0.heap.size 0 y_C_against cw_C_against (fun _ => none) d mc ms 0 7 1382),
  (1382, cr_aload 2 1383),
  (1383, cr_calVh D kc l (cr_W0 s0) s0.heap.size 11 y_M_against cw_M_against (fun _ => none) d mc ms 0 7 1386),
  (1386, cr_iceq 1498 1389),
  (1389, cr_push (.int 0) 1390),
  (1390, cr_zret mc ms .boolean),
  (1498, cr_iinc 4 6 1501),
  (1501, cr_goto 23)]
set_option maxHeartbeats 4000000 in
set_option maxRecDepth 20000 in
theorem s_Lw16 {p : Program} {l : Launch} {e : Env} {R : Room} {m : MethodId} {args : Array Value} {below : List Frame} {meth : Method} {c : Code} {s0 : State} {D : va_G} {ca : Nat → ClassId} {e0 d mc ms b L : Nat} {xs : Nat → Int32} {Q : cr_Q} (Z : cr_Z0 s0 D ca e0) (hx : p.tables.exec = Jvm.exec) (hb : c.code = c_L_law) (hml : c.maxLocals = 7) (hown : s0.vm.findClass "CardRightsLaw" = some m.cls) (hr : meth.sig.returnType = some .boolean) (hlk : meth.locks = false) (hR : R = cr_rm d mc ms) (hX : va_X b L xs s0 s0.heap) (hL : L ≤ 3072) : ∀ x ∈ t_Lw16 l s0 D ca d mc ms b L xs, cr_Snd p l e R s0 m args below meth c s0.heap.size mc ms Q x.1 x.2 := by
  have hU : cr_W0 s0 s0 := State.WarmedH.refl s0
  have hlo : s0.heap.size ≤ s0.heap.size := Nat.le_refl _
  have hK := cr_Z0K Z hU
  have hRc : R.cells = mc := by rw [hR]; rfl
  have hRs : R.slots = ms := by rw [hR]; rfl
  unfold t_Lw16
  refine cr_cons (cr_aload_n_ok hx hb d_L_law_1378 rfl rfl) ?_
  refine cr_cons (cr_calVh_ok (C := R_C) (Tf := T_C) (N := 10) hx hb hml hown hU hlo hR (cr_W0_st s0) (fun kd hp cell h9 => by cases h9) hK rfl (u_C_against Z) (cr_w Z w_167 rfl hU args) (cr_w Z w_168 rfl hU args) (cr_w Z w_169 rfl hU args) (by decide) (by decide +kernel) (by decide) d_L_law_1379 rfl) ?_
  refine cr_cons (cr_aload_n_ok hx hb d_L_law_1382 rfl rfl) ?_
  refine cr_cons (cr_calVh_ok (C := R_M) (Tf := T_M) (N := 41) hx hb hml hown hU hlo hR (cr_W0_st s0) (fun kd hp cell h9 => by cases h9) hK rfl (u_M_against Z) (cr_w Z w_1054 rfl hU args) (cr_w Z w_1055 rfl hU args) (cr_w Z w_1056 rfl hU args) (by decide) (by decide +kernel) (by decide) d_L_law_1383 rfl) ?_
  refine cr_cons (cr_iceq_ok hx hb d_L_law_1386 (by decide) rfl) ?_
  refine cr_cons (cr_iconst_ok hx hb d_L_law_1389 (by decide) rfl) ?_
  refine cr_cons (cr_zret_ok hx hb hr hlk d_L_law_1390) ?_
  refine cr_cons (cr_iinc_ok hx hb d_L_law_1498 (by decide) rfl) ?_
  refine cr_cons (cr_goto_ok hx hb d_L_law_1501 (by decide)) ?_
  exact cr_nil
def t_Lw17 (l : Launch) (s0 : State) (D : va_G) (ca : Nat → ClassId) (d mc ms b L : Nat) (xs : Nat → Int32) : List (Nat × cr_T) := [(1391, cr_aload 1 1392),
  (1392, cr_aload 0 1393),
  (1393, cr_iload 4 1395),
  (1395, cr_push (.int 1) 1396),
  (1396, cr_iadd 1397),
  (1397, cr_sld s0 b L xs 1398),
  (1398, cr_aload 0 1399),
  (1399, cr_iload 4 1401),
  (1401, cr_push (.int 2) 1402),
  (1402, cr_iadd 1403),
  (1403, cr_sld s0 b L xs 1404),
  (1404, cr_aload 3 1405),
  (1405, cr_calSh l (cr_W0 s0) s0.heap.size y_L_found cw_L_found d mc ms 4 7 1408),
  (1408, cr_istore 5 1410),
  (1410, cr_aload 2 1411),
  (1411, cr_aload 0 1412),
  (1412, cr_iload 4 1414),
  (1414, cr_push (.int 1) 1415),
  (1415, cr_iadd 1416),
  (1416, cr_sld s0 b L xs 1417),
  (1417, cr_aload 0 1418),
  (1418, cr_iload 4 1420),
  (1420, cr_push (.int 2) 1421),
  (1421, cr_iadd 1422),
  (1422, cr_sld s0 b L xs 1423),
  (1423, cr_calVh D kc l (cr_W0 s0) s0.heap.size 11 y_M_found cw_M_found (fun _ => none) d mc ms 2 7 1426),
  (1426, cr_istore 6 1428),
  (1428, cr_aload 2 1429),
  (1429, cr_calVh D kc l (cr_W0 s0) s0.heap.size 11 y_M_thrown cw_M_thrown (fun _ => none) d mc ms 0 7 1432),
  (1432, cr_iload 5 1434),
  (1434, cr_iceq 1439 1437),
  (1437, cr_push (.int 0) 1438),
  (1438, cr_zret mc ms .boolean),
  (1439, cr_iload 5 1441),
  (1441, cr_ifne 1456 1444),
  (1444, cr_aload 3 1445),
  (1445, cr_push (.int 0) 1446),
  (1446, cr_lald D kc (ca 1) 1447),
  (1447, cr_iload 6 1449),
  (1449, cr_i2l 1450),
  (1450, cr_lcmp 1451),
  (1451, cr_ifeq 1456 1454),
  (1454, cr_push (.int 0) 1455),
  (1455, cr_zret mc ms .boolean),
  (1456, cr_goto 1498),
  (1498, cr_iinc 4 6 1501),
  (1501, cr_goto 23)]
set_option maxHeartbeats 4000000 in
set_option maxRecDepth 20000 in
theorem s_Lw17 {p : Program} {l : Launch} {e : Env} {R : Room} {m : MethodId} {args : Array Value} {below : List Frame} {meth : Method} {c : Code} {s0 : State} {D : va_G} {ca : Nat → ClassId} {e0 d mc ms b L : Nat} {xs : Nat → Int32} {Q : cr_Q} (Z : cr_Z0 s0 D ca e0) (hx : p.tables.exec = Jvm.exec) (hb : c.code = c_L_law) (hml : c.maxLocals = 7) (hown : s0.vm.findClass "CardRightsLaw" = some m.cls) (hr : meth.sig.returnType = some .boolean) (hlk : meth.locks = false) (hR : R = cr_rm d mc ms) (hX : va_X b L xs s0 s0.heap) (hL : L ≤ 3072) : ∀ x ∈ t_Lw17 l s0 D ca d mc ms b L xs, cr_Snd p l e R s0 m args below meth c s0.heap.size mc ms Q x.1 x.2 := by
  have hU : cr_W0 s0 s0 := State.WarmedH.refl s0
  have hlo : s0.heap.size ≤ s0.heap.size := Nat.le_refl _
  have hK := cr_Z0K Z hU
  have hRc : R.cells = mc := by rw [hR]; rfl
  have hRs : R.slots = ms := by rw [hR]; rfl
  unfold t_Lw17
  refine cr_cons (cr_aload_n_ok hx hb d_L_law_1391 rfl rfl) ?_
  refine cr_cons (cr_aload_n_ok hx hb d_L_law_1392 rfl rfl) ?_
  refine cr_cons (cr_iload_ok hx hb d_L_law_1393 rfl) ?_
  refine cr_cons (cr_iconst_ok hx hb d_L_law_1395 (by decide) rfl) ?_
  refine cr_cons (cr_iadd_ok hx hb d_L_law_1396 rfl) ?_
  refine cr_cons (cr_sld_ok hx hb hX (by omega) d_L_law_1397 rfl) ?_
  refine cr_cons (cr_aload_n_ok hx hb d_L_law_1398 rfl rfl) ?_
  refine cr_cons (cr_iload_ok hx hb d_L_law_1399 rfl) ?_
  refine cr_cons (cr_iconst_ok hx hb d_L_law_1401 (by decide) rfl) ?_
  refine cr_cons (cr_iadd_ok hx hb d_L_law_1402 rfl) ?_
  refine cr_cons (cr_sld_ok hx hb hX (by omega) d_L_law_1403 rfl) ?_
  refine cr_cons (cr_aload_n_ok hx hb d_L_law_1404 rfl rfl) ?_
  refine cr_cons (cr_calSh_ok hx hb hml hown hU hlo hR (cr_W0_st s0) (u_L_found Z) (cr_w Z w_802 rfl hU args) (cr_w Z w_803 rfl hU args) (by decide) (by decide +kernel) (by decide) d_L_law_1405 rfl) ?_
  refine cr_cons (cr_istore_ok hx hb d_L_law_1408 rfl) ?_
  refine cr_cons (cr_aload_n_ok hx hb d_L_law_1410 rfl rfl) ?_
  refine cr_cons (cr_aload_n_ok hx hb d_L_law_1411 rfl rfl) ?_
  refine cr_cons (cr_iload_ok hx hb d_L_law_1412 rfl) ?_
  refine cr_cons (cr_iconst_ok hx hb d_L_law_1414 (by decide) rfl) ?_
  refine cr_cons (cr_iadd_ok hx hb d_L_law_1415 rfl) ?_
  refine cr_cons (cr_sld_ok hx hb hX (by omega) d_L_law_1416 rfl) ?_
  refine cr_cons (cr_aload_n_ok hx hb d_L_law_1417 rfl rfl) ?_
  refine cr_cons (cr_iload_ok hx hb d_L_law_1418 rfl) ?_
  refine cr_cons (cr_iconst_ok hx hb d_L_law_1420 (by decide) rfl) ?_
  refine cr_cons (cr_iadd_ok hx hb d_L_law_1421 rfl) ?_
  refine cr_cons (cr_sld_ok hx hb hX (by omega) d_L_law_1422 rfl) ?_
  refine cr_cons (cr_calVh_ok (C := R_M) (Tf := T_M) (N := 41) hx hb hml hown hU hlo hR (cr_W0_st s0) (fun kd hp cell h9 => by cases h9) hK rfl (u_M_found Z) (cr_w Z w_1058 rfl hU args) (cr_w Z w_1059 rfl hU args) (cr_w Z w_1060 rfl hU args) (by decide) (by decide +kernel) (by decide) d_L_law_1423 rfl) ?_
  refine cr_cons (cr_istore_ok hx hb d_L_law_1426 rfl) ?_
  refine cr_cons (cr_aload_n_ok hx hb d_L_law_1428 rfl rfl) ?_
  refine cr_cons (cr_calVh_ok (C := R_M) (Tf := T_M) (N := 41) hx hb hml hown hU hlo hR (cr_W0_st s0) (fun kd hp cell h9 => by cases h9) hK rfl (u_M_thrown Z) (cr_w Z w_943 rfl hU args) (cr_w Z w_944 rfl hU args) (cr_w Z w_945 rfl hU args) (by decide) (by decide +kernel) (by decide) d_L_law_1429 rfl) ?_
  refine cr_cons (cr_iload_ok hx hb d_L_law_1432 rfl) ?_
  refine cr_cons (cr_iceq_ok hx hb d_L_law_1434 (by decide) rfl) ?_
  refine cr_cons (cr_iconst_ok hx hb d_L_law_1437 (by decide) rfl) ?_
  refine cr_cons (cr_zret_ok hx hb hr hlk d_L_law_1438) ?_
  refine cr_cons (cr_iload_ok hx hb d_L_law_1439 rfl) ?_
  refine cr_cons (cr_ifne_ok hx hb d_L_law_1441 (by decide) rfl) ?_
  refine cr_cons (cr_aload_n_ok hx hb d_L_law_1444 rfl rfl) ?_
  refine cr_cons (cr_iconst_ok hx hb d_L_law_1445 (by decide) rfl) ?_
  refine cr_cons (cr_lald_ok (t0 := 1) hx hb hK rfl d_L_law_1446 rfl) ?_
  refine cr_cons (cr_iload_ok hx hb d_L_law_1447 rfl) ?_
  refine cr_cons (cr_i2l_ok hx hb d_L_law_1449 rfl) ?_
  refine cr_cons (cr_lcmp_ok hx hb d_L_law_1450 rfl) ?_
  refine cr_cons (cr_ifeq_ok hx hb d_L_law_1451 (by decide) rfl) ?_
  refine cr_cons (cr_iconst_ok hx hb d_L_law_1454 (by decide) rfl) ?_
  refine cr_cons (cr_zret_ok hx hb hr hlk d_L_law_1455) ?_
  refine cr_cons (cr_goto_ok hx hb d_L_law_1456 (by decide)) ?_
  refine cr_cons (cr_iinc_ok hx hb d_L_law_1498 (by decide) rfl) ?_
  refine cr_cons (cr_goto_ok hx hb d_L_law_1501 (by decide)) ?_
  exact cr_nil
def t_Lw18 (l : Launch) (s0 : State) (D : va_G) (ca : Nat → ClassId) (d mc ms b L : Nat) (xs : Nat → Int32) : List (Nat × cr_T) := [(1459, cr_aload 1 1460),
  (1460, cr_calVh D kc l (cr_W0 s0) s0.heap.size 0 y_C_uses cw_C_uses (fun _ => none) d mc ms 0 7 1463),
  (1463, cr_aload 2 1464),
  (1464, cr_calVh D kc l (cr_W0 s0) s0.heap.size 11 y_M_uses cw_M_uses (fun _ => none) d mc ms 0 7 1467),
  (1467, cr_iceq 1498 1470),
  (1470, cr_push (.int 0) 1471),
  (1471, cr_zret mc ms .boolean),
  (1498, cr_iinc 4 6 1501),
  (1501, cr_goto 23)]
set_option maxHeartbeats 4000000 in
set_option maxRecDepth 20000 in
theorem s_Lw18 {p : Program} {l : Launch} {e : Env} {R : Room} {m : MethodId} {args : Array Value} {below : List Frame} {meth : Method} {c : Code} {s0 : State} {D : va_G} {ca : Nat → ClassId} {e0 d mc ms b L : Nat} {xs : Nat → Int32} {Q : cr_Q} (Z : cr_Z0 s0 D ca e0) (hx : p.tables.exec = Jvm.exec) (hb : c.code = c_L_law) (hml : c.maxLocals = 7) (hown : s0.vm.findClass "CardRightsLaw" = some m.cls) (hr : meth.sig.returnType = some .boolean) (hlk : meth.locks = false) (hR : R = cr_rm d mc ms) (hX : va_X b L xs s0 s0.heap) (hL : L ≤ 3072) : ∀ x ∈ t_Lw18 l s0 D ca d mc ms b L xs, cr_Snd p l e R s0 m args below meth c s0.heap.size mc ms Q x.1 x.2 := by
  have hU : cr_W0 s0 s0 := State.WarmedH.refl s0
  have hlo : s0.heap.size ≤ s0.heap.size := Nat.le_refl _
  have hK := cr_Z0K Z hU
  have hRc : R.cells = mc := by rw [hR]; rfl
  have hRs : R.slots = ms := by rw [hR]; rfl
  unfold t_Lw18
  refine cr_cons (cr_aload_n_ok hx hb d_L_law_1459 rfl rfl) ?_
  refine cr_cons (cr_calVh_ok (C := R_C) (Tf := T_C) (N := 10) hx hb hml hown hU hlo hR (cr_W0_st s0) (fun kd hp cell h9 => by cases h9) hK rfl (u_C_uses Z) (cr_w Z w_171 rfl hU args) (cr_w Z w_172 rfl hU args) (cr_w Z w_173 rfl hU args) (by decide) (by decide +kernel) (by decide) d_L_law_1460 rfl) ?_
  refine cr_cons (cr_aload_n_ok hx hb d_L_law_1463 rfl rfl) ?_
  refine cr_cons (cr_calVh_ok (C := R_M) (Tf := T_M) (N := 41) hx hb hml hown hU hlo hR (cr_W0_st s0) (fun kd hp cell h9 => by cases h9) hK rfl (u_M_uses Z) (cr_w Z w_1062 rfl hU args) (cr_w Z w_1063 rfl hU args) (cr_w Z w_1064 rfl hU args) (by decide) (by decide +kernel) (by decide) d_L_law_1464 rfl) ?_
  refine cr_cons (cr_iceq_ok hx hb d_L_law_1467 (by decide) rfl) ?_
  refine cr_cons (cr_iconst_ok hx hb d_L_law_1470 (by decide) rfl) ?_
  refine cr_cons (cr_zret_ok hx hb hr hlk d_L_law_1471) ?_
  refine cr_cons (cr_iinc_ok hx hb d_L_law_1498 (by decide) rfl) ?_
  refine cr_cons (cr_goto_ok hx hb d_L_law_1501 (by decide)) ?_
  exact cr_nil
def t_Lw19 (l : Launch) (s0 : State) (D : va_G) (ca : Nat → ClassId) (d mc ms b L : Nat) (xs : Nat → Int32) : List (Nat × cr_T) := [(1472, cr_aload 1 1473),
  (1473, cr_calVh D kc l (cr_W0 s0) s0.heap.size 0 y_C_fewest cw_C_fewest (fun _ => none) d mc ms 0 7 1476),
  (1476, cr_aload 2 1477),
  (1477, cr_calVh D kc l (cr_W0 s0) s0.heap.size 11 y_M_fewest cw_M_fewest (fun _ => none) d mc ms 0 7 1480),
  (1480, cr_iceq 1498 1483),
  (1483, cr_push (.int 0) 1484),
  (1484, cr_zret mc ms .boolean),
  (1498, cr_iinc 4 6 1501),
  (1501, cr_goto 23)]
set_option maxHeartbeats 4000000 in
set_option maxRecDepth 20000 in
theorem s_Lw19 {p : Program} {l : Launch} {e : Env} {R : Room} {m : MethodId} {args : Array Value} {below : List Frame} {meth : Method} {c : Code} {s0 : State} {D : va_G} {ca : Nat → ClassId} {e0 d mc ms b L : Nat} {xs : Nat → Int32} {Q : cr_Q} (Z : cr_Z0 s0 D ca e0) (hx : p.tables.exec = Jvm.exec) (hb : c.code = c_L_law) (hml : c.maxLocals = 7) (hown : s0.vm.findClass "CardRightsLaw" = some m.cls) (hr : meth.sig.returnType = some .boolean) (hlk : meth.locks = false) (hR : R = cr_rm d mc ms) (hX : va_X b L xs s0 s0.heap) (hL : L ≤ 3072) : ∀ x ∈ t_Lw19 l s0 D ca d mc ms b L xs, cr_Snd p l e R s0 m args below meth c s0.heap.size mc ms Q x.1 x.2 := by
  have hU : cr_W0 s0 s0 := State.WarmedH.refl s0
  have hlo : s0.heap.size ≤ s0.heap.size := Nat.le_refl _
  have hK := cr_Z0K Z hU
  have hRc : R.cells = mc := by rw [hR]; rfl
  have hRs : R.slots = ms := by rw [hR]; rfl
  unfold t_Lw19
  refine cr_cons (cr_aload_n_ok hx hb d_L_law_1472 rfl rfl) ?_
  refine cr_cons (cr_calVh_ok (C := R_C) (Tf := T_C) (N := 10) hx hb hml hown hU hlo hR (cr_W0_st s0) (fun kd hp cell h9 => by cases h9) hK rfl (u_C_fewest Z) (cr_w Z w_175 rfl hU args) (cr_w Z w_176 rfl hU args) (cr_w Z w_177 rfl hU args) (by decide) (by decide +kernel) (by decide) d_L_law_1473 rfl) ?_
  refine cr_cons (cr_aload_n_ok hx hb d_L_law_1476 rfl rfl) ?_
  refine cr_cons (cr_calVh_ok (C := R_M) (Tf := T_M) (N := 41) hx hb hml hown hU hlo hR (cr_W0_st s0) (fun kd hp cell h9 => by cases h9) hK rfl (u_M_fewest Z) (cr_w Z w_1066 rfl hU args) (cr_w Z w_1067 rfl hU args) (cr_w Z w_1068 rfl hU args) (by decide) (by decide +kernel) (by decide) d_L_law_1477 rfl) ?_
  refine cr_cons (cr_iceq_ok hx hb d_L_law_1480 (by decide) rfl) ?_
  refine cr_cons (cr_iconst_ok hx hb d_L_law_1483 (by decide) rfl) ?_
  refine cr_cons (cr_zret_ok hx hb hr hlk d_L_law_1484) ?_
  refine cr_cons (cr_iinc_ok hx hb d_L_law_1498 (by decide) rfl) ?_
  refine cr_cons (cr_goto_ok hx hb d_L_law_1501 (by decide)) ?_
  exact cr_nil
def t_Lw20 (l : Launch) (s0 : State) (D : va_G) (ca : Nat → ClassId) (d mc ms b L : Nat) (xs : Nat → Int32) : List (Nat × cr_T) := [(1485, cr_aload 1 1486),
  (1486, cr_calVh D kc l (cr_W0 s0) s0.heap.size 0 y_C_now cw_C_now (fun _ => none) d mc ms 0 7 1489),
  (1489, cr_aload 2 1490),
  (1490, cr_calVh D kc l (cr_W0 s0) s0.heap.size 11 y_M_now cw_M_now (fun _ => none) d mc ms 0 7 1493),
  (1493, cr_iceq 1498 1496),
  (1496, cr_push (.int 0) 1497),
  (1497, cr_zret mc ms .boolean),
  (1498, cr_iinc 4 6 1501),
  (1501, cr_goto 23)]
set_option maxHeartbeats 4000000 in
set_option maxRecDepth 20000 in
theorem s_Lw20 {p : Program} {l : Launch} {e : Env} {R : Room} {m : MethodId} {args : Array Value} {below : List Frame} {meth : Method} {c : Code} {s0 : State} {D : va_G} {ca : Nat → ClassId} {e0 d mc ms b L : Nat} {xs : Nat → Int32} {Q : cr_Q} (Z : cr_Z0 s0 D ca e0) (hx : p.tables.exec = Jvm.exec) (hb : c.code = c_L_law) (hml : c.maxLocals = 7) (hown : s0.vm.findClass "CardRightsLaw" = some m.cls) (hr : meth.sig.returnType = some .boolean) (hlk : meth.locks = false) (hR : R = cr_rm d mc ms) (hX : va_X b L xs s0 s0.heap) (hL : L ≤ 3072) : ∀ x ∈ t_Lw20 l s0 D ca d mc ms b L xs, cr_Snd p l e R s0 m args below meth c s0.heap.size mc ms Q x.1 x.2 := by
  have hU : cr_W0 s0 s0 := State.WarmedH.refl s0
  have hlo : s0.heap.size ≤ s0.heap.size := Nat.le_refl _
  have hK := cr_Z0K Z hU
  have hRc : R.cells = mc := by rw [hR]; rfl
  have hRs : R.slots = ms := by rw [hR]; rfl
  unfold t_Lw20
  refine cr_cons (cr_aload_n_ok hx hb d_L_law_1485 rfl rfl) ?_
  refine cr_cons (cr_calVh_ok (C := R_C) (Tf := T_C) (N := 10) hx hb hml hown hU hlo hR (cr_W0_st s0) (fun kd hp cell h9 => by cases h9) hK rfl (u_C_now Z) (cr_w Z w_251 rfl hU args) (cr_w Z w_252 rfl hU args) (cr_w Z w_253 rfl hU args) (by decide) (by decide +kernel) (by decide) d_L_law_1486 rfl) ?_
  refine cr_cons (cr_aload_n_ok hx hb d_L_law_1489 rfl rfl) ?_
  refine cr_cons (cr_calVh_ok (C := R_M) (Tf := T_M) (N := 41) hx hb hml hown hU hlo hR (cr_W0_st s0) (fun kd hp cell h9 => by cases h9) hK rfl (u_M_now Z) (cr_w Z w_1077 rfl hU args) (cr_w Z w_1078 rfl hU args) (cr_w Z w_1079 rfl hU args) (by decide) (by decide +kernel) (by decide) d_L_law_1490 rfl) ?_
  refine cr_cons (cr_iceq_ok hx hb d_L_law_1493 (by decide) rfl) ?_
  refine cr_cons (cr_iconst_ok hx hb d_L_law_1496 (by decide) rfl) ?_
  refine cr_cons (cr_zret_ok hx hb hr hlk d_L_law_1497) ?_
  refine cr_cons (cr_iinc_ok hx hb d_L_law_1498 (by decide) rfl) ?_
  refine cr_cons (cr_goto_ok hx hb d_L_law_1501 (by decide)) ?_
  exact cr_nil
