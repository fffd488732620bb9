theorem dL_law_0 : decode (zB 168) 0 = .ok (.new 7, 3) := by decide +kernel
theorem dL_law_3 : decode (zB 168) 3 = .ok (.dup, 1) := by decide +kernel
theorem dL_law_4 : decode (zB 168) 4 = .ok (.invokespecial 9, 3) := by decide +kernel
theorem dL_law_7 : decode (zB 168) 7 = .ok (.astore_n 1, 1) := by decide +kernel
theorem dL_law_8 : decode (zB 168) 8 = .ok (.new 10, 3) := by decide +kernel
theorem dL_law_11 : decode (zB 168) 11 = .ok (.dup, 1) := by decide +kernel
theorem dL_law_12 : decode (zB 168) 12 = .ok (.invokespecial 12, 3) := by decide +kernel
theorem dL_law_15 : decode (zB 168) 15 = .ok (.astore_n 2, 1) := by decide +kernel
theorem dL_law_16 : decode (zB 168) 16 = .ok (.iconst 0, 1) := by decide +kernel
theorem dL_law_17 : decode (zB 168) 17 = .ok (.istore_n 3, 1) := by decide +kernel
theorem dL_law_18 : decode (zB 168) 18 = .ok (.iload_n 3, 1) := by decide +kernel
theorem dL_law_19 : decode (zB 168) 19 = .ok (.aload_n 0, 1) := by decide +kernel
theorem dL_law_20 : decode (zB 168) 20 = .ok (.arraylength, 1) := by decide +kernel
theorem dL_law_21 : decode (zB 168) 21 = .ok (.bipush 6, 2) := by decide +kernel
theorem dL_law_23 : decode (zB 168) 23 = .ok (.isub, 1) := by decide +kernel
theorem dL_law_24 : decode (zB 168) 24 = .ok (.if_icmp .gt 1129, 3) := by decide +kernel
theorem dL_law_27 : decode (zB 168) 27 = .ok (.aload_n 0, 1) := by decide +kernel
theorem dL_law_28 : decode (zB 168) 28 = .ok (.iload_n 3, 1) := by decide +kernel
theorem dL_law_29 : decode (zB 168) 29 = .ok (.iaload, 1) := by decide +kernel
theorem dL_law_30 : decode (zB 168) 30 = .ok (.bipush 31, 2) := by decide +kernel
theorem dL_law_32 : decode (zB 168) 32 = .ok (.iand, 1) := by decide +kernel
theorem dL_law_33 : decode (zB 168) 33 = .ok (.tableswitch 1114 0 30 #[139, 192, 225, 268, 301, 334, 367, 400, 423, 446, 480, 513, 556, 599, 642, 665, 678, 701, 724, 737, 770, 813, 836, 879, 923, 986, 1009, 1032, 1065, 1078, 1091], 139) := by decide +kernel
theorem dL_law_172 : decode (zB 168) 172 = .ok (.aload_n 1, 1) := by decide +kernel
theorem dL_law_173 : decode (zB 168) 173 = .ok (.aload_n 0, 1) := by decide +kernel
theorem dL_law_174 : decode (zB 168) 174 = .ok (.iload_n 3, 1) := by decide +kernel
theorem dL_law_175 : decode (zB 168) 175 = .ok (.iconst 1, 1) := by decide +kernel
theorem dL_law_176 : decode (zB 168) 176 = .ok (.iadd, 1) := by decide +kernel
theorem dL_law_177 : decode (zB 168) 177 = .ok (.iaload, 1) := by decide +kernel
theorem dL_law_178 : decode (zB 168) 178 = .ok (.aload_n 0, 1) := by decide +kernel
theorem dL_law_179 : decode (zB 168) 179 = .ok (.iload_n 3, 1) := by decide +kernel
theorem dL_law_180 : decode (zB 168) 180 = .ok (.iconst 2, 1) := by decide +kernel
theorem dL_law_181 : decode (zB 168) 181 = .ok (.iadd, 1) := by decide +kernel
theorem dL_law_182 : decode (zB 168) 182 = .ok (.iaload, 1) := by decide +kernel
theorem dL_law_183 : decode (zB 168) 183 = .ok (.aload_n 0, 1) := by decide +kernel
theorem dL_law_184 : decode (zB 168) 184 = .ok (.iload_n 3, 1) := by decide +kernel
theorem dL_law_185 : decode (zB 168) 185 = .ok (.iconst 3, 1) := by decide +kernel
theorem dL_law_186 : decode (zB 168) 186 = .ok (.iadd, 1) := by decide +kernel
theorem dL_law_187 : decode (zB 168) 187 = .ok (.iaload, 1) := by decide +kernel
theorem dL_law_188 : decode (zB 168) 188 = .ok (.aload_n 0, 1) := by decide +kernel
theorem dL_law_189 : decode (zB 168) 189 = .ok (.iload_n 3, 1) := by decide +kernel
theorem dL_law_190 : decode (zB 168) 190 = .ok (.iconst 4, 1) := by decide +kernel
theorem dL_law_191 : decode (zB 168) 191 = .ok (.iadd, 1) := by decide +kernel
theorem dL_law_192 : decode (zB 168) 192 = .ok (.iaload, 1) := by decide +kernel
theorem dL_law_193 : decode (zB 168) 193 = .ok (.invokevirtual 13, 3) := by decide +kernel
theorem dL_law_196 : decode (zB 168) 196 = .ok (.aload_n 2, 1) := by decide +kernel
theorem dL_law_197 : decode (zB 168) 197 = .ok (.aload_n 0, 1) := by decide +kernel
theorem dL_law_198 : decode (zB 168) 198 = .ok (.iload_n 3, 1) := by decide +kernel
theorem dL_law_199 : decode (zB 168) 199 = .ok (.iconst 1, 1) := by decide +kernel
theorem dL_law_200 : decode (zB 168) 200 = .ok (.iadd, 1) := by decide +kernel
theorem dL_law_201 : decode (zB 168) 201 = .ok (.iaload, 1) := by decide +kernel
theorem dL_law_202 : decode (zB 168) 202 = .ok (.aload_n 0, 1) := by decide +kernel
theorem dL_law_203 : decode (zB 168) 203 = .ok (.iload_n 3, 1) := by decide +kernel
theorem dL_law_204 : decode (zB 168) 204 = .ok (.iconst 2, 1) := by decide +kernel
theorem dL_law_205 : decode (zB 168) 205 = .ok (.iadd, 1) := by decide +kernel
theorem dL_law_206 : decode (zB 168) 206 = .ok (.iaload, 1) := by decide +kernel
theorem dL_law_207 : decode (zB 168) 207 = .ok (.aload_n 0, 1) := by decide +kernel
theorem dL_law_208 : decode (zB 168) 208 = .ok (.iload_n 3, 1) := by decide +kernel
theorem dL_law_209 : decode (zB 168) 209 = .ok (.iconst 3, 1) := by decide +kernel
theorem dL_law_210 : decode (zB 168) 210 = .ok (.iadd, 1) := by decide +kernel
theorem dL_law_211 : decode (zB 168) 211 = .ok (.iaload, 1) := by decide +kernel
theorem dL_law_212 : decode (zB 168) 212 = .ok (.aload_n 0, 1) := by decide +kernel
theorem dL_law_213 : decode (zB 168) 213 = .ok (.iload_n 3, 1) := by decide +kernel
theorem dL_law_214 : decode (zB 168) 214 = .ok (.iconst 4, 1) := by decide +kernel
theorem dL_law_215 : decode (zB 168) 215 = .ok (.iadd, 1) := by decide +kernel
theorem dL_law_216 : decode (zB 168) 216 = .ok (.iaload, 1) := by decide +kernel
theorem dL_law_217 : decode (zB 168) 217 = .ok (.invokevirtual 17, 3) := by decide +kernel
theorem dL_law_220 : decode (zB 168) 220 = .ok (.if_icmp .eq 927, 3) := by decide +kernel
theorem dL_law_223 : decode (zB 168) 223 = .ok (.iconst 0, 1) := by decide +kernel
theorem dL_law_224 : decode (zB 168) 224 = .ok (.ireturn, 1) := by decide +kernel
theorem dL_law_225 : decode (zB 168) 225 = .ok (.aload_n 1, 1) := by decide +kernel
theorem dL_law_226 : decode (zB 168) 226 = .ok (.aload_n 0, 1) := by decide +kernel
theorem dL_law_227 : decode (zB 168) 227 = .ok (.iload_n 3, 1) := by decide +kernel
theorem dL_law_228 : decode (zB 168) 228 = .ok (.iconst 1, 1) := by decide +kernel
theorem dL_law_229 : decode (zB 168) 229 = .ok (.iadd, 1) := by decide +kernel
theorem dL_law_230 : decode (zB 168) 230 = .ok (.iaload, 1) := by decide +kernel
theorem dL_law_231 : decode (zB 168) 231 = .ok (.aload_n 0, 1) := by decide +kernel
theorem dL_law_232 : decode (zB 168) 232 = .ok (.iload_n 3, 1) := by decide +kernel
theorem dL_law_233 : decode (zB 168) 233 = .ok (.iconst 2, 1) := by decide +kernel
theorem dL_law_234 : decode (zB 168) 234 = .ok (.iadd, 1) := by decide +kernel
theorem dL_law_235 : decode (zB 168) 235 = .ok (.iaload, 1) := by decide +kernel
theorem dL_law_236 : decode (zB 168) 236 = .ok (.invokevirtual 18, 3) := by decide +kernel
theorem dL_law_239 : decode (zB 168) 239 = .ok (.aload_n 2, 1) := by decide +kernel
theorem dL_law_240 : decode (zB 168) 240 = .ok (.aload_n 0, 1) := by decide +kernel
theorem dL_law_241 : decode (zB 168) 241 = .ok (.iload_n 3, 1) := by decide +kernel
theorem dL_law_242 : decode (zB 168) 242 = .ok (.iconst 1, 1) := by decide +kernel
theorem dL_law_243 : decode (zB 168) 243 = .ok (.iadd, 1) := by decide +kernel
theorem dL_law_244 : decode (zB 168) 244 = .ok (.iaload, 1) := by decide +kernel
theorem dL_law_245 : decode (zB 168) 245 = .ok (.aload_n 0, 1) := by decide +kernel
theorem dL_law_246 : decode (zB 168) 246 = .ok (.iload_n 3, 1) := by decide +kernel
theorem dL_law_247 : decode (zB 168) 247 = .ok (.iconst 2, 1) := by decide +kernel
theorem dL_law_248 : decode (zB 168) 248 = .ok (.iadd, 1) := by decide +kernel
theorem dL_law_249 : decode (zB 168) 249 = .ok (.iaload, 1) := by decide +kernel
theorem dL_law_250 : decode (zB 168) 250 = .ok (.invokevirtual 22, 3) := by decide +kernel
theorem dL_law_253 : decode (zB 168) 253 = .ok (.if_icmp .eq 894, 3) := by decide +kernel
theorem dL_law_256 : decode (zB 168) 256 = .ok (.iconst 0, 1) := by decide +kernel
theorem dL_law_257 : decode (zB 168) 257 = .ok (.ireturn, 1) := by decide +kernel
theorem dL_law_258 : decode (zB 168) 258 = .ok (.aload_n 1, 1) := by decide +kernel
theorem dL_law_259 : decode (zB 168) 259 = .ok (.aload_n 0, 1) := by decide +kernel
theorem dL_law_260 : decode (zB 168) 260 = .ok (.iload_n 3, 1) := by decide +kernel
theorem dL_law_261 : decode (zB 168) 261 = .ok (.iconst 1, 1) := by decide +kernel
theorem dL_law_262 : decode (zB 168) 262 = .ok (.iadd, 1) := by decide +kernel
theorem dL_law_263 : decode (zB 168) 263 = .ok (.iaload, 1) := by decide +kernel
theorem dL_law_264 : decode (zB 168) 264 = .ok (.aload_n 0, 1) := by decide +kernel
theorem dL_law_265 : decode (zB 168) 265 = .ok (.iload_n 3, 1) := by decide +kernel
theorem dL_law_266 : decode (zB 168) 266 = .ok (.iconst 2, 1) := by decide +kernel
theorem dL_law_267 : decode (zB 168) 267 = .ok (.iadd, 1) := by decide +kernel
theorem dL_law_268 : decode (zB 168) 268 = .ok (.iaload, 1) := by decide +kernel
theorem dL_law_269 : decode (zB 168) 269 = .ok (.aload_n 0, 1) := by decide +kernel
theorem dL_law_270 : decode (zB 168) 270 = .ok (.iload_n 3, 1) := by decide +kernel
theorem dL_law_271 : decode (zB 168) 271 = .ok (.iconst 3, 1) := by decide +kernel
theorem dL_law_272 : decode (zB 168) 272 = .ok (.iadd, 1) := by decide +kernel
theorem dL_law_273 : decode (zB 168) 273 = .ok (.iaload, 1) := by decide +kernel
theorem dL_law_274 : decode (zB 168) 274 = .ok (.invokevirtual 23, 3) := by decide +kernel
theorem dL_law_277 : decode (zB 168) 277 = .ok (.aload_n 2, 1) := by decide +kernel
theorem dL_law_278 : decode (zB 168) 278 = .ok (.aload_n 0, 1) := by decide +kernel
theorem dL_law_279 : decode (zB 168) 279 = .ok (.iload_n 3, 1) := by decide +kernel
theorem dL_law_280 : decode (zB 168) 280 = .ok (.iconst 1, 1) := by decide +kernel
theorem dL_law_281 : decode (zB 168) 281 = .ok (.iadd, 1) := by decide +kernel
theorem dL_law_282 : decode (zB 168) 282 = .ok (.iaload, 1) := by decide +kernel
theorem dL_law_283 : decode (zB 168) 283 = .ok (.aload_n 0, 1) := by decide +kernel
theorem dL_law_284 : decode (zB 168) 284 = .ok (.iload_n 3, 1) := by decide +kernel
theorem dL_law_285 : decode (zB 168) 285 = .ok (.iconst 2, 1) := by decide +kernel
theorem dL_law_286 : decode (zB 168) 286 = .ok (.iadd, 1) := by decide +kernel
theorem dL_law_287 : decode (zB 168) 287 = .ok (.iaload, 1) := by decide +kernel
theorem dL_law_288 : decode (zB 168) 288 = .ok (.aload_n 0, 1) := by decide +kernel
theorem dL_law_289 : decode (zB 168) 289 = .ok (.iload_n 3, 1) := by decide +kernel
theorem dL_law_290 : decode (zB 168) 290 = .ok (.iconst 3, 1) := by decide +kernel
theorem dL_law_291 : decode (zB 168) 291 = .ok (.iadd, 1) := by decide +kernel
theorem dL_law_292 : decode (zB 168) 292 = .ok (.iaload, 1) := by decide +kernel
theorem dL_law_293 : decode (zB 168) 293 = .ok (.invokevirtual 27, 3) := by decide +kernel
theorem dL_law_296 : decode (zB 168) 296 = .ok (.if_icmp .eq 851, 3) := by decide +kernel
theorem dL_law_299 : decode (zB 168) 299 = .ok (.iconst 0, 1) := by decide +kernel
theorem dL_law_300 : decode (zB 168) 300 = .ok (.ireturn, 1) := by decide +kernel
theorem dL_law_301 : decode (zB 168) 301 = .ok (.aload_n 1, 1) := by decide +kernel
theorem dL_law_302 : decode (zB 168) 302 = .ok (.aload_n 0, 1) := by decide +kernel
theorem dL_law_303 : decode (zB 168) 303 = .ok (.iload_n 3, 1) := by decide +kernel
theorem dL_law_304 : decode (zB 168) 304 = .ok (.iconst 1, 1) := by decide +kernel
theorem dL_law_305 : decode (zB 168) 305 = .ok (.iadd, 1) := by decide +kernel
theorem dL_law_306 : decode (zB 168) 306 = .ok (.iaload, 1) := by decide +kernel
theorem dL_law_307 : decode (zB 168) 307 = .ok (.aload_n 0, 1) := by decide +kernel
theorem dL_law_308 : decode (zB 168) 308 = .ok (.iload_n 3, 1) := by decide +kernel
theorem dL_law_309 : decode (zB 168) 309 = .ok (.iconst 2, 1) := by decide +kernel
theorem dL_law_310 : decode (zB 168) 310 = .ok (.iadd, 1) := by decide +kernel
theorem dL_law_311 : decode (zB 168) 311 = .ok (.iaload, 1) := by decide +kernel
theorem dL_law_312 : decode (zB 168) 312 = .ok (.invokevirtual 28, 3) := by decide +kernel
theorem dL_law_315 : decode (zB 168) 315 = .ok (.aload_n 2, 1) := by decide +kernel
theorem dL_law_316 : decode (zB 168) 316 = .ok (.aload_n 0, 1) := by decide +kernel
theorem dL_law_317 : decode (zB 168) 317 = .ok (.iload_n 3, 1) := by decide +kernel
theorem dL_law_318 : decode (zB 168) 318 = .ok (.iconst 1, 1) := by decide +kernel
theorem dL_law_319 : decode (zB 168) 319 = .ok (.iadd, 1) := by decide +kernel
theorem dL_law_320 : decode (zB 168) 320 = .ok (.iaload, 1) := by decide +kernel
theorem dL_law_321 : decode (zB 168) 321 = .ok (.aload_n 0, 1) := by decide +kernel
theorem dL_law_322 : decode (zB 168) 322 = .ok (.iload_n 3, 1) := by decide +kernel
theorem dL_law_323 : decode (zB 168) 323 = .ok (.iconst 2, 1) := by decide +kernel
theorem dL_law_324 : decode (zB 168) 324 = .ok (.iadd, 1) := by decide +kernel
theorem dL_law_325 : decode (zB 168) 325 = .ok (.iaload, 1) := by decide +kernel
theorem dL_law_326 : decode (zB 168) 326 = .ok (.invokevirtual 31, 3) := by decide +kernel
theorem dL_law_329 : decode (zB 168) 329 = .ok (.if_icmp .eq 818, 3) := by decide +kernel
theorem dL_law_332 : decode (zB 168) 332 = .ok (.iconst 0, 1) := by decide +kernel
theorem dL_law_333 : decode (zB 168) 333 = .ok (.ireturn, 1) := by decide +kernel
theorem dL_law_334 : decode (zB 168) 334 = .ok (.aload_n 1, 1) := by decide +kernel
theorem dL_law_335 : decode (zB 168) 335 = .ok (.aload_n 0, 1) := by decide +kernel
theorem dL_law_336 : decode (zB 168) 336 = .ok (.iload_n 3, 1) := by decide +kernel
theorem dL_law_337 : decode (zB 168) 337 = .ok (.iconst 1, 1) := by decide +kernel
theorem dL_law_338 : decode (zB 168) 338 = .ok (.iadd, 1) := by decide +kernel
theorem dL_law_339 : decode (zB 168) 339 = .ok (.iaload, 1) := by decide +kernel
theorem dL_law_340 : decode (zB 168) 340 = .ok (.aload_n 0, 1) := by decide +kernel
theorem dL_law_341 : decode (zB 168) 341 = .ok (.iload_n 3, 1) := by decide +kernel
theorem dL_law_342 : decode (zB 168) 342 = .ok (.iconst 2, 1) := by decide +kernel
theorem dL_law_343 : decode (zB 168) 343 = .ok (.iadd, 1) := by decide +kernel
theorem dL_law_344 : decode (zB 168) 344 = .ok (.iaload, 1) := by decide +kernel
theorem dL_law_345 : decode (zB 168) 345 = .ok (.invokevirtual 32, 3) := by decide +kernel
theorem dL_law_348 : decode (zB 168) 348 = .ok (.aload_n 2, 1) := by decide +kernel
theorem dL_law_349 : decode (zB 168) 349 = .ok (.aload_n 0, 1) := by decide +kernel
theorem dL_law_350 : decode (zB 168) 350 = .ok (.iload_n 3, 1) := by decide +kernel
theorem dL_law_351 : decode (zB 168) 351 = .ok (.iconst 1, 1) := by decide +kernel
theorem dL_law_352 : decode (zB 168) 352 = .ok (.iadd, 1) := by decide +kernel
theorem dL_law_353 : decode (zB 168) 353 = .ok (.iaload, 1) := by decide +kernel
theorem dL_law_354 : decode (zB 168) 354 = .ok (.aload_n 0, 1) := by decide +kernel
theorem dL_law_355 : decode (zB 168) 355 = .ok (.iload_n 3, 1) := by decide +kernel
theorem dL_law_356 : decode (zB 168) 356 = .ok (.iconst 2, 1) := by decide +kernel
theorem dL_law_357 : decode (zB 168) 357 = .ok (.iadd, 1) := by decide +kernel
theorem dL_law_358 : decode (zB 168) 358 = .ok (.iaload, 1) := by decide +kernel
theorem dL_law_359 : decode (zB 168) 359 = .ok (.invokevirtual 35, 3) := by decide +kernel
theorem dL_law_362 : decode (zB 168) 362 = .ok (.if_icmp .eq 785, 3) := by decide +kernel
theorem dL_law_365 : decode (zB 168) 365 = .ok (.iconst 0, 1) := by decide +kernel
theorem dL_law_366 : decode (zB 168) 366 = .ok (.ireturn, 1) := by decide +kernel
theorem dL_law_367 : decode (zB 168) 367 = .ok (.aload_n 1, 1) := by decide +kernel
theorem dL_law_368 : decode (zB 168) 368 = .ok (.aload_n 0, 1) := by decide +kernel
theorem dL_law_369 : decode (zB 168) 369 = .ok (.iload_n 3, 1) := by decide +kernel
theorem dL_law_370 : decode (zB 168) 370 = .ok (.iconst 1, 1) := by decide +kernel
theorem dL_law_371 : decode (zB 168) 371 = .ok (.iadd, 1) := by decide +kernel
theorem dL_law_372 : decode (zB 168) 372 = .ok (.iaload, 1) := by decide +kernel
theorem dL_law_373 : decode (zB 168) 373 = .ok (.aload_n 0, 1) := by decide +kernel
theorem dL_law_374 : decode (zB 168) 374 = .ok (.iload_n 3, 1) := by decide +kernel
theorem dL_law_375 : decode (zB 168) 375 = .ok (.iconst 2, 1) := by decide +kernel
theorem dL_law_376 : decode (zB 168) 376 = .ok (.iadd, 1) := by decide +kernel
theorem dL_law_377 : decode (zB 168) 377 = .ok (.iaload, 1) := by decide +kernel
theorem dL_law_378 : decode (zB 168) 378 = .ok (.invokevirtual 36, 3) := by decide +kernel
theorem dL_law_381 : decode (zB 168) 381 = .ok (.aload_n 2, 1) := by decide +kernel
theorem dL_law_382 : decode (zB 168) 382 = .ok (.aload_n 0, 1) := by decide +kernel
theorem dL_law_383 : decode (zB 168) 383 = .ok (.iload_n 3, 1) := by decide +kernel
theorem dL_law_384 : decode (zB 168) 384 = .ok (.iconst 1, 1) := by decide +kernel
theorem dL_law_385 : decode (zB 168) 385 = .ok (.iadd, 1) := by decide +kernel
theorem dL_law_386 : decode (zB 168) 386 = .ok (.iaload, 1) := by decide +kernel
theorem dL_law_387 : decode (zB 168) 387 = .ok (.aload_n 0, 1) := by decide +kernel
theorem dL_law_388 : decode (zB 168) 388 = .ok (.iload_n 3, 1) := by decide +kernel
theorem dL_law_389 : decode (zB 168) 389 = .ok (.iconst 2, 1) := by decide +kernel
theorem dL_law_390 : decode (zB 168) 390 = .ok (.iadd, 1) := by decide +kernel
theorem dL_law_391 : decode (zB 168) 391 = .ok (.iaload, 1) := by decide +kernel
theorem dL_law_392 : decode (zB 168) 392 = .ok (.invokevirtual 39, 3) := by decide +kernel
theorem dL_law_395 : decode (zB 168) 395 = .ok (.if_icmp .eq 752, 3) := by decide +kernel
theorem dL_law_398 : decode (zB 168) 398 = .ok (.iconst 0, 1) := by decide +kernel
theorem dL_law_399 : decode (zB 168) 399 = .ok (.ireturn, 1) := by decide +kernel
theorem dL_law_400 : decode (zB 168) 400 = .ok (.aload_n 1, 1) := by decide +kernel
theorem dL_law_401 : decode (zB 168) 401 = .ok (.aload_n 0, 1) := by decide +kernel
theorem dL_law_402 : decode (zB 168) 402 = .ok (.iload_n 3, 1) := by decide +kernel
theorem dL_law_403 : decode (zB 168) 403 = .ok (.iconst 1, 1) := by decide +kernel
theorem dL_law_404 : decode (zB 168) 404 = .ok (.iadd, 1) := by decide +kernel
theorem dL_law_405 : decode (zB 168) 405 = .ok (.iaload, 1) := by decide +kernel
theorem dL_law_406 : decode (zB 168) 406 = .ok (.aload_n 0, 1) := by decide +kernel
theorem dL_law_407 : decode (zB 168) 407 = .ok (.iload_n 3, 1) := by decide +kernel
theorem dL_law_408 : decode (zB 168) 408 = .ok (.iconst 2, 1) := by decide +kernel
theorem dL_law_409 : decode (zB 168) 409 = .ok (.iadd, 1) := by decide +kernel
theorem dL_law_410 : decode (zB 168) 410 = .ok (.iaload, 1) := by decide +kernel
theorem dL_law_411 : decode (zB 168) 411 = .ok (.invokevirtual 40, 3) := by decide +kernel
theorem dL_law_414 : decode (zB 168) 414 = .ok (.aload_n 2, 1) := by decide +kernel
theorem dL_law_415 : decode (zB 168) 415 = .ok (.aload_n 0, 1) := by decide +kernel
theorem dL_law_416 : decode (zB 168) 416 = .ok (.iload_n 3, 1) := by decide +kernel
theorem dL_law_417 : decode (zB 168) 417 = .ok (.iconst 1, 1) := by decide +kernel
theorem dL_law_418 : decode (zB 168) 418 = .ok (.iadd, 1) := by decide +kernel
theorem dL_law_419 : decode (zB 168) 419 = .ok (.iaload, 1) := by decide +kernel
theorem dL_law_420 : decode (zB 168) 420 = .ok (.aload_n 0, 1) := by decide +kernel
theorem dL_law_421 : decode (zB 168) 421 = .ok (.iload_n 3, 1) := by decide +kernel
theorem dL_law_422 : decode (zB 168) 422 = .ok (.iconst 2, 1) := by decide +kernel
theorem dL_law_423 : decode (zB 168) 423 = .ok (.iadd, 1) := by decide +kernel
theorem dL_law_424 : decode (zB 168) 424 = .ok (.iaload, 1) := by decide +kernel
theorem dL_law_425 : decode (zB 168) 425 = .ok (.invokevirtual 43, 3) := by decide +kernel
theorem dL_law_428 : decode (zB 168) 428 = .ok (.if_icmp .eq 719, 3) := by decide +kernel
theorem dL_law_431 : decode (zB 168) 431 = .ok (.iconst 0, 1) := by decide +kernel
theorem dL_law_432 : decode (zB 168) 432 = .ok (.ireturn, 1) := by decide +kernel
theorem dL_law_433 : decode (zB 168) 433 = .ok (.aload_n 1, 1) := by decide +kernel
theorem dL_law_434 : decode (zB 168) 434 = .ok (.aload_n 0, 1) := by decide +kernel
theorem dL_law_435 : decode (zB 168) 435 = .ok (.iload_n 3, 1) := by decide +kernel
theorem dL_law_436 : decode (zB 168) 436 = .ok (.iconst 1, 1) := by decide +kernel
theorem dL_law_437 : decode (zB 168) 437 = .ok (.iadd, 1) := by decide +kernel
theorem dL_law_438 : decode (zB 168) 438 = .ok (.iaload, 1) := by decide +kernel
theorem dL_law_439 : decode (zB 168) 439 = .ok (.invokevirtual 44, 3) := by decide +kernel
theorem dL_law_442 : decode (zB 168) 442 = .ok (.aload_n 2, 1) := by decide +kernel
theorem dL_law_443 : decode (zB 168) 443 = .ok (.aload_n 0, 1) := by decide +kernel
theorem dL_law_444 : decode (zB 168) 444 = .ok (.iload_n 3, 1) := by decide +kernel
theorem dL_law_445 : decode (zB 168) 445 = .ok (.iconst 1, 1) := by decide +kernel
theorem dL_law_446 : decode (zB 168) 446 = .ok (.iadd, 1) := by decide +kernel
theorem dL_law_447 : decode (zB 168) 447 = .ok (.iaload, 1) := by decide +kernel
theorem dL_law_448 : decode (zB 168) 448 = .ok (.invokevirtual 48, 3) := by decide +kernel
theorem dL_law_451 : decode (zB 168) 451 = .ok (.if_icmp .eq 696, 3) := by decide +kernel
theorem dL_law_454 : decode (zB 168) 454 = .ok (.iconst 0, 1) := by decide +kernel
theorem dL_law_455 : decode (zB 168) 455 = .ok (.ireturn, 1) := by decide +kernel
theorem dL_law_456 : decode (zB 168) 456 = .ok (.aload_n 1, 1) := by decide +kernel
theorem dL_law_457 : decode (zB 168) 457 = .ok (.aload_n 0, 1) := by decide +kernel
theorem dL_law_458 : decode (zB 168) 458 = .ok (.iload_n 3, 1) := by decide +kernel
theorem dL_law_459 : decode (zB 168) 459 = .ok (.iconst 1, 1) := by decide +kernel
theorem dL_law_460 : decode (zB 168) 460 = .ok (.iadd, 1) := by decide +kernel
theorem dL_law_461 : decode (zB 168) 461 = .ok (.iaload, 1) := by decide +kernel
theorem dL_law_462 : decode (zB 168) 462 = .ok (.invokevirtual 49, 3) := by decide +kernel
theorem dL_law_465 : decode (zB 168) 465 = .ok (.aload_n 2, 1) := by decide +kernel
theorem dL_law_466 : decode (zB 168) 466 = .ok (.aload_n 0, 1) := by decide +kernel
theorem dL_law_467 : decode (zB 168) 467 = .ok (.iload_n 3, 1) := by decide +kernel
theorem dL_law_468 : decode (zB 168) 468 = .ok (.iconst 1, 1) := by decide +kernel
theorem dL_law_469 : decode (zB 168) 469 = .ok (.iadd, 1) := by decide +kernel
theorem dL_law_470 : decode (zB 168) 470 = .ok (.iaload, 1) := by decide +kernel
theorem dL_law_471 : decode (zB 168) 471 = .ok (.invokevirtual 52, 3) := by decide +kernel
theorem dL_law_474 : decode (zB 168) 474 = .ok (.if_icmp .eq 673, 3) := by decide +kernel
theorem dL_law_477 : decode (zB 168) 477 = .ok (.iconst 0, 1) := by decide +kernel
theorem dL_law_478 : decode (zB 168) 478 = .ok (.ireturn, 1) := by decide +kernel
theorem dL_law_479 : decode (zB 168) 479 = .ok (.aload_n 1, 1) := by decide +kernel
theorem dL_law_480 : decode (zB 168) 480 = .ok (.aload_n 0, 1) := by decide +kernel
theorem dL_law_481 : decode (zB 168) 481 = .ok (.iload_n 3, 1) := by decide +kernel
theorem dL_law_482 : decode (zB 168) 482 = .ok (.iconst 1, 1) := by decide +kernel
theorem dL_law_483 : decode (zB 168) 483 = .ok (.iadd, 1) := by decide +kernel
theorem dL_law_484 : decode (zB 168) 484 = .ok (.iaload, 1) := by decide +kernel
theorem dL_law_485 : decode (zB 168) 485 = .ok (.aload_n 0, 1) := by decide +kernel
theorem dL_law_486 : decode (zB 168) 486 = .ok (.iload_n 3, 1) := by decide +kernel
theorem dL_law_487 : decode (zB 168) 487 = .ok (.iconst 2, 1) := by decide +kernel
theorem dL_law_488 : decode (zB 168) 488 = .ok (.iadd, 1) := by decide +kernel
theorem dL_law_489 : decode (zB 168) 489 = .ok (.iaload, 1) := by decide +kernel
theorem dL_law_490 : decode (zB 168) 490 = .ok (.invokevirtual 53, 3) := by decide +kernel
theorem dL_law_493 : decode (zB 168) 493 = .ok (.aload_n 2, 1) := by decide +kernel
theorem dL_law_494 : decode (zB 168) 494 = .ok (.aload_n 0, 1) := by decide +kernel
theorem dL_law_495 : decode (zB 168) 495 = .ok (.iload_n 3, 1) := by decide +kernel
theorem dL_law_496 : decode (zB 168) 496 = .ok (.iconst 1, 1) := by decide +kernel
theorem dL_law_497 : decode (zB 168) 497 = .ok (.iadd, 1) := by decide +kernel
theorem dL_law_498 : decode (zB 168) 498 = .ok (.iaload, 1) := by decide +kernel
theorem dL_law_499 : decode (zB 168) 499 = .ok (.aload_n 0, 1) := by decide +kernel
theorem dL_law_500 : decode (zB 168) 500 = .ok (.iload_n 3, 1) := by decide +kernel
theorem dL_law_501 : decode (zB 168) 501 = .ok (.iconst 2, 1) := by decide +kernel
theorem dL_law_502 : decode (zB 168) 502 = .ok (.iadd, 1) := by decide +kernel
theorem dL_law_503 : decode (zB 168) 503 = .ok (.iaload, 1) := by decide +kernel
theorem dL_law_504 : decode (zB 168) 504 = .ok (.invokevirtual 57, 3) := by decide +kernel
theorem dL_law_507 : decode (zB 168) 507 = .ok (.lcmp, 1) := by decide +kernel
theorem dL_law_508 : decode (zB 168) 508 = .ok (.ifCond .eq 639, 3) := by decide +kernel
theorem dL_law_511 : decode (zB 168) 511 = .ok (.iconst 0, 1) := by decide +kernel
theorem dL_law_512 : decode (zB 168) 512 = .ok (.ireturn, 1) := by decide +kernel
theorem dL_law_513 : decode (zB 168) 513 = .ok (.aload_n 1, 1) := by decide +kernel
theorem dL_law_514 : decode (zB 168) 514 = .ok (.aload_n 0, 1) := by decide +kernel
theorem dL_law_515 : decode (zB 168) 515 = .ok (.iload_n 3, 1) := by decide +kernel
theorem dL_law_516 : decode (zB 168) 516 = .ok (.iconst 1, 1) := by decide +kernel
theorem dL_law_517 : decode (zB 168) 517 = .ok (.iadd, 1) := by decide +kernel
theorem dL_law_518 : decode (zB 168) 518 = .ok (.iaload, 1) := by decide +kernel
theorem dL_law_519 : decode (zB 168) 519 = .ok (.aload_n 0, 1) := by decide +kernel
theorem dL_law_520 : decode (zB 168) 520 = .ok (.iload_n 3, 1) := by decide +kernel
theorem dL_law_521 : decode (zB 168) 521 = .ok (.iconst 2, 1) := by decide +kernel
theorem dL_law_522 : decode (zB 168) 522 = .ok (.iadd, 1) := by decide +kernel
theorem dL_law_523 : decode (zB 168) 523 = .ok (.iaload, 1) := by decide +kernel
theorem dL_law_524 : decode (zB 168) 524 = .ok (.invokevirtual 58, 3) := by decide +kernel
theorem dL_law_527 : decode (zB 168) 527 = .ok (.aload_n 2, 1) := by decide +kernel
theorem dL_law_528 : decode (zB 168) 528 = .ok (.aload_n 0, 1) := by decide +kernel
theorem dL_law_529 : decode (zB 168) 529 = .ok (.iload_n 3, 1) := by decide +kernel
theorem dL_law_530 : decode (zB 168) 530 = .ok (.iconst 1, 1) := by decide +kernel
theorem dL_law_531 : decode (zB 168) 531 = .ok (.iadd, 1) := by decide +kernel
theorem dL_law_532 : decode (zB 168) 532 = .ok (.iaload, 1) := by decide +kernel
theorem dL_law_533 : decode (zB 168) 533 = .ok (.aload_n 0, 1) := by decide +kernel
theorem dL_law_534 : decode (zB 168) 534 = .ok (.iload_n 3, 1) := by decide +kernel
theorem dL_law_535 : decode (zB 168) 535 = .ok (.iconst 2, 1) := by decide +kernel
theorem dL_law_536 : decode (zB 168) 536 = .ok (.iadd, 1) := by decide +kernel
theorem dL_law_537 : decode (zB 168) 537 = .ok (.iaload, 1) := by decide +kernel
theorem dL_law_538 : decode (zB 168) 538 = .ok (.invokevirtual 61, 3) := by decide +kernel
theorem dL_law_541 : decode (zB 168) 541 = .ok (.if_icmp .eq 606, 3) := by decide +kernel
theorem dL_law_544 : decode (zB 168) 544 = .ok (.iconst 0, 1) := by decide +kernel
theorem dL_law_545 : decode (zB 168) 545 = .ok (.ireturn, 1) := by decide +kernel
theorem dL_law_546 : decode (zB 168) 546 = .ok (.aload_n 1, 1) := by decide +kernel
theorem dL_law_547 : decode (zB 168) 547 = .ok (.aload_n 0, 1) := by decide +kernel
theorem dL_law_548 : decode (zB 168) 548 = .ok (.iload_n 3, 1) := by decide +kernel
theorem dL_law_549 : decode (zB 168) 549 = .ok (.iconst 1, 1) := by decide +kernel
theorem dL_law_550 : decode (zB 168) 550 = .ok (.iadd, 1) := by decide +kernel
theorem dL_law_551 : decode (zB 168) 551 = .ok (.iaload, 1) := by decide +kernel
theorem dL_law_552 : decode (zB 168) 552 = .ok (.aload_n 0, 1) := by decide +kernel
theorem dL_law_553 : decode (zB 168) 553 = .ok (.iload_n 3, 1) := by decide +kernel
theorem dL_law_554 : decode (zB 168) 554 = .ok (.iconst 2, 1) := by decide +kernel
theorem dL_law_555 : decode (zB 168) 555 = .ok (.iadd, 1) := by decide +kernel
theorem dL_law_556 : decode (zB 168) 556 = .ok (.iaload, 1) := by decide +kernel
theorem dL_law_557 : decode (zB 168) 557 = .ok (.aload_n 0, 1) := by decide +kernel
theorem dL_law_558 : decode (zB 168) 558 = .ok (.iload_n 3, 1) := by decide +kernel
theorem dL_law_559 : decode (zB 168) 559 = .ok (.iconst 3, 1) := by decide +kernel
theorem dL_law_560 : decode (zB 168) 560 = .ok (.iadd, 1) := by decide +kernel
theorem dL_law_561 : decode (zB 168) 561 = .ok (.iaload, 1) := by decide +kernel
theorem dL_law_562 : decode (zB 168) 562 = .ok (.invokevirtual 62, 3) := by decide +kernel
theorem dL_law_565 : decode (zB 168) 565 = .ok (.aload_n 2, 1) := by decide +kernel
theorem dL_law_566 : decode (zB 168) 566 = .ok (.aload_n 0, 1) := by decide +kernel
theorem dL_law_567 : decode (zB 168) 567 = .ok (.iload_n 3, 1) := by decide +kernel
theorem dL_law_568 : decode (zB 168) 568 = .ok (.iconst 1, 1) := by decide +kernel
theorem dL_law_569 : decode (zB 168) 569 = .ok (.iadd, 1) := by decide +kernel
theorem dL_law_570 : decode (zB 168) 570 = .ok (.iaload, 1) := by decide +kernel
theorem dL_law_571 : decode (zB 168) 571 = .ok (.aload_n 0, 1) := by decide +kernel
theorem dL_law_572 : decode (zB 168) 572 = .ok (.iload_n 3, 1) := by decide +kernel
theorem dL_law_573 : decode (zB 168) 573 = .ok (.iconst 2, 1) := by decide +kernel
theorem dL_law_574 : decode (zB 168) 574 = .ok (.iadd, 1) := by decide +kernel
theorem dL_law_575 : decode (zB 168) 575 = .ok (.iaload, 1) := by decide +kernel
theorem dL_law_576 : decode (zB 168) 576 = .ok (.aload_n 0, 1) := by decide +kernel
theorem dL_law_577 : decode (zB 168) 577 = .ok (.iload_n 3, 1) := by decide +kernel
theorem dL_law_578 : decode (zB 168) 578 = .ok (.iconst 3, 1) := by decide +kernel
theorem dL_law_579 : decode (zB 168) 579 = .ok (.iadd, 1) := by decide +kernel
theorem dL_law_580 : decode (zB 168) 580 = .ok (.iaload, 1) := by decide +kernel
theorem dL_law_581 : decode (zB 168) 581 = .ok (.invokevirtual 65, 3) := by decide +kernel
theorem dL_law_584 : decode (zB 168) 584 = .ok (.if_icmp .eq 563, 3) := by decide +kernel
theorem dL_law_587 : decode (zB 168) 587 = .ok (.iconst 0, 1) := by decide +kernel
theorem dL_law_588 : decode (zB 168) 588 = .ok (.ireturn, 1) := by decide +kernel
theorem dL_law_589 : decode (zB 168) 589 = .ok (.aload_n 1, 1) := by decide +kernel
theorem dL_law_590 : decode (zB 168) 590 = .ok (.aload_n 0, 1) := by decide +kernel
theorem dL_law_591 : decode (zB 168) 591 = .ok (.iload_n 3, 1) := by decide +kernel
theorem dL_law_592 : decode (zB 168) 592 = .ok (.iconst 1, 1) := by decide +kernel
theorem dL_law_593 : decode (zB 168) 593 = .ok (.iadd, 1) := by decide +kernel
theorem dL_law_594 : decode (zB 168) 594 = .ok (.iaload, 1) := by decide +kernel
theorem dL_law_595 : decode (zB 168) 595 = .ok (.aload_n 0, 1) := by decide +kernel
theorem dL_law_596 : decode (zB 168) 596 = .ok (.iload_n 3, 1) := by decide +kernel
theorem dL_law_597 : decode (zB 168) 597 = .ok (.iconst 2, 1) := by decide +kernel
theorem dL_law_598 : decode (zB 168) 598 = .ok (.iadd, 1) := by decide +kernel
theorem dL_law_599 : decode (zB 168) 599 = .ok (.iaload, 1) := by decide +kernel
theorem dL_law_600 : decode (zB 168) 600 = .ok (.aload_n 0, 1) := by decide +kernel
theorem dL_law_601 : decode (zB 168) 601 = .ok (.iload_n 3, 1) := by decide +kernel
theorem dL_law_602 : decode (zB 168) 602 = .ok (.iconst 3, 1) := by decide +kernel
theorem dL_law_603 : decode (zB 168) 603 = .ok (.iadd, 1) := by decide +kernel
theorem dL_law_604 : decode (zB 168) 604 = .ok (.iaload, 1) := by decide +kernel
theorem dL_law_605 : decode (zB 168) 605 = .ok (.invokevirtual 66, 3) := by decide +kernel
theorem dL_law_608 : decode (zB 168) 608 = .ok (.aload_n 2, 1) := by decide +kernel
theorem dL_law_609 : decode (zB 168) 609 = .ok (.aload_n 0, 1) := by decide +kernel
theorem dL_law_610 : decode (zB 168) 610 = .ok (.iload_n 3, 1) := by decide +kernel
theorem dL_law_611 : decode (zB 168) 611 = .ok (.iconst 1, 1) := by decide +kernel
theorem dL_law_612 : decode (zB 168) 612 = .ok (.iadd, 1) := by decide +kernel
theorem dL_law_613 : decode (zB 168) 613 = .ok (.iaload, 1) := by decide +kernel
theorem dL_law_614 : decode (zB 168) 614 = .ok (.aload_n 0, 1) := by decide +kernel
theorem dL_law_615 : decode (zB 168) 615 = .ok (.iload_n 3, 1) := by decide +kernel
theorem dL_law_616 : decode (zB 168) 616 = .ok (.iconst 2, 1) := by decide +kernel
theorem dL_law_617 : decode (zB 168) 617 = .ok (.iadd, 1) := by decide +kernel
theorem dL_law_618 : decode (zB 168) 618 = .ok (.iaload, 1) := by decide +kernel
theorem dL_law_619 : decode (zB 168) 619 = .ok (.aload_n 0, 1) := by decide +kernel
theorem dL_law_620 : decode (zB 168) 620 = .ok (.iload_n 3, 1) := by decide +kernel
theorem dL_law_621 : decode (zB 168) 621 = .ok (.iconst 3, 1) := by decide +kernel
theorem dL_law_622 : decode (zB 168) 622 = .ok (.iadd, 1) := by decide +kernel
theorem dL_law_623 : decode (zB 168) 623 = .ok (.iaload, 1) := by decide +kernel
theorem dL_law_624 : decode (zB 168) 624 = .ok (.invokevirtual 69, 3) := by decide +kernel
theorem dL_law_627 : decode (zB 168) 627 = .ok (.if_icmp .eq 520, 3) := by decide +kernel
theorem dL_law_630 : decode (zB 168) 630 = .ok (.iconst 0, 1) := by decide +kernel
theorem dL_law_631 : decode (zB 168) 631 = .ok (.ireturn, 1) := by decide +kernel
theorem dL_law_632 : decode (zB 168) 632 = .ok (.aload_n 1, 1) := by decide +kernel
theorem dL_law_633 : decode (zB 168) 633 = .ok (.aload_n 0, 1) := by decide +kernel
theorem dL_law_634 : decode (zB 168) 634 = .ok (.iload_n 3, 1) := by decide +kernel
theorem dL_law_635 : decode (zB 168) 635 = .ok (.iconst 1, 1) := by decide +kernel
theorem dL_law_636 : decode (zB 168) 636 = .ok (.iadd, 1) := by decide +kernel
theorem dL_law_637 : decode (zB 168) 637 = .ok (.iaload, 1) := by decide +kernel
theorem dL_law_638 : decode (zB 168) 638 = .ok (.aload_n 0, 1) := by decide +kernel
theorem dL_law_639 : decode (zB 168) 639 = .ok (.iload_n 3, 1) := by decide +kernel
theorem dL_law_640 : decode (zB 168) 640 = .ok (.iconst 2, 1) := by decide +kernel
theorem dL_law_641 : decode (zB 168) 641 = .ok (.iadd, 1) := by decide +kernel
theorem dL_law_642 : decode (zB 168) 642 = .ok (.iaload, 1) := by decide +kernel
theorem dL_law_643 : decode (zB 168) 643 = .ok (.aload_n 0, 1) := by decide +kernel
theorem dL_law_644 : decode (zB 168) 644 = .ok (.iload_n 3, 1) := by decide +kernel
theorem dL_law_645 : decode (zB 168) 645 = .ok (.iconst 3, 1) := by decide +kernel
theorem dL_law_646 : decode (zB 168) 646 = .ok (.iadd, 1) := by decide +kernel
theorem dL_law_647 : decode (zB 168) 647 = .ok (.iaload, 1) := by decide +kernel
theorem dL_law_648 : decode (zB 168) 648 = .ok (.invokevirtual 70, 3) := by decide +kernel
theorem dL_law_651 : decode (zB 168) 651 = .ok (.aload_n 2, 1) := by decide +kernel
theorem dL_law_652 : decode (zB 168) 652 = .ok (.aload_n 0, 1) := by decide +kernel
theorem dL_law_653 : decode (zB 168) 653 = .ok (.iload_n 3, 1) := by decide +kernel
theorem dL_law_654 : decode (zB 168) 654 = .ok (.iconst 1, 1) := by decide +kernel
theorem dL_law_655 : decode (zB 168) 655 = .ok (.iadd, 1) := by decide +kernel
theorem dL_law_656 : decode (zB 168) 656 = .ok (.iaload, 1) := by decide +kernel
theorem dL_law_657 : decode (zB 168) 657 = .ok (.aload_n 0, 1) := by decide +kernel
theorem dL_law_658 : decode (zB 168) 658 = .ok (.iload_n 3, 1) := by decide +kernel
theorem dL_law_659 : decode (zB 168) 659 = .ok (.iconst 2, 1) := by decide +kernel
theorem dL_law_660 : decode (zB 168) 660 = .ok (.iadd, 1) := by decide +kernel
theorem dL_law_661 : decode (zB 168) 661 = .ok (.iaload, 1) := by decide +kernel
theorem dL_law_662 : decode (zB 168) 662 = .ok (.aload_n 0, 1) := by decide +kernel
theorem dL_law_663 : decode (zB 168) 663 = .ok (.iload_n 3, 1) := by decide +kernel
theorem dL_law_664 : decode (zB 168) 664 = .ok (.iconst 3, 1) := by decide +kernel
theorem dL_law_665 : decode (zB 168) 665 = .ok (.iadd, 1) := by decide +kernel
theorem dL_law_666 : decode (zB 168) 666 = .ok (.iaload, 1) := by decide +kernel
theorem dL_law_667 : decode (zB 168) 667 = .ok (.invokevirtual 73, 3) := by decide +kernel
theorem dL_law_670 : decode (zB 168) 670 = .ok (.if_icmp .eq 477, 3) := by decide +kernel
theorem dL_law_673 : decode (zB 168) 673 = .ok (.iconst 0, 1) := by decide +kernel
theorem dL_law_674 : decode (zB 168) 674 = .ok (.ireturn, 1) := by decide +kernel
theorem dL_law_675 : decode (zB 168) 675 = .ok (.aload_n 1, 1) := by decide +kernel
theorem dL_law_676 : decode (zB 168) 676 = .ok (.aload_n 0, 1) := by decide +kernel
theorem dL_law_677 : decode (zB 168) 677 = .ok (.iload_n 3, 1) := by decide +kernel
theorem dL_law_678 : decode (zB 168) 678 = .ok (.iconst 1, 1) := by decide +kernel
theorem dL_law_679 : decode (zB 168) 679 = .ok (.iadd, 1) := by decide +kernel
theorem dL_law_680 : decode (zB 168) 680 = .ok (.iaload, 1) := by decide +kernel
theorem dL_law_681 : decode (zB 168) 681 = .ok (.invokevirtual 74, 3) := by decide +kernel
theorem dL_law_684 : decode (zB 168) 684 = .ok (.aload_n 2, 1) := by decide +kernel
theorem dL_law_685 : decode (zB 168) 685 = .ok (.aload_n 0, 1) := by decide +kernel
theorem dL_law_686 : decode (zB 168) 686 = .ok (.iload_n 3, 1) := by decide +kernel
theorem dL_law_687 : decode (zB 168) 687 = .ok (.iconst 1, 1) := by decide +kernel
theorem dL_law_688 : decode (zB 168) 688 = .ok (.iadd, 1) := by decide +kernel
theorem dL_law_689 : decode (zB 168) 689 = .ok (.iaload, 1) := by decide +kernel
theorem dL_law_690 : decode (zB 168) 690 = .ok (.invokevirtual 77, 3) := by decide +kernel
theorem dL_law_693 : decode (zB 168) 693 = .ok (.if_icmp .eq 454, 3) := by decide +kernel
theorem dL_law_696 : decode (zB 168) 696 = .ok (.iconst 0, 1) := by decide +kernel
theorem dL_law_697 : decode (zB 168) 697 = .ok (.ireturn, 1) := by decide +kernel
theorem dL_law_698 : decode (zB 168) 698 = .ok (.aload_n 1, 1) := by decide +kernel
theorem dL_law_699 : decode (zB 168) 699 = .ok (.invokevirtual 78, 3) := by decide +kernel
theorem dL_law_702 : decode (zB 168) 702 = .ok (.aload_n 2, 1) := by decide +kernel
theorem dL_law_703 : decode (zB 168) 703 = .ok (.invokevirtual 82, 3) := by decide +kernel
theorem dL_law_706 : decode (zB 168) 706 = .ok (.if_icmp .eq 441, 3) := by decide +kernel
theorem dL_law_709 : decode (zB 168) 709 = .ok (.iconst 0, 1) := by decide +kernel
theorem dL_law_710 : decode (zB 168) 710 = .ok (.ireturn, 1) := by decide +kernel
theorem dL_law_711 : decode (zB 168) 711 = .ok (.aload_n 1, 1) := by decide +kernel
theorem dL_law_712 : decode (zB 168) 712 = .ok (.aload_n 0, 1) := by decide +kernel
theorem dL_law_713 : decode (zB 168) 713 = .ok (.iload_n 3, 1) := by decide +kernel
theorem dL_law_714 : decode (zB 168) 714 = .ok (.iconst 1, 1) := by decide +kernel
theorem dL_law_715 : decode (zB 168) 715 = .ok (.iadd, 1) := by decide +kernel
theorem dL_law_716 : decode (zB 168) 716 = .ok (.iaload, 1) := by decide +kernel
theorem dL_law_717 : decode (zB 168) 717 = .ok (.invokevirtual 83, 3) := by decide +kernel
theorem dL_law_720 : decode (zB 168) 720 = .ok (.aload_n 2, 1) := by decide +kernel
theorem dL_law_721 : decode (zB 168) 721 = .ok (.aload_n 0, 1) := by decide +kernel
theorem dL_law_722 : decode (zB 168) 722 = .ok (.iload_n 3, 1) := by decide +kernel
theorem dL_law_723 : decode (zB 168) 723 = .ok (.iconst 1, 1) := by decide +kernel
theorem dL_law_724 : decode (zB 168) 724 = .ok (.iadd, 1) := by decide +kernel
theorem dL_law_725 : decode (zB 168) 725 = .ok (.iaload, 1) := by decide +kernel
theorem dL_law_726 : decode (zB 168) 726 = .ok (.invokevirtual 86, 3) := by decide +kernel
theorem dL_law_729 : decode (zB 168) 729 = .ok (.if_icmp .eq 418, 3) := by decide +kernel
theorem dL_law_732 : decode (zB 168) 732 = .ok (.iconst 0, 1) := by decide +kernel
theorem dL_law_733 : decode (zB 168) 733 = .ok (.ireturn, 1) := by decide +kernel
theorem dL_law_734 : decode (zB 168) 734 = .ok (.aload_n 1, 1) := by decide +kernel
theorem dL_law_735 : decode (zB 168) 735 = .ok (.aload_n 0, 1) := by decide +kernel
theorem dL_law_736 : decode (zB 168) 736 = .ok (.iload_n 3, 1) := by decide +kernel
theorem dL_law_737 : decode (zB 168) 737 = .ok (.iconst 1, 1) := by decide +kernel
theorem dL_law_738 : decode (zB 168) 738 = .ok (.iadd, 1) := by decide +kernel
theorem dL_law_739 : decode (zB 168) 739 = .ok (.iaload, 1) := by decide +kernel
theorem dL_law_740 : decode (zB 168) 740 = .ok (.invokevirtual 87, 3) := by decide +kernel
theorem dL_law_743 : decode (zB 168) 743 = .ok (.aload_n 2, 1) := by decide +kernel
theorem dL_law_744 : decode (zB 168) 744 = .ok (.aload_n 0, 1) := by decide +kernel
theorem dL_law_745 : decode (zB 168) 745 = .ok (.iload_n 3, 1) := by decide +kernel
theorem dL_law_746 : decode (zB 168) 746 = .ok (.iconst 1, 1) := by decide +kernel
theorem dL_law_747 : decode (zB 168) 747 = .ok (.iadd, 1) := by decide +kernel
theorem dL_law_748 : decode (zB 168) 748 = .ok (.iaload, 1) := by decide +kernel
theorem dL_law_749 : decode (zB 168) 749 = .ok (.invokevirtual 90, 3) := by decide +kernel
theorem dL_law_752 : decode (zB 168) 752 = .ok (.if_icmp .eq 395, 3) := by decide +kernel
theorem dL_law_755 : decode (zB 168) 755 = .ok (.iconst 0, 1) := by decide +kernel
theorem dL_law_756 : decode (zB 168) 756 = .ok (.ireturn, 1) := by decide +kernel
theorem dL_law_757 : decode (zB 168) 757 = .ok (.aload_n 1, 1) := by decide +kernel
theorem dL_law_758 : decode (zB 168) 758 = .ok (.invokevirtual 91, 3) := by decide +kernel
theorem dL_law_761 : decode (zB 168) 761 = .ok (.aload_n 2, 1) := by decide +kernel
theorem dL_law_762 : decode (zB 168) 762 = .ok (.invokevirtual 94, 3) := by decide +kernel
theorem dL_law_765 : decode (zB 168) 765 = .ok (.if_icmp .eq 382, 3) := by decide +kernel
theorem dL_law_768 : decode (zB 168) 768 = .ok (.iconst 0, 1) := by decide +kernel
theorem dL_law_769 : decode (zB 168) 769 = .ok (.ireturn, 1) := by decide +kernel
theorem dL_law_770 : decode (zB 168) 770 = .ok (.aload_n 1, 1) := by decide +kernel
theorem dL_law_771 : decode (zB 168) 771 = .ok (.aload_n 0, 1) := by decide +kernel
theorem dL_law_772 : decode (zB 168) 772 = .ok (.iload_n 3, 1) := by decide +kernel
theorem dL_law_773 : decode (zB 168) 773 = .ok (.iconst 1, 1) := by decide +kernel
theorem dL_law_774 : decode (zB 168) 774 = .ok (.iadd, 1) := by decide +kernel
theorem dL_law_775 : decode (zB 168) 775 = .ok (.iaload, 1) := by decide +kernel
theorem dL_law_776 : decode (zB 168) 776 = .ok (.aload_n 0, 1) := by decide +kernel
theorem dL_law_777 : decode (zB 168) 777 = .ok (.iload_n 3, 1) := by decide +kernel
theorem dL_law_778 : decode (zB 168) 778 = .ok (.iconst 2, 1) := by decide +kernel
theorem dL_law_779 : decode (zB 168) 779 = .ok (.iadd, 1) := by decide +kernel
theorem dL_law_780 : decode (zB 168) 780 = .ok (.iaload, 1) := by decide +kernel
theorem dL_law_781 : decode (zB 168) 781 = .ok (.invokevirtual 95, 3) := by decide +kernel
theorem dL_law_784 : decode (zB 168) 784 = .ok (.aload_n 2, 1) := by decide +kernel
theorem dL_law_785 : decode (zB 168) 785 = .ok (.aload_n 0, 1) := by decide +kernel
theorem dL_law_786 : decode (zB 168) 786 = .ok (.iload_n 3, 1) := by decide +kernel
theorem dL_law_787 : decode (zB 168) 787 = .ok (.iconst 1, 1) := by decide +kernel
theorem dL_law_788 : decode (zB 168) 788 = .ok (.iadd, 1) := by decide +kernel
theorem dL_law_789 : decode (zB 168) 789 = .ok (.iaload, 1) := by decide +kernel
theorem dL_law_790 : decode (zB 168) 790 = .ok (.aload_n 0, 1) := by decide +kernel
theorem dL_law_791 : decode (zB 168) 791 = .ok (.iload_n 3, 1) := by decide +kernel
theorem dL_law_792 : decode (zB 168) 792 = .ok (.iconst 2, 1) := by decide +kernel
theorem dL_law_793 : decode (zB 168) 793 = .ok (.iadd, 1) := by decide +kernel
theorem dL_law_794 : decode (zB 168) 794 = .ok (.iaload, 1) := by decide +kernel
theorem dL_law_795 : decode (zB 168) 795 = .ok (.invokevirtual 98, 3) := by decide +kernel
theorem dL_law_798 : decode (zB 168) 798 = .ok (.if_icmp .eq 349, 3) := by decide +kernel
theorem dL_law_801 : decode (zB 168) 801 = .ok (.iconst 0, 1) := by decide +kernel
theorem dL_law_802 : decode (zB 168) 802 = .ok (.ireturn, 1) := by decide +kernel
theorem dL_law_803 : decode (zB 168) 803 = .ok (.aload_n 1, 1) := by decide +kernel
theorem dL_law_804 : decode (zB 168) 804 = .ok (.aload_n 0, 1) := by decide +kernel
theorem dL_law_805 : decode (zB 168) 805 = .ok (.iload_n 3, 1) := by decide +kernel
theorem dL_law_806 : decode (zB 168) 806 = .ok (.iconst 1, 1) := by decide +kernel
theorem dL_law_807 : decode (zB 168) 807 = .ok (.iadd, 1) := by decide +kernel
theorem dL_law_808 : decode (zB 168) 808 = .ok (.iaload, 1) := by decide +kernel
theorem dL_law_809 : decode (zB 168) 809 = .ok (.aload_n 0, 1) := by decide +kernel
theorem dL_law_810 : decode (zB 168) 810 = .ok (.iload_n 3, 1) := by decide +kernel
theorem dL_law_811 : decode (zB 168) 811 = .ok (.iconst 2, 1) := by decide +kernel
theorem dL_law_812 : decode (zB 168) 812 = .ok (.iadd, 1) := by decide +kernel
theorem dL_law_813 : decode (zB 168) 813 = .ok (.iaload, 1) := by decide +kernel
theorem dL_law_814 : decode (zB 168) 814 = .ok (.aload_n 0, 1) := by decide +kernel
theorem dL_law_815 : decode (zB 168) 815 = .ok (.iload_n 3, 1) := by decide +kernel
theorem dL_law_816 : decode (zB 168) 816 = .ok (.iconst 3, 1) := by decide +kernel
theorem dL_law_817 : decode (zB 168) 817 = .ok (.iadd, 1) := by decide +kernel
theorem dL_law_818 : decode (zB 168) 818 = .ok (.iaload, 1) := by decide +kernel
theorem dL_law_819 : decode (zB 168) 819 = .ok (.invokevirtual 99, 3) := by decide +kernel
theorem dL_law_822 : decode (zB 168) 822 = .ok (.aload_n 2, 1) := by decide +kernel
theorem dL_law_823 : decode (zB 168) 823 = .ok (.aload_n 0, 1) := by decide +kernel
theorem dL_law_824 : decode (zB 168) 824 = .ok (.iload_n 3, 1) := by decide +kernel
theorem dL_law_825 : decode (zB 168) 825 = .ok (.iconst 1, 1) := by decide +kernel
theorem dL_law_826 : decode (zB 168) 826 = .ok (.iadd, 1) := by decide +kernel
theorem dL_law_827 : decode (zB 168) 827 = .ok (.iaload, 1) := by decide +kernel
theorem dL_law_828 : decode (zB 168) 828 = .ok (.aload_n 0, 1) := by decide +kernel
theorem dL_law_829 : decode (zB 168) 829 = .ok (.iload_n 3, 1) := by decide +kernel
theorem dL_law_830 : decode (zB 168) 830 = .ok (.iconst 2, 1) := by decide +kernel
theorem dL_law_831 : decode (zB 168) 831 = .ok (.iadd, 1) := by decide +kernel
theorem dL_law_832 : decode (zB 168) 832 = .ok (.iaload, 1) := by decide +kernel
theorem dL_law_833 : decode (zB 168) 833 = .ok (.aload_n 0, 1) := by decide +kernel
theorem dL_law_834 : decode (zB 168) 834 = .ok (.iload_n 3, 1) := by decide +kernel
theorem dL_law_835 : decode (zB 168) 835 = .ok (.iconst 3, 1) := by decide +kernel
theorem dL_law_836 : decode (zB 168) 836 = .ok (.iadd, 1) := by decide +kernel
theorem dL_law_837 : decode (zB 168) 837 = .ok (.iaload, 1) := by decide +kernel
theorem dL_law_838 : decode (zB 168) 838 = .ok (.invokevirtual 102, 3) := by decide +kernel
theorem dL_law_841 : decode (zB 168) 841 = .ok (.if_icmp .eq 306, 3) := by decide +kernel
theorem dL_law_844 : decode (zB 168) 844 = .ok (.iconst 0, 1) := by decide +kernel
theorem dL_law_845 : decode (zB 168) 845 = .ok (.ireturn, 1) := by decide +kernel
theorem dL_law_846 : decode (zB 168) 846 = .ok (.aload_n 1, 1) := by decide +kernel
theorem dL_law_847 : decode (zB 168) 847 = .ok (.aload_n 0, 1) := by decide +kernel
theorem dL_law_848 : decode (zB 168) 848 = .ok (.iload_n 3, 1) := by decide +kernel
theorem dL_law_849 : decode (zB 168) 849 = .ok (.iconst 1, 1) := by decide +kernel
theorem dL_law_850 : decode (zB 168) 850 = .ok (.iadd, 1) := by decide +kernel
theorem dL_law_851 : decode (zB 168) 851 = .ok (.iaload, 1) := by decide +kernel
theorem dL_law_852 : decode (zB 168) 852 = .ok (.invokevirtual 103, 3) := by decide +kernel
theorem dL_law_855 : decode (zB 168) 855 = .ok (.aload_n 2, 1) := by decide +kernel
theorem dL_law_856 : decode (zB 168) 856 = .ok (.aload_n 0, 1) := by decide +kernel
theorem dL_law_857 : decode (zB 168) 857 = .ok (.iload_n 3, 1) := by decide +kernel
theorem dL_law_858 : decode (zB 168) 858 = .ok (.iconst 1, 1) := by decide +kernel
theorem dL_law_859 : decode (zB 168) 859 = .ok (.iadd, 1) := by decide +kernel
theorem dL_law_860 : decode (zB 168) 860 = .ok (.iaload, 1) := by decide +kernel
theorem dL_law_861 : decode (zB 168) 861 = .ok (.invokevirtual 106, 3) := by decide +kernel
theorem dL_law_864 : decode (zB 168) 864 = .ok (.if_icmp .eq 283, 3) := by decide +kernel
theorem dL_law_867 : decode (zB 168) 867 = .ok (.iconst 0, 1) := by decide +kernel
theorem dL_law_868 : decode (zB 168) 868 = .ok (.ireturn, 1) := by decide +kernel
theorem dL_law_869 : decode (zB 168) 869 = .ok (.aload_n 1, 1) := by decide +kernel
theorem dL_law_870 : decode (zB 168) 870 = .ok (.aload_n 0, 1) := by decide +kernel
theorem dL_law_871 : decode (zB 168) 871 = .ok (.iload_n 3, 1) := by decide +kernel
theorem dL_law_872 : decode (zB 168) 872 = .ok (.iconst 1, 1) := by decide +kernel
theorem dL_law_873 : decode (zB 168) 873 = .ok (.iadd, 1) := by decide +kernel
theorem dL_law_874 : decode (zB 168) 874 = .ok (.iaload, 1) := by decide +kernel
theorem dL_law_875 : decode (zB 168) 875 = .ok (.aload_n 0, 1) := by decide +kernel
theorem dL_law_876 : decode (zB 168) 876 = .ok (.iload_n 3, 1) := by decide +kernel
theorem dL_law_877 : decode (zB 168) 877 = .ok (.iconst 2, 1) := by decide +kernel
theorem dL_law_878 : decode (zB 168) 878 = .ok (.iadd, 1) := by decide +kernel
theorem dL_law_879 : decode (zB 168) 879 = .ok (.iaload, 1) := by decide +kernel
theorem dL_law_880 : decode (zB 168) 880 = .ok (.aload_n 0, 1) := by decide +kernel
theorem dL_law_881 : decode (zB 168) 881 = .ok (.iload_n 3, 1) := by decide +kernel
theorem dL_law_882 : decode (zB 168) 882 = .ok (.iconst 3, 1) := by decide +kernel
theorem dL_law_883 : decode (zB 168) 883 = .ok (.iadd, 1) := by decide +kernel
theorem dL_law_884 : decode (zB 168) 884 = .ok (.iaload, 1) := by decide +kernel
theorem dL_law_885 : decode (zB 168) 885 = .ok (.invokevirtual 107, 3) := by decide +kernel
theorem dL_law_888 : decode (zB 168) 888 = .ok (.aload_n 2, 1) := by decide +kernel
theorem dL_law_889 : decode (zB 168) 889 = .ok (.aload_n 0, 1) := by decide +kernel
theorem dL_law_890 : decode (zB 168) 890 = .ok (.iload_n 3, 1) := by decide +kernel
theorem dL_law_891 : decode (zB 168) 891 = .ok (.iconst 1, 1) := by decide +kernel
theorem dL_law_892 : decode (zB 168) 892 = .ok (.iadd, 1) := by decide +kernel
theorem dL_law_893 : decode (zB 168) 893 = .ok (.iaload, 1) := by decide +kernel
theorem dL_law_894 : decode (zB 168) 894 = .ok (.aload_n 0, 1) := by decide +kernel
theorem dL_law_895 : decode (zB 168) 895 = .ok (.iload_n 3, 1) := by decide +kernel
theorem dL_law_896 : decode (zB 168) 896 = .ok (.iconst 2, 1) := by decide +kernel
theorem dL_law_897 : decode (zB 168) 897 = .ok (.iadd, 1) := by decide +kernel
theorem dL_law_898 : decode (zB 168) 898 = .ok (.iaload, 1) := by decide +kernel
theorem dL_law_899 : decode (zB 168) 899 = .ok (.aload_n 0, 1) := by decide +kernel
theorem dL_law_900 : decode (zB 168) 900 = .ok (.iload_n 3, 1) := by decide +kernel
theorem dL_law_901 : decode (zB 168) 901 = .ok (.iconst 3, 1) := by decide +kernel
theorem dL_law_902 : decode (zB 168) 902 = .ok (.iadd, 1) := by decide +kernel
theorem dL_law_903 : decode (zB 168) 903 = .ok (.iaload, 1) := by decide +kernel
theorem dL_law_904 : decode (zB 168) 904 = .ok (.invokevirtual 110, 3) := by decide +kernel
theorem dL_law_907 : decode (zB 168) 907 = .ok (.if_icmp .eq 240, 3) := by decide +kernel
theorem dL_law_910 : decode (zB 168) 910 = .ok (.iconst 0, 1) := by decide +kernel
theorem dL_law_911 : decode (zB 168) 911 = .ok (.ireturn, 1) := by decide +kernel
theorem dL_law_912 : decode (zB 168) 912 = .ok (.aload_n 1, 1) := by decide +kernel
theorem dL_law_913 : decode (zB 168) 913 = .ok (.aload_n 0, 1) := by decide +kernel
theorem dL_law_914 : decode (zB 168) 914 = .ok (.iload_n 3, 1) := by decide +kernel
theorem dL_law_915 : decode (zB 168) 915 = .ok (.iconst 1, 1) := by decide +kernel
theorem dL_law_916 : decode (zB 168) 916 = .ok (.iadd, 1) := by decide +kernel
theorem dL_law_917 : decode (zB 168) 917 = .ok (.iaload, 1) := by decide +kernel
theorem dL_law_918 : decode (zB 168) 918 = .ok (.aload_n 0, 1) := by decide +kernel
theorem dL_law_919 : decode (zB 168) 919 = .ok (.iload_n 3, 1) := by decide +kernel
theorem dL_law_920 : decode (zB 168) 920 = .ok (.iconst 2, 1) := by decide +kernel
theorem dL_law_921 : decode (zB 168) 921 = .ok (.iadd, 1) := by decide +kernel
theorem dL_law_922 : decode (zB 168) 922 = .ok (.iaload, 1) := by decide +kernel
theorem dL_law_923 : decode (zB 168) 923 = .ok (.aload_n 0, 1) := by decide +kernel
theorem dL_law_924 : decode (zB 168) 924 = .ok (.iload_n 3, 1) := by decide +kernel
theorem dL_law_925 : decode (zB 168) 925 = .ok (.iconst 3, 1) := by decide +kernel
theorem dL_law_926 : decode (zB 168) 926 = .ok (.iadd, 1) := by decide +kernel
theorem dL_law_927 : decode (zB 168) 927 = .ok (.iaload, 1) := by decide +kernel
theorem dL_law_928 : decode (zB 168) 928 = .ok (.invokevirtual 111, 3) := by decide +kernel
theorem dL_law_931 : decode (zB 168) 931 = .ok (.aload_n 2, 1) := by decide +kernel
theorem dL_law_932 : decode (zB 168) 932 = .ok (.aload_n 0, 1) := by decide +kernel
theorem dL_law_933 : decode (zB 168) 933 = .ok (.iload_n 3, 1) := by decide +kernel
theorem dL_law_934 : decode (zB 168) 934 = .ok (.iconst 1, 1) := by decide +kernel
theorem dL_law_935 : decode (zB 168) 935 = .ok (.iadd, 1) := by decide +kernel
theorem dL_law_936 : decode (zB 168) 936 = .ok (.iaload, 1) := by decide +kernel
theorem dL_law_937 : decode (zB 168) 937 = .ok (.aload_n 0, 1) := by decide +kernel
theorem dL_law_938 : decode (zB 168) 938 = .ok (.iload_n 3, 1) := by decide +kernel
theorem dL_law_939 : decode (zB 168) 939 = .ok (.iconst 2, 1) := by decide +kernel
theorem dL_law_940 : decode (zB 168) 940 = .ok (.iadd, 1) := by decide +kernel
theorem dL_law_941 : decode (zB 168) 941 = .ok (.iaload, 1) := by decide +kernel
theorem dL_law_942 : decode (zB 168) 942 = .ok (.aload_n 0, 1) := by decide +kernel
theorem dL_law_943 : decode (zB 168) 943 = .ok (.iload_n 3, 1) := by decide +kernel
theorem dL_law_944 : decode (zB 168) 944 = .ok (.iconst 3, 1) := by decide +kernel
theorem dL_law_945 : decode (zB 168) 945 = .ok (.iadd, 1) := by decide +kernel
theorem dL_law_946 : decode (zB 168) 946 = .ok (.iaload, 1) := by decide +kernel
theorem dL_law_947 : decode (zB 168) 947 = .ok (.invokevirtual 115, 3) := by decide +kernel
theorem dL_law_950 : decode (zB 168) 950 = .ok (.lcmp, 1) := by decide +kernel
theorem dL_law_951 : decode (zB 168) 951 = .ok (.ifCond .eq 196, 3) := by decide +kernel
theorem dL_law_954 : decode (zB 168) 954 = .ok (.iconst 0, 1) := by decide +kernel
theorem dL_law_955 : decode (zB 168) 955 = .ok (.ireturn, 1) := by decide +kernel
theorem dL_law_956 : decode (zB 168) 956 = .ok (.aload_n 1, 1) := by decide +kernel
theorem dL_law_957 : decode (zB 168) 957 = .ok (.aload_n 0, 1) := by decide +kernel
theorem dL_law_958 : decode (zB 168) 958 = .ok (.iload_n 3, 1) := by decide +kernel
theorem dL_law_959 : decode (zB 168) 959 = .ok (.iconst 1, 1) := by decide +kernel
theorem dL_law_960 : decode (zB 168) 960 = .ok (.iadd, 1) := by decide +kernel
theorem dL_law_961 : decode (zB 168) 961 = .ok (.iaload, 1) := by decide +kernel
theorem dL_law_962 : decode (zB 168) 962 = .ok (.aload_n 0, 1) := by decide +kernel
theorem dL_law_963 : decode (zB 168) 963 = .ok (.iload_n 3, 1) := by decide +kernel
theorem dL_law_964 : decode (zB 168) 964 = .ok (.iconst 2, 1) := by decide +kernel
theorem dL_law_965 : decode (zB 168) 965 = .ok (.iadd, 1) := by decide +kernel
theorem dL_law_966 : decode (zB 168) 966 = .ok (.iaload, 1) := by decide +kernel
theorem dL_law_967 : decode (zB 168) 967 = .ok (.aload_n 0, 1) := by decide +kernel
theorem dL_law_968 : decode (zB 168) 968 = .ok (.iload_n 3, 1) := by decide +kernel
theorem dL_law_969 : decode (zB 168) 969 = .ok (.iconst 3, 1) := by decide +kernel
theorem dL_law_970 : decode (zB 168) 970 = .ok (.iadd, 1) := by decide +kernel
theorem dL_law_971 : decode (zB 168) 971 = .ok (.iaload, 1) := by decide +kernel
theorem dL_law_972 : decode (zB 168) 972 = .ok (.aload_n 0, 1) := by decide +kernel
theorem dL_law_973 : decode (zB 168) 973 = .ok (.iload_n 3, 1) := by decide +kernel
theorem dL_law_974 : decode (zB 168) 974 = .ok (.iconst 4, 1) := by decide +kernel
theorem dL_law_975 : decode (zB 168) 975 = .ok (.iadd, 1) := by decide +kernel
theorem dL_law_976 : decode (zB 168) 976 = .ok (.iaload, 1) := by decide +kernel
theorem dL_law_977 : decode (zB 168) 977 = .ok (.aload_n 0, 1) := by decide +kernel
theorem dL_law_978 : decode (zB 168) 978 = .ok (.iload_n 3, 1) := by decide +kernel
theorem dL_law_979 : decode (zB 168) 979 = .ok (.iconst 5, 1) := by decide +kernel
theorem dL_law_980 : decode (zB 168) 980 = .ok (.iadd, 1) := by decide +kernel
theorem dL_law_981 : decode (zB 168) 981 = .ok (.iaload, 1) := by decide +kernel
theorem dL_law_982 : decode (zB 168) 982 = .ok (.invokevirtual 116, 3) := by decide +kernel
theorem dL_law_985 : decode (zB 168) 985 = .ok (.aload_n 2, 1) := by decide +kernel
theorem dL_law_986 : decode (zB 168) 986 = .ok (.aload_n 0, 1) := by decide +kernel
theorem dL_law_987 : decode (zB 168) 987 = .ok (.iload_n 3, 1) := by decide +kernel
theorem dL_law_988 : decode (zB 168) 988 = .ok (.iconst 1, 1) := by decide +kernel
theorem dL_law_989 : decode (zB 168) 989 = .ok (.iadd, 1) := by decide +kernel
theorem dL_law_990 : decode (zB 168) 990 = .ok (.iaload, 1) := by decide +kernel
theorem dL_law_991 : decode (zB 168) 991 = .ok (.aload_n 0, 1) := by decide +kernel
theorem dL_law_992 : decode (zB 168) 992 = .ok (.iload_n 3, 1) := by decide +kernel
theorem dL_law_993 : decode (zB 168) 993 = .ok (.iconst 2, 1) := by decide +kernel
theorem dL_law_994 : decode (zB 168) 994 = .ok (.iadd, 1) := by decide +kernel
theorem dL_law_995 : decode (zB 168) 995 = .ok (.iaload, 1) := by decide +kernel
theorem dL_law_996 : decode (zB 168) 996 = .ok (.aload_n 0, 1) := by decide +kernel
theorem dL_law_997 : decode (zB 168) 997 = .ok (.iload_n 3, 1) := by decide +kernel
theorem dL_law_998 : decode (zB 168) 998 = .ok (.iconst 3, 1) := by decide +kernel
theorem dL_law_999 : decode (zB 168) 999 = .ok (.iadd, 1) := by decide +kernel
theorem dL_law_1000 : decode (zB 168) 1000 = .ok (.iaload, 1) := by decide +kernel
theorem dL_law_1001 : decode (zB 168) 1001 = .ok (.aload_n 0, 1) := by decide +kernel
theorem dL_law_1002 : decode (zB 168) 1002 = .ok (.iload_n 3, 1) := by decide +kernel
theorem dL_law_1003 : decode (zB 168) 1003 = .ok (.iconst 4, 1) := by decide +kernel
theorem dL_law_1004 : decode (zB 168) 1004 = .ok (.iadd, 1) := by decide +kernel
theorem dL_law_1005 : decode (zB 168) 1005 = .ok (.iaload, 1) := by decide +kernel
theorem dL_law_1006 : decode (zB 168) 1006 = .ok (.aload_n 0, 1) := by decide +kernel
theorem dL_law_1007 : decode (zB 168) 1007 = .ok (.iload_n 3, 1) := by decide +kernel
theorem dL_law_1008 : decode (zB 168) 1008 = .ok (.iconst 5, 1) := by decide +kernel
theorem dL_law_1009 : decode (zB 168) 1009 = .ok (.iadd, 1) := by decide +kernel
theorem dL_law_1010 : decode (zB 168) 1010 = .ok (.iaload, 1) := by decide +kernel
theorem dL_law_1011 : decode (zB 168) 1011 = .ok (.invokevirtual 120, 3) := by decide +kernel
theorem dL_law_1014 : decode (zB 168) 1014 = .ok (.if_icmp .eq 133, 3) := by decide +kernel
theorem dL_law_1017 : decode (zB 168) 1017 = .ok (.iconst 0, 1) := by decide +kernel
theorem dL_law_1018 : decode (zB 168) 1018 = .ok (.ireturn, 1) := by decide +kernel
theorem dL_law_1019 : decode (zB 168) 1019 = .ok (.aload_n 1, 1) := by decide +kernel
theorem dL_law_1020 : decode (zB 168) 1020 = .ok (.aload_n 0, 1) := by decide +kernel
theorem dL_law_1021 : decode (zB 168) 1021 = .ok (.iload_n 3, 1) := by decide +kernel
theorem dL_law_1022 : decode (zB 168) 1022 = .ok (.iconst 1, 1) := by decide +kernel
theorem dL_law_1023 : decode (zB 168) 1023 = .ok (.iadd, 1) := by decide +kernel
theorem dL_law_1024 : decode (zB 168) 1024 = .ok (.iaload, 1) := by decide +kernel
theorem dL_law_1025 : decode (zB 168) 1025 = .ok (.invokevirtual 121, 3) := by decide +kernel
theorem dL_law_1028 : decode (zB 168) 1028 = .ok (.aload_n 2, 1) := by decide +kernel
theorem dL_law_1029 : decode (zB 168) 1029 = .ok (.aload_n 0, 1) := by decide +kernel
theorem dL_law_1030 : decode (zB 168) 1030 = .ok (.iload_n 3, 1) := by decide +kernel
theorem dL_law_1031 : decode (zB 168) 1031 = .ok (.iconst 1, 1) := by decide +kernel
theorem dL_law_1032 : decode (zB 168) 1032 = .ok (.iadd, 1) := by decide +kernel
theorem dL_law_1033 : decode (zB 168) 1033 = .ok (.iaload, 1) := by decide +kernel
theorem dL_law_1034 : decode (zB 168) 1034 = .ok (.invokevirtual 124, 3) := by decide +kernel
theorem dL_law_1037 : decode (zB 168) 1037 = .ok (.if_icmp .eq 110, 3) := by decide +kernel
theorem dL_law_1040 : decode (zB 168) 1040 = .ok (.iconst 0, 1) := by decide +kernel
theorem dL_law_1041 : decode (zB 168) 1041 = .ok (.ireturn, 1) := by decide +kernel
theorem dL_law_1042 : decode (zB 168) 1042 = .ok (.aload_n 1, 1) := by decide +kernel
theorem dL_law_1043 : decode (zB 168) 1043 = .ok (.aload_n 0, 1) := by decide +kernel
theorem dL_law_1044 : decode (zB 168) 1044 = .ok (.iload_n 3, 1) := by decide +kernel
theorem dL_law_1045 : decode (zB 168) 1045 = .ok (.iconst 1, 1) := by decide +kernel
theorem dL_law_1046 : decode (zB 168) 1046 = .ok (.iadd, 1) := by decide +kernel
theorem dL_law_1047 : decode (zB 168) 1047 = .ok (.iaload, 1) := by decide +kernel
theorem dL_law_1048 : decode (zB 168) 1048 = .ok (.invokevirtual 125, 3) := by decide +kernel
theorem dL_law_1051 : decode (zB 168) 1051 = .ok (.aload_n 2, 1) := by decide +kernel
theorem dL_law_1052 : decode (zB 168) 1052 = .ok (.aload_n 0, 1) := by decide +kernel
theorem dL_law_1053 : decode (zB 168) 1053 = .ok (.iload_n 3, 1) := by decide +kernel
theorem dL_law_1054 : decode (zB 168) 1054 = .ok (.iconst 1, 1) := by decide +kernel
theorem dL_law_1055 : decode (zB 168) 1055 = .ok (.iadd, 1) := by decide +kernel
theorem dL_law_1056 : decode (zB 168) 1056 = .ok (.iaload, 1) := by decide +kernel
theorem dL_law_1057 : decode (zB 168) 1057 = .ok (.invokevirtual 128, 3) := by decide +kernel
theorem dL_law_1060 : decode (zB 168) 1060 = .ok (.if_icmp .eq 87, 3) := by decide +kernel
theorem dL_law_1063 : decode (zB 168) 1063 = .ok (.iconst 0, 1) := by decide +kernel
theorem dL_law_1064 : decode (zB 168) 1064 = .ok (.ireturn, 1) := by decide +kernel
theorem dL_law_1065 : decode (zB 168) 1065 = .ok (.aload_n 1, 1) := by decide +kernel
theorem dL_law_1066 : decode (zB 168) 1066 = .ok (.aload_n 0, 1) := by decide +kernel
theorem dL_law_1067 : decode (zB 168) 1067 = .ok (.iload_n 3, 1) := by decide +kernel
theorem dL_law_1068 : decode (zB 168) 1068 = .ok (.iconst 1, 1) := by decide +kernel
theorem dL_law_1069 : decode (zB 168) 1069 = .ok (.iadd, 1) := by decide +kernel
theorem dL_law_1070 : decode (zB 168) 1070 = .ok (.iaload, 1) := by decide +kernel
theorem dL_law_1071 : decode (zB 168) 1071 = .ok (.aload_n 0, 1) := by decide +kernel
theorem dL_law_1072 : decode (zB 168) 1072 = .ok (.iload_n 3, 1) := by decide +kernel
theorem dL_law_1073 : decode (zB 168) 1073 = .ok (.iconst 2, 1) := by decide +kernel
theorem dL_law_1074 : decode (zB 168) 1074 = .ok (.iadd, 1) := by decide +kernel
theorem dL_law_1075 : decode (zB 168) 1075 = .ok (.iaload, 1) := by decide +kernel
theorem dL_law_1076 : decode (zB 168) 1076 = .ok (.invokevirtual 129, 3) := by decide +kernel
theorem dL_law_1079 : decode (zB 168) 1079 = .ok (.aload_n 2, 1) := by decide +kernel
theorem dL_law_1080 : decode (zB 168) 1080 = .ok (.aload_n 0, 1) := by decide +kernel
theorem dL_law_1081 : decode (zB 168) 1081 = .ok (.iload_n 3, 1) := by decide +kernel
theorem dL_law_1082 : decode (zB 168) 1082 = .ok (.iconst 1, 1) := by decide +kernel
theorem dL_law_1083 : decode (zB 168) 1083 = .ok (.iadd, 1) := by decide +kernel
theorem dL_law_1084 : decode (zB 168) 1084 = .ok (.iaload, 1) := by decide +kernel
theorem dL_law_1085 : decode (zB 168) 1085 = .ok (.aload_n 0, 1) := by decide +kernel
theorem dL_law_1086 : decode (zB 168) 1086 = .ok (.iload_n 3, 1) := by decide +kernel
theorem dL_law_1087 : decode (zB 168) 1087 = .ok (.iconst 2, 1) := by decide +kernel
theorem dL_law_1088 : decode (zB 168) 1088 = .ok (.iadd, 1) := by decide +kernel
theorem dL_law_1089 : decode (zB 168) 1089 = .ok (.iaload, 1) := by decide +kernel
theorem dL_law_1090 : decode (zB 168) 1090 = .ok (.invokevirtual 132, 3) := by decide +kernel
theorem dL_law_1093 : decode (zB 168) 1093 = .ok (.if_icmp .eq 54, 3) := by decide +kernel
theorem dL_law_1096 : decode (zB 168) 1096 = .ok (.iconst 0, 1) := by decide +kernel
theorem dL_law_1097 : decode (zB 168) 1097 = .ok (.ireturn, 1) := by decide +kernel
theorem dL_law_1098 : decode (zB 168) 1098 = .ok (.aload_n 1, 1) := by decide +kernel
theorem dL_law_1099 : decode (zB 168) 1099 = .ok (.invokevirtual 133, 3) := by decide +kernel
theorem dL_law_1102 : decode (zB 168) 1102 = .ok (.aload_n 2, 1) := by decide +kernel
theorem dL_law_1103 : decode (zB 168) 1103 = .ok (.invokevirtual 136, 3) := by decide +kernel
theorem dL_law_1106 : decode (zB 168) 1106 = .ok (.if_icmp .eq 41, 3) := by decide +kernel
theorem dL_law_1109 : decode (zB 168) 1109 = .ok (.iconst 0, 1) := by decide +kernel
theorem dL_law_1110 : decode (zB 168) 1110 = .ok (.ireturn, 1) := by decide +kernel
theorem dL_law_1111 : decode (zB 168) 1111 = .ok (.aload_n 1, 1) := by decide +kernel
theorem dL_law_1112 : decode (zB 168) 1112 = .ok (.invokevirtual 137, 3) := by decide +kernel
theorem dL_law_1115 : decode (zB 168) 1115 = .ok (.aload_n 2, 1) := by decide +kernel
theorem dL_law_1116 : decode (zB 168) 1116 = .ok (.invokevirtual 140, 3) := by decide +kernel
theorem dL_law_1119 : decode (zB 168) 1119 = .ok (.if_icmp .eq 28, 3) := by decide +kernel
theorem dL_law_1122 : decode (zB 168) 1122 = .ok (.iconst 0, 1) := by decide +kernel
theorem dL_law_1123 : decode (zB 168) 1123 = .ok (.ireturn, 1) := by decide +kernel
theorem dL_law_1124 : decode (zB 168) 1124 = .ok (.aload_n 1, 1) := by decide +kernel
theorem dL_law_1125 : decode (zB 168) 1125 = .ok (.aload_n 0, 1) := by decide +kernel
theorem dL_law_1126 : decode (zB 168) 1126 = .ok (.iload_n 3, 1) := by decide +kernel
theorem dL_law_1127 : decode (zB 168) 1127 = .ok (.iconst 1, 1) := by decide +kernel
theorem dL_law_1128 : decode (zB 168) 1128 = .ok (.iadd, 1) := by decide +kernel
theorem dL_law_1129 : decode (zB 168) 1129 = .ok (.iaload, 1) := by decide +kernel
theorem dL_law_1130 : decode (zB 168) 1130 = .ok (.invokevirtual 141, 3) := by decide +kernel
theorem dL_law_1133 : decode (zB 168) 1133 = .ok (.aload_n 2, 1) := by decide +kernel
theorem dL_law_1134 : decode (zB 168) 1134 = .ok (.aload_n 0, 1) := by decide +kernel
theorem dL_law_1135 : decode (zB 168) 1135 = .ok (.iload_n 3, 1) := by decide +kernel
theorem dL_law_1136 : decode (zB 168) 1136 = .ok (.iconst 1, 1) := by decide +kernel
theorem dL_law_1137 : decode (zB 168) 1137 = .ok (.iadd, 1) := by decide +kernel
theorem dL_law_1138 : decode (zB 168) 1138 = .ok (.iaload, 1) := by decide +kernel
theorem dL_law_1139 : decode (zB 168) 1139 = .ok (.invokevirtual 144, 3) := by decide +kernel
theorem dL_law_1142 : decode (zB 168) 1142 = .ok (.if_icmp .eq 5, 3) := by decide +kernel
theorem dL_law_1145 : decode (zB 168) 1145 = .ok (.iconst 0, 1) := by decide +kernel
theorem dL_law_1146 : decode (zB 168) 1146 = .ok (.ireturn, 1) := by decide +kernel
theorem dL_law_1147 : decode (zB 168) 1147 = .ok (.iinc 3 6, 3) := by decide +kernel
theorem dL_law_1150 : decode (zB 168) 1150 = .ok (.goto (-1132), 3) := by decide +kernel
theorem dL_law_1153 : decode (zB 168) 1153 = .ok (.iconst 1, 1) := by decide +kernel
theorem dL_law_1154 : decode (zB 168) 1154 = .ok (.ireturn, 1) := by decide +kernel
