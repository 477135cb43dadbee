theorem d_L_law_18 : kf_dq cL_law 18 19 1 (.iload_n 3) := ⟨by decide +kernel, rfl⟩
theorem d_L_law_19 : kf_dq cL_law 19 20 1 (.aload_n 0) := ⟨by decide +kernel, rfl⟩
theorem d_L_law_20 : kf_dq cL_law 20 21 1 (.arraylength) := ⟨by decide +kernel, rfl⟩
theorem d_L_law_21 : kf_dq cL_law 21 23 2 (.bipush 6) := ⟨by decide +kernel, rfl⟩
theorem d_L_law_23 : kf_dq cL_law 23 24 1 (.isub) := ⟨by decide +kernel, rfl⟩
theorem d_L_law_24 : kf_dj cL_law 24 27 1477 (.if_icmp .gt) := ⟨1453, by decide +kernel, rfl, by decide⟩
theorem d_L_law_27 : kf_dq cL_law 27 28 1 (.aload_n 0) := ⟨by decide +kernel, rfl⟩
theorem d_L_law_28 : kf_dq cL_law 28 29 1 (.iload_n 3) := ⟨by decide +kernel, rfl⟩
theorem d_L_law_29 : kf_dq cL_law 29 30 1 (.iaload) := ⟨by decide +kernel, rfl⟩
theorem d_L_law_30 : kf_dq cL_law 30 32 2 (.bipush 63) := ⟨by decide +kernel, rfl⟩
theorem d_L_law_32 : kf_dq cL_law 32 33 1 (.iand) := ⟨by decide +kernel, rfl⟩
theorem d_L_law_33 : decode cL_law 33 = .ok (.tableswitch 1438 0 40 #[179, 242, 265, 278, 291, 324, 357, 390, 423, 466, 499, 522, 555, 604, 627, 640, 683, 726, 759, 782, 805, 828, 851, 884, 917, 940, 973, 1006, 1039, 1072, 1105, 1128, 1171, 1204, 1257, 1300, 1313, 1346, 1369, 1392, 1415], 179) := by decide +kernel
theorem d_L_law_212 : kf_dq cL_law 212 213 1 (.aload_n 1) := ⟨by decide +kernel, rfl⟩
theorem d_L_law_213 : kf_dq cL_law 213 214 1 (.aload_n 0) := ⟨by decide +kernel, rfl⟩
theorem d_L_law_214 : kf_dq cL_law 214 215 1 (.iload_n 3) := ⟨by decide +kernel, rfl⟩
theorem d_L_law_215 : kf_dq cL_law 215 216 1 (.iconst 1) := ⟨by decide +kernel, rfl⟩
theorem d_L_law_216 : kf_dq cL_law 216 217 1 (.iadd) := ⟨by decide +kernel, rfl⟩
theorem d_L_law_217 : kf_dq cL_law 217 218 1 (.iaload) := ⟨by decide +kernel, rfl⟩
theorem d_L_law_218 : kf_dq cL_law 218 219 1 (.aload_n 0) := ⟨by decide +kernel, rfl⟩
theorem d_L_law_219 : kf_dq cL_law 219 220 1 (.iload_n 3) := ⟨by decide +kernel, rfl⟩
theorem d_L_law_220 : kf_dq cL_law 220 221 1 (.iconst 2) := ⟨by decide +kernel, rfl⟩
theorem d_L_law_221 : kf_dq cL_law 221 222 1 (.iadd) := ⟨by decide +kernel, rfl⟩
theorem d_L_law_222 : kf_dq cL_law 222 223 1 (.iaload) := ⟨by decide +kernel, rfl⟩
theorem d_L_law_223 : kf_dq cL_law 223 224 1 (.aload_n 0) := ⟨by decide +kernel, rfl⟩
theorem d_L_law_224 : kf_dq cL_law 224 225 1 (.iload_n 3) := ⟨by decide +kernel, rfl⟩
theorem d_L_law_225 : kf_dq cL_law 225 226 1 (.iconst 3) := ⟨by decide +kernel, rfl⟩
theorem d_L_law_226 : kf_dq cL_law 226 227 1 (.iadd) := ⟨by decide +kernel, rfl⟩
theorem d_L_law_227 : kf_dq cL_law 227 228 1 (.iaload) := ⟨by decide +kernel, rfl⟩
theorem d_L_law_228 : kf_dq cL_law 228 229 1 (.aload_n 0) := ⟨by decide +kernel, rfl⟩
theorem d_L_law_229 : kf_dq cL_law 229 230 1 (.iload_n 3) := ⟨by decide +kernel, rfl⟩
theorem d_L_law_230 : kf_dq cL_law 230 231 1 (.iconst 4) := ⟨by decide +kernel, rfl⟩
theorem d_L_law_231 : kf_dq cL_law 231 232 1 (.iadd) := ⟨by decide +kernel, rfl⟩
theorem d_L_law_232 : kf_dq cL_law 232 233 1 (.iaload) := ⟨by decide +kernel, rfl⟩
theorem d_L_law_233 : kf_dq cL_law 233 234 1 (.aload_n 0) := ⟨by decide +kernel, rfl⟩
theorem d_L_law_234 : kf_dq cL_law 234 235 1 (.iload_n 3) := ⟨by decide +kernel, rfl⟩
theorem d_L_law_235 : kf_dq cL_law 235 236 1 (.iconst 5) := ⟨by decide +kernel, rfl⟩
theorem d_L_law_236 : kf_dq cL_law 236 237 1 (.iadd) := ⟨by decide +kernel, rfl⟩
theorem d_L_law_237 : kf_dq cL_law 237 238 1 (.iaload) := ⟨by decide +kernel, rfl⟩
theorem d_L_law_238 : kf_dq cL_law 238 241 3 (.invokevirtual 13) := ⟨by decide +kernel, rfl⟩
theorem d_L_law_241 : kf_dq cL_law 241 242 1 (.aload_n 2) := ⟨by decide +kernel, rfl⟩
theorem d_L_law_242 : kf_dq cL_law 242 243 1 (.aload_n 0) := ⟨by decide +kernel, rfl⟩
theorem d_L_law_243 : kf_dq cL_law 243 244 1 (.iload_n 3) := ⟨by decide +kernel, rfl⟩
theorem d_L_law_244 : kf_dq cL_law 244 245 1 (.iconst 1) := ⟨by decide +kernel, rfl⟩
theorem d_L_law_245 : kf_dq cL_law 245 246 1 (.iadd) := ⟨by decide +kernel, rfl⟩
theorem d_L_law_246 : kf_dq cL_law 246 247 1 (.iaload) := ⟨by decide +kernel, rfl⟩
theorem d_L_law_247 : kf_dq cL_law 247 248 1 (.aload_n 0) := ⟨by decide +kernel, rfl⟩
theorem d_L_law_248 : kf_dq cL_law 248 249 1 (.iload_n 3) := ⟨by decide +kernel, rfl⟩
theorem d_L_law_249 : kf_dq cL_law 249 250 1 (.iconst 2) := ⟨by decide +kernel, rfl⟩
theorem d_L_law_250 : kf_dq cL_law 250 251 1 (.iadd) := ⟨by decide +kernel, rfl⟩
theorem d_L_law_251 : kf_dq cL_law 251 252 1 (.iaload) := ⟨by decide +kernel, rfl⟩
theorem d_L_law_252 : kf_dq cL_law 252 253 1 (.aload_n 0) := ⟨by decide +kernel, rfl⟩
theorem d_L_law_253 : kf_dq cL_law 253 254 1 (.iload_n 3) := ⟨by decide +kernel, rfl⟩
theorem d_L_law_254 : kf_dq cL_law 254 255 1 (.iconst 3) := ⟨by decide +kernel, rfl⟩
theorem d_L_law_255 : kf_dq cL_law 255 256 1 (.iadd) := ⟨by decide +kernel, rfl⟩
theorem d_L_law_256 : kf_dq cL_law 256 257 1 (.iaload) := ⟨by decide +kernel, rfl⟩
theorem d_L_law_257 : kf_dq cL_law 257 258 1 (.aload_n 0) := ⟨by decide +kernel, rfl⟩
theorem d_L_law_258 : kf_dq cL_law 258 259 1 (.iload_n 3) := ⟨by decide +kernel, rfl⟩
theorem d_L_law_259 : kf_dq cL_law 259 260 1 (.iconst 4) := ⟨by decide +kernel, rfl⟩
theorem d_L_law_260 : kf_dq cL_law 260 261 1 (.iadd) := ⟨by decide +kernel, rfl⟩
theorem d_L_law_261 : kf_dq cL_law 261 262 1 (.iaload) := ⟨by decide +kernel, rfl⟩
theorem d_L_law_262 : kf_dq cL_law 262 263 1 (.aload_n 0) := ⟨by decide +kernel, rfl⟩
theorem d_L_law_263 : kf_dq cL_law 263 264 1 (.iload_n 3) := ⟨by decide +kernel, rfl⟩
theorem d_L_law_264 : kf_dq cL_law 264 265 1 (.iconst 5) := ⟨by decide +kernel, rfl⟩
theorem d_L_law_265 : kf_dq cL_law 265 266 1 (.iadd) := ⟨by decide +kernel, rfl⟩
theorem d_L_law_266 : kf_dq cL_law 266 267 1 (.iaload) := ⟨by decide +kernel, rfl⟩
theorem d_L_law_267 : kf_dq cL_law 267 270 3 (.invokevirtual 17) := ⟨by decide +kernel, rfl⟩
theorem d_L_law_270 : kf_dj cL_law 270 273 1471 (.if_icmp .eq) := ⟨1201, by decide +kernel, rfl, by decide⟩
theorem d_L_law_273 : kf_dq cL_law 273 274 1 (.iconst 0) := ⟨by decide +kernel, rfl⟩
theorem d_L_law_274 : kf_dq cL_law 274 275 1 (.ireturn) := ⟨by decide +kernel, rfl⟩
theorem d_L_law_275 : kf_dq cL_law 275 276 1 (.aload_n 1) := ⟨by decide +kernel, rfl⟩
theorem d_L_law_276 : kf_dq cL_law 276 277 1 (.aload_n 0) := ⟨by decide +kernel, rfl⟩
theorem d_L_law_277 : kf_dq cL_law 277 278 1 (.iload_n 3) := ⟨by decide +kernel, rfl⟩
theorem d_L_law_278 : kf_dq cL_law 278 279 1 (.iconst 1) := ⟨by decide +kernel, rfl⟩
theorem d_L_law_279 : kf_dq cL_law 279 280 1 (.iadd) := ⟨by decide +kernel, rfl⟩
theorem d_L_law_280 : kf_dq cL_law 280 281 1 (.iaload) := ⟨by decide +kernel, rfl⟩
theorem d_L_law_281 : kf_dq cL_law 281 284 3 (.invokevirtual 18) := ⟨by decide +kernel, rfl⟩
theorem d_L_law_284 : kf_dq cL_law 284 285 1 (.aload_n 2) := ⟨by decide +kernel, rfl⟩
theorem d_L_law_285 : kf_dq cL_law 285 286 1 (.aload_n 0) := ⟨by decide +kernel, rfl⟩
theorem d_L_law_286 : kf_dq cL_law 286 287 1 (.iload_n 3) := ⟨by decide +kernel, rfl⟩
theorem d_L_law_287 : kf_dq cL_law 287 288 1 (.iconst 1) := ⟨by decide +kernel, rfl⟩
theorem d_L_law_288 : kf_dq cL_law 288 289 1 (.iadd) := ⟨by decide +kernel, rfl⟩
theorem d_L_law_289 : kf_dq cL_law 289 290 1 (.iaload) := ⟨by decide +kernel, rfl⟩
theorem d_L_law_290 : kf_dq cL_law 290 293 3 (.invokevirtual 22) := ⟨by decide +kernel, rfl⟩
theorem d_L_law_293 : kf_dj cL_law 293 296 1471 (.if_icmp .eq) := ⟨1178, by decide +kernel, rfl, by decide⟩
theorem d_L_law_296 : kf_dq cL_law 296 297 1 (.iconst 0) := ⟨by decide +kernel, rfl⟩
theorem d_L_law_297 : kf_dq cL_law 297 298 1 (.ireturn) := ⟨by decide +kernel, rfl⟩
theorem d_L_law_298 : kf_dq cL_law 298 299 1 (.aload_n 1) := ⟨by decide +kernel, rfl⟩
theorem d_L_law_299 : kf_dq cL_law 299 302 3 (.invokevirtual 23) := ⟨by decide +kernel, rfl⟩
theorem d_L_law_302 : kf_dq cL_law 302 303 1 (.aload_n 2) := ⟨by decide +kernel, rfl⟩
theorem d_L_law_303 : kf_dq cL_law 303 306 3 (.invokevirtual 27) := ⟨by decide +kernel, rfl⟩
theorem d_L_law_306 : kf_dj cL_law 306 309 1471 (.if_icmp .eq) := ⟨1165, by decide +kernel, rfl, by decide⟩
theorem d_L_law_309 : kf_dq cL_law 309 310 1 (.iconst 0) := ⟨by decide +kernel, rfl⟩
theorem d_L_law_310 : kf_dq cL_law 310 311 1 (.ireturn) := ⟨by decide +kernel, rfl⟩
theorem d_L_law_311 : kf_dq cL_law 311 312 1 (.aload_n 1) := ⟨by decide +kernel, rfl⟩
theorem d_L_law_312 : kf_dq cL_law 312 315 3 (.invokevirtual 28) := ⟨by decide +kernel, rfl⟩
theorem d_L_law_315 : kf_dq cL_law 315 316 1 (.aload_n 2) := ⟨by decide +kernel, rfl⟩
theorem d_L_law_316 : kf_dq cL_law 316 319 3 (.invokevirtual 31) := ⟨by decide +kernel, rfl⟩
theorem d_L_law_319 : kf_dj cL_law 319 322 1471 (.if_icmp .eq) := ⟨1152, by decide +kernel, rfl, by decide⟩
theorem d_L_law_322 : kf_dq cL_law 322 323 1 (.iconst 0) := ⟨by decide +kernel, rfl⟩
theorem d_L_law_323 : kf_dq cL_law 323 324 1 (.ireturn) := ⟨by decide +kernel, rfl⟩
theorem d_L_law_324 : kf_dq cL_law 324 325 1 (.aload_n 1) := ⟨by decide +kernel, rfl⟩
theorem d_L_law_325 : kf_dq cL_law 325 326 1 (.aload_n 0) := ⟨by decide +kernel, rfl⟩
theorem d_L_law_326 : kf_dq cL_law 326 327 1 (.iload_n 3) := ⟨by decide +kernel, rfl⟩
theorem d_L_law_327 : kf_dq cL_law 327 328 1 (.iconst 1) := ⟨by decide +kernel, rfl⟩
theorem d_L_law_328 : kf_dq cL_law 328 329 1 (.iadd) := ⟨by decide +kernel, rfl⟩
theorem d_L_law_329 : kf_dq cL_law 329 330 1 (.iaload) := ⟨by decide +kernel, rfl⟩
theorem d_L_law_330 : kf_dq cL_law 330 331 1 (.aload_n 0) := ⟨by decide +kernel, rfl⟩
theorem d_L_law_331 : kf_dq cL_law 331 332 1 (.iload_n 3) := ⟨by decide +kernel, rfl⟩
theorem d_L_law_332 : kf_dq cL_law 332 333 1 (.iconst 2) := ⟨by decide +kernel, rfl⟩
theorem d_L_law_333 : kf_dq cL_law 333 334 1 (.iadd) := ⟨by decide +kernel, rfl⟩
theorem d_L_law_334 : kf_dq cL_law 334 335 1 (.iaload) := ⟨by decide +kernel, rfl⟩
theorem d_L_law_335 : kf_dq cL_law 335 338 3 (.invokevirtual 32) := ⟨by decide +kernel, rfl⟩
theorem d_L_law_338 : kf_dq cL_law 338 339 1 (.aload_n 2) := ⟨by decide +kernel, rfl⟩
theorem d_L_law_339 : kf_dq cL_law 339 340 1 (.aload_n 0) := ⟨by decide +kernel, rfl⟩
theorem d_L_law_340 : kf_dq cL_law 340 341 1 (.iload_n 3) := ⟨by decide +kernel, rfl⟩
theorem d_L_law_341 : kf_dq cL_law 341 342 1 (.iconst 1) := ⟨by decide +kernel, rfl⟩
theorem d_L_law_342 : kf_dq cL_law 342 343 1 (.iadd) := ⟨by decide +kernel, rfl⟩
theorem d_L_law_343 : kf_dq cL_law 343 344 1 (.iaload) := ⟨by decide +kernel, rfl⟩
theorem d_L_law_344 : kf_dq cL_law 344 345 1 (.aload_n 0) := ⟨by decide +kernel, rfl⟩
theorem d_L_law_345 : kf_dq cL_law 345 346 1 (.iload_n 3) := ⟨by decide +kernel, rfl⟩
theorem d_L_law_346 : kf_dq cL_law 346 347 1 (.iconst 2) := ⟨by decide +kernel, rfl⟩
theorem d_L_law_347 : kf_dq cL_law 347 348 1 (.iadd) := ⟨by decide +kernel, rfl⟩
theorem d_L_law_348 : kf_dq cL_law 348 349 1 (.iaload) := ⟨by decide +kernel, rfl⟩
theorem d_L_law_349 : kf_dq cL_law 349 352 3 (.invokevirtual 36) := ⟨by decide +kernel, rfl⟩
theorem d_L_law_352 : kf_dj cL_law 352 355 1471 (.if_icmp .eq) := ⟨1119, by decide +kernel, rfl, by decide⟩
theorem d_L_law_355 : kf_dq cL_law 355 356 1 (.iconst 0) := ⟨by decide +kernel, rfl⟩
theorem d_L_law_356 : kf_dq cL_law 356 357 1 (.ireturn) := ⟨by decide +kernel, rfl⟩
theorem d_L_law_357 : kf_dq cL_law 357 358 1 (.aload_n 1) := ⟨by decide +kernel, rfl⟩
theorem d_L_law_358 : kf_dq cL_law 358 359 1 (.aload_n 0) := ⟨by decide +kernel, rfl⟩
theorem d_L_law_359 : kf_dq cL_law 359 360 1 (.iload_n 3) := ⟨by decide +kernel, rfl⟩
theorem d_L_law_360 : kf_dq cL_law 360 361 1 (.iconst 1) := ⟨by decide +kernel, rfl⟩
theorem d_L_law_361 : kf_dq cL_law 361 362 1 (.iadd) := ⟨by decide +kernel, rfl⟩
theorem d_L_law_362 : kf_dq cL_law 362 363 1 (.iaload) := ⟨by decide +kernel, rfl⟩
theorem d_L_law_363 : kf_dq cL_law 363 364 1 (.aload_n 0) := ⟨by decide +kernel, rfl⟩
theorem d_L_law_364 : kf_dq cL_law 364 365 1 (.iload_n 3) := ⟨by decide +kernel, rfl⟩
theorem d_L_law_365 : kf_dq cL_law 365 366 1 (.iconst 2) := ⟨by decide +kernel, rfl⟩
theorem d_L_law_366 : kf_dq cL_law 366 367 1 (.iadd) := ⟨by decide +kernel, rfl⟩
theorem d_L_law_367 : kf_dq cL_law 367 368 1 (.iaload) := ⟨by decide +kernel, rfl⟩
theorem d_L_law_368 : kf_dq cL_law 368 371 3 (.invokevirtual 37) := ⟨by decide +kernel, rfl⟩
theorem d_L_law_371 : kf_dq cL_law 371 372 1 (.aload_n 2) := ⟨by decide +kernel, rfl⟩
theorem d_L_law_372 : kf_dq cL_law 372 373 1 (.aload_n 0) := ⟨by decide +kernel, rfl⟩
theorem d_L_law_373 : kf_dq cL_law 373 374 1 (.iload_n 3) := ⟨by decide +kernel, rfl⟩
theorem d_L_law_374 : kf_dq cL_law 374 375 1 (.iconst 1) := ⟨by decide +kernel, rfl⟩
theorem d_L_law_375 : kf_dq cL_law 375 376 1 (.iadd) := ⟨by decide +kernel, rfl⟩
theorem d_L_law_376 : kf_dq cL_law 376 377 1 (.iaload) := ⟨by decide +kernel, rfl⟩
theorem d_L_law_377 : kf_dq cL_law 377 378 1 (.aload_n 0) := ⟨by decide +kernel, rfl⟩
theorem d_L_law_378 : kf_dq cL_law 378 379 1 (.iload_n 3) := ⟨by decide +kernel, rfl⟩
theorem d_L_law_379 : kf_dq cL_law 379 380 1 (.iconst 2) := ⟨by decide +kernel, rfl⟩
theorem d_L_law_380 : kf_dq cL_law 380 381 1 (.iadd) := ⟨by decide +kernel, rfl⟩
theorem d_L_law_381 : kf_dq cL_law 381 382 1 (.iaload) := ⟨by decide +kernel, rfl⟩
theorem d_L_law_382 : kf_dq cL_law 382 385 3 (.invokevirtual 40) := ⟨by decide +kernel, rfl⟩
theorem d_L_law_385 : kf_dj cL_law 385 388 1471 (.if_icmp .eq) := ⟨1086, by decide +kernel, rfl, by decide⟩
theorem d_L_law_388 : kf_dq cL_law 388 389 1 (.iconst 0) := ⟨by decide +kernel, rfl⟩
theorem d_L_law_389 : kf_dq cL_law 389 390 1 (.ireturn) := ⟨by decide +kernel, rfl⟩
theorem d_L_law_390 : kf_dq cL_law 390 391 1 (.aload_n 1) := ⟨by decide +kernel, rfl⟩
theorem d_L_law_391 : kf_dq cL_law 391 392 1 (.aload_n 0) := ⟨by decide +kernel, rfl⟩
theorem d_L_law_392 : kf_dq cL_law 392 393 1 (.iload_n 3) := ⟨by decide +kernel, rfl⟩
theorem d_L_law_393 : kf_dq cL_law 393 394 1 (.iconst 1) := ⟨by decide +kernel, rfl⟩
theorem d_L_law_394 : kf_dq cL_law 394 395 1 (.iadd) := ⟨by decide +kernel, rfl⟩
theorem d_L_law_395 : kf_dq cL_law 395 396 1 (.iaload) := ⟨by decide +kernel, rfl⟩
theorem d_L_law_396 : kf_dq cL_law 396 397 1 (.aload_n 0) := ⟨by decide +kernel, rfl⟩
theorem d_L_law_397 : kf_dq cL_law 397 398 1 (.iload_n 3) := ⟨by decide +kernel, rfl⟩
theorem d_L_law_398 : kf_dq cL_law 398 399 1 (.iconst 2) := ⟨by decide +kernel, rfl⟩
theorem d_L_law_399 : kf_dq cL_law 399 400 1 (.iadd) := ⟨by decide +kernel, rfl⟩
theorem d_L_law_400 : kf_dq cL_law 400 401 1 (.iaload) := ⟨by decide +kernel, rfl⟩
theorem d_L_law_401 : kf_dq cL_law 401 404 3 (.invokevirtual 41) := ⟨by decide +kernel, rfl⟩
theorem d_L_law_404 : kf_dq cL_law 404 405 1 (.aload_n 2) := ⟨by decide +kernel, rfl⟩
theorem d_L_law_405 : kf_dq cL_law 405 406 1 (.aload_n 0) := ⟨by decide +kernel, rfl⟩
theorem d_L_law_406 : kf_dq cL_law 406 407 1 (.iload_n 3) := ⟨by decide +kernel, rfl⟩
theorem d_L_law_407 : kf_dq cL_law 407 408 1 (.iconst 1) := ⟨by decide +kernel, rfl⟩
theorem d_L_law_408 : kf_dq cL_law 408 409 1 (.iadd) := ⟨by decide +kernel, rfl⟩
theorem d_L_law_409 : kf_dq cL_law 409 410 1 (.iaload) := ⟨by decide +kernel, rfl⟩
theorem d_L_law_410 : kf_dq cL_law 410 411 1 (.aload_n 0) := ⟨by decide +kernel, rfl⟩
theorem d_L_law_411 : kf_dq cL_law 411 412 1 (.iload_n 3) := ⟨by decide +kernel, rfl⟩
theorem d_L_law_412 : kf_dq cL_law 412 413 1 (.iconst 2) := ⟨by decide +kernel, rfl⟩
theorem d_L_law_413 : kf_dq cL_law 413 414 1 (.iadd) := ⟨by decide +kernel, rfl⟩
theorem d_L_law_414 : kf_dq cL_law 414 415 1 (.iaload) := ⟨by decide +kernel, rfl⟩
theorem d_L_law_415 : kf_dq cL_law 415 418 3 (.invokevirtual 44) := ⟨by decide +kernel, rfl⟩
theorem d_L_law_418 : kf_dj cL_law 418 421 1471 (.if_icmp .eq) := ⟨1053, by decide +kernel, rfl, by decide⟩
theorem d_L_law_421 : kf_dq cL_law 421 422 1 (.iconst 0) := ⟨by decide +kernel, rfl⟩
theorem d_L_law_422 : kf_dq cL_law 422 423 1 (.ireturn) := ⟨by decide +kernel, rfl⟩
theorem d_L_law_423 : kf_dq cL_law 423 424 1 (.aload_n 1) := ⟨by decide +kernel, rfl⟩
theorem d_L_law_424 : kf_dq cL_law 424 425 1 (.aload_n 0) := ⟨by decide +kernel, rfl⟩
theorem d_L_law_425 : kf_dq cL_law 425 426 1 (.iload_n 3) := ⟨by decide +kernel, rfl⟩
theorem d_L_law_426 : kf_dq cL_law 426 427 1 (.iconst 1) := ⟨by decide +kernel, rfl⟩
theorem d_L_law_427 : kf_dq cL_law 427 428 1 (.iadd) := ⟨by decide +kernel, rfl⟩
theorem d_L_law_428 : kf_dq cL_law 428 429 1 (.iaload) := ⟨by decide +kernel, rfl⟩
theorem d_L_law_429 : kf_dq cL_law 429 430 1 (.aload_n 0) := ⟨by decide +kernel, rfl⟩
theorem d_L_law_430 : kf_dq cL_law 430 431 1 (.iload_n 3) := ⟨by decide +kernel, rfl⟩
theorem d_L_law_431 : kf_dq cL_law 431 432 1 (.iconst 2) := ⟨by decide +kernel, rfl⟩
theorem d_L_law_432 : kf_dq cL_law 432 433 1 (.iadd) := ⟨by decide +kernel, rfl⟩
theorem d_L_law_433 : kf_dq cL_law 433 434 1 (.iaload) := ⟨by decide +kernel, rfl⟩
theorem d_L_law_434 : kf_dq cL_law 434 437 3 (.invokevirtual 45) := ⟨by decide +kernel, rfl⟩
theorem d_L_law_437 : kf_dq cL_law 437 438 1 (.aload_n 2) := ⟨by decide +kernel, rfl⟩
theorem d_L_law_438 : kf_dq cL_law 438 439 1 (.aload_n 0) := ⟨by decide +kernel, rfl⟩
theorem d_L_law_439 : kf_dq cL_law 439 440 1 (.iload_n 3) := ⟨by decide +kernel, rfl⟩
theorem d_L_law_440 : kf_dq cL_law 440 441 1 (.iconst 1) := ⟨by decide +kernel, rfl⟩
theorem d_L_law_441 : kf_dq cL_law 441 442 1 (.iadd) := ⟨by decide +kernel, rfl⟩
theorem d_L_law_442 : kf_dq cL_law 442 443 1 (.iaload) := ⟨by decide +kernel, rfl⟩
theorem d_L_law_443 : kf_dq cL_law 443 444 1 (.aload_n 0) := ⟨by decide +kernel, rfl⟩
theorem d_L_law_444 : kf_dq cL_law 444 445 1 (.iload_n 3) := ⟨by decide +kernel, rfl⟩
theorem d_L_law_445 : kf_dq cL_law 445 446 1 (.iconst 2) := ⟨by decide +kernel, rfl⟩
theorem d_L_law_446 : kf_dq cL_law 446 447 1 (.iadd) := ⟨by decide +kernel, rfl⟩
theorem d_L_law_447 : kf_dq cL_law 447 448 1 (.iaload) := ⟨by decide +kernel, rfl⟩
theorem d_L_law_448 : kf_dq cL_law 448 451 3 (.invokevirtual 48) := ⟨by decide +kernel, rfl⟩
theorem d_L_law_451 : kf_dj cL_law 451 454 1471 (.if_icmp .eq) := ⟨1020, by decide +kernel, rfl, by decide⟩
theorem d_L_law_454 : kf_dq cL_law 454 455 1 (.iconst 0) := ⟨by decide +kernel, rfl⟩
theorem d_L_law_455 : kf_dq cL_law 455 456 1 (.ireturn) := ⟨by decide +kernel, rfl⟩
theorem d_L_law_456 : kf_dq cL_law 456 457 1 (.aload_n 1) := ⟨by decide +kernel, rfl⟩
theorem d_L_law_457 : kf_dq cL_law 457 458 1 (.aload_n 0) := ⟨by decide +kernel, rfl⟩
theorem d_L_law_458 : kf_dq cL_law 458 459 1 (.iload_n 3) := ⟨by decide +kernel, rfl⟩
theorem d_L_law_459 : kf_dq cL_law 459 460 1 (.iconst 1) := ⟨by decide +kernel, rfl⟩
theorem d_L_law_460 : kf_dq cL_law 460 461 1 (.iadd) := ⟨by decide +kernel, rfl⟩
theorem d_L_law_461 : kf_dq cL_law 461 462 1 (.iaload) := ⟨by decide +kernel, rfl⟩
theorem d_L_law_462 : kf_dq cL_law 462 463 1 (.aload_n 0) := ⟨by decide +kernel, rfl⟩
theorem d_L_law_463 : kf_dq cL_law 463 464 1 (.iload_n 3) := ⟨by decide +kernel, rfl⟩
theorem d_L_law_464 : kf_dq cL_law 464 465 1 (.iconst 2) := ⟨by decide +kernel, rfl⟩
theorem d_L_law_465 : kf_dq cL_law 465 466 1 (.iadd) := ⟨by decide +kernel, rfl⟩
theorem d_L_law_466 : kf_dq cL_law 466 467 1 (.iaload) := ⟨by decide +kernel, rfl⟩
theorem d_L_law_467 : kf_dq cL_law 467 468 1 (.aload_n 0) := ⟨by decide +kernel, rfl⟩
theorem d_L_law_468 : kf_dq cL_law 468 469 1 (.iload_n 3) := ⟨by decide +kernel, rfl⟩
theorem d_L_law_469 : kf_dq cL_law 469 470 1 (.iconst 3) := ⟨by decide +kernel, rfl⟩
theorem d_L_law_470 : kf_dq cL_law 470 471 1 (.iadd) := ⟨by decide +kernel, rfl⟩
theorem d_L_law_471 : kf_dq cL_law 471 472 1 (.iaload) := ⟨by decide +kernel, rfl⟩
theorem d_L_law_472 : kf_dq cL_law 472 475 3 (.invokevirtual 49) := ⟨by decide +kernel, rfl⟩
theorem d_L_law_475 : kf_dq cL_law 475 476 1 (.aload_n 2) := ⟨by decide +kernel, rfl⟩
theorem d_L_law_476 : kf_dq cL_law 476 477 1 (.aload_n 0) := ⟨by decide +kernel, rfl⟩
theorem d_L_law_477 : kf_dq cL_law 477 478 1 (.iload_n 3) := ⟨by decide +kernel, rfl⟩
theorem d_L_law_478 : kf_dq cL_law 478 479 1 (.iconst 1) := ⟨by decide +kernel, rfl⟩
theorem d_L_law_479 : kf_dq cL_law 479 480 1 (.iadd) := ⟨by decide +kernel, rfl⟩
theorem d_L_law_480 : kf_dq cL_law 480 481 1 (.iaload) := ⟨by decide +kernel, rfl⟩
theorem d_L_law_481 : kf_dq cL_law 481 482 1 (.aload_n 0) := ⟨by decide +kernel, rfl⟩
theorem d_L_law_482 : kf_dq cL_law 482 483 1 (.iload_n 3) := ⟨by decide +kernel, rfl⟩
theorem d_L_law_483 : kf_dq cL_law 483 484 1 (.iconst 2) := ⟨by decide +kernel, rfl⟩
theorem d_L_law_484 : kf_dq cL_law 484 485 1 (.iadd) := ⟨by decide +kernel, rfl⟩
theorem d_L_law_485 : kf_dq cL_law 485 486 1 (.iaload) := ⟨by decide +kernel, rfl⟩
theorem d_L_law_486 : kf_dq cL_law 486 487 1 (.aload_n 0) := ⟨by decide +kernel, rfl⟩
theorem d_L_law_487 : kf_dq cL_law 487 488 1 (.iload_n 3) := ⟨by decide +kernel, rfl⟩
theorem d_L_law_488 : kf_dq cL_law 488 489 1 (.iconst 3) := ⟨by decide +kernel, rfl⟩
theorem d_L_law_489 : kf_dq cL_law 489 490 1 (.iadd) := ⟨by decide +kernel, rfl⟩
theorem d_L_law_490 : kf_dq cL_law 490 491 1 (.iaload) := ⟨by decide +kernel, rfl⟩
theorem d_L_law_491 : kf_dq cL_law 491 494 3 (.invokevirtual 53) := ⟨by decide +kernel, rfl⟩
theorem d_L_law_494 : kf_dj cL_law 494 497 1471 (.if_icmp .eq) := ⟨977, by decide +kernel, rfl, by decide⟩
theorem d_L_law_497 : kf_dq cL_law 497 498 1 (.iconst 0) := ⟨by decide +kernel, rfl⟩
theorem d_L_law_498 : kf_dq cL_law 498 499 1 (.ireturn) := ⟨by decide +kernel, rfl⟩
theorem d_L_law_499 : kf_dq cL_law 499 500 1 (.aload_n 1) := ⟨by decide +kernel, rfl⟩
theorem d_L_law_500 : kf_dq cL_law 500 501 1 (.aload_n 0) := ⟨by decide +kernel, rfl⟩
theorem d_L_law_501 : kf_dq cL_law 501 502 1 (.iload_n 3) := ⟨by decide +kernel, rfl⟩
theorem d_L_law_502 : kf_dq cL_law 502 503 1 (.iconst 1) := ⟨by decide +kernel, rfl⟩
theorem d_L_law_503 : kf_dq cL_law 503 504 1 (.iadd) := ⟨by decide +kernel, rfl⟩
theorem d_L_law_504 : kf_dq cL_law 504 505 1 (.iaload) := ⟨by decide +kernel, rfl⟩
theorem d_L_law_505 : kf_dq cL_law 505 506 1 (.aload_n 0) := ⟨by decide +kernel, rfl⟩
theorem d_L_law_506 : kf_dq cL_law 506 507 1 (.iload_n 3) := ⟨by decide +kernel, rfl⟩
theorem d_L_law_507 : kf_dq cL_law 507 508 1 (.iconst 2) := ⟨by decide +kernel, rfl⟩
theorem d_L_law_508 : kf_dq cL_law 508 509 1 (.iadd) := ⟨by decide +kernel, rfl⟩
theorem d_L_law_509 : kf_dq cL_law 509 510 1 (.iaload) := ⟨by decide +kernel, rfl⟩
theorem d_L_law_510 : kf_dq cL_law 510 513 3 (.invokevirtual 54) := ⟨by decide +kernel, rfl⟩
theorem d_L_law_513 : kf_dq cL_law 513 514 1 (.aload_n 2) := ⟨by decide +kernel, rfl⟩
theorem d_L_law_514 : kf_dq cL_law 514 515 1 (.aload_n 0) := ⟨by decide +kernel, rfl⟩
theorem d_L_law_515 : kf_dq cL_law 515 516 1 (.iload_n 3) := ⟨by decide +kernel, rfl⟩
theorem d_L_law_516 : kf_dq cL_law 516 517 1 (.iconst 1) := ⟨by decide +kernel, rfl⟩
theorem d_L_law_517 : kf_dq cL_law 517 518 1 (.iadd) := ⟨by decide +kernel, rfl⟩
theorem d_L_law_518 : kf_dq cL_law 518 519 1 (.iaload) := ⟨by decide +kernel, rfl⟩
theorem d_L_law_519 : kf_dq cL_law 519 520 1 (.aload_n 0) := ⟨by decide +kernel, rfl⟩
theorem d_L_law_520 : kf_dq cL_law 520 521 1 (.iload_n 3) := ⟨by decide +kernel, rfl⟩
theorem d_L_law_521 : kf_dq cL_law 521 522 1 (.iconst 2) := ⟨by decide +kernel, rfl⟩
theorem d_L_law_522 : kf_dq cL_law 522 523 1 (.iadd) := ⟨by decide +kernel, rfl⟩
theorem d_L_law_523 : kf_dq cL_law 523 524 1 (.iaload) := ⟨by decide +kernel, rfl⟩
theorem d_L_law_524 : kf_dq cL_law 524 527 3 (.invokevirtual 58) := ⟨by decide +kernel, rfl⟩
theorem d_L_law_527 : kf_dj cL_law 527 530 1471 (.if_icmp .eq) := ⟨944, by decide +kernel, rfl, by decide⟩
theorem d_L_law_530 : kf_dq cL_law 530 531 1 (.iconst 0) := ⟨by decide +kernel, rfl⟩
theorem d_L_law_531 : kf_dq cL_law 531 532 1 (.ireturn) := ⟨by decide +kernel, rfl⟩
theorem d_L_law_532 : kf_dq cL_law 532 533 1 (.aload_n 1) := ⟨by decide +kernel, rfl⟩
theorem d_L_law_533 : kf_dq cL_law 533 534 1 (.aload_n 0) := ⟨by decide +kernel, rfl⟩
theorem d_L_law_534 : kf_dq cL_law 534 535 1 (.iload_n 3) := ⟨by decide +kernel, rfl⟩
theorem d_L_law_535 : kf_dq cL_law 535 536 1 (.iconst 1) := ⟨by decide +kernel, rfl⟩
theorem d_L_law_536 : kf_dq cL_law 536 537 1 (.iadd) := ⟨by decide +kernel, rfl⟩
theorem d_L_law_537 : kf_dq cL_law 537 538 1 (.iaload) := ⟨by decide +kernel, rfl⟩
theorem d_L_law_538 : kf_dq cL_law 538 541 3 (.invokevirtual 59) := ⟨by decide +kernel, rfl⟩
theorem d_L_law_541 : kf_dq cL_law 541 542 1 (.aload_n 2) := ⟨by decide +kernel, rfl⟩
theorem d_L_law_542 : kf_dq cL_law 542 543 1 (.aload_n 0) := ⟨by decide +kernel, rfl⟩
theorem d_L_law_543 : kf_dq cL_law 543 544 1 (.iload_n 3) := ⟨by decide +kernel, rfl⟩
theorem d_L_law_544 : kf_dq cL_law 544 545 1 (.iconst 1) := ⟨by decide +kernel, rfl⟩
theorem d_L_law_545 : kf_dq cL_law 545 546 1 (.iadd) := ⟨by decide +kernel, rfl⟩
theorem d_L_law_546 : kf_dq cL_law 546 547 1 (.iaload) := ⟨by decide +kernel, rfl⟩
theorem d_L_law_547 : kf_dq cL_law 547 550 3 (.invokevirtual 63) := ⟨by decide +kernel, rfl⟩
theorem d_L_law_550 : kf_dj cL_law 550 553 1471 (.if_icmp .eq) := ⟨921, by decide +kernel, rfl, by decide⟩
theorem d_L_law_553 : kf_dq cL_law 553 554 1 (.iconst 0) := ⟨by decide +kernel, rfl⟩
theorem d_L_law_554 : kf_dq cL_law 554 555 1 (.ireturn) := ⟨by decide +kernel, rfl⟩
theorem d_L_law_555 : kf_dq cL_law 555 556 1 (.aload_n 1) := ⟨by decide +kernel, rfl⟩
theorem d_L_law_556 : kf_dq cL_law 556 557 1 (.aload_n 0) := ⟨by decide +kernel, rfl⟩
theorem d_L_law_557 : kf_dq cL_law 557 558 1 (.iload_n 3) := ⟨by decide +kernel, rfl⟩
theorem d_L_law_558 : kf_dq cL_law 558 559 1 (.iconst 1) := ⟨by decide +kernel, rfl⟩
theorem d_L_law_559 : kf_dq cL_law 559 560 1 (.iadd) := ⟨by decide +kernel, rfl⟩
theorem d_L_law_560 : kf_dq cL_law 560 561 1 (.iaload) := ⟨by decide +kernel, rfl⟩
theorem d_L_law_561 : kf_dq cL_law 561 562 1 (.aload_n 0) := ⟨by decide +kernel, rfl⟩
theorem d_L_law_562 : kf_dq cL_law 562 563 1 (.iload_n 3) := ⟨by decide +kernel, rfl⟩
theorem d_L_law_563 : kf_dq cL_law 563 564 1 (.iconst 2) := ⟨by decide +kernel, rfl⟩
theorem d_L_law_564 : kf_dq cL_law 564 565 1 (.iadd) := ⟨by decide +kernel, rfl⟩
theorem d_L_law_565 : kf_dq cL_law 565 566 1 (.iaload) := ⟨by decide +kernel, rfl⟩
theorem d_L_law_566 : kf_dq cL_law 566 569 3 (.invokevirtual 64) := ⟨by decide +kernel, rfl⟩
theorem d_L_law_569 : kf_dq cL_law 569 570 1 (.aload_n 2) := ⟨by decide +kernel, rfl⟩
theorem d_L_law_570 : kf_dq cL_law 570 571 1 (.aload_n 0) := ⟨by decide +kernel, rfl⟩
theorem d_L_law_571 : kf_dq cL_law 571 572 1 (.iload_n 3) := ⟨by decide +kernel, rfl⟩
theorem d_L_law_572 : kf_dq cL_law 572 573 1 (.iconst 1) := ⟨by decide +kernel, rfl⟩
theorem d_L_law_573 : kf_dq cL_law 573 574 1 (.iadd) := ⟨by decide +kernel, rfl⟩
theorem d_L_law_574 : kf_dq cL_law 574 575 1 (.iaload) := ⟨by decide +kernel, rfl⟩
theorem d_L_law_575 : kf_dq cL_law 575 576 1 (.aload_n 0) := ⟨by decide +kernel, rfl⟩
theorem d_L_law_576 : kf_dq cL_law 576 577 1 (.iload_n 3) := ⟨by decide +kernel, rfl⟩
theorem d_L_law_577 : kf_dq cL_law 577 578 1 (.iconst 2) := ⟨by decide +kernel, rfl⟩
theorem d_L_law_578 : kf_dq cL_law 578 579 1 (.iadd) := ⟨by decide +kernel, rfl⟩
theorem d_L_law_579 : kf_dq cL_law 579 580 1 (.iaload) := ⟨by decide +kernel, rfl⟩
theorem d_L_law_580 : kf_dq cL_law 580 583 3 (.invokevirtual 67) := ⟨by decide +kernel, rfl⟩
theorem d_L_law_583 : kf_dj cL_law 583 586 1471 (.if_icmp .eq) := ⟨888, by decide +kernel, rfl, by decide⟩
theorem d_L_law_586 : kf_dq cL_law 586 587 1 (.iconst 0) := ⟨by decide +kernel, rfl⟩
theorem d_L_law_587 : kf_dq cL_law 587 588 1 (.ireturn) := ⟨by decide +kernel, rfl⟩
theorem d_L_law_588 : kf_dq cL_law 588 589 1 (.aload_n 1) := ⟨by decide +kernel, rfl⟩
theorem d_L_law_589 : kf_dq cL_law 589 590 1 (.aload_n 0) := ⟨by decide +kernel, rfl⟩
theorem d_L_law_590 : kf_dq cL_law 590 591 1 (.iload_n 3) := ⟨by decide +kernel, rfl⟩
theorem d_L_law_591 : kf_dq cL_law 591 592 1 (.iconst 1) := ⟨by decide +kernel, rfl⟩
theorem d_L_law_592 : kf_dq cL_law 592 593 1 (.iadd) := ⟨by decide +kernel, rfl⟩
theorem d_L_law_593 : kf_dq cL_law 593 594 1 (.iaload) := ⟨by decide +kernel, rfl⟩
theorem d_L_law_594 : kf_dq cL_law 594 595 1 (.aload_n 0) := ⟨by decide +kernel, rfl⟩
theorem d_L_law_595 : kf_dq cL_law 595 596 1 (.iload_n 3) := ⟨by decide +kernel, rfl⟩
theorem d_L_law_596 : kf_dq cL_law 596 597 1 (.iconst 2) := ⟨by decide +kernel, rfl⟩
theorem d_L_law_597 : kf_dq cL_law 597 598 1 (.iadd) := ⟨by decide +kernel, rfl⟩
theorem d_L_law_598 : kf_dq cL_law 598 599 1 (.iaload) := ⟨by decide +kernel, rfl⟩
theorem d_L_law_599 : kf_dj cL_law 599 602 606 (.ifCond .eq) := ⟨7, by decide +kernel, rfl, by decide⟩
theorem d_L_law_602 : kf_dq cL_law 602 603 1 (.iconst 1) := ⟨by decide +kernel, rfl⟩
theorem d_L_law_603 : kf_dj cL_law 603 606 607 .goto := ⟨4, by decide +kernel, rfl, by decide⟩
theorem d_L_law_606 : kf_dq cL_law 606 607 1 (.iconst 0) := ⟨by decide +kernel, rfl⟩
theorem d_L_law_607 : kf_dq cL_law 607 610 3 (.invokevirtual 68) := ⟨by decide +kernel, rfl⟩
theorem d_L_law_610 : kf_dq cL_law 610 611 1 (.aload_n 2) := ⟨by decide +kernel, rfl⟩
theorem d_L_law_611 : kf_dq cL_law 611 612 1 (.aload_n 0) := ⟨by decide +kernel, rfl⟩
theorem d_L_law_612 : kf_dq cL_law 612 613 1 (.iload_n 3) := ⟨by decide +kernel, rfl⟩
theorem d_L_law_613 : kf_dq cL_law 613 614 1 (.iconst 1) := ⟨by decide +kernel, rfl⟩
theorem d_L_law_614 : kf_dq cL_law 614 615 1 (.iadd) := ⟨by decide +kernel, rfl⟩
theorem d_L_law_615 : kf_dq cL_law 615 616 1 (.iaload) := ⟨by decide +kernel, rfl⟩
theorem d_L_law_616 : kf_dq cL_law 616 617 1 (.aload_n 0) := ⟨by decide +kernel, rfl⟩
theorem d_L_law_617 : kf_dq cL_law 617 618 1 (.iload_n 3) := ⟨by decide +kernel, rfl⟩
theorem d_L_law_618 : kf_dq cL_law 618 619 1 (.iconst 2) := ⟨by decide +kernel, rfl⟩
theorem d_L_law_619 : kf_dq cL_law 619 620 1 (.iadd) := ⟨by decide +kernel, rfl⟩
theorem d_L_law_620 : kf_dq cL_law 620 621 1 (.iaload) := ⟨by decide +kernel, rfl⟩
theorem d_L_law_621 : kf_dj cL_law 621 624 628 (.ifCond .eq) := ⟨7, by decide +kernel, rfl, by decide⟩
theorem d_L_law_624 : kf_dq cL_law 624 625 1 (.iconst 1) := ⟨by decide +kernel, rfl⟩
theorem d_L_law_625 : kf_dj cL_law 625 628 629 .goto := ⟨4, by decide +kernel, rfl, by decide⟩
theorem d_L_law_628 : kf_dq cL_law 628 629 1 (.iconst 0) := ⟨by decide +kernel, rfl⟩
theorem d_L_law_629 : kf_dq cL_law 629 632 3 (.invokevirtual 72) := ⟨by decide +kernel, rfl⟩
theorem d_L_law_632 : kf_dj cL_law 632 635 1471 (.if_icmp .eq) := ⟨839, by decide +kernel, rfl, by decide⟩
theorem d_L_law_635 : kf_dq cL_law 635 636 1 (.iconst 0) := ⟨by decide +kernel, rfl⟩
theorem d_L_law_636 : kf_dq cL_law 636 637 1 (.ireturn) := ⟨by decide +kernel, rfl⟩
theorem d_L_law_637 : kf_dq cL_law 637 638 1 (.aload_n 1) := ⟨by decide +kernel, rfl⟩
theorem d_L_law_638 : kf_dq cL_law 638 639 1 (.aload_n 0) := ⟨by decide +kernel, rfl⟩
theorem d_L_law_639 : kf_dq cL_law 639 640 1 (.iload_n 3) := ⟨by decide +kernel, rfl⟩
theorem d_L_law_640 : kf_dq cL_law 640 641 1 (.iconst 1) := ⟨by decide +kernel, rfl⟩
theorem d_L_law_641 : kf_dq cL_law 641 642 1 (.iadd) := ⟨by decide +kernel, rfl⟩
theorem d_L_law_642 : kf_dq cL_law 642 643 1 (.iaload) := ⟨by decide +kernel, rfl⟩
theorem d_L_law_643 : kf_dq cL_law 643 646 3 (.invokevirtual 73) := ⟨by decide +kernel, rfl⟩
theorem d_L_law_646 : kf_dq cL_law 646 647 1 (.aload_n 2) := ⟨by decide +kernel, rfl⟩
theorem d_L_law_647 : kf_dq cL_law 647 648 1 (.aload_n 0) := ⟨by decide +kernel, rfl⟩
theorem d_L_law_648 : kf_dq cL_law 648 649 1 (.iload_n 3) := ⟨by decide +kernel, rfl⟩
theorem d_L_law_649 : kf_dq cL_law 649 650 1 (.iconst 1) := ⟨by decide +kernel, rfl⟩
theorem d_L_law_650 : kf_dq cL_law 650 651 1 (.iadd) := ⟨by decide +kernel, rfl⟩
theorem d_L_law_651 : kf_dq cL_law 651 652 1 (.iaload) := ⟨by decide +kernel, rfl⟩
theorem d_L_law_652 : kf_dq cL_law 652 655 3 (.invokevirtual 76) := ⟨by decide +kernel, rfl⟩
theorem d_L_law_655 : kf_dj cL_law 655 658 1471 (.if_icmp .eq) := ⟨816, by decide +kernel, rfl, by decide⟩
theorem d_L_law_658 : kf_dq cL_law 658 659 1 (.iconst 0) := ⟨by decide +kernel, rfl⟩
theorem d_L_law_659 : kf_dq cL_law 659 660 1 (.ireturn) := ⟨by decide +kernel, rfl⟩
theorem d_L_law_660 : kf_dq cL_law 660 661 1 (.aload_n 1) := ⟨by decide +kernel, rfl⟩
theorem d_L_law_661 : kf_dq cL_law 661 664 3 (.invokevirtual 77) := ⟨by decide +kernel, rfl⟩
theorem d_L_law_664 : kf_dq cL_law 664 665 1 (.aload_n 2) := ⟨by decide +kernel, rfl⟩
theorem d_L_law_665 : kf_dq cL_law 665 668 3 (.invokevirtual 81) := ⟨by decide +kernel, rfl⟩
theorem d_L_law_668 : kf_dj cL_law 668 671 1471 (.if_icmp .eq) := ⟨803, by decide +kernel, rfl, by decide⟩
theorem d_L_law_671 : kf_dq cL_law 671 672 1 (.iconst 0) := ⟨by decide +kernel, rfl⟩
theorem d_L_law_672 : kf_dq cL_law 672 673 1 (.ireturn) := ⟨by decide +kernel, rfl⟩
theorem d_L_law_673 : kf_dq cL_law 673 674 1 (.aload_n 1) := ⟨by decide +kernel, rfl⟩
theorem d_L_law_674 : kf_dq cL_law 674 675 1 (.aload_n 0) := ⟨by decide +kernel, rfl⟩
theorem d_L_law_675 : kf_dq cL_law 675 676 1 (.iload_n 3) := ⟨by decide +kernel, rfl⟩
theorem d_L_law_676 : kf_dq cL_law 676 677 1 (.iconst 1) := ⟨by decide +kernel, rfl⟩
theorem d_L_law_677 : kf_dq cL_law 677 678 1 (.iadd) := ⟨by decide +kernel, rfl⟩
theorem d_L_law_678 : kf_dq cL_law 678 679 1 (.iaload) := ⟨by decide +kernel, rfl⟩
theorem d_L_law_679 : kf_dq cL_law 679 680 1 (.aload_n 0) := ⟨by decide +kernel, rfl⟩
theorem d_L_law_680 : kf_dq cL_law 680 681 1 (.iload_n 3) := ⟨by decide +kernel, rfl⟩
theorem d_L_law_681 : kf_dq cL_law 681 682 1 (.iconst 2) := ⟨by decide +kernel, rfl⟩
theorem d_L_law_682 : kf_dq cL_law 682 683 1 (.iadd) := ⟨by decide +kernel, rfl⟩
theorem d_L_law_683 : kf_dq cL_law 683 684 1 (.iaload) := ⟨by decide +kernel, rfl⟩
theorem d_L_law_684 : kf_dq cL_law 684 685 1 (.aload_n 0) := ⟨by decide +kernel, rfl⟩
theorem d_L_law_685 : kf_dq cL_law 685 686 1 (.iload_n 3) := ⟨by decide +kernel, rfl⟩
theorem d_L_law_686 : kf_dq cL_law 686 687 1 (.iconst 3) := ⟨by decide +kernel, rfl⟩
theorem d_L_law_687 : kf_dq cL_law 687 688 1 (.iadd) := ⟨by decide +kernel, rfl⟩
theorem d_L_law_688 : kf_dq cL_law 688 689 1 (.iaload) := ⟨by decide +kernel, rfl⟩
theorem d_L_law_689 : kf_dq cL_law 689 692 3 (.invokevirtual 82) := ⟨by decide +kernel, rfl⟩
theorem d_L_law_692 : kf_dq cL_law 692 693 1 (.aload_n 2) := ⟨by decide +kernel, rfl⟩
theorem d_L_law_693 : kf_dq cL_law 693 694 1 (.aload_n 0) := ⟨by decide +kernel, rfl⟩
theorem d_L_law_694 : kf_dq cL_law 694 695 1 (.iload_n 3) := ⟨by decide +kernel, rfl⟩
theorem d_L_law_695 : kf_dq cL_law 695 696 1 (.iconst 1) := ⟨by decide +kernel, rfl⟩
theorem d_L_law_696 : kf_dq cL_law 696 697 1 (.iadd) := ⟨by decide +kernel, rfl⟩
theorem d_L_law_697 : kf_dq cL_law 697 698 1 (.iaload) := ⟨by decide +kernel, rfl⟩
theorem d_L_law_698 : kf_dq cL_law 698 699 1 (.aload_n 0) := ⟨by decide +kernel, rfl⟩
theorem d_L_law_699 : kf_dq cL_law 699 700 1 (.iload_n 3) := ⟨by decide +kernel, rfl⟩
theorem d_L_law_700 : kf_dq cL_law 700 701 1 (.iconst 2) := ⟨by decide +kernel, rfl⟩
theorem d_L_law_701 : kf_dq cL_law 701 702 1 (.iadd) := ⟨by decide +kernel, rfl⟩
theorem d_L_law_702 : kf_dq cL_law 702 703 1 (.iaload) := ⟨by decide +kernel, rfl⟩
theorem d_L_law_703 : kf_dq cL_law 703 704 1 (.aload_n 0) := ⟨by decide +kernel, rfl⟩
theorem d_L_law_704 : kf_dq cL_law 704 705 1 (.iload_n 3) := ⟨by decide +kernel, rfl⟩
theorem d_L_law_705 : kf_dq cL_law 705 706 1 (.iconst 3) := ⟨by decide +kernel, rfl⟩
theorem d_L_law_706 : kf_dq cL_law 706 707 1 (.iadd) := ⟨by decide +kernel, rfl⟩
theorem d_L_law_707 : kf_dq cL_law 707 708 1 (.iaload) := ⟨by decide +kernel, rfl⟩
theorem d_L_law_708 : kf_dq cL_law 708 711 3 (.invokevirtual 85) := ⟨by decide +kernel, rfl⟩
theorem d_L_law_711 : kf_dj cL_law 711 714 1471 (.if_icmp .eq) := ⟨760, by decide +kernel, rfl, by decide⟩
theorem d_L_law_714 : kf_dq cL_law 714 715 1 (.iconst 0) := ⟨by decide +kernel, rfl⟩
theorem d_L_law_715 : kf_dq cL_law 715 716 1 (.ireturn) := ⟨by decide +kernel, rfl⟩
theorem d_L_law_716 : kf_dq cL_law 716 717 1 (.aload_n 1) := ⟨by decide +kernel, rfl⟩
theorem d_L_law_717 : kf_dq cL_law 717 718 1 (.aload_n 0) := ⟨by decide +kernel, rfl⟩
theorem d_L_law_718 : kf_dq cL_law 718 719 1 (.iload_n 3) := ⟨by decide +kernel, rfl⟩
theorem d_L_law_719 : kf_dq cL_law 719 720 1 (.iconst 1) := ⟨by decide +kernel, rfl⟩
theorem d_L_law_720 : kf_dq cL_law 720 721 1 (.iadd) := ⟨by decide +kernel, rfl⟩
theorem d_L_law_721 : kf_dq cL_law 721 722 1 (.iaload) := ⟨by decide +kernel, rfl⟩
theorem d_L_law_722 : kf_dq cL_law 722 723 1 (.aload_n 0) := ⟨by decide +kernel, rfl⟩
theorem d_L_law_723 : kf_dq cL_law 723 724 1 (.iload_n 3) := ⟨by decide +kernel, rfl⟩
theorem d_L_law_724 : kf_dq cL_law 724 725 1 (.iconst 2) := ⟨by decide +kernel, rfl⟩
theorem d_L_law_725 : kf_dq cL_law 725 726 1 (.iadd) := ⟨by decide +kernel, rfl⟩
theorem d_L_law_726 : kf_dq cL_law 726 727 1 (.iaload) := ⟨by decide +kernel, rfl⟩
theorem d_L_law_727 : kf_dq cL_law 727 728 1 (.aload_n 0) := ⟨by decide +kernel, rfl⟩
theorem d_L_law_728 : kf_dq cL_law 728 729 1 (.iload_n 3) := ⟨by decide +kernel, rfl⟩
theorem d_L_law_729 : kf_dq cL_law 729 730 1 (.iconst 3) := ⟨by decide +kernel, rfl⟩
theorem d_L_law_730 : kf_dq cL_law 730 731 1 (.iadd) := ⟨by decide +kernel, rfl⟩
theorem d_L_law_731 : kf_dq cL_law 731 732 1 (.iaload) := ⟨by decide +kernel, rfl⟩
theorem d_L_law_732 : kf_dq cL_law 732 735 3 (.invokevirtual 86) := ⟨by decide +kernel, rfl⟩
theorem d_L_law_735 : kf_dq cL_law 735 736 1 (.aload_n 2) := ⟨by decide +kernel, rfl⟩
theorem d_L_law_736 : kf_dq cL_law 736 737 1 (.aload_n 0) := ⟨by decide +kernel, rfl⟩
theorem d_L_law_737 : kf_dq cL_law 737 738 1 (.iload_n 3) := ⟨by decide +kernel, rfl⟩
theorem d_L_law_738 : kf_dq cL_law 738 739 1 (.iconst 1) := ⟨by decide +kernel, rfl⟩
theorem d_L_law_739 : kf_dq cL_law 739 740 1 (.iadd) := ⟨by decide +kernel, rfl⟩
theorem d_L_law_740 : kf_dq cL_law 740 741 1 (.iaload) := ⟨by decide +kernel, rfl⟩
theorem d_L_law_741 : kf_dq cL_law 741 742 1 (.aload_n 0) := ⟨by decide +kernel, rfl⟩
theorem d_L_law_742 : kf_dq cL_law 742 743 1 (.iload_n 3) := ⟨by decide +kernel, rfl⟩
theorem d_L_law_743 : kf_dq cL_law 743 744 1 (.iconst 2) := ⟨by decide +kernel, rfl⟩
theorem d_L_law_744 : kf_dq cL_law 744 745 1 (.iadd) := ⟨by decide +kernel, rfl⟩
theorem d_L_law_745 : kf_dq cL_law 745 746 1 (.iaload) := ⟨by decide +kernel, rfl⟩
theorem d_L_law_746 : kf_dq cL_law 746 747 1 (.aload_n 0) := ⟨by decide +kernel, rfl⟩
theorem d_L_law_747 : kf_dq cL_law 747 748 1 (.iload_n 3) := ⟨by decide +kernel, rfl⟩
theorem d_L_law_748 : kf_dq cL_law 748 749 1 (.iconst 3) := ⟨by decide +kernel, rfl⟩
theorem d_L_law_749 : kf_dq cL_law 749 750 1 (.iadd) := ⟨by decide +kernel, rfl⟩
theorem d_L_law_750 : kf_dq cL_law 750 751 1 (.iaload) := ⟨by decide +kernel, rfl⟩
theorem d_L_law_751 : kf_dq cL_law 751 754 3 (.invokevirtual 89) := ⟨by decide +kernel, rfl⟩
theorem d_L_law_754 : kf_dj cL_law 754 757 1471 (.if_icmp .eq) := ⟨717, by decide +kernel, rfl, by decide⟩
theorem d_L_law_757 : kf_dq cL_law 757 758 1 (.iconst 0) := ⟨by decide +kernel, rfl⟩
theorem d_L_law_758 : kf_dq cL_law 758 759 1 (.ireturn) := ⟨by decide +kernel, rfl⟩
theorem d_L_law_759 : kf_dq cL_law 759 760 1 (.aload_n 1) := ⟨by decide +kernel, rfl⟩
theorem d_L_law_760 : kf_dq cL_law 760 761 1 (.aload_n 0) := ⟨by decide +kernel, rfl⟩
theorem d_L_law_761 : kf_dq cL_law 761 762 1 (.iload_n 3) := ⟨by decide +kernel, rfl⟩
theorem d_L_law_762 : kf_dq cL_law 762 763 1 (.iconst 1) := ⟨by decide +kernel, rfl⟩
theorem d_L_law_763 : kf_dq cL_law 763 764 1 (.iadd) := ⟨by decide +kernel, rfl⟩
theorem d_L_law_764 : kf_dq cL_law 764 765 1 (.iaload) := ⟨by decide +kernel, rfl⟩
theorem d_L_law_765 : kf_dq cL_law 765 766 1 (.aload_n 0) := ⟨by decide +kernel, rfl⟩
theorem d_L_law_766 : kf_dq cL_law 766 767 1 (.iload_n 3) := ⟨by decide +kernel, rfl⟩
theorem d_L_law_767 : kf_dq cL_law 767 768 1 (.iconst 2) := ⟨by decide +kernel, rfl⟩
theorem d_L_law_768 : kf_dq cL_law 768 769 1 (.iadd) := ⟨by decide +kernel, rfl⟩
theorem d_L_law_769 : kf_dq cL_law 769 770 1 (.iaload) := ⟨by decide +kernel, rfl⟩
theorem d_L_law_770 : kf_dq cL_law 770 773 3 (.invokevirtual 90) := ⟨by decide +kernel, rfl⟩
theorem d_L_law_773 : kf_dq cL_law 773 774 1 (.aload_n 2) := ⟨by decide +kernel, rfl⟩
theorem d_L_law_774 : kf_dq cL_law 774 775 1 (.aload_n 0) := ⟨by decide +kernel, rfl⟩
theorem d_L_law_775 : kf_dq cL_law 775 776 1 (.iload_n 3) := ⟨by decide +kernel, rfl⟩
theorem d_L_law_776 : kf_dq cL_law 776 777 1 (.iconst 1) := ⟨by decide +kernel, rfl⟩
theorem d_L_law_777 : kf_dq cL_law 777 778 1 (.iadd) := ⟨by decide +kernel, rfl⟩
theorem d_L_law_778 : kf_dq cL_law 778 779 1 (.iaload) := ⟨by decide +kernel, rfl⟩
theorem d_L_law_779 : kf_dq cL_law 779 780 1 (.aload_n 0) := ⟨by decide +kernel, rfl⟩
theorem d_L_law_780 : kf_dq cL_law 780 781 1 (.iload_n 3) := ⟨by decide +kernel, rfl⟩
theorem d_L_law_781 : kf_dq cL_law 781 782 1 (.iconst 2) := ⟨by decide +kernel, rfl⟩
theorem d_L_law_782 : kf_dq cL_law 782 783 1 (.iadd) := ⟨by decide +kernel, rfl⟩
theorem d_L_law_783 : kf_dq cL_law 783 784 1 (.iaload) := ⟨by decide +kernel, rfl⟩
theorem d_L_law_784 : kf_dq cL_law 784 787 3 (.invokevirtual 93) := ⟨by decide +kernel, rfl⟩
theorem d_L_law_787 : kf_dj cL_law 787 790 1471 (.if_icmp .eq) := ⟨684, by decide +kernel, rfl, by decide⟩
theorem d_L_law_790 : kf_dq cL_law 790 791 1 (.iconst 0) := ⟨by decide +kernel, rfl⟩
theorem d_L_law_791 : kf_dq cL_law 791 792 1 (.ireturn) := ⟨by decide +kernel, rfl⟩
theorem d_L_law_792 : kf_dq cL_law 792 793 1 (.aload_n 1) := ⟨by decide +kernel, rfl⟩
theorem d_L_law_793 : kf_dq cL_law 793 794 1 (.aload_n 0) := ⟨by decide +kernel, rfl⟩
theorem d_L_law_794 : kf_dq cL_law 794 795 1 (.iload_n 3) := ⟨by decide +kernel, rfl⟩
theorem d_L_law_795 : kf_dq cL_law 795 796 1 (.iconst 1) := ⟨by decide +kernel, rfl⟩
theorem d_L_law_796 : kf_dq cL_law 796 797 1 (.iadd) := ⟨by decide +kernel, rfl⟩
theorem d_L_law_797 : kf_dq cL_law 797 798 1 (.iaload) := ⟨by decide +kernel, rfl⟩
theorem d_L_law_798 : kf_dq cL_law 798 801 3 (.invokevirtual 94) := ⟨by decide +kernel, rfl⟩
theorem d_L_law_801 : kf_dq cL_law 801 802 1 (.aload_n 2) := ⟨by decide +kernel, rfl⟩
theorem d_L_law_802 : kf_dq cL_law 802 803 1 (.aload_n 0) := ⟨by decide +kernel, rfl⟩
theorem d_L_law_803 : kf_dq cL_law 803 804 1 (.iload_n 3) := ⟨by decide +kernel, rfl⟩
theorem d_L_law_804 : kf_dq cL_law 804 805 1 (.iconst 1) := ⟨by decide +kernel, rfl⟩
theorem d_L_law_805 : kf_dq cL_law 805 806 1 (.iadd) := ⟨by decide +kernel, rfl⟩
theorem d_L_law_806 : kf_dq cL_law 806 807 1 (.iaload) := ⟨by decide +kernel, rfl⟩
theorem d_L_law_807 : kf_dq cL_law 807 810 3 (.invokevirtual 97) := ⟨by decide +kernel, rfl⟩
theorem d_L_law_810 : kf_dj cL_law 810 813 1471 (.if_icmp .eq) := ⟨661, by decide +kernel, rfl, by decide⟩
theorem d_L_law_813 : kf_dq cL_law 813 814 1 (.iconst 0) := ⟨by decide +kernel, rfl⟩
theorem d_L_law_814 : kf_dq cL_law 814 815 1 (.ireturn) := ⟨by decide +kernel, rfl⟩
theorem d_L_law_815 : kf_dq cL_law 815 816 1 (.aload_n 1) := ⟨by decide +kernel, rfl⟩
theorem d_L_law_816 : kf_dq cL_law 816 817 1 (.aload_n 0) := ⟨by decide +kernel, rfl⟩
theorem d_L_law_817 : kf_dq cL_law 817 818 1 (.iload_n 3) := ⟨by decide +kernel, rfl⟩
theorem d_L_law_818 : kf_dq cL_law 818 819 1 (.iconst 1) := ⟨by decide +kernel, rfl⟩
theorem d_L_law_819 : kf_dq cL_law 819 820 1 (.iadd) := ⟨by decide +kernel, rfl⟩
theorem d_L_law_820 : kf_dq cL_law 820 821 1 (.iaload) := ⟨by decide +kernel, rfl⟩
theorem d_L_law_821 : kf_dq cL_law 821 824 3 (.invokevirtual 98) := ⟨by decide +kernel, rfl⟩
theorem d_L_law_824 : kf_dq cL_law 824 825 1 (.aload_n 2) := ⟨by decide +kernel, rfl⟩
theorem d_L_law_825 : kf_dq cL_law 825 826 1 (.aload_n 0) := ⟨by decide +kernel, rfl⟩
theorem d_L_law_826 : kf_dq cL_law 826 827 1 (.iload_n 3) := ⟨by decide +kernel, rfl⟩
theorem d_L_law_827 : kf_dq cL_law 827 828 1 (.iconst 1) := ⟨by decide +kernel, rfl⟩
theorem d_L_law_828 : kf_dq cL_law 828 829 1 (.iadd) := ⟨by decide +kernel, rfl⟩
theorem d_L_law_829 : kf_dq cL_law 829 830 1 (.iaload) := ⟨by decide +kernel, rfl⟩
theorem d_L_law_830 : kf_dq cL_law 830 833 3 (.invokevirtual 101) := ⟨by decide +kernel, rfl⟩
theorem d_L_law_833 : kf_dj cL_law 833 836 1471 (.if_icmp .eq) := ⟨638, by decide +kernel, rfl, by decide⟩
theorem d_L_law_836 : kf_dq cL_law 836 837 1 (.iconst 0) := ⟨by decide +kernel, rfl⟩
theorem d_L_law_837 : kf_dq cL_law 837 838 1 (.ireturn) := ⟨by decide +kernel, rfl⟩
theorem d_L_law_838 : kf_dq cL_law 838 839 1 (.aload_n 1) := ⟨by decide +kernel, rfl⟩
theorem d_L_law_839 : kf_dq cL_law 839 840 1 (.aload_n 0) := ⟨by decide +kernel, rfl⟩
theorem d_L_law_840 : kf_dq cL_law 840 841 1 (.iload_n 3) := ⟨by decide +kernel, rfl⟩
theorem d_L_law_841 : kf_dq cL_law 841 842 1 (.iconst 1) := ⟨by decide +kernel, rfl⟩
theorem d_L_law_842 : kf_dq cL_law 842 843 1 (.iadd) := ⟨by decide +kernel, rfl⟩
theorem d_L_law_843 : kf_dq cL_law 843 844 1 (.iaload) := ⟨by decide +kernel, rfl⟩
theorem d_L_law_844 : kf_dq cL_law 844 847 3 (.invokevirtual 102) := ⟨by decide +kernel, rfl⟩
theorem d_L_law_847 : kf_dq cL_law 847 848 1 (.aload_n 2) := ⟨by decide +kernel, rfl⟩
theorem d_L_law_848 : kf_dq cL_law 848 849 1 (.aload_n 0) := ⟨by decide +kernel, rfl⟩
theorem d_L_law_849 : kf_dq cL_law 849 850 1 (.iload_n 3) := ⟨by decide +kernel, rfl⟩
theorem d_L_law_850 : kf_dq cL_law 850 851 1 (.iconst 1) := ⟨by decide +kernel, rfl⟩
theorem d_L_law_851 : kf_dq cL_law 851 852 1 (.iadd) := ⟨by decide +kernel, rfl⟩
theorem d_L_law_852 : kf_dq cL_law 852 853 1 (.iaload) := ⟨by decide +kernel, rfl⟩
theorem d_L_law_853 : kf_dq cL_law 853 856 3 (.invokevirtual 105) := ⟨by decide +kernel, rfl⟩
theorem d_L_law_856 : kf_dj cL_law 856 859 1471 (.if_icmp .eq) := ⟨615, by decide +kernel, rfl, by decide⟩
theorem d_L_law_859 : kf_dq cL_law 859 860 1 (.iconst 0) := ⟨by decide +kernel, rfl⟩
theorem d_L_law_860 : kf_dq cL_law 860 861 1 (.ireturn) := ⟨by decide +kernel, rfl⟩
theorem d_L_law_861 : kf_dq cL_law 861 862 1 (.aload_n 1) := ⟨by decide +kernel, rfl⟩
theorem d_L_law_862 : kf_dq cL_law 862 863 1 (.aload_n 0) := ⟨by decide +kernel, rfl⟩
theorem d_L_law_863 : kf_dq cL_law 863 864 1 (.iload_n 3) := ⟨by decide +kernel, rfl⟩
theorem d_L_law_864 : kf_dq cL_law 864 865 1 (.iconst 1) := ⟨by decide +kernel, rfl⟩
theorem d_L_law_865 : kf_dq cL_law 865 866 1 (.iadd) := ⟨by decide +kernel, rfl⟩
theorem d_L_law_866 : kf_dq cL_law 866 867 1 (.iaload) := ⟨by decide +kernel, rfl⟩
theorem d_L_law_867 : kf_dq cL_law 867 870 3 (.invokevirtual 106) := ⟨by decide +kernel, rfl⟩
theorem d_L_law_870 : kf_dq cL_law 870 871 1 (.aload_n 2) := ⟨by decide +kernel, rfl⟩
theorem d_L_law_871 : kf_dq cL_law 871 872 1 (.aload_n 0) := ⟨by decide +kernel, rfl⟩
theorem d_L_law_872 : kf_dq cL_law 872 873 1 (.iload_n 3) := ⟨by decide +kernel, rfl⟩
theorem d_L_law_873 : kf_dq cL_law 873 874 1 (.iconst 1) := ⟨by decide +kernel, rfl⟩
theorem d_L_law_874 : kf_dq cL_law 874 875 1 (.iadd) := ⟨by decide +kernel, rfl⟩
theorem d_L_law_875 : kf_dq cL_law 875 876 1 (.iaload) := ⟨by decide +kernel, rfl⟩
theorem d_L_law_876 : kf_dq cL_law 876 879 3 (.invokevirtual 109) := ⟨by decide +kernel, rfl⟩
theorem d_L_law_879 : kf_dj cL_law 879 882 1471 (.if_icmp .eq) := ⟨592, by decide +kernel, rfl, by decide⟩
theorem d_L_law_882 : kf_dq cL_law 882 883 1 (.iconst 0) := ⟨by decide +kernel, rfl⟩
theorem d_L_law_883 : kf_dq cL_law 883 884 1 (.ireturn) := ⟨by decide +kernel, rfl⟩
theorem d_L_law_884 : kf_dq cL_law 884 885 1 (.aload_n 1) := ⟨by decide +kernel, rfl⟩
theorem d_L_law_885 : kf_dq cL_law 885 886 1 (.aload_n 0) := ⟨by decide +kernel, rfl⟩
theorem d_L_law_886 : kf_dq cL_law 886 887 1 (.iload_n 3) := ⟨by decide +kernel, rfl⟩
theorem d_L_law_887 : kf_dq cL_law 887 888 1 (.iconst 1) := ⟨by decide +kernel, rfl⟩
theorem d_L_law_888 : kf_dq cL_law 888 889 1 (.iadd) := ⟨by decide +kernel, rfl⟩
theorem d_L_law_889 : kf_dq cL_law 889 890 1 (.iaload) := ⟨by decide +kernel, rfl⟩
theorem d_L_law_890 : kf_dq cL_law 890 891 1 (.aload_n 0) := ⟨by decide +kernel, rfl⟩
theorem d_L_law_891 : kf_dq cL_law 891 892 1 (.iload_n 3) := ⟨by decide +kernel, rfl⟩
theorem d_L_law_892 : kf_dq cL_law 892 893 1 (.iconst 2) := ⟨by decide +kernel, rfl⟩
theorem d_L_law_893 : kf_dq cL_law 893 894 1 (.iadd) := ⟨by decide +kernel, rfl⟩
theorem d_L_law_894 : kf_dq cL_law 894 895 1 (.iaload) := ⟨by decide +kernel, rfl⟩
theorem d_L_law_895 : kf_dq cL_law 895 898 3 (.invokevirtual 110) := ⟨by decide +kernel, rfl⟩
theorem d_L_law_898 : kf_dq cL_law 898 899 1 (.aload_n 2) := ⟨by decide +kernel, rfl⟩
theorem d_L_law_899 : kf_dq cL_law 899 900 1 (.aload_n 0) := ⟨by decide +kernel, rfl⟩
theorem d_L_law_900 : kf_dq cL_law 900 901 1 (.iload_n 3) := ⟨by decide +kernel, rfl⟩
theorem d_L_law_901 : kf_dq cL_law 901 902 1 (.iconst 1) := ⟨by decide +kernel, rfl⟩
theorem d_L_law_902 : kf_dq cL_law 902 903 1 (.iadd) := ⟨by decide +kernel, rfl⟩
theorem d_L_law_903 : kf_dq cL_law 903 904 1 (.iaload) := ⟨by decide +kernel, rfl⟩
theorem d_L_law_904 : kf_dq cL_law 904 905 1 (.aload_n 0) := ⟨by decide +kernel, rfl⟩
theorem d_L_law_905 : kf_dq cL_law 905 906 1 (.iload_n 3) := ⟨by decide +kernel, rfl⟩
theorem d_L_law_906 : kf_dq cL_law 906 907 1 (.iconst 2) := ⟨by decide +kernel, rfl⟩
theorem d_L_law_907 : kf_dq cL_law 907 908 1 (.iadd) := ⟨by decide +kernel, rfl⟩
theorem d_L_law_908 : kf_dq cL_law 908 909 1 (.iaload) := ⟨by decide +kernel, rfl⟩
theorem d_L_law_909 : kf_dq cL_law 909 912 3 (.invokevirtual 113) := ⟨by decide +kernel, rfl⟩
theorem d_L_law_912 : kf_dj cL_law 912 915 1471 (.if_icmp .eq) := ⟨559, by decide +kernel, rfl, by decide⟩
theorem d_L_law_915 : kf_dq cL_law 915 916 1 (.iconst 0) := ⟨by decide +kernel, rfl⟩
theorem d_L_law_916 : kf_dq cL_law 916 917 1 (.ireturn) := ⟨by decide +kernel, rfl⟩
theorem d_L_law_917 : kf_dq cL_law 917 918 1 (.aload_n 1) := ⟨by decide +kernel, rfl⟩
theorem d_L_law_918 : kf_dq cL_law 918 919 1 (.aload_n 0) := ⟨by decide +kernel, rfl⟩
theorem d_L_law_919 : kf_dq cL_law 919 920 1 (.iload_n 3) := ⟨by decide +kernel, rfl⟩
theorem d_L_law_920 : kf_dq cL_law 920 921 1 (.iconst 1) := ⟨by decide +kernel, rfl⟩
theorem d_L_law_921 : kf_dq cL_law 921 922 1 (.iadd) := ⟨by decide +kernel, rfl⟩
theorem d_L_law_922 : kf_dq cL_law 922 923 1 (.iaload) := ⟨by decide +kernel, rfl⟩
theorem d_L_law_923 : kf_dq cL_law 923 924 1 (.aload_n 0) := ⟨by decide +kernel, rfl⟩
theorem d_L_law_924 : kf_dq cL_law 924 925 1 (.iload_n 3) := ⟨by decide +kernel, rfl⟩
theorem d_L_law_925 : kf_dq cL_law 925 926 1 (.iconst 2) := ⟨by decide +kernel, rfl⟩
theorem d_L_law_926 : kf_dq cL_law 926 927 1 (.iadd) := ⟨by decide +kernel, rfl⟩
theorem d_L_law_927 : kf_dq cL_law 927 928 1 (.iaload) := ⟨by decide +kernel, rfl⟩
theorem d_L_law_928 : kf_dq cL_law 928 931 3 (.invokevirtual 114) := ⟨by decide +kernel, rfl⟩
theorem d_L_law_931 : kf_dq cL_law 931 932 1 (.aload_n 2) := ⟨by decide +kernel, rfl⟩
theorem d_L_law_932 : kf_dq cL_law 932 933 1 (.aload_n 0) := ⟨by decide +kernel, rfl⟩
theorem d_L_law_933 : kf_dq cL_law 933 934 1 (.iload_n 3) := ⟨by decide +kernel, rfl⟩
theorem d_L_law_934 : kf_dq cL_law 934 935 1 (.iconst 1) := ⟨by decide +kernel, rfl⟩
theorem d_L_law_935 : kf_dq cL_law 935 936 1 (.iadd) := ⟨by decide +kernel, rfl⟩
theorem d_L_law_936 : kf_dq cL_law 936 937 1 (.iaload) := ⟨by decide +kernel, rfl⟩
theorem d_L_law_937 : kf_dq cL_law 937 938 1 (.aload_n 0) := ⟨by decide +kernel, rfl⟩
theorem d_L_law_938 : kf_dq cL_law 938 939 1 (.iload_n 3) := ⟨by decide +kernel, rfl⟩
theorem d_L_law_939 : kf_dq cL_law 939 940 1 (.iconst 2) := ⟨by decide +kernel, rfl⟩
theorem d_L_law_940 : kf_dq cL_law 940 941 1 (.iadd) := ⟨by decide +kernel, rfl⟩
theorem d_L_law_941 : kf_dq cL_law 941 942 1 (.iaload) := ⟨by decide +kernel, rfl⟩
theorem d_L_law_942 : kf_dq cL_law 942 945 3 (.invokevirtual 117) := ⟨by decide +kernel, rfl⟩
theorem d_L_law_945 : kf_dj cL_law 945 948 1471 (.if_icmp .eq) := ⟨526, by decide +kernel, rfl, by decide⟩
theorem d_L_law_948 : kf_dq cL_law 948 949 1 (.iconst 0) := ⟨by decide +kernel, rfl⟩
theorem d_L_law_949 : kf_dq cL_law 949 950 1 (.ireturn) := ⟨by decide +kernel, rfl⟩
theorem d_L_law_950 : kf_dq cL_law 950 951 1 (.aload_n 1) := ⟨by decide +kernel, rfl⟩
theorem d_L_law_951 : kf_dq cL_law 951 952 1 (.aload_n 0) := ⟨by decide +kernel, rfl⟩
theorem d_L_law_952 : kf_dq cL_law 952 953 1 (.iload_n 3) := ⟨by decide +kernel, rfl⟩
theorem d_L_law_953 : kf_dq cL_law 953 954 1 (.iconst 1) := ⟨by decide +kernel, rfl⟩
theorem d_L_law_954 : kf_dq cL_law 954 955 1 (.iadd) := ⟨by decide +kernel, rfl⟩
theorem d_L_law_955 : kf_dq cL_law 955 956 1 (.iaload) := ⟨by decide +kernel, rfl⟩
theorem d_L_law_956 : kf_dq cL_law 956 959 3 (.invokevirtual 118) := ⟨by decide +kernel, rfl⟩
theorem d_L_law_959 : kf_dq cL_law 959 960 1 (.aload_n 2) := ⟨by decide +kernel, rfl⟩
theorem d_L_law_960 : kf_dq cL_law 960 961 1 (.aload_n 0) := ⟨by decide +kernel, rfl⟩
theorem d_L_law_961 : kf_dq cL_law 961 962 1 (.iload_n 3) := ⟨by decide +kernel, rfl⟩
theorem d_L_law_962 : kf_dq cL_law 962 963 1 (.iconst 1) := ⟨by decide +kernel, rfl⟩
theorem d_L_law_963 : kf_dq cL_law 963 964 1 (.iadd) := ⟨by decide +kernel, rfl⟩
theorem d_L_law_964 : kf_dq cL_law 964 965 1 (.iaload) := ⟨by decide +kernel, rfl⟩
theorem d_L_law_965 : kf_dq cL_law 965 968 3 (.invokevirtual 121) := ⟨by decide +kernel, rfl⟩
theorem d_L_law_968 : kf_dj cL_law 968 971 1471 (.if_icmp .eq) := ⟨503, by decide +kernel, rfl, by decide⟩
theorem d_L_law_971 : kf_dq cL_law 971 972 1 (.iconst 0) := ⟨by decide +kernel, rfl⟩
theorem d_L_law_972 : kf_dq cL_law 972 973 1 (.ireturn) := ⟨by decide +kernel, rfl⟩
theorem d_L_law_973 : kf_dq cL_law 973 974 1 (.aload_n 1) := ⟨by decide +kernel, rfl⟩
theorem d_L_law_974 : kf_dq cL_law 974 975 1 (.aload_n 0) := ⟨by decide +kernel, rfl⟩
theorem d_L_law_975 : kf_dq cL_law 975 976 1 (.iload_n 3) := ⟨by decide +kernel, rfl⟩
theorem d_L_law_976 : kf_dq cL_law 976 977 1 (.iconst 1) := ⟨by decide +kernel, rfl⟩
theorem d_L_law_977 : kf_dq cL_law 977 978 1 (.iadd) := ⟨by decide +kernel, rfl⟩
theorem d_L_law_978 : kf_dq cL_law 978 979 1 (.iaload) := ⟨by decide +kernel, rfl⟩
theorem d_L_law_979 : kf_dq cL_law 979 980 1 (.aload_n 0) := ⟨by decide +kernel, rfl⟩
theorem d_L_law_980 : kf_dq cL_law 980 981 1 (.iload_n 3) := ⟨by decide +kernel, rfl⟩
theorem d_L_law_981 : kf_dq cL_law 981 982 1 (.iconst 2) := ⟨by decide +kernel, rfl⟩
theorem d_L_law_982 : kf_dq cL_law 982 983 1 (.iadd) := ⟨by decide +kernel, rfl⟩
theorem d_L_law_983 : kf_dq cL_law 983 984 1 (.iaload) := ⟨by decide +kernel, rfl⟩
theorem d_L_law_984 : kf_dq cL_law 984 987 3 (.invokevirtual 122) := ⟨by decide +kernel, rfl⟩
theorem d_L_law_987 : kf_dq cL_law 987 988 1 (.aload_n 2) := ⟨by decide +kernel, rfl⟩
theorem d_L_law_988 : kf_dq cL_law 988 989 1 (.aload_n 0) := ⟨by decide +kernel, rfl⟩
theorem d_L_law_989 : kf_dq cL_law 989 990 1 (.iload_n 3) := ⟨by decide +kernel, rfl⟩
theorem d_L_law_990 : kf_dq cL_law 990 991 1 (.iconst 1) := ⟨by decide +kernel, rfl⟩
theorem d_L_law_991 : kf_dq cL_law 991 992 1 (.iadd) := ⟨by decide +kernel, rfl⟩
theorem d_L_law_992 : kf_dq cL_law 992 993 1 (.iaload) := ⟨by decide +kernel, rfl⟩
theorem d_L_law_993 : kf_dq cL_law 993 994 1 (.aload_n 0) := ⟨by decide +kernel, rfl⟩
theorem d_L_law_994 : kf_dq cL_law 994 995 1 (.iload_n 3) := ⟨by decide +kernel, rfl⟩
theorem d_L_law_995 : kf_dq cL_law 995 996 1 (.iconst 2) := ⟨by decide +kernel, rfl⟩
theorem d_L_law_996 : kf_dq cL_law 996 997 1 (.iadd) := ⟨by decide +kernel, rfl⟩
theorem d_L_law_997 : kf_dq cL_law 997 998 1 (.iaload) := ⟨by decide +kernel, rfl⟩
theorem d_L_law_998 : kf_dq cL_law 998 1001 3 (.invokevirtual 125) := ⟨by decide +kernel, rfl⟩
theorem d_L_law_1001 : kf_dj cL_law 1001 1004 1471 (.if_icmp .eq) := ⟨470, by decide +kernel, rfl, by decide⟩
theorem d_L_law_1004 : kf_dq cL_law 1004 1005 1 (.iconst 0) := ⟨by decide +kernel, rfl⟩
theorem d_L_law_1005 : kf_dq cL_law 1005 1006 1 (.ireturn) := ⟨by decide +kernel, rfl⟩
theorem d_L_law_1006 : kf_dq cL_law 1006 1007 1 (.aload_n 1) := ⟨by decide +kernel, rfl⟩
theorem d_L_law_1007 : kf_dq cL_law 1007 1008 1 (.aload_n 0) := ⟨by decide +kernel, rfl⟩
theorem d_L_law_1008 : kf_dq cL_law 1008 1009 1 (.iload_n 3) := ⟨by decide +kernel, rfl⟩
theorem d_L_law_1009 : kf_dq cL_law 1009 1010 1 (.iconst 1) := ⟨by decide +kernel, rfl⟩
theorem d_L_law_1010 : kf_dq cL_law 1010 1011 1 (.iadd) := ⟨by decide +kernel, rfl⟩
theorem d_L_law_1011 : kf_dq cL_law 1011 1012 1 (.iaload) := ⟨by decide +kernel, rfl⟩
theorem d_L_law_1012 : kf_dq cL_law 1012 1013 1 (.aload_n 0) := ⟨by decide +kernel, rfl⟩
theorem d_L_law_1013 : kf_dq cL_law 1013 1014 1 (.iload_n 3) := ⟨by decide +kernel, rfl⟩
theorem d_L_law_1014 : kf_dq cL_law 1014 1015 1 (.iconst 2) := ⟨by decide +kernel, rfl⟩
theorem d_L_law_1015 : kf_dq cL_law 1015 1016 1 (.iadd) := ⟨by decide +kernel, rfl⟩
theorem d_L_law_1016 : kf_dq cL_law 1016 1017 1 (.iaload) := ⟨by decide +kernel, rfl⟩
theorem d_L_law_1017 : kf_dq cL_law 1017 1020 3 (.invokevirtual 126) := ⟨by decide +kernel, rfl⟩
theorem d_L_law_1020 : kf_dq cL_law 1020 1021 1 (.aload_n 2) := ⟨by decide +kernel, rfl⟩
theorem d_L_law_1021 : kf_dq cL_law 1021 1022 1 (.aload_n 0) := ⟨by decide +kernel, rfl⟩
theorem d_L_law_1022 : kf_dq cL_law 1022 1023 1 (.iload_n 3) := ⟨by decide +kernel, rfl⟩
theorem d_L_law_1023 : kf_dq cL_law 1023 1024 1 (.iconst 1) := ⟨by decide +kernel, rfl⟩
theorem d_L_law_1024 : kf_dq cL_law 1024 1025 1 (.iadd) := ⟨by decide +kernel, rfl⟩
theorem d_L_law_1025 : kf_dq cL_law 1025 1026 1 (.iaload) := ⟨by decide +kernel, rfl⟩
theorem d_L_law_1026 : kf_dq cL_law 1026 1027 1 (.aload_n 0) := ⟨by decide +kernel, rfl⟩
theorem d_L_law_1027 : kf_dq cL_law 1027 1028 1 (.iload_n 3) := ⟨by decide +kernel, rfl⟩
theorem d_L_law_1028 : kf_dq cL_law 1028 1029 1 (.iconst 2) := ⟨by decide +kernel, rfl⟩
theorem d_L_law_1029 : kf_dq cL_law 1029 1030 1 (.iadd) := ⟨by decide +kernel, rfl⟩
theorem d_L_law_1030 : kf_dq cL_law 1030 1031 1 (.iaload) := ⟨by decide +kernel, rfl⟩
theorem d_L_law_1031 : kf_dq cL_law 1031 1034 3 (.invokevirtual 129) := ⟨by decide +kernel, rfl⟩
theorem d_L_law_1034 : kf_dj cL_law 1034 1037 1471 (.if_icmp .eq) := ⟨437, by decide +kernel, rfl, by decide⟩
theorem d_L_law_1037 : kf_dq cL_law 1037 1038 1 (.iconst 0) := ⟨by decide +kernel, rfl⟩
theorem d_L_law_1038 : kf_dq cL_law 1038 1039 1 (.ireturn) := ⟨by decide +kernel, rfl⟩
theorem d_L_law_1039 : kf_dq cL_law 1039 1040 1 (.aload_n 1) := ⟨by decide +kernel, rfl⟩
theorem d_L_law_1040 : kf_dq cL_law 1040 1041 1 (.aload_n 0) := ⟨by decide +kernel, rfl⟩
theorem d_L_law_1041 : kf_dq cL_law 1041 1042 1 (.iload_n 3) := ⟨by decide +kernel, rfl⟩
theorem d_L_law_1042 : kf_dq cL_law 1042 1043 1 (.iconst 1) := ⟨by decide +kernel, rfl⟩
theorem d_L_law_1043 : kf_dq cL_law 1043 1044 1 (.iadd) := ⟨by decide +kernel, rfl⟩
theorem d_L_law_1044 : kf_dq cL_law 1044 1045 1 (.iaload) := ⟨by decide +kernel, rfl⟩
theorem d_L_law_1045 : kf_dq cL_law 1045 1046 1 (.aload_n 0) := ⟨by decide +kernel, rfl⟩
theorem d_L_law_1046 : kf_dq cL_law 1046 1047 1 (.iload_n 3) := ⟨by decide +kernel, rfl⟩
theorem d_L_law_1047 : kf_dq cL_law 1047 1048 1 (.iconst 2) := ⟨by decide +kernel, rfl⟩
theorem d_L_law_1048 : kf_dq cL_law 1048 1049 1 (.iadd) := ⟨by decide +kernel, rfl⟩
theorem d_L_law_1049 : kf_dq cL_law 1049 1050 1 (.iaload) := ⟨by decide +kernel, rfl⟩
theorem d_L_law_1050 : kf_dq cL_law 1050 1053 3 (.invokevirtual 130) := ⟨by decide +kernel, rfl⟩
theorem d_L_law_1053 : kf_dq cL_law 1053 1054 1 (.aload_n 2) := ⟨by decide +kernel, rfl⟩
theorem d_L_law_1054 : kf_dq cL_law 1054 1055 1 (.aload_n 0) := ⟨by decide +kernel, rfl⟩
theorem d_L_law_1055 : kf_dq cL_law 1055 1056 1 (.iload_n 3) := ⟨by decide +kernel, rfl⟩
theorem d_L_law_1056 : kf_dq cL_law 1056 1057 1 (.iconst 1) := ⟨by decide +kernel, rfl⟩
theorem d_L_law_1057 : kf_dq cL_law 1057 1058 1 (.iadd) := ⟨by decide +kernel, rfl⟩
theorem d_L_law_1058 : kf_dq cL_law 1058 1059 1 (.iaload) := ⟨by decide +kernel, rfl⟩
theorem d_L_law_1059 : kf_dq cL_law 1059 1060 1 (.aload_n 0) := ⟨by decide +kernel, rfl⟩
theorem d_L_law_1060 : kf_dq cL_law 1060 1061 1 (.iload_n 3) := ⟨by decide +kernel, rfl⟩
theorem d_L_law_1061 : kf_dq cL_law 1061 1062 1 (.iconst 2) := ⟨by decide +kernel, rfl⟩
theorem d_L_law_1062 : kf_dq cL_law 1062 1063 1 (.iadd) := ⟨by decide +kernel, rfl⟩
theorem d_L_law_1063 : kf_dq cL_law 1063 1064 1 (.iaload) := ⟨by decide +kernel, rfl⟩
theorem d_L_law_1064 : kf_dq cL_law 1064 1067 3 (.invokevirtual 133) := ⟨by decide +kernel, rfl⟩
theorem d_L_law_1067 : kf_dj cL_law 1067 1070 1471 (.if_icmp .eq) := ⟨404, by decide +kernel, rfl, by decide⟩
theorem d_L_law_1070 : kf_dq cL_law 1070 1071 1 (.iconst 0) := ⟨by decide +kernel, rfl⟩
theorem d_L_law_1071 : kf_dq cL_law 1071 1072 1 (.ireturn) := ⟨by decide +kernel, rfl⟩
theorem d_L_law_1072 : kf_dq cL_law 1072 1073 1 (.aload_n 1) := ⟨by decide +kernel, rfl⟩
theorem d_L_law_1073 : kf_dq cL_law 1073 1074 1 (.aload_n 0) := ⟨by decide +kernel, rfl⟩
theorem d_L_law_1074 : kf_dq cL_law 1074 1075 1 (.iload_n 3) := ⟨by decide +kernel, rfl⟩
theorem d_L_law_1075 : kf_dq cL_law 1075 1076 1 (.iconst 1) := ⟨by decide +kernel, rfl⟩
theorem d_L_law_1076 : kf_dq cL_law 1076 1077 1 (.iadd) := ⟨by decide +kernel, rfl⟩
theorem d_L_law_1077 : kf_dq cL_law 1077 1078 1 (.iaload) := ⟨by decide +kernel, rfl⟩
theorem d_L_law_1078 : kf_dq cL_law 1078 1079 1 (.aload_n 0) := ⟨by decide +kernel, rfl⟩
theorem d_L_law_1079 : kf_dq cL_law 1079 1080 1 (.iload_n 3) := ⟨by decide +kernel, rfl⟩
theorem d_L_law_1080 : kf_dq cL_law 1080 1081 1 (.iconst 2) := ⟨by decide +kernel, rfl⟩
theorem d_L_law_1081 : kf_dq cL_law 1081 1082 1 (.iadd) := ⟨by decide +kernel, rfl⟩
theorem d_L_law_1082 : kf_dq cL_law 1082 1083 1 (.iaload) := ⟨by decide +kernel, rfl⟩
theorem d_L_law_1083 : kf_dq cL_law 1083 1086 3 (.invokevirtual 134) := ⟨by decide +kernel, rfl⟩
theorem d_L_law_1086 : kf_dq cL_law 1086 1087 1 (.aload_n 2) := ⟨by decide +kernel, rfl⟩
theorem d_L_law_1087 : kf_dq cL_law 1087 1088 1 (.aload_n 0) := ⟨by decide +kernel, rfl⟩
theorem d_L_law_1088 : kf_dq cL_law 1088 1089 1 (.iload_n 3) := ⟨by decide +kernel, rfl⟩
theorem d_L_law_1089 : kf_dq cL_law 1089 1090 1 (.iconst 1) := ⟨by decide +kernel, rfl⟩
theorem d_L_law_1090 : kf_dq cL_law 1090 1091 1 (.iadd) := ⟨by decide +kernel, rfl⟩
theorem d_L_law_1091 : kf_dq cL_law 1091 1092 1 (.iaload) := ⟨by decide +kernel, rfl⟩
theorem d_L_law_1092 : kf_dq cL_law 1092 1093 1 (.aload_n 0) := ⟨by decide +kernel, rfl⟩
theorem d_L_law_1093 : kf_dq cL_law 1093 1094 1 (.iload_n 3) := ⟨by decide +kernel, rfl⟩
theorem d_L_law_1094 : kf_dq cL_law 1094 1095 1 (.iconst 2) := ⟨by decide +kernel, rfl⟩
theorem d_L_law_1095 : kf_dq cL_law 1095 1096 1 (.iadd) := ⟨by decide +kernel, rfl⟩
theorem d_L_law_1096 : kf_dq cL_law 1096 1097 1 (.iaload) := ⟨by decide +kernel, rfl⟩
theorem d_L_law_1097 : kf_dq cL_law 1097 1100 3 (.invokevirtual 137) := ⟨by decide +kernel, rfl⟩
theorem d_L_law_1100 : kf_dj cL_law 1100 1103 1471 (.if_icmp .eq) := ⟨371, by decide +kernel, rfl, by decide⟩
theorem d_L_law_1103 : kf_dq cL_law 1103 1104 1 (.iconst 0) := ⟨by decide +kernel, rfl⟩
theorem d_L_law_1104 : kf_dq cL_law 1104 1105 1 (.ireturn) := ⟨by decide +kernel, rfl⟩
theorem d_L_law_1105 : kf_dq cL_law 1105 1106 1 (.aload_n 1) := ⟨by decide +kernel, rfl⟩
theorem d_L_law_1106 : kf_dq cL_law 1106 1107 1 (.aload_n 0) := ⟨by decide +kernel, rfl⟩
theorem d_L_law_1107 : kf_dq cL_law 1107 1108 1 (.iload_n 3) := ⟨by decide +kernel, rfl⟩
theorem d_L_law_1108 : kf_dq cL_law 1108 1109 1 (.iconst 1) := ⟨by decide +kernel, rfl⟩
theorem d_L_law_1109 : kf_dq cL_law 1109 1110 1 (.iadd) := ⟨by decide +kernel, rfl⟩
theorem d_L_law_1110 : kf_dq cL_law 1110 1111 1 (.iaload) := ⟨by decide +kernel, rfl⟩
theorem d_L_law_1111 : kf_dq cL_law 1111 1112 1 (.aload_n 0) := ⟨by decide +kernel, rfl⟩
theorem d_L_law_1112 : kf_dq cL_law 1112 1113 1 (.iload_n 3) := ⟨by decide +kernel, rfl⟩
theorem d_L_law_1113 : kf_dq cL_law 1113 1114 1 (.iconst 2) := ⟨by decide +kernel, rfl⟩
theorem d_L_law_1114 : kf_dq cL_law 1114 1115 1 (.iadd) := ⟨by decide +kernel, rfl⟩
theorem d_L_law_1115 : kf_dq cL_law 1115 1116 1 (.iaload) := ⟨by decide +kernel, rfl⟩
theorem d_L_law_1116 : kf_dq cL_law 1116 1119 3 (.invokevirtual 138) := ⟨by decide +kernel, rfl⟩
theorem d_L_law_1119 : kf_dq cL_law 1119 1120 1 (.aload_n 2) := ⟨by decide +kernel, rfl⟩
theorem d_L_law_1120 : kf_dq cL_law 1120 1121 1 (.aload_n 0) := ⟨by decide +kernel, rfl⟩
theorem d_L_law_1121 : kf_dq cL_law 1121 1122 1 (.iload_n 3) := ⟨by decide +kernel, rfl⟩
theorem d_L_law_1122 : kf_dq cL_law 1122 1123 1 (.iconst 1) := ⟨by decide +kernel, rfl⟩
theorem d_L_law_1123 : kf_dq cL_law 1123 1124 1 (.iadd) := ⟨by decide +kernel, rfl⟩
theorem d_L_law_1124 : kf_dq cL_law 1124 1125 1 (.iaload) := ⟨by decide +kernel, rfl⟩
theorem d_L_law_1125 : kf_dq cL_law 1125 1126 1 (.aload_n 0) := ⟨by decide +kernel, rfl⟩
theorem d_L_law_1126 : kf_dq cL_law 1126 1127 1 (.iload_n 3) := ⟨by decide +kernel, rfl⟩
theorem d_L_law_1127 : kf_dq cL_law 1127 1128 1 (.iconst 2) := ⟨by decide +kernel, rfl⟩
theorem d_L_law_1128 : kf_dq cL_law 1128 1129 1 (.iadd) := ⟨by decide +kernel, rfl⟩
theorem d_L_law_1129 : kf_dq cL_law 1129 1130 1 (.iaload) := ⟨by decide +kernel, rfl⟩
theorem d_L_law_1130 : kf_dq cL_law 1130 1133 3 (.invokevirtual 141) := ⟨by decide +kernel, rfl⟩
theorem d_L_law_1133 : kf_dj cL_law 1133 1136 1471 (.if_icmp .eq) := ⟨338, by decide +kernel, rfl, by decide⟩
theorem d_L_law_1136 : kf_dq cL_law 1136 1137 1 (.iconst 0) := ⟨by decide +kernel, rfl⟩
theorem d_L_law_1137 : kf_dq cL_law 1137 1138 1 (.ireturn) := ⟨by decide +kernel, rfl⟩
theorem d_L_law_1138 : kf_dq cL_law 1138 1139 1 (.aload_n 1) := ⟨by decide +kernel, rfl⟩
theorem d_L_law_1139 : kf_dq cL_law 1139 1140 1 (.aload_n 0) := ⟨by decide +kernel, rfl⟩
theorem d_L_law_1140 : kf_dq cL_law 1140 1141 1 (.iload_n 3) := ⟨by decide +kernel, rfl⟩
theorem d_L_law_1141 : kf_dq cL_law 1141 1142 1 (.iconst 1) := ⟨by decide +kernel, rfl⟩
theorem d_L_law_1142 : kf_dq cL_law 1142 1143 1 (.iadd) := ⟨by decide +kernel, rfl⟩
theorem d_L_law_1143 : kf_dq cL_law 1143 1144 1 (.iaload) := ⟨by decide +kernel, rfl⟩
theorem d_L_law_1144 : kf_dq cL_law 1144 1147 3 (.invokevirtual 142) := ⟨by decide +kernel, rfl⟩
theorem d_L_law_1147 : kf_dq cL_law 1147 1148 1 (.aload_n 2) := ⟨by decide +kernel, rfl⟩
theorem d_L_law_1148 : kf_dq cL_law 1148 1149 1 (.aload_n 0) := ⟨by decide +kernel, rfl⟩
theorem d_L_law_1149 : kf_dq cL_law 1149 1150 1 (.iload_n 3) := ⟨by decide +kernel, rfl⟩
theorem d_L_law_1150 : kf_dq cL_law 1150 1151 1 (.iconst 1) := ⟨by decide +kernel, rfl⟩
theorem d_L_law_1151 : kf_dq cL_law 1151 1152 1 (.iadd) := ⟨by decide +kernel, rfl⟩
theorem d_L_law_1152 : kf_dq cL_law 1152 1153 1 (.iaload) := ⟨by decide +kernel, rfl⟩
theorem d_L_law_1153 : kf_dq cL_law 1153 1156 3 (.invokevirtual 145) := ⟨by decide +kernel, rfl⟩
theorem d_L_law_1156 : kf_dj cL_law 1156 1159 1471 (.if_icmp .eq) := ⟨315, by decide +kernel, rfl, by decide⟩
theorem d_L_law_1159 : kf_dq cL_law 1159 1160 1 (.iconst 0) := ⟨by decide +kernel, rfl⟩
theorem d_L_law_1160 : kf_dq cL_law 1160 1161 1 (.ireturn) := ⟨by decide +kernel, rfl⟩
theorem d_L_law_1161 : kf_dq cL_law 1161 1162 1 (.aload_n 1) := ⟨by decide +kernel, rfl⟩
theorem d_L_law_1162 : kf_dq cL_law 1162 1163 1 (.aload_n 0) := ⟨by decide +kernel, rfl⟩
theorem d_L_law_1163 : kf_dq cL_law 1163 1164 1 (.iload_n 3) := ⟨by decide +kernel, rfl⟩
theorem d_L_law_1164 : kf_dq cL_law 1164 1165 1 (.iconst 1) := ⟨by decide +kernel, rfl⟩
theorem d_L_law_1165 : kf_dq cL_law 1165 1166 1 (.iadd) := ⟨by decide +kernel, rfl⟩
theorem d_L_law_1166 : kf_dq cL_law 1166 1167 1 (.iaload) := ⟨by decide +kernel, rfl⟩
theorem d_L_law_1167 : kf_dq cL_law 1167 1168 1 (.aload_n 0) := ⟨by decide +kernel, rfl⟩
theorem d_L_law_1168 : kf_dq cL_law 1168 1169 1 (.iload_n 3) := ⟨by decide +kernel, rfl⟩
theorem d_L_law_1169 : kf_dq cL_law 1169 1170 1 (.iconst 2) := ⟨by decide +kernel, rfl⟩
theorem d_L_law_1170 : kf_dq cL_law 1170 1171 1 (.iadd) := ⟨by decide +kernel, rfl⟩
theorem d_L_law_1171 : kf_dq cL_law 1171 1172 1 (.iaload) := ⟨by decide +kernel, rfl⟩
theorem d_L_law_1172 : kf_dq cL_law 1172 1173 1 (.aload_n 0) := ⟨by decide +kernel, rfl⟩
theorem d_L_law_1173 : kf_dq cL_law 1173 1174 1 (.iload_n 3) := ⟨by decide +kernel, rfl⟩
theorem d_L_law_1174 : kf_dq cL_law 1174 1175 1 (.iconst 3) := ⟨by decide +kernel, rfl⟩
theorem d_L_law_1175 : kf_dq cL_law 1175 1176 1 (.iadd) := ⟨by decide +kernel, rfl⟩
theorem d_L_law_1176 : kf_dq cL_law 1176 1177 1 (.iaload) := ⟨by decide +kernel, rfl⟩
theorem d_L_law_1177 : kf_dq cL_law 1177 1180 3 (.invokevirtual 146) := ⟨by decide +kernel, rfl⟩
theorem d_L_law_1180 : kf_dq cL_law 1180 1181 1 (.aload_n 2) := ⟨by decide +kernel, rfl⟩
theorem d_L_law_1181 : kf_dq cL_law 1181 1182 1 (.aload_n 0) := ⟨by decide +kernel, rfl⟩
theorem d_L_law_1182 : kf_dq cL_law 1182 1183 1 (.iload_n 3) := ⟨by decide +kernel, rfl⟩
theorem d_L_law_1183 : kf_dq cL_law 1183 1184 1 (.iconst 1) := ⟨by decide +kernel, rfl⟩
theorem d_L_law_1184 : kf_dq cL_law 1184 1185 1 (.iadd) := ⟨by decide +kernel, rfl⟩
theorem d_L_law_1185 : kf_dq cL_law 1185 1186 1 (.iaload) := ⟨by decide +kernel, rfl⟩
theorem d_L_law_1186 : kf_dq cL_law 1186 1187 1 (.aload_n 0) := ⟨by decide +kernel, rfl⟩
theorem d_L_law_1187 : kf_dq cL_law 1187 1188 1 (.iload_n 3) := ⟨by decide +kernel, rfl⟩
theorem d_L_law_1188 : kf_dq cL_law 1188 1189 1 (.iconst 2) := ⟨by decide +kernel, rfl⟩
theorem d_L_law_1189 : kf_dq cL_law 1189 1190 1 (.iadd) := ⟨by decide +kernel, rfl⟩
theorem d_L_law_1190 : kf_dq cL_law 1190 1191 1 (.iaload) := ⟨by decide +kernel, rfl⟩
theorem d_L_law_1191 : kf_dq cL_law 1191 1192 1 (.aload_n 0) := ⟨by decide +kernel, rfl⟩
theorem d_L_law_1192 : kf_dq cL_law 1192 1193 1 (.iload_n 3) := ⟨by decide +kernel, rfl⟩
theorem d_L_law_1193 : kf_dq cL_law 1193 1194 1 (.iconst 3) := ⟨by decide +kernel, rfl⟩
theorem d_L_law_1194 : kf_dq cL_law 1194 1195 1 (.iadd) := ⟨by decide +kernel, rfl⟩
theorem d_L_law_1195 : kf_dq cL_law 1195 1196 1 (.iaload) := ⟨by decide +kernel, rfl⟩
theorem d_L_law_1196 : kf_dq cL_law 1196 1199 3 (.invokevirtual 149) := ⟨by decide +kernel, rfl⟩
theorem d_L_law_1199 : kf_dj cL_law 1199 1202 1471 (.if_icmp .eq) := ⟨272, by decide +kernel, rfl, by decide⟩
theorem d_L_law_1202 : kf_dq cL_law 1202 1203 1 (.iconst 0) := ⟨by decide +kernel, rfl⟩
theorem d_L_law_1203 : kf_dq cL_law 1203 1204 1 (.ireturn) := ⟨by decide +kernel, rfl⟩
theorem d_L_law_1204 : kf_dq cL_law 1204 1205 1 (.aload_n 1) := ⟨by decide +kernel, rfl⟩
theorem d_L_law_1205 : kf_dq cL_law 1205 1206 1 (.aload_n 0) := ⟨by decide +kernel, rfl⟩
theorem d_L_law_1206 : kf_dq cL_law 1206 1207 1 (.iload_n 3) := ⟨by decide +kernel, rfl⟩
theorem d_L_law_1207 : kf_dq cL_law 1207 1208 1 (.iconst 1) := ⟨by decide +kernel, rfl⟩
theorem d_L_law_1208 : kf_dq cL_law 1208 1209 1 (.iadd) := ⟨by decide +kernel, rfl⟩
theorem d_L_law_1209 : kf_dq cL_law 1209 1210 1 (.iaload) := ⟨by decide +kernel, rfl⟩
theorem d_L_law_1210 : kf_dq cL_law 1210 1211 1 (.aload_n 0) := ⟨by decide +kernel, rfl⟩
theorem d_L_law_1211 : kf_dq cL_law 1211 1212 1 (.iload_n 3) := ⟨by decide +kernel, rfl⟩
theorem d_L_law_1212 : kf_dq cL_law 1212 1213 1 (.iconst 2) := ⟨by decide +kernel, rfl⟩
theorem d_L_law_1213 : kf_dq cL_law 1213 1214 1 (.iadd) := ⟨by decide +kernel, rfl⟩
theorem d_L_law_1214 : kf_dq cL_law 1214 1215 1 (.iaload) := ⟨by decide +kernel, rfl⟩
theorem d_L_law_1215 : kf_dq cL_law 1215 1218 3 (.invokevirtual 150) := ⟨by decide +kernel, rfl⟩
theorem d_L_law_1218 : kf_dq cL_law 1218 1219 1 (.aload_n 2) := ⟨by decide +kernel, rfl⟩
theorem d_L_law_1219 : kf_dq cL_law 1219 1220 1 (.aload_n 0) := ⟨by decide +kernel, rfl⟩
theorem d_L_law_1220 : kf_dq cL_law 1220 1221 1 (.iload_n 3) := ⟨by decide +kernel, rfl⟩
theorem d_L_law_1221 : kf_dq cL_law 1221 1222 1 (.iconst 1) := ⟨by decide +kernel, rfl⟩
theorem d_L_law_1222 : kf_dq cL_law 1222 1223 1 (.iadd) := ⟨by decide +kernel, rfl⟩
theorem d_L_law_1223 : kf_dq cL_law 1223 1224 1 (.iaload) := ⟨by decide +kernel, rfl⟩
theorem d_L_law_1224 : kf_dq cL_law 1224 1225 1 (.aload_n 0) := ⟨by decide +kernel, rfl⟩
theorem d_L_law_1225 : kf_dq cL_law 1225 1226 1 (.iload_n 3) := ⟨by decide +kernel, rfl⟩
theorem d_L_law_1226 : kf_dq cL_law 1226 1227 1 (.iconst 2) := ⟨by decide +kernel, rfl⟩
theorem d_L_law_1227 : kf_dq cL_law 1227 1228 1 (.iadd) := ⟨by decide +kernel, rfl⟩
theorem d_L_law_1228 : kf_dq cL_law 1228 1229 1 (.iaload) := ⟨by decide +kernel, rfl⟩
theorem d_L_law_1229 : kf_dq cL_law 1229 1232 3 (.invokevirtual 153) := ⟨by decide +kernel, rfl⟩
theorem d_L_law_1232 : kf_dj cL_law 1232 1235 1471 (.if_icmp .eq) := ⟨239, by decide +kernel, rfl, by decide⟩
theorem d_L_law_1235 : kf_dq cL_law 1235 1236 1 (.iconst 0) := ⟨by decide +kernel, rfl⟩
theorem d_L_law_1236 : kf_dq cL_law 1236 1237 1 (.ireturn) := ⟨by decide +kernel, rfl⟩
theorem d_L_law_1237 : kf_dq cL_law 1237 1238 1 (.aload_n 1) := ⟨by decide +kernel, rfl⟩
theorem d_L_law_1238 : kf_dq cL_law 1238 1239 1 (.aload_n 0) := ⟨by decide +kernel, rfl⟩
theorem d_L_law_1239 : kf_dq cL_law 1239 1240 1 (.iload_n 3) := ⟨by decide +kernel, rfl⟩
theorem d_L_law_1240 : kf_dq cL_law 1240 1241 1 (.iconst 1) := ⟨by decide +kernel, rfl⟩
theorem d_L_law_1241 : kf_dq cL_law 1241 1242 1 (.iadd) := ⟨by decide +kernel, rfl⟩
theorem d_L_law_1242 : kf_dq cL_law 1242 1243 1 (.iaload) := ⟨by decide +kernel, rfl⟩
theorem d_L_law_1243 : kf_dq cL_law 1243 1244 1 (.aload_n 0) := ⟨by decide +kernel, rfl⟩
theorem d_L_law_1244 : kf_dq cL_law 1244 1245 1 (.iload_n 3) := ⟨by decide +kernel, rfl⟩
theorem d_L_law_1245 : kf_dq cL_law 1245 1246 1 (.iconst 2) := ⟨by decide +kernel, rfl⟩
theorem d_L_law_1246 : kf_dq cL_law 1246 1247 1 (.iadd) := ⟨by decide +kernel, rfl⟩
theorem d_L_law_1247 : kf_dq cL_law 1247 1248 1 (.iaload) := ⟨by decide +kernel, rfl⟩
theorem d_L_law_1248 : kf_dq cL_law 1248 1249 1 (.aload_n 0) := ⟨by decide +kernel, rfl⟩
theorem d_L_law_1249 : kf_dq cL_law 1249 1250 1 (.iload_n 3) := ⟨by decide +kernel, rfl⟩
theorem d_L_law_1250 : kf_dq cL_law 1250 1251 1 (.iconst 3) := ⟨by decide +kernel, rfl⟩
theorem d_L_law_1251 : kf_dq cL_law 1251 1252 1 (.iadd) := ⟨by decide +kernel, rfl⟩
theorem d_L_law_1252 : kf_dq cL_law 1252 1253 1 (.iaload) := ⟨by decide +kernel, rfl⟩
theorem d_L_law_1253 : kf_dq cL_law 1253 1254 1 (.aload_n 0) := ⟨by decide +kernel, rfl⟩
theorem d_L_law_1254 : kf_dq cL_law 1254 1255 1 (.iload_n 3) := ⟨by decide +kernel, rfl⟩
theorem d_L_law_1255 : kf_dq cL_law 1255 1256 1 (.iconst 4) := ⟨by decide +kernel, rfl⟩
theorem d_L_law_1256 : kf_dq cL_law 1256 1257 1 (.iadd) := ⟨by decide +kernel, rfl⟩
theorem d_L_law_1257 : kf_dq cL_law 1257 1258 1 (.iaload) := ⟨by decide +kernel, rfl⟩
theorem d_L_law_1258 : kf_dq cL_law 1258 1261 3 (.invokevirtual 154) := ⟨by decide +kernel, rfl⟩
theorem d_L_law_1261 : kf_dq cL_law 1261 1262 1 (.aload_n 2) := ⟨by decide +kernel, rfl⟩
theorem d_L_law_1262 : kf_dq cL_law 1262 1263 1 (.aload_n 0) := ⟨by decide +kernel, rfl⟩
theorem d_L_law_1263 : kf_dq cL_law 1263 1264 1 (.iload_n 3) := ⟨by decide +kernel, rfl⟩
theorem d_L_law_1264 : kf_dq cL_law 1264 1265 1 (.iconst 1) := ⟨by decide +kernel, rfl⟩
theorem d_L_law_1265 : kf_dq cL_law 1265 1266 1 (.iadd) := ⟨by decide +kernel, rfl⟩
theorem d_L_law_1266 : kf_dq cL_law 1266 1267 1 (.iaload) := ⟨by decide +kernel, rfl⟩
theorem d_L_law_1267 : kf_dq cL_law 1267 1268 1 (.aload_n 0) := ⟨by decide +kernel, rfl⟩
theorem d_L_law_1268 : kf_dq cL_law 1268 1269 1 (.iload_n 3) := ⟨by decide +kernel, rfl⟩
theorem d_L_law_1269 : kf_dq cL_law 1269 1270 1 (.iconst 2) := ⟨by decide +kernel, rfl⟩
theorem d_L_law_1270 : kf_dq cL_law 1270 1271 1 (.iadd) := ⟨by decide +kernel, rfl⟩
theorem d_L_law_1271 : kf_dq cL_law 1271 1272 1 (.iaload) := ⟨by decide +kernel, rfl⟩
theorem d_L_law_1272 : kf_dq cL_law 1272 1273 1 (.aload_n 0) := ⟨by decide +kernel, rfl⟩
theorem d_L_law_1273 : kf_dq cL_law 1273 1274 1 (.iload_n 3) := ⟨by decide +kernel, rfl⟩
theorem d_L_law_1274 : kf_dq cL_law 1274 1275 1 (.iconst 3) := ⟨by decide +kernel, rfl⟩
theorem d_L_law_1275 : kf_dq cL_law 1275 1276 1 (.iadd) := ⟨by decide +kernel, rfl⟩
theorem d_L_law_1276 : kf_dq cL_law 1276 1277 1 (.iaload) := ⟨by decide +kernel, rfl⟩
theorem d_L_law_1277 : kf_dq cL_law 1277 1278 1 (.aload_n 0) := ⟨by decide +kernel, rfl⟩
theorem d_L_law_1278 : kf_dq cL_law 1278 1279 1 (.iload_n 3) := ⟨by decide +kernel, rfl⟩
theorem d_L_law_1279 : kf_dq cL_law 1279 1280 1 (.iconst 4) := ⟨by decide +kernel, rfl⟩
theorem d_L_law_1280 : kf_dq cL_law 1280 1281 1 (.iadd) := ⟨by decide +kernel, rfl⟩
theorem d_L_law_1281 : kf_dq cL_law 1281 1282 1 (.iaload) := ⟨by decide +kernel, rfl⟩
theorem d_L_law_1282 : kf_dq cL_law 1282 1285 3 (.invokevirtual 158) := ⟨by decide +kernel, rfl⟩
theorem d_L_law_1285 : kf_dj cL_law 1285 1288 1471 (.if_icmp .eq) := ⟨186, by decide +kernel, rfl, by decide⟩
theorem d_L_law_1288 : kf_dq cL_law 1288 1289 1 (.iconst 0) := ⟨by decide +kernel, rfl⟩
theorem d_L_law_1289 : kf_dq cL_law 1289 1290 1 (.ireturn) := ⟨by decide +kernel, rfl⟩
theorem d_L_law_1290 : kf_dq cL_law 1290 1291 1 (.aload_n 1) := ⟨by decide +kernel, rfl⟩
theorem d_L_law_1291 : kf_dq cL_law 1291 1292 1 (.aload_n 0) := ⟨by decide +kernel, rfl⟩
theorem d_L_law_1292 : kf_dq cL_law 1292 1293 1 (.iload_n 3) := ⟨by decide +kernel, rfl⟩
theorem d_L_law_1293 : kf_dq cL_law 1293 1294 1 (.iconst 1) := ⟨by decide +kernel, rfl⟩
theorem d_L_law_1294 : kf_dq cL_law 1294 1295 1 (.iadd) := ⟨by decide +kernel, rfl⟩
theorem d_L_law_1295 : kf_dq cL_law 1295 1296 1 (.iaload) := ⟨by decide +kernel, rfl⟩
theorem d_L_law_1296 : kf_dq cL_law 1296 1297 1 (.aload_n 0) := ⟨by decide +kernel, rfl⟩
theorem d_L_law_1297 : kf_dq cL_law 1297 1298 1 (.iload_n 3) := ⟨by decide +kernel, rfl⟩
theorem d_L_law_1298 : kf_dq cL_law 1298 1299 1 (.iconst 2) := ⟨by decide +kernel, rfl⟩
theorem d_L_law_1299 : kf_dq cL_law 1299 1300 1 (.iadd) := ⟨by decide +kernel, rfl⟩
theorem d_L_law_1300 : kf_dq cL_law 1300 1301 1 (.iaload) := ⟨by decide +kernel, rfl⟩
theorem d_L_law_1301 : kf_dq cL_law 1301 1302 1 (.aload_n 0) := ⟨by decide +kernel, rfl⟩
theorem d_L_law_1302 : kf_dq cL_law 1302 1303 1 (.iload_n 3) := ⟨by decide +kernel, rfl⟩
theorem d_L_law_1303 : kf_dq cL_law 1303 1304 1 (.iconst 3) := ⟨by decide +kernel, rfl⟩
theorem d_L_law_1304 : kf_dq cL_law 1304 1305 1 (.iadd) := ⟨by decide +kernel, rfl⟩
theorem d_L_law_1305 : kf_dq cL_law 1305 1306 1 (.iaload) := ⟨by decide +kernel, rfl⟩
theorem d_L_law_1306 : kf_dq cL_law 1306 1309 3 (.invokevirtual 159) := ⟨by decide +kernel, rfl⟩
theorem d_L_law_1309 : kf_dq cL_law 1309 1310 1 (.aload_n 2) := ⟨by decide +kernel, rfl⟩
theorem d_L_law_1310 : kf_dq cL_law 1310 1311 1 (.aload_n 0) := ⟨by decide +kernel, rfl⟩
theorem d_L_law_1311 : kf_dq cL_law 1311 1312 1 (.iload_n 3) := ⟨by decide +kernel, rfl⟩
theorem d_L_law_1312 : kf_dq cL_law 1312 1313 1 (.iconst 1) := ⟨by decide +kernel, rfl⟩
theorem d_L_law_1313 : kf_dq cL_law 1313 1314 1 (.iadd) := ⟨by decide +kernel, rfl⟩
theorem d_L_law_1314 : kf_dq cL_law 1314 1315 1 (.iaload) := ⟨by decide +kernel, rfl⟩
theorem d_L_law_1315 : kf_dq cL_law 1315 1316 1 (.aload_n 0) := ⟨by decide +kernel, rfl⟩
theorem d_L_law_1316 : kf_dq cL_law 1316 1317 1 (.iload_n 3) := ⟨by decide +kernel, rfl⟩
theorem d_L_law_1317 : kf_dq cL_law 1317 1318 1 (.iconst 2) := ⟨by decide +kernel, rfl⟩
theorem d_L_law_1318 : kf_dq cL_law 1318 1319 1 (.iadd) := ⟨by decide +kernel, rfl⟩
theorem d_L_law_1319 : kf_dq cL_law 1319 1320 1 (.iaload) := ⟨by decide +kernel, rfl⟩
theorem d_L_law_1320 : kf_dq cL_law 1320 1321 1 (.aload_n 0) := ⟨by decide +kernel, rfl⟩
theorem d_L_law_1321 : kf_dq cL_law 1321 1322 1 (.iload_n 3) := ⟨by decide +kernel, rfl⟩
theorem d_L_law_1322 : kf_dq cL_law 1322 1323 1 (.iconst 3) := ⟨by decide +kernel, rfl⟩
theorem d_L_law_1323 : kf_dq cL_law 1323 1324 1 (.iadd) := ⟨by decide +kernel, rfl⟩
theorem d_L_law_1324 : kf_dq cL_law 1324 1325 1 (.iaload) := ⟨by decide +kernel, rfl⟩
theorem d_L_law_1325 : kf_dq cL_law 1325 1328 3 (.invokevirtual 162) := ⟨by decide +kernel, rfl⟩
theorem d_L_law_1328 : kf_dj cL_law 1328 1331 1471 (.if_icmp .eq) := ⟨143, by decide +kernel, rfl, by decide⟩
theorem d_L_law_1331 : kf_dq cL_law 1331 1332 1 (.iconst 0) := ⟨by decide +kernel, rfl⟩
theorem d_L_law_1332 : kf_dq cL_law 1332 1333 1 (.ireturn) := ⟨by decide +kernel, rfl⟩
theorem d_L_law_1333 : kf_dq cL_law 1333 1334 1 (.aload_n 1) := ⟨by decide +kernel, rfl⟩
theorem d_L_law_1334 : kf_dq cL_law 1334 1337 3 (.invokevirtual 163) := ⟨by decide +kernel, rfl⟩
theorem d_L_law_1337 : kf_dq cL_law 1337 1338 1 (.aload_n 2) := ⟨by decide +kernel, rfl⟩
theorem d_L_law_1338 : kf_dq cL_law 1338 1341 3 (.invokevirtual 166) := ⟨by decide +kernel, rfl⟩
theorem d_L_law_1341 : kf_dj cL_law 1341 1344 1471 (.if_icmp .eq) := ⟨130, by decide +kernel, rfl, by decide⟩
theorem d_L_law_1344 : kf_dq cL_law 1344 1345 1 (.iconst 0) := ⟨by decide +kernel, rfl⟩
theorem d_L_law_1345 : kf_dq cL_law 1345 1346 1 (.ireturn) := ⟨by decide +kernel, rfl⟩
theorem d_L_law_1346 : kf_dq cL_law 1346 1347 1 (.aload_n 1) := ⟨by decide +kernel, rfl⟩
theorem d_L_law_1347 : kf_dq cL_law 1347 1348 1 (.aload_n 0) := ⟨by decide +kernel, rfl⟩
theorem d_L_law_1348 : kf_dq cL_law 1348 1349 1 (.iload_n 3) := ⟨by decide +kernel, rfl⟩
theorem d_L_law_1349 : kf_dq cL_law 1349 1350 1 (.iconst 1) := ⟨by decide +kernel, rfl⟩
theorem d_L_law_1350 : kf_dq cL_law 1350 1351 1 (.iadd) := ⟨by decide +kernel, rfl⟩
theorem d_L_law_1351 : kf_dq cL_law 1351 1352 1 (.iaload) := ⟨by decide +kernel, rfl⟩
theorem d_L_law_1352 : kf_dq cL_law 1352 1353 1 (.aload_n 0) := ⟨by decide +kernel, rfl⟩
theorem d_L_law_1353 : kf_dq cL_law 1353 1354 1 (.iload_n 3) := ⟨by decide +kernel, rfl⟩
theorem d_L_law_1354 : kf_dq cL_law 1354 1355 1 (.iconst 2) := ⟨by decide +kernel, rfl⟩
theorem d_L_law_1355 : kf_dq cL_law 1355 1356 1 (.iadd) := ⟨by decide +kernel, rfl⟩
theorem d_L_law_1356 : kf_dq cL_law 1356 1357 1 (.iaload) := ⟨by decide +kernel, rfl⟩
theorem d_L_law_1357 : kf_dq cL_law 1357 1360 3 (.invokevirtual 167) := ⟨by decide +kernel, rfl⟩
theorem d_L_law_1360 : kf_dq cL_law 1360 1361 1 (.aload_n 2) := ⟨by decide +kernel, rfl⟩
theorem d_L_law_1361 : kf_dq cL_law 1361 1362 1 (.aload_n 0) := ⟨by decide +kernel, rfl⟩
theorem d_L_law_1362 : kf_dq cL_law 1362 1363 1 (.iload_n 3) := ⟨by decide +kernel, rfl⟩
theorem d_L_law_1363 : kf_dq cL_law 1363 1364 1 (.iconst 1) := ⟨by decide +kernel, rfl⟩
theorem d_L_law_1364 : kf_dq cL_law 1364 1365 1 (.iadd) := ⟨by decide +kernel, rfl⟩
theorem d_L_law_1365 : kf_dq cL_law 1365 1366 1 (.iaload) := ⟨by decide +kernel, rfl⟩
theorem d_L_law_1366 : kf_dq cL_law 1366 1367 1 (.aload_n 0) := ⟨by decide +kernel, rfl⟩
theorem d_L_law_1367 : kf_dq cL_law 1367 1368 1 (.iload_n 3) := ⟨by decide +kernel, rfl⟩
theorem d_L_law_1368 : kf_dq cL_law 1368 1369 1 (.iconst 2) := ⟨by decide +kernel, rfl⟩
theorem d_L_law_1369 : kf_dq cL_law 1369 1370 1 (.iadd) := ⟨by decide +kernel, rfl⟩
theorem d_L_law_1370 : kf_dq cL_law 1370 1371 1 (.iaload) := ⟨by decide +kernel, rfl⟩
theorem d_L_law_1371 : kf_dq cL_law 1371 1374 3 (.invokevirtual 170) := ⟨by decide +kernel, rfl⟩
theorem d_L_law_1374 : kf_dj cL_law 1374 1377 1471 (.if_icmp .eq) := ⟨97, by decide +kernel, rfl, by decide⟩
theorem d_L_law_1377 : kf_dq cL_law 1377 1378 1 (.iconst 0) := ⟨by decide +kernel, rfl⟩
theorem d_L_law_1378 : kf_dq cL_law 1378 1379 1 (.ireturn) := ⟨by decide +kernel, rfl⟩
theorem d_L_law_1379 : kf_dq cL_law 1379 1380 1 (.aload_n 1) := ⟨by decide +kernel, rfl⟩
theorem d_L_law_1380 : kf_dq cL_law 1380 1381 1 (.aload_n 0) := ⟨by decide +kernel, rfl⟩
theorem d_L_law_1381 : kf_dq cL_law 1381 1382 1 (.iload_n 3) := ⟨by decide +kernel, rfl⟩
theorem d_L_law_1382 : kf_dq cL_law 1382 1383 1 (.iconst 1) := ⟨by decide +kernel, rfl⟩
theorem d_L_law_1383 : kf_dq cL_law 1383 1384 1 (.iadd) := ⟨by decide +kernel, rfl⟩
theorem d_L_law_1384 : kf_dq cL_law 1384 1385 1 (.iaload) := ⟨by decide +kernel, rfl⟩
theorem d_L_law_1385 : kf_dq cL_law 1385 1388 3 (.invokevirtual 171) := ⟨by decide +kernel, rfl⟩
theorem d_L_law_1388 : kf_dq cL_law 1388 1389 1 (.aload_n 2) := ⟨by decide +kernel, rfl⟩
theorem d_L_law_1389 : kf_dq cL_law 1389 1390 1 (.aload_n 0) := ⟨by decide +kernel, rfl⟩
theorem d_L_law_1390 : kf_dq cL_law 1390 1391 1 (.iload_n 3) := ⟨by decide +kernel, rfl⟩
theorem d_L_law_1391 : kf_dq cL_law 1391 1392 1 (.iconst 1) := ⟨by decide +kernel, rfl⟩
theorem d_L_law_1392 : kf_dq cL_law 1392 1393 1 (.iadd) := ⟨by decide +kernel, rfl⟩
theorem d_L_law_1393 : kf_dq cL_law 1393 1394 1 (.iaload) := ⟨by decide +kernel, rfl⟩
theorem d_L_law_1394 : kf_dq cL_law 1394 1397 3 (.invokevirtual 174) := ⟨by decide +kernel, rfl⟩
theorem d_L_law_1397 : kf_dj cL_law 1397 1400 1471 (.if_icmp .eq) := ⟨74, by decide +kernel, rfl, by decide⟩
theorem d_L_law_1400 : kf_dq cL_law 1400 1401 1 (.iconst 0) := ⟨by decide +kernel, rfl⟩
theorem d_L_law_1401 : kf_dq cL_law 1401 1402 1 (.ireturn) := ⟨by decide +kernel, rfl⟩
theorem d_L_law_1402 : kf_dq cL_law 1402 1403 1 (.aload_n 1) := ⟨by decide +kernel, rfl⟩
theorem d_L_law_1403 : kf_dq cL_law 1403 1404 1 (.aload_n 0) := ⟨by decide +kernel, rfl⟩
theorem d_L_law_1404 : kf_dq cL_law 1404 1405 1 (.iload_n 3) := ⟨by decide +kernel, rfl⟩
theorem d_L_law_1405 : kf_dq cL_law 1405 1406 1 (.iconst 1) := ⟨by decide +kernel, rfl⟩
theorem d_L_law_1406 : kf_dq cL_law 1406 1407 1 (.iadd) := ⟨by decide +kernel, rfl⟩
theorem d_L_law_1407 : kf_dq cL_law 1407 1408 1 (.iaload) := ⟨by decide +kernel, rfl⟩
theorem d_L_law_1408 : kf_dq cL_law 1408 1411 3 (.invokevirtual 175) := ⟨by decide +kernel, rfl⟩
theorem d_L_law_1411 : kf_dq cL_law 1411 1412 1 (.aload_n 2) := ⟨by decide +kernel, rfl⟩
theorem d_L_law_1412 : kf_dq cL_law 1412 1413 1 (.aload_n 0) := ⟨by decide +kernel, rfl⟩
theorem d_L_law_1413 : kf_dq cL_law 1413 1414 1 (.iload_n 3) := ⟨by decide +kernel, rfl⟩
theorem d_L_law_1414 : kf_dq cL_law 1414 1415 1 (.iconst 1) := ⟨by decide +kernel, rfl⟩
theorem d_L_law_1415 : kf_dq cL_law 1415 1416 1 (.iadd) := ⟨by decide +kernel, rfl⟩
theorem d_L_law_1416 : kf_dq cL_law 1416 1417 1 (.iaload) := ⟨by decide +kernel, rfl⟩
theorem d_L_law_1417 : kf_dq cL_law 1417 1420 3 (.invokevirtual 178) := ⟨by decide +kernel, rfl⟩
theorem d_L_law_1420 : kf_dj cL_law 1420 1423 1471 (.if_icmp .eq) := ⟨51, by decide +kernel, rfl, by decide⟩
theorem d_L_law_1423 : kf_dq cL_law 1423 1424 1 (.iconst 0) := ⟨by decide +kernel, rfl⟩
theorem d_L_law_1424 : kf_dq cL_law 1424 1425 1 (.ireturn) := ⟨by decide +kernel, rfl⟩
theorem d_L_law_1425 : kf_dq cL_law 1425 1426 1 (.aload_n 1) := ⟨by decide +kernel, rfl⟩
theorem d_L_law_1426 : kf_dq cL_law 1426 1427 1 (.aload_n 0) := ⟨by decide +kernel, rfl⟩
theorem d_L_law_1427 : kf_dq cL_law 1427 1428 1 (.iload_n 3) := ⟨by decide +kernel, rfl⟩
theorem d_L_law_1428 : kf_dq cL_law 1428 1429 1 (.iconst 1) := ⟨by decide +kernel, rfl⟩
theorem d_L_law_1429 : kf_dq cL_law 1429 1430 1 (.iadd) := ⟨by decide +kernel, rfl⟩
theorem d_L_law_1430 : kf_dq cL_law 1430 1431 1 (.iaload) := ⟨by decide +kernel, rfl⟩
theorem d_L_law_1431 : kf_dq cL_law 1431 1434 3 (.invokevirtual 179) := ⟨by decide +kernel, rfl⟩
theorem d_L_law_1434 : kf_dq cL_law 1434 1435 1 (.aload_n 2) := ⟨by decide +kernel, rfl⟩
theorem d_L_law_1435 : kf_dq cL_law 1435 1436 1 (.aload_n 0) := ⟨by decide +kernel, rfl⟩
theorem d_L_law_1436 : kf_dq cL_law 1436 1437 1 (.iload_n 3) := ⟨by decide +kernel, rfl⟩
theorem d_L_law_1437 : kf_dq cL_law 1437 1438 1 (.iconst 1) := ⟨by decide +kernel, rfl⟩
theorem d_L_law_1438 : kf_dq cL_law 1438 1439 1 (.iadd) := ⟨by decide +kernel, rfl⟩
theorem d_L_law_1439 : kf_dq cL_law 1439 1440 1 (.iaload) := ⟨by decide +kernel, rfl⟩
theorem d_L_law_1440 : kf_dq cL_law 1440 1443 3 (.invokevirtual 182) := ⟨by decide +kernel, rfl⟩
theorem d_L_law_1443 : kf_dj cL_law 1443 1446 1471 (.if_icmp .eq) := ⟨28, by decide +kernel, rfl, by decide⟩
theorem d_L_law_1446 : kf_dq cL_law 1446 1447 1 (.iconst 0) := ⟨by decide +kernel, rfl⟩
theorem d_L_law_1447 : kf_dq cL_law 1447 1448 1 (.ireturn) := ⟨by decide +kernel, rfl⟩
theorem d_L_law_1448 : kf_dq cL_law 1448 1449 1 (.aload_n 1) := ⟨by decide +kernel, rfl⟩
theorem d_L_law_1449 : kf_dq cL_law 1449 1450 1 (.aload_n 0) := ⟨by decide +kernel, rfl⟩
theorem d_L_law_1450 : kf_dq cL_law 1450 1451 1 (.iload_n 3) := ⟨by decide +kernel, rfl⟩
theorem d_L_law_1451 : kf_dq cL_law 1451 1452 1 (.iconst 1) := ⟨by decide +kernel, rfl⟩
theorem d_L_law_1452 : kf_dq cL_law 1452 1453 1 (.iadd) := ⟨by decide +kernel, rfl⟩
theorem d_L_law_1453 : kf_dq cL_law 1453 1454 1 (.iaload) := ⟨by decide +kernel, rfl⟩
theorem d_L_law_1454 : kf_dq cL_law 1454 1457 3 (.invokevirtual 183) := ⟨by decide +kernel, rfl⟩
theorem d_L_law_1457 : kf_dq cL_law 1457 1458 1 (.aload_n 2) := ⟨by decide +kernel, rfl⟩
theorem d_L_law_1458 : kf_dq cL_law 1458 1459 1 (.aload_n 0) := ⟨by decide +kernel, rfl⟩
theorem d_L_law_1459 : kf_dq cL_law 1459 1460 1 (.iload_n 3) := ⟨by decide +kernel, rfl⟩
theorem d_L_law_1460 : kf_dq cL_law 1460 1461 1 (.iconst 1) := ⟨by decide +kernel, rfl⟩
theorem d_L_law_1461 : kf_dq cL_law 1461 1462 1 (.iadd) := ⟨by decide +kernel, rfl⟩
theorem d_L_law_1462 : kf_dq cL_law 1462 1463 1 (.iaload) := ⟨by decide +kernel, rfl⟩
theorem d_L_law_1463 : kf_dq cL_law 1463 1466 3 (.invokevirtual 186) := ⟨by decide +kernel, rfl⟩
theorem d_L_law_1466 : kf_dj cL_law 1466 1469 1471 (.if_icmp .eq) := ⟨5, by decide +kernel, rfl, by decide⟩
theorem d_L_law_1469 : kf_dq cL_law 1469 1470 1 (.iconst 0) := ⟨by decide +kernel, rfl⟩
theorem d_L_law_1470 : kf_dq cL_law 1470 1471 1 (.ireturn) := ⟨by decide +kernel, rfl⟩
theorem d_L_law_1471 : kf_dq cL_law 1471 1474 3 (.iinc 3 6) := ⟨by decide +kernel, rfl⟩
theorem d_L_law_1474 : kf_dj cL_law 1474 1477 18 .goto := ⟨(-1456), by decide +kernel, rfl, by decide⟩
theorem d_L_law_1477 : kf_dq cL_law 1477 1478 1 (.iconst 1) := ⟨by decide +kernel, rfl⟩
theorem d_L_law_1478 : kf_dq cL_law 1478 1479 1 (.ireturn) := ⟨by decide +kernel, rfl⟩
def f_L_law_1471 (L : Nat) (xs : Nat → Int32) (rec18 : Nat → Nat → Nat → Int32 → kf_St → Option (Int32 × kf_St)) (v0 : Nat) (v1 : Nat) (v2 : Nat) (v3 : Int32) (σ : kf_St) : Option (Int32 × kf_St) :=
  kf_lt (v3 + 6) fun v3_1 =>
  rec18 v0 v1 v2 v3_1 σ
set_option maxRecDepth 100000 in
set_option maxHeartbeats 4000000 in
theorem b_L_law_1471 {X : kf_X} {G : kf_G} {Q : State → Prop} {L : Nat} {xs : Nat → Int32} {rec18 : Nat → Nat → Nat → Int32 → kf_St → Option (Int32 × kf_St)} {q : (Int32 × kf_St)} (E : kf_ok X G cL_law RL 4 (some .boolean) (42)) (hty : kf_wt G) (hend : ∀ {pc pc1 : Nat} (_ : kf_dq cL_law pc pc1 1 .ireturn) (lv : List (Nat × Value)) (σ : kf_St), kf_WA X G 4 Q pc lv [.int 1] σ) (hq1 : q.1 = 1) (hrec18 : ∀ (v0 : Nat) (v1 : Nat) (v2 : Nat) (v3 : Int32) (k_v0 : kf_scr X G v0 L xs) (k_v1 : kf_kd G v1 = 12) (k_v2 : kf_kd G v2 = 13) (σ : kf_St), rec18 v0 v1 v2 v3 σ = some q → kf_WA X G 4 Q 18 [(0, .ref v0), (1, .ref (kf_ad G v1)), (2, .ref (kf_ad G v2)), (3, .int v3)] [] σ) (v0 : Nat) (v1 : Nat) (v2 : Nat) (v3 : Int32) (k_v0 : kf_scr X G v0 L xs) (k_v1 : kf_kd G v1 = 12) (k_v2 : kf_kd G v2 = 13) (σ : kf_St) (h : f_L_law_1471 L xs rec18 v0 v1 v2 v3 σ = some q) : kf_WA X G 4 Q 1471 [(0, .ref v0), (1, .ref (kf_ad G v1)), (2, .ref (kf_ad G v2)), (3, .int v3)] [] σ := by
  unfold f_L_law_1471 at h
  obtain ⟨v3_1, ev3_1, h⟩ := kf_lte h
  refine wa_iinc (lv' := [(3, .int v3_1), (0, .ref v0), (1, .ref (kf_ad G v1)), (2, .ref (kf_ad G v2))]) v3_1 3 rfl (kf_inc ic_6 ev3_1) (by decide) rfl E d_L_law_1471 ?_
  refine wa_goto E d_L_law_1474 ?_
  refine wa_sub [1, 2, 3, 0] rfl ?_
  exact hrec18 v0 v1 v2 v3_1 k_v0 k_v1 k_v2 σ h
def f_L_law_212 (L : Nat) (xs : Nat → Int32) (rec18 : Nat → Nat → Nat → Int32 → kf_St → Option (Int32 × kf_St)) (v0 : Nat) (v1 : Nat) (v2 : Nat) (v3 : Int32) (σ : kf_St) : Option (Int32 × kf_St) :=
  if kf_ix (v3 + 1) L = true then
  if kf_ix (v3 + 2) L = true then
  if kf_ix (v3 + 3) L = true then
  if kf_ix (v3 + 4) L = true then
  if kf_ix (v3 + 5) L = true then
  (f_X11_feed v1 (xs (Int32.toNatClampNeg (v3 + 1))) (xs (Int32.toNatClampNeg (v3 + 2))) (xs (Int32.toNatClampNeg (v3 + 3))) (xs (Int32.toNatClampNeg (v3 + 4))) (xs (Int32.toNatClampNeg (v3 + 5))) σ).bind fun q_6 =>
  if kf_ix (v3 + 1) L = true then
  if kf_ix (v3 + 2) L = true then
  if kf_ix (v3 + 3) L = true then
  if kf_ix (v3 + 4) L = true then
  if kf_ix (v3 + 5) L = true then
  (f_X12_feed v2 (xs (Int32.toNatClampNeg (v3 + 1))) (xs (Int32.toNatClampNeg (v3 + 2))) (xs (Int32.toNatClampNeg (v3 + 3))) (xs (Int32.toNatClampNeg (v3 + 4))) (xs (Int32.toNatClampNeg (v3 + 5))) q_6.2).bind fun q_12 =>
  if q_6.1 = q_12.1 then
    f_L_law_1471 L xs rec18 v0 v1 v2 v3 q_12.2
  else
    some (0, q_12.2)
  else none
  else none
  else none
  else none
  else none
  else none
  else none
  else none
  else none
  else none
set_option maxRecDepth 100000 in
set_option maxHeartbeats 4000000 in
theorem b_L_law_212 {X : kf_X} {G : kf_G} {Q : State → Prop} {L : Nat} {xs : Nat → Int32} {rec18 : Nat → Nat → Nat → Int32 → kf_St → Option (Int32 × kf_St)} {q : (Int32 × kf_St)} (E : kf_ok X G cL_law RL 4 (some .boolean) (42)) (hty : kf_wt G) (hend : ∀ {pc pc1 : Nat} (_ : kf_dq cL_law pc pc1 1 .ireturn) (lv : List (Nat × Value)) (σ : kf_St), kf_WA X G 4 Q pc lv [.int 1] σ) (hq1 : q.1 = 1) (hrec18 : ∀ (v0 : Nat) (v1 : Nat) (v2 : Nat) (v3 : Int32) (k_v0 : kf_scr X G v0 L xs) (k_v1 : kf_kd G v1 = 12) (k_v2 : kf_kd G v2 = 13) (σ : kf_St), rec18 v0 v1 v2 v3 σ = some q → kf_WA X G 4 Q 18 [(0, .ref v0), (1, .ref (kf_ad G v1)), (2, .ref (kf_ad G v2)), (3, .int v3)] [] σ) (v0 : Nat) (v1 : Nat) (v2 : Nat) (v3 : Int32) (k_v0 : kf_scr X G v0 L xs) (k_v1 : kf_kd G v1 = 12) (k_v2 : kf_kd G v2 = 13) (σ : kf_St) (h : f_L_law_212 L xs rec18 v0 v1 v2 v3 σ = some q) : kf_WA X G 4 Q 212 [(0, .ref v0), (1, .ref (kf_ad G v1)), (2, .ref (kf_ad G v2)), (3, .int v3)] [] σ := by
  unfold f_L_law_212 at h
  refine wa_aload_n 1 rfl E d_L_law_212 ?_
  refine wa_aload_n 0 rfl E d_L_law_213 ?_
  refine wa_iload_n 3 rfl E d_L_law_214 ?_
  refine wa_iconst 1 ic_1 E d_L_law_215 ?_
  refine wa_iadd E d_L_law_216 ?_
  obtain ⟨g_1, h⟩ := kf_gd h
  refine wa_sald k_v0 g_1 E d_L_law_217 ?_
  refine wa_aload_n 0 rfl E d_L_law_218 ?_
  refine wa_iload_n 3 rfl E d_L_law_219 ?_
  refine wa_iconst 2 ic_2 E d_L_law_220 ?_
  refine wa_iadd E d_L_law_221 ?_
  obtain ⟨g_2, h⟩ := kf_gd h
  refine wa_sald k_v0 g_2 E d_L_law_222 ?_
  refine wa_aload_n 0 rfl E d_L_law_223 ?_
  refine wa_iload_n 3 rfl E d_L_law_224 ?_
  refine wa_iconst 3 ic_3 E d_L_law_225 ?_
  refine wa_iadd E d_L_law_226 ?_
  obtain ⟨g_3, h⟩ := kf_gd h
  refine wa_sald k_v0 g_3 E d_L_law_227 ?_
  refine wa_aload_n 0 rfl E d_L_law_228 ?_
  refine wa_iload_n 3 rfl E d_L_law_229 ?_
  refine wa_iconst 4 ic_4 E d_L_law_230 ?_
  refine wa_iadd E d_L_law_231 ?_
  obtain ⟨g_4, h⟩ := kf_gd h
  refine wa_sald k_v0 g_4 E d_L_law_232 ?_
  refine wa_aload_n 0 rfl E d_L_law_233 ?_
  refine wa_iload_n 3 rfl E d_L_law_234 ?_
  refine wa_iconst 5 ic_5 E d_L_law_235 ?_
  refine wa_iadd E d_L_law_236 ?_
  obtain ⟨g_5, h⟩ := kf_gd h
  refine wa_sald k_v0 g_5 E d_L_law_237 ?_
  obtain ⟨q_6, hq_6, h⟩ := kf_bd h
  refine wa_callV (st2 := [.int q_6.1]) (c_X11_feed hty v1 (xs (Int32.toNatClampNeg (v3 + 1))) (xs (Int32.toNatClampNeg (v3 + 2))) (xs (Int32.toNatClampNeg (v3 + 3))) (xs (Int32.toNatClampNeg (v3 + 4))) (xs (Int32.toNatClampNeg (v3 + 5))) k_v1 σ hq_6) mv_X11_feed ml_L_13 k_v1 rfl (Nat.le_of_ble_eq_true rfl) rfl (Nat.le_of_ble_eq_true rfl) E d_L_law_238 rfl ?_
  refine wa_aload_n 2 rfl E d_L_law_241 ?_
  refine wa_aload_n 0 rfl E d_L_law_242 ?_
  refine wa_iload_n 3 rfl E d_L_law_243 ?_
  refine wa_iconst 1 ic_1 E d_L_law_244 ?_
  refine wa_iadd E d_L_law_245 ?_
  obtain ⟨g_7, h⟩ := kf_gd h
  refine wa_sald k_v0 g_7 E d_L_law_246 ?_
  refine wa_aload_n 0 rfl E d_L_law_247 ?_
  refine wa_iload_n 3 rfl E d_L_law_248 ?_
  refine wa_iconst 2 ic_2 E d_L_law_249 ?_
  refine wa_iadd E d_L_law_250 ?_
  obtain ⟨g_8, h⟩ := kf_gd h
  refine wa_sald k_v0 g_8 E d_L_law_251 ?_
  refine wa_aload_n 0 rfl E d_L_law_252 ?_
  refine wa_iload_n 3 rfl E d_L_law_253 ?_
  refine wa_iconst 3 ic_3 E d_L_law_254 ?_
  refine wa_iadd E d_L_law_255 ?_
  obtain ⟨g_9, h⟩ := kf_gd h
  refine wa_sald k_v0 g_9 E d_L_law_256 ?_
  refine wa_aload_n 0 rfl E d_L_law_257 ?_
  refine wa_iload_n 3 rfl E d_L_law_258 ?_
  refine wa_iconst 4 ic_4 E d_L_law_259 ?_
  refine wa_iadd E d_L_law_260 ?_
  obtain ⟨g_10, h⟩ := kf_gd h
  refine wa_sald k_v0 g_10 E d_L_law_261 ?_
  refine wa_aload_n 0 rfl E d_L_law_262 ?_
  refine wa_iload_n 3 rfl E d_L_law_263 ?_
  refine wa_iconst 5 ic_5 E d_L_law_264 ?_
  refine wa_iadd E d_L_law_265 ?_
  obtain ⟨g_11, h⟩ := kf_gd h
  refine wa_sald k_v0 g_11 E d_L_law_266 ?_
  obtain ⟨q_12, hq_12, h⟩ := kf_bd h
  refine wa_callV (st2 := [.int q_12.1, .int q_6.1]) (c_X12_feed hty v2 (xs (Int32.toNatClampNeg (v3 + 1))) (xs (Int32.toNatClampNeg (v3 + 2))) (xs (Int32.toNatClampNeg (v3 + 3))) (xs (Int32.toNatClampNeg (v3 + 4))) (xs (Int32.toNatClampNeg (v3 + 5))) k_v2 q_6.2 hq_12) mv_X12_feed ml_L_17 k_v2 rfl (Nat.le_of_ble_eq_true rfl) rfl (Nat.le_of_ble_eq_true rfl) E d_L_law_267 rfl ?_
  refine wa_icmp_eq E d_L_law_270 (fun c_13 => ?_) (fun c_13 => ?_)
  · replace h := kf_ift c_13 h
    exact b_L_law_1471 E hty hend hq1 hrec18 v0 v1 v2 v3 k_v0 k_v1 k_v2 q_12.2 h
  · replace h := kf_iff c_13 h
    refine wa_iconst 0 ic_0 E d_L_law_273 ?_
    cases h
    exact absurd (show (0 : Int32) = 1 from hq1) (by decide)
def f_L_law_275 (L : Nat) (xs : Nat → Int32) (rec18 : Nat → Nat → Nat → Int32 → kf_St → Option (Int32 × kf_St)) (v0 : Nat) (v1 : Nat) (v2 : Nat) (v3 : Int32) (σ : kf_St) : Option (Int32 × kf_St) :=
  if kf_ix (v3 + 1) L = true then
  (f_X11_back v1 (xs (Int32.toNatClampNeg (v3 + 1))) σ).bind fun q_2 =>
  if kf_ix (v3 + 1) L = true then
  (f_X12_back v2 (xs (Int32.toNatClampNeg (v3 + 1))) q_2.2).bind fun q_4 =>
  if q_2.1 = q_4.1 then
    f_L_law_1471 L xs rec18 v0 v1 v2 v3 q_4.2
  else
    some (0, q_4.2)
  else none
  else none
set_option maxRecDepth 100000 in
set_option maxHeartbeats 4000000 in
theorem b_L_law_275 {X : kf_X} {G : kf_G} {Q : State → Prop} {L : Nat} {xs : Nat → Int32} {rec18 : Nat → Nat → Nat → Int32 → kf_St → Option (Int32 × kf_St)} {q : (Int32 × kf_St)} (E : kf_ok X G cL_law RL 4 (some .boolean) (42)) (hty : kf_wt G) (hend : ∀ {pc pc1 : Nat} (_ : kf_dq cL_law pc pc1 1 .ireturn) (lv : List (Nat × Value)) (σ : kf_St), kf_WA X G 4 Q pc lv [.int 1] σ) (hq1 : q.1 = 1) (hrec18 : ∀ (v0 : Nat) (v1 : Nat) (v2 : Nat) (v3 : Int32) (k_v0 : kf_scr X G v0 L xs) (k_v1 : kf_kd G v1 = 12) (k_v2 : kf_kd G v2 = 13) (σ : kf_St), rec18 v0 v1 v2 v3 σ = some q → kf_WA X G 4 Q 18 [(0, .ref v0), (1, .ref (kf_ad G v1)), (2, .ref (kf_ad G v2)), (3, .int v3)] [] σ) (v0 : Nat) (v1 : Nat) (v2 : Nat) (v3 : Int32) (k_v0 : kf_scr X G v0 L xs) (k_v1 : kf_kd G v1 = 12) (k_v2 : kf_kd G v2 = 13) (σ : kf_St) (h : f_L_law_275 L xs rec18 v0 v1 v2 v3 σ = some q) : kf_WA X G 4 Q 275 [(0, .ref v0), (1, .ref (kf_ad G v1)), (2, .ref (kf_ad G v2)), (3, .int v3)] [] σ := by
  unfold f_L_law_275 at h
  refine wa_aload_n 1 rfl E d_L_law_275 ?_
  refine wa_aload_n 0 rfl E d_L_law_276 ?_
  refine wa_iload_n 3 rfl E d_L_law_277 ?_
  refine wa_iconst 1 ic_1 E d_L_law_278 ?_
  refine wa_iadd E d_L_law_279 ?_
  obtain ⟨g_1, h⟩ := kf_gd h
  refine wa_sald k_v0 g_1 E d_L_law_280 ?_
  obtain ⟨q_2, hq_2, h⟩ := kf_bd h
  refine wa_callV (st2 := [.int q_2.1]) (c_X11_back hty v1 (xs (Int32.toNatClampNeg (v3 + 1))) k_v1 σ hq_2) mv_X11_back ml_L_18 k_v1 rfl (Nat.le_of_ble_eq_true rfl) rfl (Nat.le_of_ble_eq_true rfl) E d_L_law_281 rfl ?_
  refine wa_aload_n 2 rfl E d_L_law_284 ?_
  refine wa_aload_n 0 rfl E d_L_law_285 ?_
  refine wa_iload_n 3 rfl E d_L_law_286 ?_
  refine wa_iconst 1 ic_1 E d_L_law_287 ?_
  refine wa_iadd E d_L_law_288 ?_
  obtain ⟨g_3, h⟩ := kf_gd h
  refine wa_sald k_v0 g_3 E d_L_law_289 ?_
  obtain ⟨q_4, hq_4, h⟩ := kf_bd h
  refine wa_callV (st2 := [.int q_4.1, .int q_2.1]) (c_X12_back hty v2 (xs (Int32.toNatClampNeg (v3 + 1))) k_v2 q_2.2 hq_4) mv_X12_back ml_L_22 k_v2 rfl (Nat.le_of_ble_eq_true rfl) rfl (Nat.le_of_ble_eq_true rfl) E d_L_law_290 rfl ?_
  refine wa_icmp_eq E d_L_law_293 (fun c_5 => ?_) (fun c_5 => ?_)
  · replace h := kf_ift c_5 h
    exact b_L_law_1471 E hty hend hq1 hrec18 v0 v1 v2 v3 k_v0 k_v1 k_v2 q_4.2 h
  · replace h := kf_iff c_5 h
    refine wa_iconst 0 ic_0 E d_L_law_296 ?_
    cases h
    exact absurd (show (0 : Int32) = 1 from hq1) (by decide)
def f_L_law_298 (L : Nat) (xs : Nat → Int32) (rec18 : Nat → Nat → Nat → Int32 → kf_St → Option (Int32 × kf_St)) (v0 : Nat) (v1 : Nat) (v2 : Nat) (v3 : Int32) (σ : kf_St) : Option (Int32 × kf_St) :=
  (f_X11_read v1 σ).bind fun q_1 =>
  (f_X12_read v2 q_1.2).bind fun q_2 =>
  if q_1.1 = q_2.1 then
    f_L_law_1471 L xs rec18 v0 v1 v2 v3 q_2.2
  else
    some (0, q_2.2)
set_option maxRecDepth 100000 in
set_option maxHeartbeats 4000000 in
theorem b_L_law_298 {X : kf_X} {G : kf_G} {Q : State → Prop} {L : Nat} {xs : Nat → Int32} {rec18 : Nat → Nat → Nat → Int32 → kf_St → Option (Int32 × kf_St)} {q : (Int32 × kf_St)} (E : kf_ok X G cL_law RL 4 (some .boolean) (42)) (hty : kf_wt G) (hend : ∀ {pc pc1 : Nat} (_ : kf_dq cL_law pc pc1 1 .ireturn) (lv : List (Nat × Value)) (σ : kf_St), kf_WA X G 4 Q pc lv [.int 1] σ) (hq1 : q.1 = 1) (hrec18 : ∀ (v0 : Nat) (v1 : Nat) (v2 : Nat) (v3 : Int32) (k_v0 : kf_scr X G v0 L xs) (k_v1 : kf_kd G v1 = 12) (k_v2 : kf_kd G v2 = 13) (σ : kf_St), rec18 v0 v1 v2 v3 σ = some q → kf_WA X G 4 Q 18 [(0, .ref v0), (1, .ref (kf_ad G v1)), (2, .ref (kf_ad G v2)), (3, .int v3)] [] σ) (v0 : Nat) (v1 : Nat) (v2 : Nat) (v3 : Int32) (k_v0 : kf_scr X G v0 L xs) (k_v1 : kf_kd G v1 = 12) (k_v2 : kf_kd G v2 = 13) (σ : kf_St) (h : f_L_law_298 L xs rec18 v0 v1 v2 v3 σ = some q) : kf_WA X G 4 Q 298 [(0, .ref v0), (1, .ref (kf_ad G v1)), (2, .ref (kf_ad G v2)), (3, .int v3)] [] σ := by
  unfold f_L_law_298 at h
  refine wa_aload_n 1 rfl E d_L_law_298 ?_
  obtain ⟨q_1, hq_1, h⟩ := kf_bd h
  refine wa_callV (st2 := [.int q_1.1]) (c_X11_read hty v1 k_v1 σ hq_1) mv_X11_read ml_L_23 k_v1 rfl (Nat.le_of_ble_eq_true rfl) rfl (Nat.le_of_ble_eq_true rfl) E d_L_law_299 rfl ?_
  refine wa_aload_n 2 rfl E d_L_law_302 ?_
  obtain ⟨q_2, hq_2, h⟩ := kf_bd h
  refine wa_callV (st2 := [.int q_2.1, .int q_1.1]) (c_X12_read hty v2 k_v2 q_1.2 hq_2) mv_X12_read ml_L_27 k_v2 rfl (Nat.le_of_ble_eq_true rfl) rfl (Nat.le_of_ble_eq_true rfl) E d_L_law_303 rfl ?_
  refine wa_icmp_eq E d_L_law_306 (fun c_3 => ?_) (fun c_3 => ?_)
  · replace h := kf_ift c_3 h
    exact b_L_law_1471 E hty hend hq1 hrec18 v0 v1 v2 v3 k_v0 k_v1 k_v2 q_2.2 h
  · replace h := kf_iff c_3 h
    refine wa_iconst 0 ic_0 E d_L_law_309 ?_
    cases h
    exact absurd (show (0 : Int32) = 1 from hq1) (by decide)
def f_L_law_311 (L : Nat) (xs : Nat → Int32) (rec18 : Nat → Nat → Nat → Int32 → kf_St → Option (Int32 × kf_St)) (v0 : Nat) (v1 : Nat) (v2 : Nat) (v3 : Int32) (σ : kf_St) : Option (Int32 × kf_St) :=
  (f_X11_place v1 σ).bind fun q_1 =>
  (f_X12_place v2 q_1.2).bind fun q_2 =>
  if q_1.1 = q_2.1 then
    f_L_law_1471 L xs rec18 v0 v1 v2 v3 q_2.2
  else
    some (0, q_2.2)
set_option maxRecDepth 100000 in
set_option maxHeartbeats 4000000 in
theorem b_L_law_311 {X : kf_X} {G : kf_G} {Q : State → Prop} {L : Nat} {xs : Nat → Int32} {rec18 : Nat → Nat → Nat → Int32 → kf_St → Option (Int32 × kf_St)} {q : (Int32 × kf_St)} (E : kf_ok X G cL_law RL 4 (some .boolean) (42)) (hty : kf_wt G) (hend : ∀ {pc pc1 : Nat} (_ : kf_dq cL_law pc pc1 1 .ireturn) (lv : List (Nat × Value)) (σ : kf_St), kf_WA X G 4 Q pc lv [.int 1] σ) (hq1 : q.1 = 1) (hrec18 : ∀ (v0 : Nat) (v1 : Nat) (v2 : Nat) (v3 : Int32) (k_v0 : kf_scr X G v0 L xs) (k_v1 : kf_kd G v1 = 12) (k_v2 : kf_kd G v2 = 13) (σ : kf_St), rec18 v0 v1 v2 v3 σ = some q → kf_WA X G 4 Q 18 [(0, .ref v0), (1, .ref (kf_ad G v1)), (2, .ref (kf_ad G v2)), (3, .int v3)] [] σ) (v0 : Nat) (v1 : Nat) (v2 : Nat) (v3 : Int32) (k_v0 : kf_scr X G v0 L xs) (k_v1 : kf_kd G v1 = 12) (k_v2 : kf_kd G v2 = 13) (σ : kf_St) (h : f_L_law_311 L xs rec18 v0 v1 v2 v3 σ = some q) : kf_WA X G 4 Q 311 [(0, .ref v0), (1, .ref (kf_ad G v1)), (2, .ref (kf_ad G v2)), (3, .int v3)] [] σ := by
  unfold f_L_law_311 at h
  refine wa_aload_n 1 rfl E d_L_law_311 ?_
  obtain ⟨q_1, hq_1, h⟩ := kf_bd h
  refine wa_callV (st2 := [.int q_1.1]) (c_X11_place hty v1 k_v1 σ hq_1) mv_X11_place ml_L_28 k_v1 rfl (Nat.le_of_ble_eq_true rfl) rfl (Nat.le_of_ble_eq_true rfl) E d_L_law_312 rfl ?_
  refine wa_aload_n 2 rfl E d_L_law_315 ?_
  obtain ⟨q_2, hq_2, h⟩ := kf_bd h
  refine wa_callV (st2 := [.int q_2.1, .int q_1.1]) (c_X12_place hty v2 k_v2 q_1.2 hq_2) mv_X12_place ml_L_31 k_v2 rfl (Nat.le_of_ble_eq_true rfl) rfl (Nat.le_of_ble_eq_true rfl) E d_L_law_316 rfl ?_
  refine wa_icmp_eq E d_L_law_319 (fun c_3 => ?_) (fun c_3 => ?_)
  · replace h := kf_ift c_3 h
    exact b_L_law_1471 E hty hend hq1 hrec18 v0 v1 v2 v3 k_v0 k_v1 k_v2 q_2.2 h
  · replace h := kf_iff c_3 h
    refine wa_iconst 0 ic_0 E d_L_law_322 ?_
    cases h
    exact absurd (show (0 : Int32) = 1 from hq1) (by decide)
def f_L_law_324 (L : Nat) (xs : Nat → Int32) (rec18 : Nat → Nat → Nat → Int32 → kf_St → Option (Int32 × kf_St)) (v0 : Nat) (v1 : Nat) (v2 : Nat) (v3 : Int32) (σ : kf_St) : Option (Int32 × kf_St) :=
  if kf_ix (v3 + 1) L = true then
  if kf_ix (v3 + 2) L = true then
  (f_X11_door v1 (xs (Int32.toNatClampNeg (v3 + 1))) (xs (Int32.toNatClampNeg (v3 + 2))) σ).bind fun q_3 =>
  if kf_ix (v3 + 1) L = true then
  if kf_ix (v3 + 2) L = true then
  (f_X12_door v2 (xs (Int32.toNatClampNeg (v3 + 1))) (xs (Int32.toNatClampNeg (v3 + 2))) q_3.2).bind fun q_6 =>
  if q_3.1 = q_6.1 then
    f_L_law_1471 L xs rec18 v0 v1 v2 v3 q_6.2
  else
    some (0, q_6.2)
  else none
  else none
  else none
  else none
set_option maxRecDepth 100000 in
set_option maxHeartbeats 4000000 in
theorem b_L_law_324 {X : kf_X} {G : kf_G} {Q : State → Prop} {L : Nat} {xs : Nat → Int32} {rec18 : Nat → Nat → Nat → Int32 → kf_St → Option (Int32 × kf_St)} {q : (Int32 × kf_St)} (E : kf_ok X G cL_law RL 4 (some .boolean) (42)) (hty : kf_wt G) (hend : ∀ {pc pc1 : Nat} (_ : kf_dq cL_law pc pc1 1 .ireturn) (lv : List (Nat × Value)) (σ : kf_St), kf_WA X G 4 Q pc lv [.int 1] σ) (hq1 : q.1 = 1) (hrec18 : ∀ (v0 : Nat) (v1 : Nat) (v2 : Nat) (v3 : Int32) (k_v0 : kf_scr X G v0 L xs) (k_v1 : kf_kd G v1 = 12) (k_v2 : kf_kd G v2 = 13) (σ : kf_St), rec18 v0 v1 v2 v3 σ = some q → kf_WA X G 4 Q 18 [(0, .ref v0), (1, .ref (kf_ad G v1)), (2, .ref (kf_ad G v2)), (3, .int v3)] [] σ) (v0 : Nat) (v1 : Nat) (v2 : Nat) (v3 : Int32) (k_v0 : kf_scr X G v0 L xs) (k_v1 : kf_kd G v1 = 12) (k_v2 : kf_kd G v2 = 13) (σ : kf_St) (h : f_L_law_324 L xs rec18 v0 v1 v2 v3 σ = some q) : kf_WA X G 4 Q 324 [(0, .ref v0), (1, .ref (kf_ad G v1)), (2, .ref (kf_ad G v2)), (3, .int v3)] [] σ := by
  unfold f_L_law_324 at h
  refine wa_aload_n 1 rfl E d_L_law_324 ?_
  refine wa_aload_n 0 rfl E d_L_law_325 ?_
  refine wa_iload_n 3 rfl E d_L_law_326 ?_
  refine wa_iconst 1 ic_1 E d_L_law_327 ?_
  refine wa_iadd E d_L_law_328 ?_
  obtain ⟨g_1, h⟩ := kf_gd h
  refine wa_sald k_v0 g_1 E d_L_law_329 ?_
  refine wa_aload_n 0 rfl E d_L_law_330 ?_
  refine wa_iload_n 3 rfl E d_L_law_331 ?_
  refine wa_iconst 2 ic_2 E d_L_law_332 ?_
  refine wa_iadd E d_L_law_333 ?_
  obtain ⟨g_2, h⟩ := kf_gd h
  refine wa_sald k_v0 g_2 E d_L_law_334 ?_
  obtain ⟨q_3, hq_3, h⟩ := kf_bd h
  refine wa_callV (st2 := [.int q_3.1]) (c_X11_door hty v1 (xs (Int32.toNatClampNeg (v3 + 1))) (xs (Int32.toNatClampNeg (v3 + 2))) k_v1 σ hq_3) mv_X11_door ml_L_32 k_v1 rfl (Nat.le_of_ble_eq_true rfl) rfl (Nat.le_of_ble_eq_true rfl) E d_L_law_335 rfl ?_
  refine wa_aload_n 2 rfl E d_L_law_338 ?_
  refine wa_aload_n 0 rfl E d_L_law_339 ?_
  refine wa_iload_n 3 rfl E d_L_law_340 ?_
  refine wa_iconst 1 ic_1 E d_L_law_341 ?_
  refine wa_iadd E d_L_law_342 ?_
  obtain ⟨g_4, h⟩ := kf_gd h
  refine wa_sald k_v0 g_4 E d_L_law_343 ?_
  refine wa_aload_n 0 rfl E d_L_law_344 ?_
  refine wa_iload_n 3 rfl E d_L_law_345 ?_
  refine wa_iconst 2 ic_2 E d_L_law_346 ?_
  refine wa_iadd E d_L_law_347 ?_
  obtain ⟨g_5, h⟩ := kf_gd h
  refine wa_sald k_v0 g_5 E d_L_law_348 ?_
  obtain ⟨q_6, hq_6, h⟩ := kf_bd h
  refine wa_callV (st2 := [.int q_6.1, .int q_3.1]) (c_X12_door hty v2 (xs (Int32.toNatClampNeg (v3 + 1))) (xs (Int32.toNatClampNeg (v3 + 2))) k_v2 q_3.2 hq_6) mv_X12_door ml_L_36 k_v2 rfl (Nat.le_of_ble_eq_true rfl) rfl (Nat.le_of_ble_eq_true rfl) E d_L_law_349 rfl ?_
  refine wa_icmp_eq E d_L_law_352 (fun c_7 => ?_) (fun c_7 => ?_)
  · replace h := kf_ift c_7 h
    exact b_L_law_1471 E hty hend hq1 hrec18 v0 v1 v2 v3 k_v0 k_v1 k_v2 q_6.2 h
  · replace h := kf_iff c_7 h
    refine wa_iconst 0 ic_0 E d_L_law_355 ?_
    cases h
    exact absurd (show (0 : Int32) = 1 from hq1) (by decide)
def f_L_law_357 (L : Nat) (xs : Nat → Int32) (rec18 : Nat → Nat → Nat → Int32 → kf_St → Option (Int32 × kf_St)) (v0 : Nat) (v1 : Nat) (v2 : Nat) (v3 : Int32) (σ : kf_St) : Option (Int32 × kf_St) :=
  if kf_ix (v3 + 1) L = true then
  if kf_ix (v3 + 2) L = true then
  (f_X11_caller v1 (xs (Int32.toNatClampNeg (v3 + 1))) (xs (Int32.toNatClampNeg (v3 + 2))) σ).bind fun q_3 =>
  if kf_ix (v3 + 1) L = true then
  if kf_ix (v3 + 2) L = true then
  (f_X12_caller v2 (xs (Int32.toNatClampNeg (v3 + 1))) (xs (Int32.toNatClampNeg (v3 + 2))) q_3.2).bind fun q_6 =>
  if q_3.1 = q_6.1 then
    f_L_law_1471 L xs rec18 v0 v1 v2 v3 q_6.2
  else
    some (0, q_6.2)
  else none
  else none
  else none
  else none
set_option maxRecDepth 100000 in
set_option maxHeartbeats 4000000 in
theorem b_L_law_357 {X : kf_X} {G : kf_G} {Q : State → Prop} {L : Nat} {xs : Nat → Int32} {rec18 : Nat → Nat → Nat → Int32 → kf_St → Option (Int32 × kf_St)} {q : (Int32 × kf_St)} (E : kf_ok X G cL_law RL 4 (some .boolean) (42)) (hty : kf_wt G) (hend : ∀ {pc pc1 : Nat} (_ : kf_dq cL_law pc pc1 1 .ireturn) (lv : List (Nat × Value)) (σ : kf_St), kf_WA X G 4 Q pc lv [.int 1] σ) (hq1 : q.1 = 1) (hrec18 : ∀ (v0 : Nat) (v1 : Nat) (v2 : Nat) (v3 : Int32) (k_v0 : kf_scr X G v0 L xs) (k_v1 : kf_kd G v1 = 12) (k_v2 : kf_kd G v2 = 13) (σ : kf_St), rec18 v0 v1 v2 v3 σ = some q → kf_WA X G 4 Q 18 [(0, .ref v0), (1, .ref (kf_ad G v1)), (2, .ref (kf_ad G v2)), (3, .int v3)] [] σ) (v0 : Nat) (v1 : Nat) (v2 : Nat) (v3 : Int32) (k_v0 : kf_scr X G v0 L xs) (k_v1 : kf_kd G v1 = 12) (k_v2 : kf_kd G v2 = 13) (σ : kf_St) (h : f_L_law_357 L xs rec18 v0 v1 v2 v3 σ = some q) : kf_WA X G 4 Q 357 [(0, .ref v0), (1, .ref (kf_ad G v1)), (2, .ref (kf_ad G v2)), (3, .int v3)] [] σ := by
  unfold f_L_law_357 at h
  refine wa_aload_n 1 rfl E d_L_law_357 ?_
  refine wa_aload_n 0 rfl E d_L_law_358 ?_
  refine wa_iload_n 3 rfl E d_L_law_359 ?_
  refine wa_iconst 1 ic_1 E d_L_law_360 ?_
  refine wa_iadd E d_L_law_361 ?_
  obtain ⟨g_1, h⟩ := kf_gd h
  refine wa_sald k_v0 g_1 E d_L_law_362 ?_
  refine wa_aload_n 0 rfl E d_L_law_363 ?_
  refine wa_iload_n 3 rfl E d_L_law_364 ?_
  refine wa_iconst 2 ic_2 E d_L_law_365 ?_
  refine wa_iadd E d_L_law_366 ?_
  obtain ⟨g_2, h⟩ := kf_gd h
  refine wa_sald k_v0 g_2 E d_L_law_367 ?_
  obtain ⟨q_3, hq_3, h⟩ := kf_bd h
  refine wa_callV (st2 := [.int q_3.1]) (c_X11_caller hty v1 (xs (Int32.toNatClampNeg (v3 + 1))) (xs (Int32.toNatClampNeg (v3 + 2))) k_v1 σ hq_3) mv_X11_caller ml_L_37 k_v1 rfl (Nat.le_of_ble_eq_true rfl) rfl (Nat.le_of_ble_eq_true rfl) E d_L_law_368 rfl ?_
  refine wa_aload_n 2 rfl E d_L_law_371 ?_
  refine wa_aload_n 0 rfl E d_L_law_372 ?_
  refine wa_iload_n 3 rfl E d_L_law_373 ?_
  refine wa_iconst 1 ic_1 E d_L_law_374 ?_
  refine wa_iadd E d_L_law_375 ?_
  obtain ⟨g_4, h⟩ := kf_gd h
  refine wa_sald k_v0 g_4 E d_L_law_376 ?_
  refine wa_aload_n 0 rfl E d_L_law_377 ?_
  refine wa_iload_n 3 rfl E d_L_law_378 ?_
  refine wa_iconst 2 ic_2 E d_L_law_379 ?_
  refine wa_iadd E d_L_law_380 ?_
  obtain ⟨g_5, h⟩ := kf_gd h
  refine wa_sald k_v0 g_5 E d_L_law_381 ?_
  obtain ⟨q_6, hq_6, h⟩ := kf_bd h
  refine wa_callV (st2 := [.int q_6.1, .int q_3.1]) (c_X12_caller hty v2 (xs (Int32.toNatClampNeg (v3 + 1))) (xs (Int32.toNatClampNeg (v3 + 2))) k_v2 q_3.2 hq_6) mv_X12_caller ml_L_40 k_v2 rfl (Nat.le_of_ble_eq_true rfl) rfl (Nat.le_of_ble_eq_true rfl) E d_L_law_382 rfl ?_
  refine wa_icmp_eq E d_L_law_385 (fun c_7 => ?_) (fun c_7 => ?_)
  · replace h := kf_ift c_7 h
    exact b_L_law_1471 E hty hend hq1 hrec18 v0 v1 v2 v3 k_v0 k_v1 k_v2 q_6.2 h
  · replace h := kf_iff c_7 h
    refine wa_iconst 0 ic_0 E d_L_law_388 ?_
    cases h
    exact absurd (show (0 : Int32) = 1 from hq1) (by decide)
def f_L_law_390 (L : Nat) (xs : Nat → Int32) (rec18 : Nat → Nat → Nat → Int32 → kf_St → Option (Int32 × kf_St)) (v0 : Nat) (v1 : Nat) (v2 : Nat) (v3 : Int32) (σ : kf_St) : Option (Int32 × kf_St) :=
  if kf_ix (v3 + 1) L = true then
  if kf_ix (v3 + 2) L = true then
  (f_X11_round v1 (xs (Int32.toNatClampNeg (v3 + 1))) (xs (Int32.toNatClampNeg (v3 + 2))) σ).bind fun q_3 =>
  if kf_ix (v3 + 1) L = true then
  if kf_ix (v3 + 2) L = true then
  (f_X12_round v2 (xs (Int32.toNatClampNeg (v3 + 1))) (xs (Int32.toNatClampNeg (v3 + 2))) q_3.2).bind fun q_6 =>
  if q_3.1 = q_6.1 then
    f_L_law_1471 L xs rec18 v0 v1 v2 v3 q_6.2
  else
    some (0, q_6.2)
  else none
  else none
  else none
  else none
set_option maxRecDepth 100000 in
set_option maxHeartbeats 4000000 in
theorem b_L_law_390 {X : kf_X} {G : kf_G} {Q : State → Prop} {L : Nat} {xs : Nat → Int32} {rec18 : Nat → Nat → Nat → Int32 → kf_St → Option (Int32 × kf_St)} {q : (Int32 × kf_St)} (E : kf_ok X G cL_law RL 4 (some .boolean) (42)) (hty : kf_wt G) (hend : ∀ {pc pc1 : Nat} (_ : kf_dq cL_law pc pc1 1 .ireturn) (lv : List (Nat × Value)) (σ : kf_St), kf_WA X G 4 Q pc lv [.int 1] σ) (hq1 : q.1 = 1) (hrec18 : ∀ (v0 : Nat) (v1 : Nat) (v2 : Nat) (v3 : Int32) (k_v0 : kf_scr X G v0 L xs) (k_v1 : kf_kd G v1 = 12) (k_v2 : kf_kd G v2 = 13) (σ : kf_St), rec18 v0 v1 v2 v3 σ = some q → kf_WA X G 4 Q 18 [(0, .ref v0), (1, .ref (kf_ad G v1)), (2, .ref (kf_ad G v2)), (3, .int v3)] [] σ) (v0 : Nat) (v1 : Nat) (v2 : Nat) (v3 : Int32) (k_v0 : kf_scr X G v0 L xs) (k_v1 : kf_kd G v1 = 12) (k_v2 : kf_kd G v2 = 13) (σ : kf_St) (h : f_L_law_390 L xs rec18 v0 v1 v2 v3 σ = some q) : kf_WA X G 4 Q 390 [(0, .ref v0), (1, .ref (kf_ad G v1)), (2, .ref (kf_ad G v2)), (3, .int v3)] [] σ := by
  unfold f_L_law_390 at h
  refine wa_aload_n 1 rfl E d_L_law_390 ?_
  refine wa_aload_n 0 rfl E d_L_law_391 ?_
  refine wa_iload_n 3 rfl E d_L_law_392 ?_
  refine wa_iconst 1 ic_1 E d_L_law_393 ?_
  refine wa_iadd E d_L_law_394 ?_
  obtain ⟨g_1, h⟩ := kf_gd h
  refine wa_sald k_v0 g_1 E d_L_law_395 ?_
  refine wa_aload_n 0 rfl E d_L_law_396 ?_
  refine wa_iload_n 3 rfl E d_L_law_397 ?_
  refine wa_iconst 2 ic_2 E d_L_law_398 ?_
  refine wa_iadd E d_L_law_399 ?_
  obtain ⟨g_2, h⟩ := kf_gd h
  refine wa_sald k_v0 g_2 E d_L_law_400 ?_
  obtain ⟨q_3, hq_3, h⟩ := kf_bd h
  refine wa_callV (st2 := [.int q_3.1]) (c_X11_round hty v1 (xs (Int32.toNatClampNeg (v3 + 1))) (xs (Int32.toNatClampNeg (v3 + 2))) k_v1 σ hq_3) mv_X11_round ml_L_41 k_v1 rfl (Nat.le_of_ble_eq_true rfl) rfl (Nat.le_of_ble_eq_true rfl) E d_L_law_401 rfl ?_
  refine wa_aload_n 2 rfl E d_L_law_404 ?_
  refine wa_aload_n 0 rfl E d_L_law_405 ?_
  refine wa_iload_n 3 rfl E d_L_law_406 ?_
  refine wa_iconst 1 ic_1 E d_L_law_407 ?_
  refine wa_iadd E d_L_law_408 ?_
  obtain ⟨g_4, h⟩ := kf_gd h
  refine wa_sald k_v0 g_4 E d_L_law_409 ?_
  refine wa_aload_n 0 rfl E d_L_law_410 ?_
  refine wa_iload_n 3 rfl E d_L_law_411 ?_
  refine wa_iconst 2 ic_2 E d_L_law_412 ?_
  refine wa_iadd E d_L_law_413 ?_
  obtain ⟨g_5, h⟩ := kf_gd h
  refine wa_sald k_v0 g_5 E d_L_law_414 ?_
  obtain ⟨q_6, hq_6, h⟩ := kf_bd h
  refine wa_callV (st2 := [.int q_6.1, .int q_3.1]) (c_X12_round hty v2 (xs (Int32.toNatClampNeg (v3 + 1))) (xs (Int32.toNatClampNeg (v3 + 2))) k_v2 q_3.2 hq_6) mv_X12_round ml_L_44 k_v2 rfl (Nat.le_of_ble_eq_true rfl) rfl (Nat.le_of_ble_eq_true rfl) E d_L_law_415 rfl ?_
  refine wa_icmp_eq E d_L_law_418 (fun c_7 => ?_) (fun c_7 => ?_)
  · replace h := kf_ift c_7 h
    exact b_L_law_1471 E hty hend hq1 hrec18 v0 v1 v2 v3 k_v0 k_v1 k_v2 q_6.2 h
  · replace h := kf_iff c_7 h
    refine wa_iconst 0 ic_0 E d_L_law_421 ?_
    cases h
    exact absurd (show (0 : Int32) = 1 from hq1) (by decide)
def f_L_law_423 (L : Nat) (xs : Nat → Int32) (rec18 : Nat → Nat → Nat → Int32 → kf_St → Option (Int32 × kf_St)) (v0 : Nat) (v1 : Nat) (v2 : Nat) (v3 : Int32) (σ : kf_St) : Option (Int32 × kf_St) :=
  if kf_ix (v3 + 1) L = true then
  if kf_ix (v3 + 2) L = true then
  (f_X11_unlike v1 (xs (Int32.toNatClampNeg (v3 + 1))) (xs (Int32.toNatClampNeg (v3 + 2))) σ).bind fun q_3 =>
  if kf_ix (v3 + 1) L = true then
  if kf_ix (v3 + 2) L = true then
  (f_X12_unlike v2 (xs (Int32.toNatClampNeg (v3 + 1))) (xs (Int32.toNatClampNeg (v3 + 2))) q_3.2).bind fun q_6 =>
  if q_3.1 = q_6.1 then
    f_L_law_1471 L xs rec18 v0 v1 v2 v3 q_6.2
  else
    some (0, q_6.2)
  else none
  else none
  else none
  else none
set_option maxRecDepth 100000 in
set_option maxHeartbeats 4000000 in
theorem b_L_law_423 {X : kf_X} {G : kf_G} {Q : State → Prop} {L : Nat} {xs : Nat → Int32} {rec18 : Nat → Nat → Nat → Int32 → kf_St → Option (Int32 × kf_St)} {q : (Int32 × kf_St)} (E : kf_ok X G cL_law RL 4 (some .boolean) (42)) (hty : kf_wt G) (hend : ∀ {pc pc1 : Nat} (_ : kf_dq cL_law pc pc1 1 .ireturn) (lv : List (Nat × Value)) (σ : kf_St), kf_WA X G 4 Q pc lv [.int 1] σ) (hq1 : q.1 = 1) (hrec18 : ∀ (v0 : Nat) (v1 : Nat) (v2 : Nat) (v3 : Int32) (k_v0 : kf_scr X G v0 L xs) (k_v1 : kf_kd G v1 = 12) (k_v2 : kf_kd G v2 = 13) (σ : kf_St), rec18 v0 v1 v2 v3 σ = some q → kf_WA X G 4 Q 18 [(0, .ref v0), (1, .ref (kf_ad G v1)), (2, .ref (kf_ad G v2)), (3, .int v3)] [] σ) (v0 : Nat) (v1 : Nat) (v2 : Nat) (v3 : Int32) (k_v0 : kf_scr X G v0 L xs) (k_v1 : kf_kd G v1 = 12) (k_v2 : kf_kd G v2 = 13) (σ : kf_St) (h : f_L_law_423 L xs rec18 v0 v1 v2 v3 σ = some q) : kf_WA X G 4 Q 423 [(0, .ref v0), (1, .ref (kf_ad G v1)), (2, .ref (kf_ad G v2)), (3, .int v3)] [] σ := by
  unfold f_L_law_423 at h
  refine wa_aload_n 1 rfl E d_L_law_423 ?_
  refine wa_aload_n 0 rfl E d_L_law_424 ?_
  refine wa_iload_n 3 rfl E d_L_law_425 ?_
  refine wa_iconst 1 ic_1 E d_L_law_426 ?_
  refine wa_iadd E d_L_law_427 ?_
  obtain ⟨g_1, h⟩ := kf_gd h
  refine wa_sald k_v0 g_1 E d_L_law_428 ?_
  refine wa_aload_n 0 rfl E d_L_law_429 ?_
  refine wa_iload_n 3 rfl E d_L_law_430 ?_
  refine wa_iconst 2 ic_2 E d_L_law_431 ?_
  refine wa_iadd E d_L_law_432 ?_
  obtain ⟨g_2, h⟩ := kf_gd h
  refine wa_sald k_v0 g_2 E d_L_law_433 ?_
  obtain ⟨q_3, hq_3, h⟩ := kf_bd h
  refine wa_callV (st2 := [.int q_3.1]) (c_X11_unlike hty v1 (xs (Int32.toNatClampNeg (v3 + 1))) (xs (Int32.toNatClampNeg (v3 + 2))) k_v1 σ hq_3) mv_X11_unlike ml_L_45 k_v1 rfl (Nat.le_of_ble_eq_true rfl) rfl (Nat.le_of_ble_eq_true rfl) E d_L_law_434 rfl ?_
  refine wa_aload_n 2 rfl E d_L_law_437 ?_
  refine wa_aload_n 0 rfl E d_L_law_438 ?_
  refine wa_iload_n 3 rfl E d_L_law_439 ?_
  refine wa_iconst 1 ic_1 E d_L_law_440 ?_
  refine wa_iadd E d_L_law_441 ?_
  obtain ⟨g_4, h⟩ := kf_gd h
  refine wa_sald k_v0 g_4 E d_L_law_442 ?_
  refine wa_aload_n 0 rfl E d_L_law_443 ?_
  refine wa_iload_n 3 rfl E d_L_law_444 ?_
  refine wa_iconst 2 ic_2 E d_L_law_445 ?_
  refine wa_iadd E d_L_law_446 ?_
  obtain ⟨g_5, h⟩ := kf_gd h
  refine wa_sald k_v0 g_5 E d_L_law_447 ?_
  obtain ⟨q_6, hq_6, h⟩ := kf_bd h
  refine wa_callV (st2 := [.int q_6.1, .int q_3.1]) (c_X12_unlike hty v2 (xs (Int32.toNatClampNeg (v3 + 1))) (xs (Int32.toNatClampNeg (v3 + 2))) k_v2 q_3.2 hq_6) mv_X12_unlike ml_L_48 k_v2 rfl (Nat.le_of_ble_eq_true rfl) rfl (Nat.le_of_ble_eq_true rfl) E d_L_law_448 rfl ?_
  refine wa_icmp_eq E d_L_law_451 (fun c_7 => ?_) (fun c_7 => ?_)
  · replace h := kf_ift c_7 h
    exact b_L_law_1471 E hty hend hq1 hrec18 v0 v1 v2 v3 k_v0 k_v1 k_v2 q_6.2 h
  · replace h := kf_iff c_7 h
    refine wa_iconst 0 ic_0 E d_L_law_454 ?_
    cases h
    exact absurd (show (0 : Int32) = 1 from hq1) (by decide)
def f_L_law_456 (L : Nat) (xs : Nat → Int32) (rec18 : Nat → Nat → Nat → Int32 → kf_St → Option (Int32 × kf_St)) (v0 : Nat) (v1 : Nat) (v2 : Nat) (v3 : Int32) (σ : kf_St) : Option (Int32 × kf_St) :=
  if kf_ix (v3 + 1) L = true then
  if kf_ix (v3 + 2) L = true then
  if kf_ix (v3 + 3) L = true then
  (f_X11_tells v1 (xs (Int32.toNatClampNeg (v3 + 1))) (xs (Int32.toNatClampNeg (v3 + 2))) (xs (Int32.toNatClampNeg (v3 + 3))) σ).bind fun q_4 =>
  if kf_ix (v3 + 1) L = true then
  if kf_ix (v3 + 2) L = true then
  if kf_ix (v3 + 3) L = true then
  (f_X12_tells v2 (xs (Int32.toNatClampNeg (v3 + 1))) (xs (Int32.toNatClampNeg (v3 + 2))) (xs (Int32.toNatClampNeg (v3 + 3))) q_4.2).bind fun q_8 =>
  if q_4.1 = q_8.1 then
    f_L_law_1471 L xs rec18 v0 v1 v2 v3 q_8.2
  else
    some (0, q_8.2)
  else none
  else none
  else none
  else none
  else none
  else none
set_option maxRecDepth 100000 in
set_option maxHeartbeats 4000000 in
theorem b_L_law_456 {X : kf_X} {G : kf_G} {Q : State → Prop} {L : Nat} {xs : Nat → Int32} {rec18 : Nat → Nat → Nat → Int32 → kf_St → Option (Int32 × kf_St)} {q : (Int32 × kf_St)} (E : kf_ok X G cL_law RL 4 (some .boolean) (42)) (hty : kf_wt G) (hend : ∀ {pc pc1 : Nat} (_ : kf_dq cL_law pc pc1 1 .ireturn) (lv : List (Nat × Value)) (σ : kf_St), kf_WA X G 4 Q pc lv [.int 1] σ) (hq1 : q.1 = 1) (hrec18 : ∀ (v0 : Nat) (v1 : Nat) (v2 : Nat) (v3 : Int32) (k_v0 : kf_scr X G v0 L xs) (k_v1 : kf_kd G v1 = 12) (k_v2 : kf_kd G v2 = 13) (σ : kf_St), rec18 v0 v1 v2 v3 σ = some q → kf_WA X G 4 Q 18 [(0, .ref v0), (1, .ref (kf_ad G v1)), (2, .ref (kf_ad G v2)), (3, .int v3)] [] σ) (v0 : Nat) (v1 : Nat) (v2 : Nat) (v3 : Int32) (k_v0 : kf_scr X G v0 L xs) (k_v1 : kf_kd G v1 = 12) (k_v2 : kf_kd G v2 = 13) (σ : kf_St) (h : f_L_law_456 L xs rec18 v0 v1 v2 v3 σ = some q) : kf_WA X G 4 Q 456 [(0, .ref v0), (1, .ref (kf_ad G v1)), (2, .ref (kf_ad G v2)), (3, .int v3)] [] σ := by
  unfold f_L_law_456 at h
  refine wa_aload_n 1 rfl E d_L_law_456 ?_
  refine wa_aload_n 0 rfl E d_L_law_457 ?_
  refine wa_iload_n 3 rfl E d_L_law_458 ?_
  refine wa_iconst 1 ic_1 E d_L_law_459 ?_
  refine wa_iadd E d_L_law_460 ?_
  obtain ⟨g_1, h⟩ := kf_gd h
  refine wa_sald k_v0 g_1 E d_L_law_461 ?_
  refine wa_aload_n 0 rfl E d_L_law_462 ?_
  refine wa_iload_n 3 rfl E d_L_law_463 ?_
  refine wa_iconst 2 ic_2 E d_L_law_464 ?_
  refine wa_iadd E d_L_law_465 ?_
  obtain ⟨g_2, h⟩ := kf_gd h
  refine wa_sald k_v0 g_2 E d_L_law_466 ?_
  refine wa_aload_n 0 rfl E d_L_law_467 ?_
  refine wa_iload_n 3 rfl E d_L_law_468 ?_
  refine wa_iconst 3 ic_3 E d_L_law_469 ?_
  refine wa_iadd E d_L_law_470 ?_
  obtain ⟨g_3, h⟩ := kf_gd h
  refine wa_sald k_v0 g_3 E d_L_law_471 ?_
  obtain ⟨q_4, hq_4, h⟩ := kf_bd h
  refine wa_callV (st2 := [.int q_4.1]) (c_X11_tells hty v1 (xs (Int32.toNatClampNeg (v3 + 1))) (xs (Int32.toNatClampNeg (v3 + 2))) (xs (Int32.toNatClampNeg (v3 + 3))) k_v1 σ hq_4) mv_X11_tells ml_L_49 k_v1 rfl (Nat.le_of_ble_eq_true rfl) rfl (Nat.le_of_ble_eq_true rfl) E d_L_law_472 rfl ?_
  refine wa_aload_n 2 rfl E d_L_law_475 ?_
  refine wa_aload_n 0 rfl E d_L_law_476 ?_
  refine wa_iload_n 3 rfl E d_L_law_477 ?_
  refine wa_iconst 1 ic_1 E d_L_law_478 ?_
  refine wa_iadd E d_L_law_479 ?_
  obtain ⟨g_5, h⟩ := kf_gd h
  refine wa_sald k_v0 g_5 E d_L_law_480 ?_
  refine wa_aload_n 0 rfl E d_L_law_481 ?_
  refine wa_iload_n 3 rfl E d_L_law_482 ?_
  refine wa_iconst 2 ic_2 E d_L_law_483 ?_
  refine wa_iadd E d_L_law_484 ?_
  obtain ⟨g_6, h⟩ := kf_gd h
  refine wa_sald k_v0 g_6 E d_L_law_485 ?_
  refine wa_aload_n 0 rfl E d_L_law_486 ?_
  refine wa_iload_n 3 rfl E d_L_law_487 ?_
  refine wa_iconst 3 ic_3 E d_L_law_488 ?_
  refine wa_iadd E d_L_law_489 ?_
  obtain ⟨g_7, h⟩ := kf_gd h
  refine wa_sald k_v0 g_7 E d_L_law_490 ?_
  obtain ⟨q_8, hq_8, h⟩ := kf_bd h
  refine wa_callV (st2 := [.int q_8.1, .int q_4.1]) (c_X12_tells hty v2 (xs (Int32.toNatClampNeg (v3 + 1))) (xs (Int32.toNatClampNeg (v3 + 2))) (xs (Int32.toNatClampNeg (v3 + 3))) k_v2 q_4.2 hq_8) mv_X12_tells ml_L_53 k_v2 rfl (Nat.le_of_ble_eq_true rfl) rfl (Nat.le_of_ble_eq_true rfl) E d_L_law_491 rfl ?_
  refine wa_icmp_eq E d_L_law_494 (fun c_9 => ?_) (fun c_9 => ?_)
  · replace h := kf_ift c_9 h
    exact b_L_law_1471 E hty hend hq1 hrec18 v0 v1 v2 v3 k_v0 k_v1 k_v2 q_8.2 h
  · replace h := kf_iff c_9 h
    refine wa_iconst 0 ic_0 E d_L_law_497 ?_
    cases h
    exact absurd (show (0 : Int32) = 1 from hq1) (by decide)
def f_L_law_499 (L : Nat) (xs : Nat → Int32) (rec18 : Nat → Nat → Nat → Int32 → kf_St → Option (Int32 × kf_St)) (v0 : Nat) (v1 : Nat) (v2 : Nat) (v3 : Int32) (σ : kf_St) : Option (Int32 × kf_St) :=
  if kf_ix (v3 + 1) L = true then
  if kf_ix (v3 + 2) L = true then
  (f_X11_lift v1 (xs (Int32.toNatClampNeg (v3 + 1))) (xs (Int32.toNatClampNeg (v3 + 2))) σ).bind fun q_3 =>
  if kf_ix (v3 + 1) L = true then
  if kf_ix (v3 + 2) L = true then
  (f_X12_lift v2 (xs (Int32.toNatClampNeg (v3 + 1))) (xs (Int32.toNatClampNeg (v3 + 2))) q_3.2).bind fun q_6 =>
  if q_3.1 = q_6.1 then
    f_L_law_1471 L xs rec18 v0 v1 v2 v3 q_6.2
  else
    some (0, q_6.2)
  else none
  else none
  else none
  else none
set_option maxRecDepth 100000 in
set_option maxHeartbeats 4000000 in
theorem b_L_law_499 {X : kf_X} {G : kf_G} {Q : State → Prop} {L : Nat} {xs : Nat → Int32} {rec18 : Nat → Nat → Nat → Int32 → kf_St → Option (Int32 × kf_St)} {q : (Int32 × kf_St)} (E : kf_ok X G cL_law RL 4 (some .boolean) (42)) (hty : kf_wt G) (hend : ∀ {pc pc1 : Nat} (_ : kf_dq cL_law pc pc1 1 .ireturn) (lv : List (Nat × Value)) (σ : kf_St), kf_WA X G 4 Q pc lv [.int 1] σ) (hq1 : q.1 = 1) (hrec18 : ∀ (v0 : Nat) (v1 : Nat) (v2 : Nat) (v3 : Int32) (k_v0 : kf_scr X G v0 L xs) (k_v1 : kf_kd G v1 = 12) (k_v2 : kf_kd G v2 = 13) (σ : kf_St), rec18 v0 v1 v2 v3 σ = some q → kf_WA X G 4 Q 18 [(0, .ref v0), (1, .ref (kf_ad G v1)), (2, .ref (kf_ad G v2)), (3, .int v3)] [] σ) (v0 : Nat) (v1 : Nat) (v2 : Nat) (v3 : Int32) (k_v0 : kf_scr X G v0 L xs) (k_v1 : kf_kd G v1 = 12) (k_v2 : kf_kd G v2 = 13) (σ : kf_St) (h : f_L_law_499 L xs rec18 v0 v1 v2 v3 σ = some q) : kf_WA X G 4 Q 499 [(0, .ref v0), (1, .ref (kf_ad G v1)), (2, .ref (kf_ad G v2)), (3, .int v3)] [] σ := by
  unfold f_L_law_499 at h
  refine wa_aload_n 1 rfl E d_L_law_499 ?_
  refine wa_aload_n 0 rfl E d_L_law_500 ?_
  refine wa_iload_n 3 rfl E d_L_law_501 ?_
  refine wa_iconst 1 ic_1 E d_L_law_502 ?_
  refine wa_iadd E d_L_law_503 ?_
  obtain ⟨g_1, h⟩ := kf_gd h
  refine wa_sald k_v0 g_1 E d_L_law_504 ?_
  refine wa_aload_n 0 rfl E d_L_law_505 ?_
  refine wa_iload_n 3 rfl E d_L_law_506 ?_
  refine wa_iconst 2 ic_2 E d_L_law_507 ?_
  refine wa_iadd E d_L_law_508 ?_
  obtain ⟨g_2, h⟩ := kf_gd h
  refine wa_sald k_v0 g_2 E d_L_law_509 ?_
  obtain ⟨q_3, hq_3, h⟩ := kf_bd h
  refine wa_callV (st2 := [.int q_3.1]) (c_X11_lift hty v1 (xs (Int32.toNatClampNeg (v3 + 1))) (xs (Int32.toNatClampNeg (v3 + 2))) k_v1 σ hq_3) mv_X11_lift ml_L_54 k_v1 rfl (Nat.le_of_ble_eq_true rfl) rfl (Nat.le_of_ble_eq_true rfl) E d_L_law_510 rfl ?_
  refine wa_aload_n 2 rfl E d_L_law_513 ?_
  refine wa_aload_n 0 rfl E d_L_law_514 ?_
  refine wa_iload_n 3 rfl E d_L_law_515 ?_
  refine wa_iconst 1 ic_1 E d_L_law_516 ?_
  refine wa_iadd E d_L_law_517 ?_
  obtain ⟨g_4, h⟩ := kf_gd h
  refine wa_sald k_v0 g_4 E d_L_law_518 ?_
  refine wa_aload_n 0 rfl E d_L_law_519 ?_
  refine wa_iload_n 3 rfl E d_L_law_520 ?_
  refine wa_iconst 2 ic_2 E d_L_law_521 ?_
  refine wa_iadd E d_L_law_522 ?_
  obtain ⟨g_5, h⟩ := kf_gd h
  refine wa_sald k_v0 g_5 E d_L_law_523 ?_
  obtain ⟨q_6, hq_6, h⟩ := kf_bd h
  refine wa_callV (st2 := [.int q_6.1, .int q_3.1]) (c_X12_lift hty v2 (xs (Int32.toNatClampNeg (v3 + 1))) (xs (Int32.toNatClampNeg (v3 + 2))) k_v2 q_3.2 hq_6) mv_X12_lift ml_L_58 k_v2 rfl (Nat.le_of_ble_eq_true rfl) rfl (Nat.le_of_ble_eq_true rfl) E d_L_law_524 rfl ?_
  refine wa_icmp_eq E d_L_law_527 (fun c_7 => ?_) (fun c_7 => ?_)
  · replace h := kf_ift c_7 h
    exact b_L_law_1471 E hty hend hq1 hrec18 v0 v1 v2 v3 k_v0 k_v1 k_v2 q_6.2 h
  · replace h := kf_iff c_7 h
    refine wa_iconst 0 ic_0 E d_L_law_530 ?_
    cases h
    exact absurd (show (0 : Int32) = 1 from hq1) (by decide)
def f_L_law_532 (L : Nat) (xs : Nat → Int32) (rec18 : Nat → Nat → Nat → Int32 → kf_St → Option (Int32 × kf_St)) (v0 : Nat) (v1 : Nat) (v2 : Nat) (v3 : Int32) (σ : kf_St) : Option (Int32 × kf_St) :=
  if kf_ix (v3 + 1) L = true then
  (f_X11_polish v1 (xs (Int32.toNatClampNeg (v3 + 1))) σ).bind fun q_2 =>
  if kf_ix (v3 + 1) L = true then
  (f_X12_polish v2 (xs (Int32.toNatClampNeg (v3 + 1))) q_2.2).bind fun q_4 =>
  if q_2.1 = q_4.1 then
    f_L_law_1471 L xs rec18 v0 v1 v2 v3 q_4.2
  else
    some (0, q_4.2)
  else none
  else none
set_option maxRecDepth 100000 in
set_option maxHeartbeats 4000000 in
theorem b_L_law_532 {X : kf_X} {G : kf_G} {Q : State → Prop} {L : Nat} {xs : Nat → Int32} {rec18 : Nat → Nat → Nat → Int32 → kf_St → Option (Int32 × kf_St)} {q : (Int32 × kf_St)} (E : kf_ok X G cL_law RL 4 (some .boolean) (42)) (hty : kf_wt G) (hend : ∀ {pc pc1 : Nat} (_ : kf_dq cL_law pc pc1 1 .ireturn) (lv : List (Nat × Value)) (σ : kf_St), kf_WA X G 4 Q pc lv [.int 1] σ) (hq1 : q.1 = 1) (hrec18 : ∀ (v0 : Nat) (v1 : Nat) (v2 : Nat) (v3 : Int32) (k_v0 : kf_scr X G v0 L xs) (k_v1 : kf_kd G v1 = 12) (k_v2 : kf_kd G v2 = 13) (σ : kf_St), rec18 v0 v1 v2 v3 σ = some q → kf_WA X G 4 Q 18 [(0, .ref v0), (1, .ref (kf_ad G v1)), (2, .ref (kf_ad G v2)), (3, .int v3)] [] σ) (v0 : Nat) (v1 : Nat) (v2 : Nat) (v3 : Int32) (k_v0 : kf_scr X G v0 L xs) (k_v1 : kf_kd G v1 = 12) (k_v2 : kf_kd G v2 = 13) (σ : kf_St) (h : f_L_law_532 L xs rec18 v0 v1 v2 v3 σ = some q) : kf_WA X G 4 Q 532 [(0, .ref v0), (1, .ref (kf_ad G v1)), (2, .ref (kf_ad G v2)), (3, .int v3)] [] σ := by
  unfold f_L_law_532 at h
  refine wa_aload_n 1 rfl E d_L_law_532 ?_
  refine wa_aload_n 0 rfl E d_L_law_533 ?_
  refine wa_iload_n 3 rfl E d_L_law_534 ?_
  refine wa_iconst 1 ic_1 E d_L_law_535 ?_
  refine wa_iadd E d_L_law_536 ?_
  obtain ⟨g_1, h⟩ := kf_gd h
  refine wa_sald k_v0 g_1 E d_L_law_537 ?_
  obtain ⟨q_2, hq_2, h⟩ := kf_bd h
  refine wa_callV (st2 := [.int q_2.1]) (c_X11_polish hty v1 (xs (Int32.toNatClampNeg (v3 + 1))) k_v1 σ hq_2) mv_X11_polish ml_L_59 k_v1 rfl (Nat.le_of_ble_eq_true rfl) rfl (Nat.le_of_ble_eq_true rfl) E d_L_law_538 rfl ?_
  refine wa_aload_n 2 rfl E d_L_law_541 ?_
  refine wa_aload_n 0 rfl E d_L_law_542 ?_
  refine wa_iload_n 3 rfl E d_L_law_543 ?_
  refine wa_iconst 1 ic_1 E d_L_law_544 ?_
  refine wa_iadd E d_L_law_545 ?_
  obtain ⟨g_3, h⟩ := kf_gd h
  refine wa_sald k_v0 g_3 E d_L_law_546 ?_
  obtain ⟨q_4, hq_4, h⟩ := kf_bd h
  refine wa_callV (st2 := [.int q_4.1, .int q_2.1]) (c_X12_polish hty v2 (xs (Int32.toNatClampNeg (v3 + 1))) k_v2 q_2.2 hq_4) mv_X12_polish ml_L_63 k_v2 rfl (Nat.le_of_ble_eq_true rfl) rfl (Nat.le_of_ble_eq_true rfl) E d_L_law_547 rfl ?_
  refine wa_icmp_eq E d_L_law_550 (fun c_5 => ?_) (fun c_5 => ?_)
  · replace h := kf_ift c_5 h
    exact b_L_law_1471 E hty hend hq1 hrec18 v0 v1 v2 v3 k_v0 k_v1 k_v2 q_4.2 h
  · replace h := kf_iff c_5 h
    refine wa_iconst 0 ic_0 E d_L_law_553 ?_
    cases h
    exact absurd (show (0 : Int32) = 1 from hq1) (by decide)
def f_L_law_555 (L : Nat) (xs : Nat → Int32) (rec18 : Nat → Nat → Nat → Int32 → kf_St → Option (Int32 × kf_St)) (v0 : Nat) (v1 : Nat) (v2 : Nat) (v3 : Int32) (σ : kf_St) : Option (Int32 × kf_St) :=
  if kf_ix (v3 + 1) L = true then
  if kf_ix (v3 + 2) L = true then
  (f_X11_file v1 (xs (Int32.toNatClampNeg (v3 + 1))) (xs (Int32.toNatClampNeg (v3 + 2))) σ).bind fun q_3 =>
  if kf_ix (v3 + 1) L = true then
  if kf_ix (v3 + 2) L = true then
  (f_X12_file v2 (xs (Int32.toNatClampNeg (v3 + 1))) (xs (Int32.toNatClampNeg (v3 + 2))) q_3.2).bind fun q_6 =>
  if q_3.1 = q_6.1 then
    f_L_law_1471 L xs rec18 v0 v1 v2 v3 q_6.2
  else
    some (0, q_6.2)
  else none
  else none
  else none
  else none
set_option maxRecDepth 100000 in
set_option maxHeartbeats 4000000 in
theorem b_L_law_555 {X : kf_X} {G : kf_G} {Q : State → Prop} {L : Nat} {xs : Nat → Int32} {rec18 : Nat → Nat → Nat → Int32 → kf_St → Option (Int32 × kf_St)} {q : (Int32 × kf_St)} (E : kf_ok X G cL_law RL 4 (some .boolean) (42)) (hty : kf_wt G) (hend : ∀ {pc pc1 : Nat} (_ : kf_dq cL_law pc pc1 1 .ireturn) (lv : List (Nat × Value)) (σ : kf_St), kf_WA X G 4 Q pc lv [.int 1] σ) (hq1 : q.1 = 1) (hrec18 : ∀ (v0 : Nat) (v1 : Nat) (v2 : Nat) (v3 : Int32) (k_v0 : kf_scr X G v0 L xs) (k_v1 : kf_kd G v1 = 12) (k_v2 : kf_kd G v2 = 13) (σ : kf_St), rec18 v0 v1 v2 v3 σ = some q → kf_WA X G 4 Q 18 [(0, .ref v0), (1, .ref (kf_ad G v1)), (2, .ref (kf_ad G v2)), (3, .int v3)] [] σ) (v0 : Nat) (v1 : Nat) (v2 : Nat) (v3 : Int32) (k_v0 : kf_scr X G v0 L xs) (k_v1 : kf_kd G v1 = 12) (k_v2 : kf_kd G v2 = 13) (σ : kf_St) (h : f_L_law_555 L xs rec18 v0 v1 v2 v3 σ = some q) : kf_WA X G 4 Q 555 [(0, .ref v0), (1, .ref (kf_ad G v1)), (2, .ref (kf_ad G v2)), (3, .int v3)] [] σ := by
  unfold f_L_law_555 at h
  refine wa_aload_n 1 rfl E d_L_law_555 ?_
  refine wa_aload_n 0 rfl E d_L_law_556 ?_
  refine wa_iload_n 3 rfl E d_L_law_557 ?_
  refine wa_iconst 1 ic_1 E d_L_law_558 ?_
  refine wa_iadd E d_L_law_559 ?_
  obtain ⟨g_1, h⟩ := kf_gd h
  refine wa_sald k_v0 g_1 E d_L_law_560 ?_
  refine wa_aload_n 0 rfl E d_L_law_561 ?_
  refine wa_iload_n 3 rfl E d_L_law_562 ?_
  refine wa_iconst 2 ic_2 E d_L_law_563 ?_
  refine wa_iadd E d_L_law_564 ?_
  obtain ⟨g_2, h⟩ := kf_gd h
  refine wa_sald k_v0 g_2 E d_L_law_565 ?_
  obtain ⟨q_3, hq_3, h⟩ := kf_bd h
  refine wa_callV (st2 := [.int q_3.1]) (c_X11_file hty v1 (xs (Int32.toNatClampNeg (v3 + 1))) (xs (Int32.toNatClampNeg (v3 + 2))) k_v1 σ hq_3) mv_X11_file ml_L_64 k_v1 rfl (Nat.le_of_ble_eq_true rfl) rfl (Nat.le_of_ble_eq_true rfl) E d_L_law_566 rfl ?_
  refine wa_aload_n 2 rfl E d_L_law_569 ?_
  refine wa_aload_n 0 rfl E d_L_law_570 ?_
  refine wa_iload_n 3 rfl E d_L_law_571 ?_
  refine wa_iconst 1 ic_1 E d_L_law_572 ?_
  refine wa_iadd E d_L_law_573 ?_
  obtain ⟨g_4, h⟩ := kf_gd h
  refine wa_sald k_v0 g_4 E d_L_law_574 ?_
  refine wa_aload_n 0 rfl E d_L_law_575 ?_
  refine wa_iload_n 3 rfl E d_L_law_576 ?_
  refine wa_iconst 2 ic_2 E d_L_law_577 ?_
  refine wa_iadd E d_L_law_578 ?_
  obtain ⟨g_5, h⟩ := kf_gd h
  refine wa_sald k_v0 g_5 E d_L_law_579 ?_
  obtain ⟨q_6, hq_6, h⟩ := kf_bd h
  refine wa_callV (st2 := [.int q_6.1, .int q_3.1]) (c_X12_file hty v2 (xs (Int32.toNatClampNeg (v3 + 1))) (xs (Int32.toNatClampNeg (v3 + 2))) k_v2 q_3.2 hq_6) mv_X12_file ml_L_67 k_v2 rfl (Nat.le_of_ble_eq_true rfl) rfl (Nat.le_of_ble_eq_true rfl) E d_L_law_580 rfl ?_
  refine wa_icmp_eq E d_L_law_583 (fun c_7 => ?_) (fun c_7 => ?_)
  · replace h := kf_ift c_7 h
    exact b_L_law_1471 E hty hend hq1 hrec18 v0 v1 v2 v3 k_v0 k_v1 k_v2 q_6.2 h
  · replace h := kf_iff c_7 h
    refine wa_iconst 0 ic_0 E d_L_law_586 ?_
    cases h
    exact absurd (show (0 : Int32) = 1 from hq1) (by decide)
def f_L_law_629 (L : Nat) (xs : Nat → Int32) (rec18 : Nat → Nat → Nat → Int32 → kf_St → Option (Int32 × kf_St)) (v0 : Nat) (v1 : Nat) (v2 : Nat) (v3 : Int32) (s0 : Int32) (s1 : Nat) (s2 : Int32) (s3 : Int32) (σ : kf_St) : Option (Int32 × kf_St) :=
  (f_X12_keep s1 s2 s3 σ).bind fun q_1 =>
  if s0 = q_1.1 then
    f_L_law_1471 L xs rec18 v0 v1 v2 v3 q_1.2
  else
    some (0, q_1.2)
set_option maxRecDepth 100000 in
set_option maxHeartbeats 4000000 in
theorem b_L_law_629 {X : kf_X} {G : kf_G} {Q : State → Prop} {L : Nat} {xs : Nat → Int32} {rec18 : Nat → Nat → Nat → Int32 → kf_St → Option (Int32 × kf_St)} {q : (Int32 × kf_St)} (E : kf_ok X G cL_law RL 4 (some .boolean) (42)) (hty : kf_wt G) (hend : ∀ {pc pc1 : Nat} (_ : kf_dq cL_law pc pc1 1 .ireturn) (lv : List (Nat × Value)) (σ : kf_St), kf_WA X G 4 Q pc lv [.int 1] σ) (hq1 : q.1 = 1) (hrec18 : ∀ (v0 : Nat) (v1 : Nat) (v2 : Nat) (v3 : Int32) (k_v0 : kf_scr X G v0 L xs) (k_v1 : kf_kd G v1 = 12) (k_v2 : kf_kd G v2 = 13) (σ : kf_St), rec18 v0 v1 v2 v3 σ = some q → kf_WA X G 4 Q 18 [(0, .ref v0), (1, .ref (kf_ad G v1)), (2, .ref (kf_ad G v2)), (3, .int v3)] [] σ) (v0 : Nat) (v1 : Nat) (v2 : Nat) (v3 : Int32) (s0 : Int32) (s1 : Nat) (s2 : Int32) (s3 : Int32) (k_v0 : kf_scr X G v0 L xs) (k_v1 : kf_kd G v1 = 12) (k_v2 : kf_kd G v2 = 13) (k_s1 : kf_kd G s1 = 13) (σ : kf_St) (h : f_L_law_629 L xs rec18 v0 v1 v2 v3 s0 s1 s2 s3 σ = some q) : kf_WA X G 4 Q 629 [(0, .ref v0), (1, .ref (kf_ad G v1)), (2, .ref (kf_ad G v2)), (3, .int v3)] [.int s3, .int s2, .ref (kf_ad G s1), .int s0] σ := by
  unfold f_L_law_629 at h
  obtain ⟨q_1, hq_1, h⟩ := kf_bd h
  refine wa_callV (st2 := [.int q_1.1, .int s0]) (c_X12_keep hty s1 s2 s3 k_s1 σ hq_1) mv_X12_keep ml_L_72 k_s1 rfl (Nat.le_of_ble_eq_true rfl) rfl (Nat.le_of_ble_eq_true rfl) E d_L_law_629 rfl ?_
  refine wa_icmp_eq E d_L_law_632 (fun c_2 => ?_) (fun c_2 => ?_)
  · replace h := kf_ift c_2 h
    exact b_L_law_1471 E hty hend hq1 hrec18 v0 v1 v2 v3 k_v0 k_v1 k_v2 q_1.2 h
  · replace h := kf_iff c_2 h
    refine wa_iconst 0 ic_0 E d_L_law_635 ?_
    cases h
    exact absurd (show (0 : Int32) = 1 from hq1) (by decide)
def f_L_law_607 (L : Nat) (xs : Nat → Int32) (rec18 : Nat → Nat → Nat → Int32 → kf_St → Option (Int32 × kf_St)) (v0 : Nat) (v1 : Nat) (v2 : Nat) (v3 : Int32) (s0 : Nat) (s1 : Int32) (s2 : Int32) (σ : kf_St) : Option (Int32 × kf_St) :=
  (f_X11_keep s0 s1 s2 σ).bind fun q_1 =>
  if kf_ix (v3 + 1) L = true then
  if kf_ix (v3 + 2) L = true then
  if (xs (Int32.toNatClampNeg (v3 + 2))) = 0 then
    f_L_law_629 L xs rec18 v0 v1 v2 v3 q_1.1 v2 (xs (Int32.toNatClampNeg (v3 + 1))) 0 q_1.2
  else
    f_L_law_629 L xs rec18 v0 v1 v2 v3 q_1.1 v2 (xs (Int32.toNatClampNeg (v3 + 1))) 1 q_1.2
  else none
  else none
set_option maxRecDepth 100000 in
set_option maxHeartbeats 4000000 in
theorem b_L_law_607 {X : kf_X} {G : kf_G} {Q : State → Prop} {L : Nat} {xs : Nat → Int32} {rec18 : Nat → Nat → Nat → Int32 → kf_St → Option (Int32 × kf_St)} {q : (Int32 × kf_St)} (E : kf_ok X G cL_law RL 4 (some .boolean) (42)) (hty : kf_wt G) (hend : ∀ {pc pc1 : Nat} (_ : kf_dq cL_law pc pc1 1 .ireturn) (lv : List (Nat × Value)) (σ : kf_St), kf_WA X G 4 Q pc lv [.int 1] σ) (hq1 : q.1 = 1) (hrec18 : ∀ (v0 : Nat) (v1 : Nat) (v2 : Nat) (v3 : Int32) (k_v0 : kf_scr X G v0 L xs) (k_v1 : kf_kd G v1 = 12) (k_v2 : kf_kd G v2 = 13) (σ : kf_St), rec18 v0 v1 v2 v3 σ = some q → kf_WA X G 4 Q 18 [(0, .ref v0), (1, .ref (kf_ad G v1)), (2, .ref (kf_ad G v2)), (3, .int v3)] [] σ) (v0 : Nat) (v1 : Nat) (v2 : Nat) (v3 : Int32) (s0 : Nat) (s1 : Int32) (s2 : Int32) (k_v0 : kf_scr X G v0 L xs) (k_v1 : kf_kd G v1 = 12) (k_v2 : kf_kd G v2 = 13) (k_s0 : kf_kd G s0 = 12) (σ : kf_St) (h : f_L_law_607 L xs rec18 v0 v1 v2 v3 s0 s1 s2 σ = some q) : kf_WA X G 4 Q 607 [(0, .ref v0), (1, .ref (kf_ad G v1)), (2, .ref (kf_ad G v2)), (3, .int v3)] [.int s2, .int s1, .ref (kf_ad G s0)] σ := by
  unfold f_L_law_607 at h
  obtain ⟨q_1, hq_1, h⟩ := kf_bd h
  refine wa_callV (st2 := [.int q_1.1]) (c_X11_keep hty s0 s1 s2 k_s0 σ hq_1) mv_X11_keep ml_L_68 k_s0 rfl (Nat.le_of_ble_eq_true rfl) rfl (Nat.le_of_ble_eq_true rfl) E d_L_law_607 rfl ?_
  refine wa_aload_n 2 rfl E d_L_law_610 ?_
  refine wa_aload_n 0 rfl E d_L_law_611 ?_
  refine wa_iload_n 3 rfl E d_L_law_612 ?_
  refine wa_iconst 1 ic_1 E d_L_law_613 ?_
  refine wa_iadd E d_L_law_614 ?_
  obtain ⟨g_2, h⟩ := kf_gd h
  refine wa_sald k_v0 g_2 E d_L_law_615 ?_
  refine wa_aload_n 0 rfl E d_L_law_616 ?_
  refine wa_iload_n 3 rfl E d_L_law_617 ?_
  refine wa_iconst 2 ic_2 E d_L_law_618 ?_
  refine wa_iadd E d_L_law_619 ?_
  obtain ⟨g_3, h⟩ := kf_gd h
  refine wa_sald k_v0 g_3 E d_L_law_620 ?_
  refine wa_if_eq E d_L_law_621 (fun c_4 => ?_) (fun c_4 => ?_)
  · replace h := kf_ift c_4 h
    refine wa_iconst 0 ic_0 E d_L_law_628 ?_
    exact b_L_law_629 E hty hend hq1 hrec18 v0 v1 v2 v3 q_1.1 v2 (xs (Int32.toNatClampNeg (v3 + 1))) 0 k_v0 k_v1 k_v2 k_v2 q_1.2 h
  · replace h := kf_iff c_4 h
    refine wa_iconst 1 ic_1 E d_L_law_624 ?_
    refine wa_goto E d_L_law_625 ?_
    exact b_L_law_629 E hty hend hq1 hrec18 v0 v1 v2 v3 q_1.1 v2 (xs (Int32.toNatClampNeg (v3 + 1))) 1 k_v0 k_v1 k_v2 k_v2 q_1.2 h
def f_L_law_588 (L : Nat) (xs : Nat → Int32) (rec18 : Nat → Nat → Nat → Int32 → kf_St → Option (Int32 × kf_St)) (v0 : Nat) (v1 : Nat) (v2 : Nat) (v3 : Int32) (σ : kf_St) : Option (Int32 × kf_St) :=
  if kf_ix (v3 + 1) L = true then
  if kf_ix (v3 + 2) L = true then
  if (xs (Int32.toNatClampNeg (v3 + 2))) = 0 then
    f_L_law_607 L xs rec18 v0 v1 v2 v3 v1 (xs (Int32.toNatClampNeg (v3 + 1))) 0 σ
  else
    f_L_law_607 L xs rec18 v0 v1 v2 v3 v1 (xs (Int32.toNatClampNeg (v3 + 1))) 1 σ
  else none
  else none
set_option maxRecDepth 100000 in
set_option maxHeartbeats 4000000 in
theorem b_L_law_588 {X : kf_X} {G : kf_G} {Q : State → Prop} {L : Nat} {xs : Nat → Int32} {rec18 : Nat → Nat → Nat → Int32 → kf_St → Option (Int32 × kf_St)} {q : (Int32 × kf_St)} (E : kf_ok X G cL_law RL 4 (some .boolean) (42)) (hty : kf_wt G) (hend : ∀ {pc pc1 : Nat} (_ : kf_dq cL_law pc pc1 1 .ireturn) (lv : List (Nat × Value)) (σ : kf_St), kf_WA X G 4 Q pc lv [.int 1] σ) (hq1 : q.1 = 1) (hrec18 : ∀ (v0 : Nat) (v1 : Nat) (v2 : Nat) (v3 : Int32) (k_v0 : kf_scr X G v0 L xs) (k_v1 : kf_kd G v1 = 12) (k_v2 : kf_kd G v2 = 13) (σ : kf_St), rec18 v0 v1 v2 v3 σ = some q → kf_WA X G 4 Q 18 [(0, .ref v0), (1, .ref (kf_ad G v1)), (2, .ref (kf_ad G v2)), (3, .int v3)] [] σ) (v0 : Nat) (v1 : Nat) (v2 : Nat) (v3 : Int32) (k_v0 : kf_scr X G v0 L xs) (k_v1 : kf_kd G v1 = 12) (k_v2 : kf_kd G v2 = 13) (σ : kf_St) (h : f_L_law_588 L xs rec18 v0 v1 v2 v3 σ = some q) : kf_WA X G 4 Q 588 [(0, .ref v0), (1, .ref (kf_ad G v1)), (2, .ref (kf_ad G v2)), (3, .int v3)] [] σ := by
  unfold f_L_law_588 at h
  refine wa_aload_n 1 rfl E d_L_law_588 ?_
  refine wa_aload_n 0 rfl E d_L_law_589 ?_
  refine wa_iload_n 3 rfl E d_L_law_590 ?_
  refine wa_iconst 1 ic_1 E d_L_law_591 ?_
  refine wa_iadd E d_L_law_592 ?_
  obtain ⟨g_1, h⟩ := kf_gd h
  refine wa_sald k_v0 g_1 E d_L_law_593 ?_
  refine wa_aload_n 0 rfl E d_L_law_594 ?_
  refine wa_iload_n 3 rfl E d_L_law_595 ?_
  refine wa_iconst 2 ic_2 E d_L_law_596 ?_
  refine wa_iadd E d_L_law_597 ?_
  obtain ⟨g_2, h⟩ := kf_gd h
  refine wa_sald k_v0 g_2 E d_L_law_598 ?_
  refine wa_if_eq E d_L_law_599 (fun c_3 => ?_) (fun c_3 => ?_)
  · replace h := kf_ift c_3 h
    refine wa_iconst 0 ic_0 E d_L_law_606 ?_
    exact b_L_law_607 E hty hend hq1 hrec18 v0 v1 v2 v3 v1 (xs (Int32.toNatClampNeg (v3 + 1))) 0 k_v0 k_v1 k_v2 k_v1 σ h
  · replace h := kf_iff c_3 h
    refine wa_iconst 1 ic_1 E d_L_law_602 ?_
    refine wa_goto E d_L_law_603 ?_
    exact b_L_law_607 E hty hend hq1 hrec18 v0 v1 v2 v3 v1 (xs (Int32.toNatClampNeg (v3 + 1))) 1 k_v0 k_v1 k_v2 k_v1 σ h
def f_L_law_637 (L : Nat) (xs : Nat → Int32) (rec18 : Nat → Nat → Nat → Int32 → kf_St → Option (Int32 × kf_St)) (v0 : Nat) (v1 : Nat) (v2 : Nat) (v3 : Int32) (σ : kf_St) : Option (Int32 × kf_St) :=
  if kf_ix (v3 + 1) L = true then
  (f_X11_days v1 (xs (Int32.toNatClampNeg (v3 + 1))) σ).bind fun q_2 =>
  if kf_ix (v3 + 1) L = true then
  (f_X12_days v2 (xs (Int32.toNatClampNeg (v3 + 1))) q_2.2).bind fun q_4 =>
  if q_2.1 = q_4.1 then
    f_L_law_1471 L xs rec18 v0 v1 v2 v3 q_4.2
  else
    some (0, q_4.2)
  else none
  else none
set_option maxRecDepth 100000 in
set_option maxHeartbeats 4000000 in
theorem b_L_law_637 {X : kf_X} {G : kf_G} {Q : State → Prop} {L : Nat} {xs : Nat → Int32} {rec18 : Nat → Nat → Nat → Int32 → kf_St → Option (Int32 × kf_St)} {q : (Int32 × kf_St)} (E : kf_ok X G cL_law RL 4 (some .boolean) (42)) (hty : kf_wt G) (hend : ∀ {pc pc1 : Nat} (_ : kf_dq cL_law pc pc1 1 .ireturn) (lv : List (Nat × Value)) (σ : kf_St), kf_WA X G 4 Q pc lv [.int 1] σ) (hq1 : q.1 = 1) (hrec18 : ∀ (v0 : Nat) (v1 : Nat) (v2 : Nat) (v3 : Int32) (k_v0 : kf_scr X G v0 L xs) (k_v1 : kf_kd G v1 = 12) (k_v2 : kf_kd G v2 = 13) (σ : kf_St), rec18 v0 v1 v2 v3 σ = some q → kf_WA X G 4 Q 18 [(0, .ref v0), (1, .ref (kf_ad G v1)), (2, .ref (kf_ad G v2)), (3, .int v3)] [] σ) (v0 : Nat) (v1 : Nat) (v2 : Nat) (v3 : Int32) (k_v0 : kf_scr X G v0 L xs) (k_v1 : kf_kd G v1 = 12) (k_v2 : kf_kd G v2 = 13) (σ : kf_St) (h : f_L_law_637 L xs rec18 v0 v1 v2 v3 σ = some q) : kf_WA X G 4 Q 637 [(0, .ref v0), (1, .ref (kf_ad G v1)), (2, .ref (kf_ad G v2)), (3, .int v3)] [] σ := by
  unfold f_L_law_637 at h
  refine wa_aload_n 1 rfl E d_L_law_637 ?_
  refine wa_aload_n 0 rfl E d_L_law_638 ?_
  refine wa_iload_n 3 rfl E d_L_law_639 ?_
  refine wa_iconst 1 ic_1 E d_L_law_640 ?_
  refine wa_iadd E d_L_law_641 ?_
  obtain ⟨g_1, h⟩ := kf_gd h
  refine wa_sald k_v0 g_1 E d_L_law_642 ?_
  obtain ⟨q_2, hq_2, h⟩ := kf_bd h
  refine wa_callV (st2 := [.int q_2.1]) (c_X11_days hty v1 (xs (Int32.toNatClampNeg (v3 + 1))) k_v1 σ hq_2) mv_X11_days ml_L_73 k_v1 rfl (Nat.le_of_ble_eq_true rfl) rfl (Nat.le_of_ble_eq_true rfl) E d_L_law_643 rfl ?_
  refine wa_aload_n 2 rfl E d_L_law_646 ?_
  refine wa_aload_n 0 rfl E d_L_law_647 ?_
  refine wa_iload_n 3 rfl E d_L_law_648 ?_
  refine wa_iconst 1 ic_1 E d_L_law_649 ?_
  refine wa_iadd E d_L_law_650 ?_
  obtain ⟨g_3, h⟩ := kf_gd h
  refine wa_sald k_v0 g_3 E d_L_law_651 ?_
  obtain ⟨q_4, hq_4, h⟩ := kf_bd h
  refine wa_callV (st2 := [.int q_4.1, .int q_2.1]) (c_X12_days hty v2 (xs (Int32.toNatClampNeg (v3 + 1))) k_v2 q_2.2 hq_4) mv_X12_days ml_L_76 k_v2 rfl (Nat.le_of_ble_eq_true rfl) rfl (Nat.le_of_ble_eq_true rfl) E d_L_law_652 rfl ?_
  refine wa_icmp_eq E d_L_law_655 (fun c_5 => ?_) (fun c_5 => ?_)
  · replace h := kf_ift c_5 h
    exact b_L_law_1471 E hty hend hq1 hrec18 v0 v1 v2 v3 k_v0 k_v1 k_v2 q_4.2 h
  · replace h := kf_iff c_5 h
    refine wa_iconst 0 ic_0 E d_L_law_658 ?_
    cases h
    exact absurd (show (0 : Int32) = 1 from hq1) (by decide)
def f_L_law_660 (L : Nat) (xs : Nat → Int32) (rec18 : Nat → Nat → Nat → Int32 → kf_St → Option (Int32 × kf_St)) (v0 : Nat) (v1 : Nat) (v2 : Nat) (v3 : Int32) (σ : kf_St) : Option (Int32 × kf_St) :=
  (f_X11_undo v1 σ).bind fun q_1 =>
  (f_X12_undo v2 q_1.2).bind fun q_2 =>
  if q_1.1 = q_2.1 then
    f_L_law_1471 L xs rec18 v0 v1 v2 v3 q_2.2
  else
    some (0, q_2.2)
set_option maxRecDepth 100000 in
set_option maxHeartbeats 4000000 in
theorem b_L_law_660 {X : kf_X} {G : kf_G} {Q : State → Prop} {L : Nat} {xs : Nat → Int32} {rec18 : Nat → Nat → Nat → Int32 → kf_St → Option (Int32 × kf_St)} {q : (Int32 × kf_St)} (E : kf_ok X G cL_law RL 4 (some .boolean) (42)) (hty : kf_wt G) (hend : ∀ {pc pc1 : Nat} (_ : kf_dq cL_law pc pc1 1 .ireturn) (lv : List (Nat × Value)) (σ : kf_St), kf_WA X G 4 Q pc lv [.int 1] σ) (hq1 : q.1 = 1) (hrec18 : ∀ (v0 : Nat) (v1 : Nat) (v2 : Nat) (v3 : Int32) (k_v0 : kf_scr X G v0 L xs) (k_v1 : kf_kd G v1 = 12) (k_v2 : kf_kd G v2 = 13) (σ : kf_St), rec18 v0 v1 v2 v3 σ = some q → kf_WA X G 4 Q 18 [(0, .ref v0), (1, .ref (kf_ad G v1)), (2, .ref (kf_ad G v2)), (3, .int v3)] [] σ) (v0 : Nat) (v1 : Nat) (v2 : Nat) (v3 : Int32) (k_v0 : kf_scr X G v0 L xs) (k_v1 : kf_kd G v1 = 12) (k_v2 : kf_kd G v2 = 13) (σ : kf_St) (h : f_L_law_660 L xs rec18 v0 v1 v2 v3 σ = some q) : kf_WA X G 4 Q 660 [(0, .ref v0), (1, .ref (kf_ad G v1)), (2, .ref (kf_ad G v2)), (3, .int v3)] [] σ := by
  unfold f_L_law_660 at h
  refine wa_aload_n 1 rfl E d_L_law_660 ?_
  obtain ⟨q_1, hq_1, h⟩ := kf_bd h
  refine wa_callV (st2 := [.int q_1.1]) (c_X11_undo hty v1 k_v1 σ hq_1) mv_X11_undo ml_L_77 k_v1 rfl (Nat.le_of_ble_eq_true rfl) rfl (Nat.le_of_ble_eq_true rfl) E d_L_law_661 rfl ?_
  refine wa_aload_n 2 rfl E d_L_law_664 ?_
  obtain ⟨q_2, hq_2, h⟩ := kf_bd h
  refine wa_callV (st2 := [.int q_2.1, .int q_1.1]) (c_X12_undo hty v2 k_v2 q_1.2 hq_2) mv_X12_undo ml_L_81 k_v2 rfl (Nat.le_of_ble_eq_true rfl) rfl (Nat.le_of_ble_eq_true rfl) E d_L_law_665 rfl ?_
  refine wa_icmp_eq E d_L_law_668 (fun c_3 => ?_) (fun c_3 => ?_)
  · replace h := kf_ift c_3 h
    exact b_L_law_1471 E hty hend hq1 hrec18 v0 v1 v2 v3 k_v0 k_v1 k_v2 q_2.2 h
  · replace h := kf_iff c_3 h
    refine wa_iconst 0 ic_0 E d_L_law_671 ?_
    cases h
    exact absurd (show (0 : Int32) = 1 from hq1) (by decide)
def f_L_law_673 (L : Nat) (xs : Nat → Int32) (rec18 : Nat → Nat → Nat → Int32 → kf_St → Option (Int32 × kf_St)) (v0 : Nat) (v1 : Nat) (v2 : Nat) (v3 : Int32) (σ : kf_St) : Option (Int32 × kf_St) :=
  if kf_ix (v3 + 1) L = true then
  if kf_ix (v3 + 2) L = true then
  if kf_ix (v3 + 3) L = true then
  (f_X11_lifts v1 (xs (Int32.toNatClampNeg (v3 + 1))) (xs (Int32.toNatClampNeg (v3 + 2))) (xs (Int32.toNatClampNeg (v3 + 3))) σ).bind fun q_4 =>
  if kf_ix (v3 + 1) L = true then
  if kf_ix (v3 + 2) L = true then
  if kf_ix (v3 + 3) L = true then
  (f_X12_lifts v2 (xs (Int32.toNatClampNeg (v3 + 1))) (xs (Int32.toNatClampNeg (v3 + 2))) (xs (Int32.toNatClampNeg (v3 + 3))) q_4.2).bind fun q_8 =>
  if q_4.1 = q_8.1 then
    f_L_law_1471 L xs rec18 v0 v1 v2 v3 q_8.2
  else
    some (0, q_8.2)
  else none
  else none
  else none
  else none
  else none
  else none
set_option maxRecDepth 100000 in
set_option maxHeartbeats 4000000 in
theorem b_L_law_673 {X : kf_X} {G : kf_G} {Q : State → Prop} {L : Nat} {xs : Nat → Int32} {rec18 : Nat → Nat → Nat → Int32 → kf_St → Option (Int32 × kf_St)} {q : (Int32 × kf_St)} (E : kf_ok X G cL_law RL 4 (some .boolean) (42)) (hty : kf_wt G) (hend : ∀ {pc pc1 : Nat} (_ : kf_dq cL_law pc pc1 1 .ireturn) (lv : List (Nat × Value)) (σ : kf_St), kf_WA X G 4 Q pc lv [.int 1] σ) (hq1 : q.1 = 1) (hrec18 : ∀ (v0 : Nat) (v1 : Nat) (v2 : Nat) (v3 : Int32) (k_v0 : kf_scr X G v0 L xs) (k_v1 : kf_kd G v1 = 12) (k_v2 : kf_kd G v2 = 13) (σ : kf_St), rec18 v0 v1 v2 v3 σ = some q → kf_WA X G 4 Q 18 [(0, .ref v0), (1, .ref (kf_ad G v1)), (2, .ref (kf_ad G v2)), (3, .int v3)] [] σ) (v0 : Nat) (v1 : Nat) (v2 : Nat) (v3 : Int32) (k_v0 : kf_scr X G v0 L xs) (k_v1 : kf_kd G v1 = 12) (k_v2 : kf_kd G v2 = 13) (σ : kf_St) (h : f_L_law_673 L xs rec18 v0 v1 v2 v3 σ = some q) : kf_WA X G 4 Q 673 [(0, .ref v0), (1, .ref (kf_ad G v1)), (2, .ref (kf_ad G v2)), (3, .int v3)] [] σ := by
  unfold f_L_law_673 at h
  refine wa_aload_n 1 rfl E d_L_law_673 ?_
  refine wa_aload_n 0 rfl E d_L_law_674 ?_
  refine wa_iload_n 3 rfl E d_L_law_675 ?_
  refine wa_iconst 1 ic_1 E d_L_law_676 ?_
  refine wa_iadd E d_L_law_677 ?_
  obtain ⟨g_1, h⟩ := kf_gd h
  refine wa_sald k_v0 g_1 E d_L_law_678 ?_
  refine wa_aload_n 0 rfl E d_L_law_679 ?_
  refine wa_iload_n 3 rfl E d_L_law_680 ?_
  refine wa_iconst 2 ic_2 E d_L_law_681 ?_
  refine wa_iadd E d_L_law_682 ?_
  obtain ⟨g_2, h⟩ := kf_gd h
  refine wa_sald k_v0 g_2 E d_L_law_683 ?_
  refine wa_aload_n 0 rfl E d_L_law_684 ?_
  refine wa_iload_n 3 rfl E d_L_law_685 ?_
  refine wa_iconst 3 ic_3 E d_L_law_686 ?_
  refine wa_iadd E d_L_law_687 ?_
  obtain ⟨g_3, h⟩ := kf_gd h
  refine wa_sald k_v0 g_3 E d_L_law_688 ?_
  obtain ⟨q_4, hq_4, h⟩ := kf_bd h
  refine wa_callV (st2 := [.int q_4.1]) (c_X11_lifts hty v1 (xs (Int32.toNatClampNeg (v3 + 1))) (xs (Int32.toNatClampNeg (v3 + 2))) (xs (Int32.toNatClampNeg (v3 + 3))) k_v1 σ hq_4) mv_X11_lifts ml_L_82 k_v1 rfl (Nat.le_of_ble_eq_true rfl) rfl (Nat.le_of_ble_eq_true rfl) E d_L_law_689 rfl ?_
  refine wa_aload_n 2 rfl E d_L_law_692 ?_
  refine wa_aload_n 0 rfl E d_L_law_693 ?_
  refine wa_iload_n 3 rfl E d_L_law_694 ?_
  refine wa_iconst 1 ic_1 E d_L_law_695 ?_
  refine wa_iadd E d_L_law_696 ?_
  obtain ⟨g_5, h⟩ := kf_gd h
  refine wa_sald k_v0 g_5 E d_L_law_697 ?_
  refine wa_aload_n 0 rfl E d_L_law_698 ?_
  refine wa_iload_n 3 rfl E d_L_law_699 ?_
  refine wa_iconst 2 ic_2 E d_L_law_700 ?_
  refine wa_iadd E d_L_law_701 ?_
  obtain ⟨g_6, h⟩ := kf_gd h
  refine wa_sald k_v0 g_6 E d_L_law_702 ?_
  refine wa_aload_n 0 rfl E d_L_law_703 ?_
  refine wa_iload_n 3 rfl E d_L_law_704 ?_
  refine wa_iconst 3 ic_3 E d_L_law_705 ?_
  refine wa_iadd E d_L_law_706 ?_
  obtain ⟨g_7, h⟩ := kf_gd h
  refine wa_sald k_v0 g_7 E d_L_law_707 ?_
  obtain ⟨q_8, hq_8, h⟩ := kf_bd h
  refine wa_callV (st2 := [.int q_8.1, .int q_4.1]) (c_X12_lifts hty v2 (xs (Int32.toNatClampNeg (v3 + 1))) (xs (Int32.toNatClampNeg (v3 + 2))) (xs (Int32.toNatClampNeg (v3 + 3))) k_v2 q_4.2 hq_8) mv_X12_lifts ml_L_85 k_v2 rfl (Nat.le_of_ble_eq_true rfl) rfl (Nat.le_of_ble_eq_true rfl) E d_L_law_708 rfl ?_
  refine wa_icmp_eq E d_L_law_711 (fun c_9 => ?_) (fun c_9 => ?_)
  · replace h := kf_ift c_9 h
    exact b_L_law_1471 E hty hend hq1 hrec18 v0 v1 v2 v3 k_v0 k_v1 k_v2 q_8.2 h
  · replace h := kf_iff c_9 h
    refine wa_iconst 0 ic_0 E d_L_law_714 ?_
    cases h
    exact absurd (show (0 : Int32) = 1 from hq1) (by decide)
def f_L_law_716 (L : Nat) (xs : Nat → Int32) (rec18 : Nat → Nat → Nat → Int32 → kf_St → Option (Int32 × kf_St)) (v0 : Nat) (v1 : Nat) (v2 : Nat) (v3 : Int32) (σ : kf_St) : Option (Int32 × kf_St) :=
  if kf_ix (v3 + 1) L = true then
  if kf_ix (v3 + 2) L = true then
  if kf_ix (v3 + 3) L = true then
  (f_X11_towards v1 (xs (Int32.toNatClampNeg (v3 + 1))) (xs (Int32.toNatClampNeg (v3 + 2))) (xs (Int32.toNatClampNeg (v3 + 3))) σ).bind fun q_4 =>
  if kf_ix (v3 + 1) L = true then
  if kf_ix (v3 + 2) L = true then
  if kf_ix (v3 + 3) L = true then
  (f_X12_towards v2 (xs (Int32.toNatClampNeg (v3 + 1))) (xs (Int32.toNatClampNeg (v3 + 2))) (xs (Int32.toNatClampNeg (v3 + 3))) q_4.2).bind fun q_8 =>
  if q_4.1 = q_8.1 then
    f_L_law_1471 L xs rec18 v0 v1 v2 v3 q_8.2
  else
    some (0, q_8.2)
  else none
  else none
  else none
  else none
  else none
  else none
set_option maxRecDepth 100000 in
set_option maxHeartbeats 4000000 in
theorem b_L_law_716 {X : kf_X} {G : kf_G} {Q : State → Prop} {L : Nat} {xs : Nat → Int32} {rec18 : Nat → Nat → Nat → Int32 → kf_St → Option (Int32 × kf_St)} {q : (Int32 × kf_St)} (E : kf_ok X G cL_law RL 4 (some .boolean) (42)) (hty : kf_wt G) (hend : ∀ {pc pc1 : Nat} (_ : kf_dq cL_law pc pc1 1 .ireturn) (lv : List (Nat × Value)) (σ : kf_St), kf_WA X G 4 Q pc lv [.int 1] σ) (hq1 : q.1 = 1) (hrec18 : ∀ (v0 : Nat) (v1 : Nat) (v2 : Nat) (v3 : Int32) (k_v0 : kf_scr X G v0 L xs) (k_v1 : kf_kd G v1 = 12) (k_v2 : kf_kd G v2 = 13) (σ : kf_St), rec18 v0 v1 v2 v3 σ = some q → kf_WA X G 4 Q 18 [(0, .ref v0), (1, .ref (kf_ad G v1)), (2, .ref (kf_ad G v2)), (3, .int v3)] [] σ) (v0 : Nat) (v1 : Nat) (v2 : Nat) (v3 : Int32) (k_v0 : kf_scr X G v0 L xs) (k_v1 : kf_kd G v1 = 12) (k_v2 : kf_kd G v2 = 13) (σ : kf_St) (h : f_L_law_716 L xs rec18 v0 v1 v2 v3 σ = some q) : kf_WA X G 4 Q 716 [(0, .ref v0), (1, .ref (kf_ad G v1)), (2, .ref (kf_ad G v2)), (3, .int v3)] [] σ := by
  unfold f_L_law_716 at h
  refine wa_aload_n 1 rfl E d_L_law_716 ?_
  refine wa_aload_n 0 rfl E d_L_law_717 ?_
  refine wa_iload_n 3 rfl E d_L_law_718 ?_
  refine wa_iconst 1 ic_1 E d_L_law_719 ?_
  refine wa_iadd E d_L_law_720 ?_
  obtain ⟨g_1, h⟩ := kf_gd h
  refine wa_sald k_v0 g_1 E d_L_law_721 ?_
  refine wa_aload_n 0 rfl E d_L_law_722 ?_
  refine wa_iload_n 3 rfl E d_L_law_723 ?_
  refine wa_iconst 2 ic_2 E d_L_law_724 ?_
  refine wa_iadd E d_L_law_725 ?_
  obtain ⟨g_2, h⟩ := kf_gd h
  refine wa_sald k_v0 g_2 E d_L_law_726 ?_
  refine wa_aload_n 0 rfl E d_L_law_727 ?_
  refine wa_iload_n 3 rfl E d_L_law_728 ?_
  refine wa_iconst 3 ic_3 E d_L_law_729 ?_
  refine wa_iadd E d_L_law_730 ?_
  obtain ⟨g_3, h⟩ := kf_gd h
  refine wa_sald k_v0 g_3 E d_L_law_731 ?_
  obtain ⟨q_4, hq_4, h⟩ := kf_bd h
  refine wa_callV (st2 := [.int q_4.1]) (c_X11_towards hty v1 (xs (Int32.toNatClampNeg (v3 + 1))) (xs (Int32.toNatClampNeg (v3 + 2))) (xs (Int32.toNatClampNeg (v3 + 3))) k_v1 σ hq_4) mv_X11_towards ml_L_86 k_v1 rfl (Nat.le_of_ble_eq_true rfl) rfl (Nat.le_of_ble_eq_true rfl) E d_L_law_732 rfl ?_
  refine wa_aload_n 2 rfl E d_L_law_735 ?_
  refine wa_aload_n 0 rfl E d_L_law_736 ?_
  refine wa_iload_n 3 rfl E d_L_law_737 ?_
  refine wa_iconst 1 ic_1 E d_L_law_738 ?_
  refine wa_iadd E d_L_law_739 ?_
  obtain ⟨g_5, h⟩ := kf_gd h
  refine wa_sald k_v0 g_5 E d_L_law_740 ?_
  refine wa_aload_n 0 rfl E d_L_law_741 ?_
  refine wa_iload_n 3 rfl E d_L_law_742 ?_
  refine wa_iconst 2 ic_2 E d_L_law_743 ?_
  refine wa_iadd E d_L_law_744 ?_
  obtain ⟨g_6, h⟩ := kf_gd h
  refine wa_sald k_v0 g_6 E d_L_law_745 ?_
  refine wa_aload_n 0 rfl E d_L_law_746 ?_
  refine wa_iload_n 3 rfl E d_L_law_747 ?_
  refine wa_iconst 3 ic_3 E d_L_law_748 ?_
  refine wa_iadd E d_L_law_749 ?_
  obtain ⟨g_7, h⟩ := kf_gd h
  refine wa_sald k_v0 g_7 E d_L_law_750 ?_
  obtain ⟨q_8, hq_8, h⟩ := kf_bd h
  refine wa_callV (st2 := [.int q_8.1, .int q_4.1]) (c_X12_towards hty v2 (xs (Int32.toNatClampNeg (v3 + 1))) (xs (Int32.toNatClampNeg (v3 + 2))) (xs (Int32.toNatClampNeg (v3 + 3))) k_v2 q_4.2 hq_8) mv_X12_towards ml_L_89 k_v2 rfl (Nat.le_of_ble_eq_true rfl) rfl (Nat.le_of_ble_eq_true rfl) E d_L_law_751 rfl ?_
  refine wa_icmp_eq E d_L_law_754 (fun c_9 => ?_) (fun c_9 => ?_)
  · replace h := kf_ift c_9 h
    exact b_L_law_1471 E hty hend hq1 hrec18 v0 v1 v2 v3 k_v0 k_v1 k_v2 q_8.2 h
  · replace h := kf_iff c_9 h
    refine wa_iconst 0 ic_0 E d_L_law_757 ?_
    cases h
    exact absurd (show (0 : Int32) = 1 from hq1) (by decide)
def f_L_law_759 (L : Nat) (xs : Nat → Int32) (rec18 : Nat → Nat → Nat → Int32 → kf_St → Option (Int32 × kf_St)) (v0 : Nat) (v1 : Nat) (v2 : Nat) (v3 : Int32) (σ : kf_St) : Option (Int32 × kf_St) :=
  if kf_ix (v3 + 1) L = true then
  if kf_ix (v3 + 2) L = true then
  (f_X11_without v1 (xs (Int32.toNatClampNeg (v3 + 1))) (xs (Int32.toNatClampNeg (v3 + 2))) σ).bind fun q_3 =>
  if kf_ix (v3 + 1) L = true then
  if kf_ix (v3 + 2) L = true then
  (f_X12_without v2 (xs (Int32.toNatClampNeg (v3 + 1))) (xs (Int32.toNatClampNeg (v3 + 2))) q_3.2).bind fun q_6 =>
  if q_3.1 = q_6.1 then
    f_L_law_1471 L xs rec18 v0 v1 v2 v3 q_6.2
  else
    some (0, q_6.2)
  else none
  else none
  else none
  else none
set_option maxRecDepth 100000 in
set_option maxHeartbeats 4000000 in
theorem b_L_law_759 {X : kf_X} {G : kf_G} {Q : State → Prop} {L : Nat} {xs : Nat → Int32} {rec18 : Nat → Nat → Nat → Int32 → kf_St → Option (Int32 × kf_St)} {q : (Int32 × kf_St)} (E : kf_ok X G cL_law RL 4 (some .boolean) (42)) (hty : kf_wt G) (hend : ∀ {pc pc1 : Nat} (_ : kf_dq cL_law pc pc1 1 .ireturn) (lv : List (Nat × Value)) (σ : kf_St), kf_WA X G 4 Q pc lv [.int 1] σ) (hq1 : q.1 = 1) (hrec18 : ∀ (v0 : Nat) (v1 : Nat) (v2 : Nat) (v3 : Int32) (k_v0 : kf_scr X G v0 L xs) (k_v1 : kf_kd G v1 = 12) (k_v2 : kf_kd G v2 = 13) (σ : kf_St), rec18 v0 v1 v2 v3 σ = some q → kf_WA X G 4 Q 18 [(0, .ref v0), (1, .ref (kf_ad G v1)), (2, .ref (kf_ad G v2)), (3, .int v3)] [] σ) (v0 : Nat) (v1 : Nat) (v2 : Nat) (v3 : Int32) (k_v0 : kf_scr X G v0 L xs) (k_v1 : kf_kd G v1 = 12) (k_v2 : kf_kd G v2 = 13) (σ : kf_St) (h : f_L_law_759 L xs rec18 v0 v1 v2 v3 σ = some q) : kf_WA X G 4 Q 759 [(0, .ref v0), (1, .ref (kf_ad G v1)), (2, .ref (kf_ad G v2)), (3, .int v3)] [] σ := by
  unfold f_L_law_759 at h
  refine wa_aload_n 1 rfl E d_L_law_759 ?_
  refine wa_aload_n 0 rfl E d_L_law_760 ?_
  refine wa_iload_n 3 rfl E d_L_law_761 ?_
  refine wa_iconst 1 ic_1 E d_L_law_762 ?_
  refine wa_iadd E d_L_law_763 ?_
  obtain ⟨g_1, h⟩ := kf_gd h
  refine wa_sald k_v0 g_1 E d_L_law_764 ?_
  refine wa_aload_n 0 rfl E d_L_law_765 ?_
  refine wa_iload_n 3 rfl E d_L_law_766 ?_
  refine wa_iconst 2 ic_2 E d_L_law_767 ?_
  refine wa_iadd E d_L_law_768 ?_
  obtain ⟨g_2, h⟩ := kf_gd h
  refine wa_sald k_v0 g_2 E d_L_law_769 ?_
  obtain ⟨q_3, hq_3, h⟩ := kf_bd h
  refine wa_callV (st2 := [.int q_3.1]) (c_X11_without hty v1 (xs (Int32.toNatClampNeg (v3 + 1))) (xs (Int32.toNatClampNeg (v3 + 2))) k_v1 σ hq_3) mv_X11_without ml_L_90 k_v1 rfl (Nat.le_of_ble_eq_true rfl) rfl (Nat.le_of_ble_eq_true rfl) E d_L_law_770 rfl ?_
  refine wa_aload_n 2 rfl E d_L_law_773 ?_
  refine wa_aload_n 0 rfl E d_L_law_774 ?_
  refine wa_iload_n 3 rfl E d_L_law_775 ?_
  refine wa_iconst 1 ic_1 E d_L_law_776 ?_
  refine wa_iadd E d_L_law_777 ?_
  obtain ⟨g_4, h⟩ := kf_gd h
  refine wa_sald k_v0 g_4 E d_L_law_778 ?_
  refine wa_aload_n 0 rfl E d_L_law_779 ?_
  refine wa_iload_n 3 rfl E d_L_law_780 ?_
  refine wa_iconst 2 ic_2 E d_L_law_781 ?_
  refine wa_iadd E d_L_law_782 ?_
  obtain ⟨g_5, h⟩ := kf_gd h
  refine wa_sald k_v0 g_5 E d_L_law_783 ?_
  obtain ⟨q_6, hq_6, h⟩ := kf_bd h
  refine wa_callV (st2 := [.int q_6.1, .int q_3.1]) (c_X12_without hty v2 (xs (Int32.toNatClampNeg (v3 + 1))) (xs (Int32.toNatClampNeg (v3 + 2))) k_v2 q_3.2 hq_6) mv_X12_without ml_L_93 k_v2 rfl (Nat.le_of_ble_eq_true rfl) rfl (Nat.le_of_ble_eq_true rfl) E d_L_law_784 rfl ?_
  refine wa_icmp_eq E d_L_law_787 (fun c_7 => ?_) (fun c_7 => ?_)
  · replace h := kf_ift c_7 h
    exact b_L_law_1471 E hty hend hq1 hrec18 v0 v1 v2 v3 k_v0 k_v1 k_v2 q_6.2 h
  · replace h := kf_iff c_7 h
    refine wa_iconst 0 ic_0 E d_L_law_790 ?_
    cases h
    exact absurd (show (0 : Int32) = 1 from hq1) (by decide)
def f_L_law_792 (L : Nat) (xs : Nat → Int32) (rec18 : Nat → Nat → Nat → Int32 → kf_St → Option (Int32 × kf_St)) (v0 : Nat) (v1 : Nat) (v2 : Nat) (v3 : Int32) (σ : kf_St) : Option (Int32 × kf_St) :=
  if kf_ix (v3 + 1) L = true then
  (f_X11_twins v1 (xs (Int32.toNatClampNeg (v3 + 1))) σ).bind fun q_2 =>
  if kf_ix (v3 + 1) L = true then
  (f_X12_twins v2 (xs (Int32.toNatClampNeg (v3 + 1))) q_2.2).bind fun q_4 =>
  if q_2.1 = q_4.1 then
    f_L_law_1471 L xs rec18 v0 v1 v2 v3 q_4.2
  else
    some (0, q_4.2)
  else none
  else none
set_option maxRecDepth 100000 in
set_option maxHeartbeats 4000000 in
theorem b_L_law_792 {X : kf_X} {G : kf_G} {Q : State → Prop} {L : Nat} {xs : Nat → Int32} {rec18 : Nat → Nat → Nat → Int32 → kf_St → Option (Int32 × kf_St)} {q : (Int32 × kf_St)} (E : kf_ok X G cL_law RL 4 (some .boolean) (42)) (hty : kf_wt G) (hend : ∀ {pc pc1 : Nat} (_ : kf_dq cL_law pc pc1 1 .ireturn) (lv : List (Nat × Value)) (σ : kf_St), kf_WA X G 4 Q pc lv [.int 1] σ) (hq1 : q.1 = 1) (hrec18 : ∀ (v0 : Nat) (v1 : Nat) (v2 : Nat) (v3 : Int32) (k_v0 : kf_scr X G v0 L xs) (k_v1 : kf_kd G v1 = 12) (k_v2 : kf_kd G v2 = 13) (σ : kf_St), rec18 v0 v1 v2 v3 σ = some q → kf_WA X G 4 Q 18 [(0, .ref v0), (1, .ref (kf_ad G v1)), (2, .ref (kf_ad G v2)), (3, .int v3)] [] σ) (v0 : Nat) (v1 : Nat) (v2 : Nat) (v3 : Int32) (k_v0 : kf_scr X G v0 L xs) (k_v1 : kf_kd G v1 = 12) (k_v2 : kf_kd G v2 = 13) (σ : kf_St) (h : f_L_law_792 L xs rec18 v0 v1 v2 v3 σ = some q) : kf_WA X G 4 Q 792 [(0, .ref v0), (1, .ref (kf_ad G v1)), (2, .ref (kf_ad G v2)), (3, .int v3)] [] σ := by
  unfold f_L_law_792 at h
  refine wa_aload_n 1 rfl E d_L_law_792 ?_
  refine wa_aload_n 0 rfl E d_L_law_793 ?_
  refine wa_iload_n 3 rfl E d_L_law_794 ?_
  refine wa_iconst 1 ic_1 E d_L_law_795 ?_
  refine wa_iadd E d_L_law_796 ?_
  obtain ⟨g_1, h⟩ := kf_gd h
  refine wa_sald k_v0 g_1 E d_L_law_797 ?_
  obtain ⟨q_2, hq_2, h⟩ := kf_bd h
  refine wa_callV (st2 := [.int q_2.1]) (c_X11_twins hty v1 (xs (Int32.toNatClampNeg (v3 + 1))) k_v1 σ hq_2) mv_X11_twins ml_L_94 k_v1 rfl (Nat.le_of_ble_eq_true rfl) rfl (Nat.le_of_ble_eq_true rfl) E d_L_law_798 rfl ?_
  refine wa_aload_n 2 rfl E d_L_law_801 ?_
  refine wa_aload_n 0 rfl E d_L_law_802 ?_
  refine wa_iload_n 3 rfl E d_L_law_803 ?_
  refine wa_iconst 1 ic_1 E d_L_law_804 ?_
  refine wa_iadd E d_L_law_805 ?_
  obtain ⟨g_3, h⟩ := kf_gd h
  refine wa_sald k_v0 g_3 E d_L_law_806 ?_
  obtain ⟨q_4, hq_4, h⟩ := kf_bd h
  refine wa_callV (st2 := [.int q_4.1, .int q_2.1]) (c_X12_twins hty v2 (xs (Int32.toNatClampNeg (v3 + 1))) k_v2 q_2.2 hq_4) mv_X12_twins ml_L_97 k_v2 rfl (Nat.le_of_ble_eq_true rfl) rfl (Nat.le_of_ble_eq_true rfl) E d_L_law_807 rfl ?_
  refine wa_icmp_eq E d_L_law_810 (fun c_5 => ?_) (fun c_5 => ?_)
  · replace h := kf_ift c_5 h
    exact b_L_law_1471 E hty hend hq1 hrec18 v0 v1 v2 v3 k_v0 k_v1 k_v2 q_4.2 h
  · replace h := kf_iff c_5 h
    refine wa_iconst 0 ic_0 E d_L_law_813 ?_
    cases h
    exact absurd (show (0 : Int32) = 1 from hq1) (by decide)
def f_L_law_815 (L : Nat) (xs : Nat → Int32) (rec18 : Nat → Nat → Nat → Int32 → kf_St → Option (Int32 × kf_St)) (v0 : Nat) (v1 : Nat) (v2 : Nat) (v3 : Int32) (σ : kf_St) : Option (Int32 × kf_St) :=
  if kf_ix (v3 + 1) L = true then
  (f_X11_paired v1 (xs (Int32.toNatClampNeg (v3 + 1))) σ).bind fun q_2 =>
  if kf_ix (v3 + 1) L = true then
  (f_X12_paired v2 (xs (Int32.toNatClampNeg (v3 + 1))) q_2.2).bind fun q_4 =>
  if q_2.1 = q_4.1 then
    f_L_law_1471 L xs rec18 v0 v1 v2 v3 q_4.2
  else
    some (0, q_4.2)
  else none
  else none
set_option maxRecDepth 100000 in
set_option maxHeartbeats 4000000 in
theorem b_L_law_815 {X : kf_X} {G : kf_G} {Q : State → Prop} {L : Nat} {xs : Nat → Int32} {rec18 : Nat → Nat → Nat → Int32 → kf_St → Option (Int32 × kf_St)} {q : (Int32 × kf_St)} (E : kf_ok X G cL_law RL 4 (some .boolean) (42)) (hty : kf_wt G) (hend : ∀ {pc pc1 : Nat} (_ : kf_dq cL_law pc pc1 1 .ireturn) (lv : List (Nat × Value)) (σ : kf_St), kf_WA X G 4 Q pc lv [.int 1] σ) (hq1 : q.1 = 1) (hrec18 : ∀ (v0 : Nat) (v1 : Nat) (v2 : Nat) (v3 : Int32) (k_v0 : kf_scr X G v0 L xs) (k_v1 : kf_kd G v1 = 12) (k_v2 : kf_kd G v2 = 13) (σ : kf_St), rec18 v0 v1 v2 v3 σ = some q → kf_WA X G 4 Q 18 [(0, .ref v0), (1, .ref (kf_ad G v1)), (2, .ref (kf_ad G v2)), (3, .int v3)] [] σ) (v0 : Nat) (v1 : Nat) (v2 : Nat) (v3 : Int32) (k_v0 : kf_scr X G v0 L xs) (k_v1 : kf_kd G v1 = 12) (k_v2 : kf_kd G v2 = 13) (σ : kf_St) (h : f_L_law_815 L xs rec18 v0 v1 v2 v3 σ = some q) : kf_WA X G 4 Q 815 [(0, .ref v0), (1, .ref (kf_ad G v1)), (2, .ref (kf_ad G v2)), (3, .int v3)] [] σ := by
  unfold f_L_law_815 at h
  refine wa_aload_n 1 rfl E d_L_law_815 ?_
  refine wa_aload_n 0 rfl E d_L_law_816 ?_
  refine wa_iload_n 3 rfl E d_L_law_817 ?_
  refine wa_iconst 1 ic_1 E d_L_law_818 ?_
  refine wa_iadd E d_L_law_819 ?_
  obtain ⟨g_1, h⟩ := kf_gd h
  refine wa_sald k_v0 g_1 E d_L_law_820 ?_
  obtain ⟨q_2, hq_2, h⟩ := kf_bd h
  refine wa_callV (st2 := [.int q_2.1]) (c_X11_paired hty v1 (xs (Int32.toNatClampNeg (v3 + 1))) k_v1 σ hq_2) mv_X11_paired ml_L_98 k_v1 rfl (Nat.le_of_ble_eq_true rfl) rfl (Nat.le_of_ble_eq_true rfl) E d_L_law_821 rfl ?_
  refine wa_aload_n 2 rfl E d_L_law_824 ?_
  refine wa_aload_n 0 rfl E d_L_law_825 ?_
  refine wa_iload_n 3 rfl E d_L_law_826 ?_
  refine wa_iconst 1 ic_1 E d_L_law_827 ?_
  refine wa_iadd E d_L_law_828 ?_
  obtain ⟨g_3, h⟩ := kf_gd h
  refine wa_sald k_v0 g_3 E d_L_law_829 ?_
  obtain ⟨q_4, hq_4, h⟩ := kf_bd h
  refine wa_callV (st2 := [.int q_4.1, .int q_2.1]) (c_X12_paired hty v2 (xs (Int32.toNatClampNeg (v3 + 1))) k_v2 q_2.2 hq_4) mv_X12_paired ml_L_101 k_v2 rfl (Nat.le_of_ble_eq_true rfl) rfl (Nat.le_of_ble_eq_true rfl) E d_L_law_830 rfl ?_
  refine wa_icmp_eq E d_L_law_833 (fun c_5 => ?_) (fun c_5 => ?_)
  · replace h := kf_ift c_5 h
    exact b_L_law_1471 E hty hend hq1 hrec18 v0 v1 v2 v3 k_v0 k_v1 k_v2 q_4.2 h
  · replace h := kf_iff c_5 h
    refine wa_iconst 0 ic_0 E d_L_law_836 ?_
    cases h
    exact absurd (show (0 : Int32) = 1 from hq1) (by decide)
def f_L_law_838 (L : Nat) (xs : Nat → Int32) (rec18 : Nat → Nat → Nat → Int32 → kf_St → Option (Int32 × kf_St)) (v0 : Nat) (v1 : Nat) (v2 : Nat) (v3 : Int32) (σ : kf_St) : Option (Int32 × kf_St) :=
  if kf_ix (v3 + 1) L = true then
  (f_X11_changes v1 (xs (Int32.toNatClampNeg (v3 + 1))) σ).bind fun q_2 =>
  if kf_ix (v3 + 1) L = true then
  (f_X12_changes v2 (xs (Int32.toNatClampNeg (v3 + 1))) q_2.2).bind fun q_4 =>
  if q_2.1 = q_4.1 then
    f_L_law_1471 L xs rec18 v0 v1 v2 v3 q_4.2
  else
    some (0, q_4.2)
  else none
  else none
set_option maxRecDepth 100000 in
set_option maxHeartbeats 4000000 in
theorem b_L_law_838 {X : kf_X} {G : kf_G} {Q : State → Prop} {L : Nat} {xs : Nat → Int32} {rec18 : Nat → Nat → Nat → Int32 → kf_St → Option (Int32 × kf_St)} {q : (Int32 × kf_St)} (E : kf_ok X G cL_law RL 4 (some .boolean) (42)) (hty : kf_wt G) (hend : ∀ {pc pc1 : Nat} (_ : kf_dq cL_law pc pc1 1 .ireturn) (lv : List (Nat × Value)) (σ : kf_St), kf_WA X G 4 Q pc lv [.int 1] σ) (hq1 : q.1 = 1) (hrec18 : ∀ (v0 : Nat) (v1 : Nat) (v2 : Nat) (v3 : Int32) (k_v0 : kf_scr X G v0 L xs) (k_v1 : kf_kd G v1 = 12) (k_v2 : kf_kd G v2 = 13) (σ : kf_St), rec18 v0 v1 v2 v3 σ = some q → kf_WA X G 4 Q 18 [(0, .ref v0), (1, .ref (kf_ad G v1)), (2, .ref (kf_ad G v2)), (3, .int v3)] [] σ) (v0 : Nat) (v1 : Nat) (v2 : Nat) (v3 : Int32) (k_v0 : kf_scr X G v0 L xs) (k_v1 : kf_kd G v1 = 12) (k_v2 : kf_kd G v2 = 13) (σ : kf_St) (h : f_L_law_838 L xs rec18 v0 v1 v2 v3 σ = some q) : kf_WA X G 4 Q 838 [(0, .ref v0), (1, .ref (kf_ad G v1)), (2, .ref (kf_ad G v2)), (3, .int v3)] [] σ := by
  unfold f_L_law_838 at h
  refine wa_aload_n 1 rfl E d_L_law_838 ?_
  refine wa_aload_n 0 rfl E d_L_law_839 ?_
  refine wa_iload_n 3 rfl E d_L_law_840 ?_
  refine wa_iconst 1 ic_1 E d_L_law_841 ?_
  refine wa_iadd E d_L_law_842 ?_
  obtain ⟨g_1, h⟩ := kf_gd h
  refine wa_sald k_v0 g_1 E d_L_law_843 ?_
  obtain ⟨q_2, hq_2, h⟩ := kf_bd h
  refine wa_callV (st2 := [.int q_2.1]) (c_X11_changes hty v1 (xs (Int32.toNatClampNeg (v3 + 1))) k_v1 σ hq_2) mv_X11_changes ml_L_102 k_v1 rfl (Nat.le_of_ble_eq_true rfl) rfl (Nat.le_of_ble_eq_true rfl) E d_L_law_844 rfl ?_
  refine wa_aload_n 2 rfl E d_L_law_847 ?_
  refine wa_aload_n 0 rfl E d_L_law_848 ?_
  refine wa_iload_n 3 rfl E d_L_law_849 ?_
  refine wa_iconst 1 ic_1 E d_L_law_850 ?_
  refine wa_iadd E d_L_law_851 ?_
  obtain ⟨g_3, h⟩ := kf_gd h
  refine wa_sald k_v0 g_3 E d_L_law_852 ?_
  obtain ⟨q_4, hq_4, h⟩ := kf_bd h
  refine wa_callV (st2 := [.int q_4.1, .int q_2.1]) (c_X12_changes hty v2 (xs (Int32.toNatClampNeg (v3 + 1))) k_v2 q_2.2 hq_4) mv_X12_changes ml_L_105 k_v2 rfl (Nat.le_of_ble_eq_true rfl) rfl (Nat.le_of_ble_eq_true rfl) E d_L_law_853 rfl ?_
  refine wa_icmp_eq E d_L_law_856 (fun c_5 => ?_) (fun c_5 => ?_)
  · replace h := kf_ift c_5 h
    exact b_L_law_1471 E hty hend hq1 hrec18 v0 v1 v2 v3 k_v0 k_v1 k_v2 q_4.2 h
  · replace h := kf_iff c_5 h
    refine wa_iconst 0 ic_0 E d_L_law_859 ?_
    cases h
    exact absurd (show (0 : Int32) = 1 from hq1) (by decide)
def f_L_law_861 (L : Nat) (xs : Nat → Int32) (rec18 : Nat → Nat → Nat → Int32 → kf_St → Option (Int32 × kf_St)) (v0 : Nat) (v1 : Nat) (v2 : Nat) (v3 : Int32) (σ : kf_St) : Option (Int32 × kf_St) :=
  if kf_ix (v3 + 1) L = true then
  (f_X11_rubs v1 (xs (Int32.toNatClampNeg (v3 + 1))) σ).bind fun q_2 =>
  if kf_ix (v3 + 1) L = true then
  (f_X12_rubs v2 (xs (Int32.toNatClampNeg (v3 + 1))) q_2.2).bind fun q_4 =>
  if q_2.1 = q_4.1 then
    f_L_law_1471 L xs rec18 v0 v1 v2 v3 q_4.2
  else
    some (0, q_4.2)
  else none
  else none
set_option maxRecDepth 100000 in
set_option maxHeartbeats 4000000 in
theorem b_L_law_861 {X : kf_X} {G : kf_G} {Q : State → Prop} {L : Nat} {xs : Nat → Int32} {rec18 : Nat → Nat → Nat → Int32 → kf_St → Option (Int32 × kf_St)} {q : (Int32 × kf_St)} (E : kf_ok X G cL_law RL 4 (some .boolean) (42)) (hty : kf_wt G) (hend : ∀ {pc pc1 : Nat} (_ : kf_dq cL_law pc pc1 1 .ireturn) (lv : List (Nat × Value)) (σ : kf_St), kf_WA X G 4 Q pc lv [.int 1] σ) (hq1 : q.1 = 1) (hrec18 : ∀ (v0 : Nat) (v1 : Nat) (v2 : Nat) (v3 : Int32) (k_v0 : kf_scr X G v0 L xs) (k_v1 : kf_kd G v1 = 12) (k_v2 : kf_kd G v2 = 13) (σ : kf_St), rec18 v0 v1 v2 v3 σ = some q → kf_WA X G 4 Q 18 [(0, .ref v0), (1, .ref (kf_ad G v1)), (2, .ref (kf_ad G v2)), (3, .int v3)] [] σ) (v0 : Nat) (v1 : Nat) (v2 : Nat) (v3 : Int32) (k_v0 : kf_scr X G v0 L xs) (k_v1 : kf_kd G v1 = 12) (k_v2 : kf_kd G v2 = 13) (σ : kf_St) (h : f_L_law_861 L xs rec18 v0 v1 v2 v3 σ = some q) : kf_WA X G 4 Q 861 [(0, .ref v0), (1, .ref (kf_ad G v1)), (2, .ref (kf_ad G v2)), (3, .int v3)] [] σ := by
  unfold f_L_law_861 at h
  refine wa_aload_n 1 rfl E d_L_law_861 ?_
  refine wa_aload_n 0 rfl E d_L_law_862 ?_
  refine wa_iload_n 3 rfl E d_L_law_863 ?_
  refine wa_iconst 1 ic_1 E d_L_law_864 ?_
  refine wa_iadd E d_L_law_865 ?_
  obtain ⟨g_1, h⟩ := kf_gd h
  refine wa_sald k_v0 g_1 E d_L_law_866 ?_
  obtain ⟨q_2, hq_2, h⟩ := kf_bd h
  refine wa_callV (st2 := [.int q_2.1]) (c_X11_rubs hty v1 (xs (Int32.toNatClampNeg (v3 + 1))) k_v1 σ hq_2) mv_X11_rubs ml_L_106 k_v1 rfl (Nat.le_of_ble_eq_true rfl) rfl (Nat.le_of_ble_eq_true rfl) E d_L_law_867 rfl ?_
  refine wa_aload_n 2 rfl E d_L_law_870 ?_
  refine wa_aload_n 0 rfl E d_L_law_871 ?_
  refine wa_iload_n 3 rfl E d_L_law_872 ?_
  refine wa_iconst 1 ic_1 E d_L_law_873 ?_
  refine wa_iadd E d_L_law_874 ?_
  obtain ⟨g_3, h⟩ := kf_gd h
  refine wa_sald k_v0 g_3 E d_L_law_875 ?_
  obtain ⟨q_4, hq_4, h⟩ := kf_bd h
  refine wa_callV (st2 := [.int q_4.1, .int q_2.1]) (c_X12_rubs hty v2 (xs (Int32.toNatClampNeg (v3 + 1))) k_v2 q_2.2 hq_4) mv_X12_rubs ml_L_109 k_v2 rfl (Nat.le_of_ble_eq_true rfl) rfl (Nat.le_of_ble_eq_true rfl) E d_L_law_876 rfl ?_
  refine wa_icmp_eq E d_L_law_879 (fun c_5 => ?_) (fun c_5 => ?_)
  · replace h := kf_ift c_5 h
    exact b_L_law_1471 E hty hend hq1 hrec18 v0 v1 v2 v3 k_v0 k_v1 k_v2 q_4.2 h
  · replace h := kf_iff c_5 h
    refine wa_iconst 0 ic_0 E d_L_law_882 ?_
    cases h
    exact absurd (show (0 : Int32) = 1 from hq1) (by decide)
def f_L_law_884 (L : Nat) (xs : Nat → Int32) (rec18 : Nat → Nat → Nat → Int32 → kf_St → Option (Int32 × kf_St)) (v0 : Nat) (v1 : Nat) (v2 : Nat) (v3 : Int32) (σ : kf_St) : Option (Int32 × kf_St) :=
  if kf_ix (v3 + 1) L = true then
  if kf_ix (v3 + 2) L = true then
  (f_X11_when v1 (xs (Int32.toNatClampNeg (v3 + 1))) (xs (Int32.toNatClampNeg (v3 + 2))) σ).bind fun q_3 =>
  if kf_ix (v3 + 1) L = true then
  if kf_ix (v3 + 2) L = true then
  (f_X12_when v2 (xs (Int32.toNatClampNeg (v3 + 1))) (xs (Int32.toNatClampNeg (v3 + 2))) q_3.2).bind fun q_6 =>
  if q_3.1 = q_6.1 then
    f_L_law_1471 L xs rec18 v0 v1 v2 v3 q_6.2
  else
    some (0, q_6.2)
  else none
  else none
  else none
  else none
set_option maxRecDepth 100000 in
set_option maxHeartbeats 4000000 in
theorem b_L_law_884 {X : kf_X} {G : kf_G} {Q : State → Prop} {L : Nat} {xs : Nat → Int32} {rec18 : Nat → Nat → Nat → Int32 → kf_St → Option (Int32 × kf_St)} {q : (Int32 × kf_St)} (E : kf_ok X G cL_law RL 4 (some .boolean) (42)) (hty : kf_wt G) (hend : ∀ {pc pc1 : Nat} (_ : kf_dq cL_law pc pc1 1 .ireturn) (lv : List (Nat × Value)) (σ : kf_St), kf_WA X G 4 Q pc lv [.int 1] σ) (hq1 : q.1 = 1) (hrec18 : ∀ (v0 : Nat) (v1 : Nat) (v2 : Nat) (v3 : Int32) (k_v0 : kf_scr X G v0 L xs) (k_v1 : kf_kd G v1 = 12) (k_v2 : kf_kd G v2 = 13) (σ : kf_St), rec18 v0 v1 v2 v3 σ = some q → kf_WA X G 4 Q 18 [(0, .ref v0), (1, .ref (kf_ad G v1)), (2, .ref (kf_ad G v2)), (3, .int v3)] [] σ) (v0 : Nat) (v1 : Nat) (v2 : Nat) (v3 : Int32) (k_v0 : kf_scr X G v0 L xs) (k_v1 : kf_kd G v1 = 12) (k_v2 : kf_kd G v2 = 13) (σ : kf_St) (h : f_L_law_884 L xs rec18 v0 v1 v2 v3 σ = some q) : kf_WA X G 4 Q 884 [(0, .ref v0), (1, .ref (kf_ad G v1)), (2, .ref (kf_ad G v2)), (3, .int v3)] [] σ := by
  unfold f_L_law_884 at h
  refine wa_aload_n 1 rfl E d_L_law_884 ?_
  refine wa_aload_n 0 rfl E d_L_law_885 ?_
  refine wa_iload_n 3 rfl E d_L_law_886 ?_
  refine wa_iconst 1 ic_1 E d_L_law_887 ?_
  refine wa_iadd E d_L_law_888 ?_
  obtain ⟨g_1, h⟩ := kf_gd h
  refine wa_sald k_v0 g_1 E d_L_law_889 ?_
  refine wa_aload_n 0 rfl E d_L_law_890 ?_
  refine wa_iload_n 3 rfl E d_L_law_891 ?_
  refine wa_iconst 2 ic_2 E d_L_law_892 ?_
  refine wa_iadd E d_L_law_893 ?_
  obtain ⟨g_2, h⟩ := kf_gd h
  refine wa_sald k_v0 g_2 E d_L_law_894 ?_
  obtain ⟨q_3, hq_3, h⟩ := kf_bd h
  refine wa_callV (st2 := [.int q_3.1]) (c_X11_when hty v1 (xs (Int32.toNatClampNeg (v3 + 1))) (xs (Int32.toNatClampNeg (v3 + 2))) k_v1 σ hq_3) mv_X11_when ml_L_110 k_v1 rfl (Nat.le_of_ble_eq_true rfl) rfl (Nat.le_of_ble_eq_true rfl) E d_L_law_895 rfl ?_
  refine wa_aload_n 2 rfl E d_L_law_898 ?_
  refine wa_aload_n 0 rfl E d_L_law_899 ?_
  refine wa_iload_n 3 rfl E d_L_law_900 ?_
  refine wa_iconst 1 ic_1 E d_L_law_901 ?_
  refine wa_iadd E d_L_law_902 ?_
  obtain ⟨g_4, h⟩ := kf_gd h
  refine wa_sald k_v0 g_4 E d_L_law_903 ?_
  refine wa_aload_n 0 rfl E d_L_law_904 ?_
  refine wa_iload_n 3 rfl E d_L_law_905 ?_
  refine wa_iconst 2 ic_2 E d_L_law_906 ?_
  refine wa_iadd E d_L_law_907 ?_
  obtain ⟨g_5, h⟩ := kf_gd h
  refine wa_sald k_v0 g_5 E d_L_law_908 ?_
  obtain ⟨q_6, hq_6, h⟩ := kf_bd h
  refine wa_callV (st2 := [.int q_6.1, .int q_3.1]) (c_X12_when hty v2 (xs (Int32.toNatClampNeg (v3 + 1))) (xs (Int32.toNatClampNeg (v3 + 2))) k_v2 q_3.2 hq_6) mv_X12_when ml_L_113 k_v2 rfl (Nat.le_of_ble_eq_true rfl) rfl (Nat.le_of_ble_eq_true rfl) E d_L_law_909 rfl ?_
  refine wa_icmp_eq E d_L_law_912 (fun c_7 => ?_) (fun c_7 => ?_)
  · replace h := kf_ift c_7 h
    exact b_L_law_1471 E hty hend hq1 hrec18 v0 v1 v2 v3 k_v0 k_v1 k_v2 q_6.2 h
  · replace h := kf_iff c_7 h
    refine wa_iconst 0 ic_0 E d_L_law_915 ?_
    cases h
    exact absurd (show (0 : Int32) = 1 from hq1) (by decide)
def f_L_law_917 (L : Nat) (xs : Nat → Int32) (rec18 : Nat → Nat → Nat → Int32 → kf_St → Option (Int32 × kf_St)) (v0 : Nat) (v1 : Nat) (v2 : Nat) (v3 : Int32) (σ : kf_St) : Option (Int32 × kf_St) :=
  if kf_ix (v3 + 1) L = true then
  if kf_ix (v3 + 2) L = true then
  (f_X11_alone v1 (xs (Int32.toNatClampNeg (v3 + 1))) (xs (Int32.toNatClampNeg (v3 + 2))) σ).bind fun q_3 =>
  if kf_ix (v3 + 1) L = true then
  if kf_ix (v3 + 2) L = true then
  (f_X12_alone v2 (xs (Int32.toNatClampNeg (v3 + 1))) (xs (Int32.toNatClampNeg (v3 + 2))) q_3.2).bind fun q_6 =>
  if q_3.1 = q_6.1 then
    f_L_law_1471 L xs rec18 v0 v1 v2 v3 q_6.2
  else
    some (0, q_6.2)
  else none
  else none
  else none
  else none
set_option maxRecDepth 100000 in
set_option maxHeartbeats 4000000 in
theorem b_L_law_917 {X : kf_X} {G : kf_G} {Q : State → Prop} {L : Nat} {xs : Nat → Int32} {rec18 : Nat → Nat → Nat → Int32 → kf_St → Option (Int32 × kf_St)} {q : (Int32 × kf_St)} (E : kf_ok X G cL_law RL 4 (some .boolean) (42)) (hty : kf_wt G) (hend : ∀ {pc pc1 : Nat} (_ : kf_dq cL_law pc pc1 1 .ireturn) (lv : List (Nat × Value)) (σ : kf_St), kf_WA X G 4 Q pc lv [.int 1] σ) (hq1 : q.1 = 1) (hrec18 : ∀ (v0 : Nat) (v1 : Nat) (v2 : Nat) (v3 : Int32) (k_v0 : kf_scr X G v0 L xs) (k_v1 : kf_kd G v1 = 12) (k_v2 : kf_kd G v2 = 13) (σ : kf_St), rec18 v0 v1 v2 v3 σ = some q → kf_WA X G 4 Q 18 [(0, .ref v0), (1, .ref (kf_ad G v1)), (2, .ref (kf_ad G v2)), (3, .int v3)] [] σ) (v0 : Nat) (v1 : Nat) (v2 : Nat) (v3 : Int32) (k_v0 : kf_scr X G v0 L xs) (k_v1 : kf_kd G v1 = 12) (k_v2 : kf_kd G v2 = 13) (σ : kf_St) (h : f_L_law_917 L xs rec18 v0 v1 v2 v3 σ = some q) : kf_WA X G 4 Q 917 [(0, .ref v0), (1, .ref (kf_ad G v1)), (2, .ref (kf_ad G v2)), (3, .int v3)] [] σ := by
  unfold f_L_law_917 at h
  refine wa_aload_n 1 rfl E d_L_law_917 ?_
  refine wa_aload_n 0 rfl E d_L_law_918 ?_
  refine wa_iload_n 3 rfl E d_L_law_919 ?_
  refine wa_iconst 1 ic_1 E d_L_law_920 ?_
  refine wa_iadd E d_L_law_921 ?_
  obtain ⟨g_1, h⟩ := kf_gd h
  refine wa_sald k_v0 g_1 E d_L_law_922 ?_
  refine wa_aload_n 0 rfl E d_L_law_923 ?_
  refine wa_iload_n 3 rfl E d_L_law_924 ?_
  refine wa_iconst 2 ic_2 E d_L_law_925 ?_
  refine wa_iadd E d_L_law_926 ?_
  obtain ⟨g_2, h⟩ := kf_gd h
  refine wa_sald k_v0 g_2 E d_L_law_927 ?_
  obtain ⟨q_3, hq_3, h⟩ := kf_bd h
  refine wa_callV (st2 := [.int q_3.1]) (c_X11_alone hty v1 (xs (Int32.toNatClampNeg (v3 + 1))) (xs (Int32.toNatClampNeg (v3 + 2))) k_v1 σ hq_3) mv_X11_alone ml_L_114 k_v1 rfl (Nat.le_of_ble_eq_true rfl) rfl (Nat.le_of_ble_eq_true rfl) E d_L_law_928 rfl ?_
  refine wa_aload_n 2 rfl E d_L_law_931 ?_
  refine wa_aload_n 0 rfl E d_L_law_932 ?_
  refine wa_iload_n 3 rfl E d_L_law_933 ?_
  refine wa_iconst 1 ic_1 E d_L_law_934 ?_
  refine wa_iadd E d_L_law_935 ?_
  obtain ⟨g_4, h⟩ := kf_gd h
  refine wa_sald k_v0 g_4 E d_L_law_936 ?_
  refine wa_aload_n 0 rfl E d_L_law_937 ?_
  refine wa_iload_n 3 rfl E d_L_law_938 ?_
  refine wa_iconst 2 ic_2 E d_L_law_939 ?_
  refine wa_iadd E d_L_law_940 ?_
  obtain ⟨g_5, h⟩ := kf_gd h
  refine wa_sald k_v0 g_5 E d_L_law_941 ?_
  obtain ⟨q_6, hq_6, h⟩ := kf_bd h
  refine wa_callV (st2 := [.int q_6.1, .int q_3.1]) (c_X12_alone hty v2 (xs (Int32.toNatClampNeg (v3 + 1))) (xs (Int32.toNatClampNeg (v3 + 2))) k_v2 q_3.2 hq_6) mv_X12_alone ml_L_117 k_v2 rfl (Nat.le_of_ble_eq_true rfl) rfl (Nat.le_of_ble_eq_true rfl) E d_L_law_942 rfl ?_
  refine wa_icmp_eq E d_L_law_945 (fun c_7 => ?_) (fun c_7 => ?_)
  · replace h := kf_ift c_7 h
    exact b_L_law_1471 E hty hend hq1 hrec18 v0 v1 v2 v3 k_v0 k_v1 k_v2 q_6.2 h
  · replace h := kf_iff c_7 h
    refine wa_iconst 0 ic_0 E d_L_law_948 ?_
    cases h
    exact absurd (show (0 : Int32) = 1 from hq1) (by decide)
def f_L_law_950 (L : Nat) (xs : Nat → Int32) (rec18 : Nat → Nat → Nat → Int32 → kf_St → Option (Int32 × kf_St)) (v0 : Nat) (v1 : Nat) (v2 : Nat) (v3 : Int32) (σ : kf_St) : Option (Int32 × kf_St) :=
  if kf_ix (v3 + 1) L = true then
  (f_X11_confused v1 (xs (Int32.toNatClampNeg (v3 + 1))) σ).bind fun q_2 =>
  if kf_ix (v3 + 1) L = true then
  (f_X12_confused v2 (xs (Int32.toNatClampNeg (v3 + 1))) q_2.2).bind fun q_4 =>
  if q_2.1 = q_4.1 then
    f_L_law_1471 L xs rec18 v0 v1 v2 v3 q_4.2
  else
    some (0, q_4.2)
  else none
  else none
set_option maxRecDepth 100000 in
set_option maxHeartbeats 4000000 in
theorem b_L_law_950 {X : kf_X} {G : kf_G} {Q : State → Prop} {L : Nat} {xs : Nat → Int32} {rec18 : Nat → Nat → Nat → Int32 → kf_St → Option (Int32 × kf_St)} {q : (Int32 × kf_St)} (E : kf_ok X G cL_law RL 4 (some .boolean) (42)) (hty : kf_wt G) (hend : ∀ {pc pc1 : Nat} (_ : kf_dq cL_law pc pc1 1 .ireturn) (lv : List (Nat × Value)) (σ : kf_St), kf_WA X G 4 Q pc lv [.int 1] σ) (hq1 : q.1 = 1) (hrec18 : ∀ (v0 : Nat) (v1 : Nat) (v2 : Nat) (v3 : Int32) (k_v0 : kf_scr X G v0 L xs) (k_v1 : kf_kd G v1 = 12) (k_v2 : kf_kd G v2 = 13) (σ : kf_St), rec18 v0 v1 v2 v3 σ = some q → kf_WA X G 4 Q 18 [(0, .ref v0), (1, .ref (kf_ad G v1)), (2, .ref (kf_ad G v2)), (3, .int v3)] [] σ) (v0 : Nat) (v1 : Nat) (v2 : Nat) (v3 : Int32) (k_v0 : kf_scr X G v0 L xs) (k_v1 : kf_kd G v1 = 12) (k_v2 : kf_kd G v2 = 13) (σ : kf_St) (h : f_L_law_950 L xs rec18 v0 v1 v2 v3 σ = some q) : kf_WA X G 4 Q 950 [(0, .ref v0), (1, .ref (kf_ad G v1)), (2, .ref (kf_ad G v2)), (3, .int v3)] [] σ := by
  unfold f_L_law_950 at h
  refine wa_aload_n 1 rfl E d_L_law_950 ?_
  refine wa_aload_n 0 rfl E d_L_law_951 ?_
  refine wa_iload_n 3 rfl E d_L_law_952 ?_
  refine wa_iconst 1 ic_1 E d_L_law_953 ?_
  refine wa_iadd E d_L_law_954 ?_
  obtain ⟨g_1, h⟩ := kf_gd h
  refine wa_sald k_v0 g_1 E d_L_law_955 ?_
  obtain ⟨q_2, hq_2, h⟩ := kf_bd h
  refine wa_callV (st2 := [.int q_2.1]) (c_X11_confused hty v1 (xs (Int32.toNatClampNeg (v3 + 1))) k_v1 σ hq_2) mv_X11_confused ml_L_118 k_v1 rfl (Nat.le_of_ble_eq_true rfl) rfl (Nat.le_of_ble_eq_true rfl) E d_L_law_956 rfl ?_
  refine wa_aload_n 2 rfl E d_L_law_959 ?_
  refine wa_aload_n 0 rfl E d_L_law_960 ?_
  refine wa_iload_n 3 rfl E d_L_law_961 ?_
  refine wa_iconst 1 ic_1 E d_L_law_962 ?_
  refine wa_iadd E d_L_law_963 ?_
  obtain ⟨g_3, h⟩ := kf_gd h
  refine wa_sald k_v0 g_3 E d_L_law_964 ?_
  obtain ⟨q_4, hq_4, h⟩ := kf_bd h
  refine wa_callV (st2 := [.int q_4.1, .int q_2.1]) (c_X12_confused hty v2 (xs (Int32.toNatClampNeg (v3 + 1))) k_v2 q_2.2 hq_4) mv_X12_confused ml_L_121 k_v2 rfl (Nat.le_of_ble_eq_true rfl) rfl (Nat.le_of_ble_eq_true rfl) E d_L_law_965 rfl ?_
  refine wa_icmp_eq E d_L_law_968 (fun c_5 => ?_) (fun c_5 => ?_)
  · replace h := kf_ift c_5 h
    exact b_L_law_1471 E hty hend hq1 hrec18 v0 v1 v2 v3 k_v0 k_v1 k_v2 q_4.2 h
  · replace h := kf_iff c_5 h
    refine wa_iconst 0 ic_0 E d_L_law_971 ?_
    cases h
    exact absurd (show (0 : Int32) = 1 from hq1) (by decide)
def f_L_law_973 (L : Nat) (xs : Nat → Int32) (rec18 : Nat → Nat → Nat → Int32 → kf_St → Option (Int32 × kf_St)) (v0 : Nat) (v1 : Nat) (v2 : Nat) (v3 : Int32) (σ : kf_St) : Option (Int32 × kf_St) :=
  if kf_ix (v3 + 1) L = true then
  if kf_ix (v3 + 2) L = true then
  (f_X11_nearest v1 (xs (Int32.toNatClampNeg (v3 + 1))) (xs (Int32.toNatClampNeg (v3 + 2))) σ).bind fun q_3 =>
  if kf_ix (v3 + 1) L = true then
  if kf_ix (v3 + 2) L = true then
  (f_X12_nearest v2 (xs (Int32.toNatClampNeg (v3 + 1))) (xs (Int32.toNatClampNeg (v3 + 2))) q_3.2).bind fun q_6 =>
  if q_3.1 = q_6.1 then
    f_L_law_1471 L xs rec18 v0 v1 v2 v3 q_6.2
  else
    some (0, q_6.2)
  else none
  else none
  else none
  else none
set_option maxRecDepth 100000 in
set_option maxHeartbeats 4000000 in
theorem b_L_law_973 {X : kf_X} {G : kf_G} {Q : State → Prop} {L : Nat} {xs : Nat → Int32} {rec18 : Nat → Nat → Nat → Int32 → kf_St → Option (Int32 × kf_St)} {q : (Int32 × kf_St)} (E : kf_ok X G cL_law RL 4 (some .boolean) (42)) (hty : kf_wt G) (hend : ∀ {pc pc1 : Nat} (_ : kf_dq cL_law pc pc1 1 .ireturn) (lv : List (Nat × Value)) (σ : kf_St), kf_WA X G 4 Q pc lv [.int 1] σ) (hq1 : q.1 = 1) (hrec18 : ∀ (v0 : Nat) (v1 : Nat) (v2 : Nat) (v3 : Int32) (k_v0 : kf_scr X G v0 L xs) (k_v1 : kf_kd G v1 = 12) (k_v2 : kf_kd G v2 = 13) (σ : kf_St), rec18 v0 v1 v2 v3 σ = some q → kf_WA X G 4 Q 18 [(0, .ref v0), (1, .ref (kf_ad G v1)), (2, .ref (kf_ad G v2)), (3, .int v3)] [] σ) (v0 : Nat) (v1 : Nat) (v2 : Nat) (v3 : Int32) (k_v0 : kf_scr X G v0 L xs) (k_v1 : kf_kd G v1 = 12) (k_v2 : kf_kd G v2 = 13) (σ : kf_St) (h : f_L_law_973 L xs rec18 v0 v1 v2 v3 σ = some q) : kf_WA X G 4 Q 973 [(0, .ref v0), (1, .ref (kf_ad G v1)), (2, .ref (kf_ad G v2)), (3, .int v3)] [] σ := by
  unfold f_L_law_973 at h
  refine wa_aload_n 1 rfl E d_L_law_973 ?_
  refine wa_aload_n 0 rfl E d_L_law_974 ?_
  refine wa_iload_n 3 rfl E d_L_law_975 ?_
  refine wa_iconst 1 ic_1 E d_L_law_976 ?_
  refine wa_iadd E d_L_law_977 ?_
  obtain ⟨g_1, h⟩ := kf_gd h
  refine wa_sald k_v0 g_1 E d_L_law_978 ?_
  refine wa_aload_n 0 rfl E d_L_law_979 ?_
  refine wa_iload_n 3 rfl E d_L_law_980 ?_
  refine wa_iconst 2 ic_2 E d_L_law_981 ?_
  refine wa_iadd E d_L_law_982 ?_
  obtain ⟨g_2, h⟩ := kf_gd h
  refine wa_sald k_v0 g_2 E d_L_law_983 ?_
  obtain ⟨q_3, hq_3, h⟩ := kf_bd h
  refine wa_callV (st2 := [.int q_3.1]) (c_X11_nearest hty v1 (xs (Int32.toNatClampNeg (v3 + 1))) (xs (Int32.toNatClampNeg (v3 + 2))) k_v1 σ hq_3) mv_X11_nearest ml_L_122 k_v1 rfl (Nat.le_of_ble_eq_true rfl) rfl (Nat.le_of_ble_eq_true rfl) E d_L_law_984 rfl ?_
  refine wa_aload_n 2 rfl E d_L_law_987 ?_
  refine wa_aload_n 0 rfl E d_L_law_988 ?_
  refine wa_iload_n 3 rfl E d_L_law_989 ?_
  refine wa_iconst 1 ic_1 E d_L_law_990 ?_
  refine wa_iadd E d_L_law_991 ?_
  obtain ⟨g_4, h⟩ := kf_gd h
  refine wa_sald k_v0 g_4 E d_L_law_992 ?_
  refine wa_aload_n 0 rfl E d_L_law_993 ?_
  refine wa_iload_n 3 rfl E d_L_law_994 ?_
  refine wa_iconst 2 ic_2 E d_L_law_995 ?_
  refine wa_iadd E d_L_law_996 ?_
  obtain ⟨g_5, h⟩ := kf_gd h
  refine wa_sald k_v0 g_5 E d_L_law_997 ?_
  obtain ⟨q_6, hq_6, h⟩ := kf_bd h
  refine wa_callV (st2 := [.int q_6.1, .int q_3.1]) (c_X12_nearest hty v2 (xs (Int32.toNatClampNeg (v3 + 1))) (xs (Int32.toNatClampNeg (v3 + 2))) k_v2 q_3.2 hq_6) mv_X12_nearest ml_L_125 k_v2 rfl (Nat.le_of_ble_eq_true rfl) rfl (Nat.le_of_ble_eq_true rfl) E d_L_law_998 rfl ?_
  refine wa_icmp_eq E d_L_law_1001 (fun c_7 => ?_) (fun c_7 => ?_)
  · replace h := kf_ift c_7 h
    exact b_L_law_1471 E hty hend hq1 hrec18 v0 v1 v2 v3 k_v0 k_v1 k_v2 q_6.2 h
  · replace h := kf_iff c_7 h
    refine wa_iconst 0 ic_0 E d_L_law_1004 ?_
    cases h
    exact absurd (show (0 : Int32) = 1 from hq1) (by decide)
def f_L_law_1006 (L : Nat) (xs : Nat → Int32) (rec18 : Nat → Nat → Nat → Int32 → kf_St → Option (Int32 × kf_St)) (v0 : Nat) (v1 : Nat) (v2 : Nat) (v3 : Int32) (σ : kf_St) : Option (Int32 × kf_St) :=
  if kf_ix (v3 + 1) L = true then
  if kf_ix (v3 + 2) L = true then
  (f_X11_same v1 (xs (Int32.toNatClampNeg (v3 + 1))) (xs (Int32.toNatClampNeg (v3 + 2))) σ).bind fun q_3 =>
  if kf_ix (v3 + 1) L = true then
  if kf_ix (v3 + 2) L = true then
  (f_X12_same v2 (xs (Int32.toNatClampNeg (v3 + 1))) (xs (Int32.toNatClampNeg (v3 + 2))) q_3.2).bind fun q_6 =>
  if q_3.1 = q_6.1 then
    f_L_law_1471 L xs rec18 v0 v1 v2 v3 q_6.2
  else
    some (0, q_6.2)
  else none
  else none
  else none
  else none
set_option maxRecDepth 100000 in
set_option maxHeartbeats 4000000 in
theorem b_L_law_1006 {X : kf_X} {G : kf_G} {Q : State → Prop} {L : Nat} {xs : Nat → Int32} {rec18 : Nat → Nat → Nat → Int32 → kf_St → Option (Int32 × kf_St)} {q : (Int32 × kf_St)} (E : kf_ok X G cL_law RL 4 (some .boolean) (42)) (hty : kf_wt G) (hend : ∀ {pc pc1 : Nat} (_ : kf_dq cL_law pc pc1 1 .ireturn) (lv : List (Nat × Value)) (σ : kf_St), kf_WA X G 4 Q pc lv [.int 1] σ) (hq1 : q.1 = 1) (hrec18 : ∀ (v0 : Nat) (v1 : Nat) (v2 : Nat) (v3 : Int32) (k_v0 : kf_scr X G v0 L xs) (k_v1 : kf_kd G v1 = 12) (k_v2 : kf_kd G v2 = 13) (σ : kf_St), rec18 v0 v1 v2 v3 σ = some q → kf_WA X G 4 Q 18 [(0, .ref v0), (1, .ref (kf_ad G v1)), (2, .ref (kf_ad G v2)), (3, .int v3)] [] σ) (v0 : Nat) (v1 : Nat) (v2 : Nat) (v3 : Int32) (k_v0 : kf_scr X G v0 L xs) (k_v1 : kf_kd G v1 = 12) (k_v2 : kf_kd G v2 = 13) (σ : kf_St) (h : f_L_law_1006 L xs rec18 v0 v1 v2 v3 σ = some q) : kf_WA X G 4 Q 1006 [(0, .ref v0), (1, .ref (kf_ad G v1)), (2, .ref (kf_ad G v2)), (3, .int v3)] [] σ := by
  unfold f_L_law_1006 at h
  refine wa_aload_n 1 rfl E d_L_law_1006 ?_
  refine wa_aload_n 0 rfl E d_L_law_1007 ?_
  refine wa_iload_n 3 rfl E d_L_law_1008 ?_
  refine wa_iconst 1 ic_1 E d_L_law_1009 ?_
  refine wa_iadd E d_L_law_1010 ?_
  obtain ⟨g_1, h⟩ := kf_gd h
  refine wa_sald k_v0 g_1 E d_L_law_1011 ?_
  refine wa_aload_n 0 rfl E d_L_law_1012 ?_
  refine wa_iload_n 3 rfl E d_L_law_1013 ?_
  refine wa_iconst 2 ic_2 E d_L_law_1014 ?_
  refine wa_iadd E d_L_law_1015 ?_
  obtain ⟨g_2, h⟩ := kf_gd h
  refine wa_sald k_v0 g_2 E d_L_law_1016 ?_
  obtain ⟨q_3, hq_3, h⟩ := kf_bd h
  refine wa_callV (st2 := [.int q_3.1]) (c_X11_same hty v1 (xs (Int32.toNatClampNeg (v3 + 1))) (xs (Int32.toNatClampNeg (v3 + 2))) k_v1 σ hq_3) mv_X11_same ml_L_126 k_v1 rfl (Nat.le_of_ble_eq_true rfl) rfl (Nat.le_of_ble_eq_true rfl) E d_L_law_1017 rfl ?_
  refine wa_aload_n 2 rfl E d_L_law_1020 ?_
  refine wa_aload_n 0 rfl E d_L_law_1021 ?_
  refine wa_iload_n 3 rfl E d_L_law_1022 ?_
  refine wa_iconst 1 ic_1 E d_L_law_1023 ?_
  refine wa_iadd E d_L_law_1024 ?_
  obtain ⟨g_4, h⟩ := kf_gd h
  refine wa_sald k_v0 g_4 E d_L_law_1025 ?_
  refine wa_aload_n 0 rfl E d_L_law_1026 ?_
  refine wa_iload_n 3 rfl E d_L_law_1027 ?_
  refine wa_iconst 2 ic_2 E d_L_law_1028 ?_
  refine wa_iadd E d_L_law_1029 ?_
  obtain ⟨g_5, h⟩ := kf_gd h
  refine wa_sald k_v0 g_5 E d_L_law_1030 ?_
  obtain ⟨q_6, hq_6, h⟩ := kf_bd h
  refine wa_callV (st2 := [.int q_6.1, .int q_3.1]) (c_X12_same hty v2 (xs (Int32.toNatClampNeg (v3 + 1))) (xs (Int32.toNatClampNeg (v3 + 2))) k_v2 q_3.2 hq_6) mv_X12_same ml_L_129 k_v2 rfl (Nat.le_of_ble_eq_true rfl) rfl (Nat.le_of_ble_eq_true rfl) E d_L_law_1031 rfl ?_
  refine wa_icmp_eq E d_L_law_1034 (fun c_7 => ?_) (fun c_7 => ?_)
  · replace h := kf_ift c_7 h
    exact b_L_law_1471 E hty hend hq1 hrec18 v0 v1 v2 v3 k_v0 k_v1 k_v2 q_6.2 h
  · replace h := kf_iff c_7 h
    refine wa_iconst 0 ic_0 E d_L_law_1037 ?_
    cases h
    exact absurd (show (0 : Int32) = 1 from hq1) (by decide)
def f_L_law_1039 (L : Nat) (xs : Nat → Int32) (rec18 : Nat → Nat → Nat → Int32 → kf_St → Option (Int32 × kf_St)) (v0 : Nat) (v1 : Nat) (v2 : Nat) (v3 : Int32) (σ : kf_St) : Option (Int32 × kf_St) :=
  if kf_ix (v3 + 1) L = true then
  if kf_ix (v3 + 2) L = true then
  (f_X11_shift v1 (xs (Int32.toNatClampNeg (v3 + 1))) (xs (Int32.toNatClampNeg (v3 + 2))) σ).bind fun q_3 =>
  if kf_ix (v3 + 1) L = true then
  if kf_ix (v3 + 2) L = true then
  (f_X12_shift v2 (xs (Int32.toNatClampNeg (v3 + 1))) (xs (Int32.toNatClampNeg (v3 + 2))) q_3.2).bind fun q_6 =>
  if q_3.1 = q_6.1 then
    f_L_law_1471 L xs rec18 v0 v1 v2 v3 q_6.2
  else
    some (0, q_6.2)
  else none
  else none
  else none
  else none
set_option maxRecDepth 100000 in
set_option maxHeartbeats 4000000 in
theorem b_L_law_1039 {X : kf_X} {G : kf_G} {Q : State → Prop} {L : Nat} {xs : Nat → Int32} {rec18 : Nat → Nat → Nat → Int32 → kf_St → Option (Int32 × kf_St)} {q : (Int32 × kf_St)} (E : kf_ok X G cL_law RL 4 (some .boolean) (42)) (hty : kf_wt G) (hend : ∀ {pc pc1 : Nat} (_ : kf_dq cL_law pc pc1 1 .ireturn) (lv : List (Nat × Value)) (σ : kf_St), kf_WA X G 4 Q pc lv [.int 1] σ) (hq1 : q.1 = 1) (hrec18 : ∀ (v0 : Nat) (v1 : Nat) (v2 : Nat) (v3 : Int32) (k_v0 : kf_scr X G v0 L xs) (k_v1 : kf_kd G v1 = 12) (k_v2 : kf_kd G v2 = 13) (σ : kf_St), rec18 v0 v1 v2 v3 σ = some q → kf_WA X G 4 Q 18 [(0, .ref v0), (1, .ref (kf_ad G v1)), (2, .ref (kf_ad G v2)), (3, .int v3)] [] σ) (v0 : Nat) (v1 : Nat) (v2 : Nat) (v3 : Int32) (k_v0 : kf_scr X G v0 L xs) (k_v1 : kf_kd G v1 = 12) (k_v2 : kf_kd G v2 = 13) (σ : kf_St) (h : f_L_law_1039 L xs rec18 v0 v1 v2 v3 σ = some q) : kf_WA X G 4 Q 1039 [(0, .ref v0), (1, .ref (kf_ad G v1)), (2, .ref (kf_ad G v2)), (3, .int v3)] [] σ := by
  unfold f_L_law_1039 at h
  refine wa_aload_n 1 rfl E d_L_law_1039 ?_
  refine wa_aload_n 0 rfl E d_L_law_1040 ?_
  refine wa_iload_n 3 rfl E d_L_law_1041 ?_
  refine wa_iconst 1 ic_1 E d_L_law_1042 ?_
  refine wa_iadd E d_L_law_1043 ?_
  obtain ⟨g_1, h⟩ := kf_gd h
  refine wa_sald k_v0 g_1 E d_L_law_1044 ?_
  refine wa_aload_n 0 rfl E d_L_law_1045 ?_
  refine wa_iload_n 3 rfl E d_L_law_1046 ?_
  refine wa_iconst 2 ic_2 E d_L_law_1047 ?_
  refine wa_iadd E d_L_law_1048 ?_
  obtain ⟨g_2, h⟩ := kf_gd h
  refine wa_sald k_v0 g_2 E d_L_law_1049 ?_
  obtain ⟨q_3, hq_3, h⟩ := kf_bd h
  refine wa_callV (st2 := [.int q_3.1]) (c_X11_shift hty v1 (xs (Int32.toNatClampNeg (v3 + 1))) (xs (Int32.toNatClampNeg (v3 + 2))) k_v1 σ hq_3) mv_X11_shift ml_L_130 k_v1 rfl (Nat.le_of_ble_eq_true rfl) rfl (Nat.le_of_ble_eq_true rfl) E d_L_law_1050 rfl ?_
  refine wa_aload_n 2 rfl E d_L_law_1053 ?_
  refine wa_aload_n 0 rfl E d_L_law_1054 ?_
  refine wa_iload_n 3 rfl E d_L_law_1055 ?_
  refine wa_iconst 1 ic_1 E d_L_law_1056 ?_
  refine wa_iadd E d_L_law_1057 ?_
  obtain ⟨g_4, h⟩ := kf_gd h
  refine wa_sald k_v0 g_4 E d_L_law_1058 ?_
  refine wa_aload_n 0 rfl E d_L_law_1059 ?_
  refine wa_iload_n 3 rfl E d_L_law_1060 ?_
  refine wa_iconst 2 ic_2 E d_L_law_1061 ?_
  refine wa_iadd E d_L_law_1062 ?_
  obtain ⟨g_5, h⟩ := kf_gd h
  refine wa_sald k_v0 g_5 E d_L_law_1063 ?_
  obtain ⟨q_6, hq_6, h⟩ := kf_bd h
  refine wa_callV (st2 := [.int q_6.1, .int q_3.1]) (c_X12_shift hty v2 (xs (Int32.toNatClampNeg (v3 + 1))) (xs (Int32.toNatClampNeg (v3 + 2))) k_v2 q_3.2 hq_6) mv_X12_shift ml_L_133 k_v2 rfl (Nat.le_of_ble_eq_true rfl) rfl (Nat.le_of_ble_eq_true rfl) E d_L_law_1064 rfl ?_
  refine wa_icmp_eq E d_L_law_1067 (fun c_7 => ?_) (fun c_7 => ?_)
  · replace h := kf_ift c_7 h
    exact b_L_law_1471 E hty hend hq1 hrec18 v0 v1 v2 v3 k_v0 k_v1 k_v2 q_6.2 h
  · replace h := kf_iff c_7 h
    refine wa_iconst 0 ic_0 E d_L_law_1070 ?_
    cases h
    exact absurd (show (0 : Int32) = 1 from hq1) (by decide)
def f_L_law_1072 (L : Nat) (xs : Nat → Int32) (rec18 : Nat → Nat → Nat → Int32 → kf_St → Option (Int32 × kf_St)) (v0 : Nat) (v1 : Nat) (v2 : Nat) (v3 : Int32) (σ : kf_St) : Option (Int32 × kf_St) :=
  if kf_ix (v3 + 1) L = true then
  if kf_ix (v3 + 2) L = true then
  (f_X11_calls v1 (xs (Int32.toNatClampNeg (v3 + 1))) (xs (Int32.toNatClampNeg (v3 + 2))) σ).bind fun q_3 =>
  if kf_ix (v3 + 1) L = true then
  if kf_ix (v3 + 2) L = true then
  (f_X12_calls v2 (xs (Int32.toNatClampNeg (v3 + 1))) (xs (Int32.toNatClampNeg (v3 + 2))) q_3.2).bind fun q_6 =>
  if q_3.1 = q_6.1 then
    f_L_law_1471 L xs rec18 v0 v1 v2 v3 q_6.2
  else
    some (0, q_6.2)
  else none
  else none
  else none
  else none
set_option maxRecDepth 100000 in
set_option maxHeartbeats 4000000 in
theorem b_L_law_1072 {X : kf_X} {G : kf_G} {Q : State → Prop} {L : Nat} {xs : Nat → Int32} {rec18 : Nat → Nat → Nat → Int32 → kf_St → Option (Int32 × kf_St)} {q : (Int32 × kf_St)} (E : kf_ok X G cL_law RL 4 (some .boolean) (42)) (hty : kf_wt G) (hend : ∀ {pc pc1 : Nat} (_ : kf_dq cL_law pc pc1 1 .ireturn) (lv : List (Nat × Value)) (σ : kf_St), kf_WA X G 4 Q pc lv [.int 1] σ) (hq1 : q.1 = 1) (hrec18 : ∀ (v0 : Nat) (v1 : Nat) (v2 : Nat) (v3 : Int32) (k_v0 : kf_scr X G v0 L xs) (k_v1 : kf_kd G v1 = 12) (k_v2 : kf_kd G v2 = 13) (σ : kf_St), rec18 v0 v1 v2 v3 σ = some q → kf_WA X G 4 Q 18 [(0, .ref v0), (1, .ref (kf_ad G v1)), (2, .ref (kf_ad G v2)), (3, .int v3)] [] σ) (v0 : Nat) (v1 : Nat) (v2 : Nat) (v3 : Int32) (k_v0 : kf_scr X G v0 L xs) (k_v1 : kf_kd G v1 = 12) (k_v2 : kf_kd G v2 = 13) (σ : kf_St) (h : f_L_law_1072 L xs rec18 v0 v1 v2 v3 σ = some q) : kf_WA X G 4 Q 1072 [(0, .ref v0), (1, .ref (kf_ad G v1)), (2, .ref (kf_ad G v2)), (3, .int v3)] [] σ := by
  unfold f_L_law_1072 at h
  refine wa_aload_n 1 rfl E d_L_law_1072 ?_
  refine wa_aload_n 0 rfl E d_L_law_1073 ?_
  refine wa_iload_n 3 rfl E d_L_law_1074 ?_
  refine wa_iconst 1 ic_1 E d_L_law_1075 ?_
  refine wa_iadd E d_L_law_1076 ?_
  obtain ⟨g_1, h⟩ := kf_gd h
  refine wa_sald k_v0 g_1 E d_L_law_1077 ?_
  refine wa_aload_n 0 rfl E d_L_law_1078 ?_
  refine wa_iload_n 3 rfl E d_L_law_1079 ?_
  refine wa_iconst 2 ic_2 E d_L_law_1080 ?_
  refine wa_iadd E d_L_law_1081 ?_
  obtain ⟨g_2, h⟩ := kf_gd h
  refine wa_sald k_v0 g_2 E d_L_law_1082 ?_
  obtain ⟨q_3, hq_3, h⟩ := kf_bd h
  refine wa_callV (st2 := [.int q_3.1]) (c_X11_calls hty v1 (xs (Int32.toNatClampNeg (v3 + 1))) (xs (Int32.toNatClampNeg (v3 + 2))) k_v1 σ hq_3) mv_X11_calls ml_L_134 k_v1 rfl (Nat.le_of_ble_eq_true rfl) rfl (Nat.le_of_ble_eq_true rfl) E d_L_law_1083 rfl ?_
  refine wa_aload_n 2 rfl E d_L_law_1086 ?_
  refine wa_aload_n 0 rfl E d_L_law_1087 ?_
  refine wa_iload_n 3 rfl E d_L_law_1088 ?_
  refine wa_iconst 1 ic_1 E d_L_law_1089 ?_
  refine wa_iadd E d_L_law_1090 ?_
  obtain ⟨g_4, h⟩ := kf_gd h
  refine wa_sald k_v0 g_4 E d_L_law_1091 ?_
  refine wa_aload_n 0 rfl E d_L_law_1092 ?_
  refine wa_iload_n 3 rfl E d_L_law_1093 ?_
  refine wa_iconst 2 ic_2 E d_L_law_1094 ?_
  refine wa_iadd E d_L_law_1095 ?_
  obtain ⟨g_5, h⟩ := kf_gd h
  refine wa_sald k_v0 g_5 E d_L_law_1096 ?_
  obtain ⟨q_6, hq_6, h⟩ := kf_bd h
  refine wa_callV (st2 := [.int q_6.1, .int q_3.1]) (c_X12_calls hty v2 (xs (Int32.toNatClampNeg (v3 + 1))) (xs (Int32.toNatClampNeg (v3 + 2))) k_v2 q_3.2 hq_6) mv_X12_calls ml_L_137 k_v2 rfl (Nat.le_of_ble_eq_true rfl) rfl (Nat.le_of_ble_eq_true rfl) E d_L_law_1097 rfl ?_
  refine wa_icmp_eq E d_L_law_1100 (fun c_7 => ?_) (fun c_7 => ?_)
  · replace h := kf_ift c_7 h
    exact b_L_law_1471 E hty hend hq1 hrec18 v0 v1 v2 v3 k_v0 k_v1 k_v2 q_6.2 h
  · replace h := kf_iff c_7 h
    refine wa_iconst 0 ic_0 E d_L_law_1103 ?_
    cases h
    exact absurd (show (0 : Int32) = 1 from hq1) (by decide)
def f_L_law_1105 (L : Nat) (xs : Nat → Int32) (rec18 : Nat → Nat → Nat → Int32 → kf_St → Option (Int32 × kf_St)) (v0 : Nat) (v1 : Nat) (v2 : Nat) (v3 : Int32) (σ : kf_St) : Option (Int32 × kf_St) :=
  if kf_ix (v3 + 1) L = true then
  if kf_ix (v3 + 2) L = true then
  (f_X11_richest v1 (xs (Int32.toNatClampNeg (v3 + 1))) (xs (Int32.toNatClampNeg (v3 + 2))) σ).bind fun q_3 =>
  if kf_ix (v3 + 1) L = true then
  if kf_ix (v3 + 2) L = true then
  (f_X12_richest v2 (xs (Int32.toNatClampNeg (v3 + 1))) (xs (Int32.toNatClampNeg (v3 + 2))) q_3.2).bind fun q_6 =>
  if q_3.1 = q_6.1 then
    f_L_law_1471 L xs rec18 v0 v1 v2 v3 q_6.2
  else
    some (0, q_6.2)
  else none
  else none
  else none
  else none
set_option maxRecDepth 100000 in
set_option maxHeartbeats 4000000 in
theorem b_L_law_1105 {X : kf_X} {G : kf_G} {Q : State → Prop} {L : Nat} {xs : Nat → Int32} {rec18 : Nat → Nat → Nat → Int32 → kf_St → Option (Int32 × kf_St)} {q : (Int32 × kf_St)} (E : kf_ok X G cL_law RL 4 (some .boolean) (42)) (hty : kf_wt G) (hend : ∀ {pc pc1 : Nat} (_ : kf_dq cL_law pc pc1 1 .ireturn) (lv : List (Nat × Value)) (σ : kf_St), kf_WA X G 4 Q pc lv [.int 1] σ) (hq1 : q.1 = 1) (hrec18 : ∀ (v0 : Nat) (v1 : Nat) (v2 : Nat) (v3 : Int32) (k_v0 : kf_scr X G v0 L xs) (k_v1 : kf_kd G v1 = 12) (k_v2 : kf_kd G v2 = 13) (σ : kf_St), rec18 v0 v1 v2 v3 σ = some q → kf_WA X G 4 Q 18 [(0, .ref v0), (1, .ref (kf_ad G v1)), (2, .ref (kf_ad G v2)), (3, .int v3)] [] σ) (v0 : Nat) (v1 : Nat) (v2 : Nat) (v3 : Int32) (k_v0 : kf_scr X G v0 L xs) (k_v1 : kf_kd G v1 = 12) (k_v2 : kf_kd G v2 = 13) (σ : kf_St) (h : f_L_law_1105 L xs rec18 v0 v1 v2 v3 σ = some q) : kf_WA X G 4 Q 1105 [(0, .ref v0), (1, .ref (kf_ad G v1)), (2, .ref (kf_ad G v2)), (3, .int v3)] [] σ := by
  unfold f_L_law_1105 at h
  refine wa_aload_n 1 rfl E d_L_law_1105 ?_
  refine wa_aload_n 0 rfl E d_L_law_1106 ?_
  refine wa_iload_n 3 rfl E d_L_law_1107 ?_
  refine wa_iconst 1 ic_1 E d_L_law_1108 ?_
  refine wa_iadd E d_L_law_1109 ?_
  obtain ⟨g_1, h⟩ := kf_gd h
  refine wa_sald k_v0 g_1 E d_L_law_1110 ?_
  refine wa_aload_n 0 rfl E d_L_law_1111 ?_
  refine wa_iload_n 3 rfl E d_L_law_1112 ?_
  refine wa_iconst 2 ic_2 E d_L_law_1113 ?_
  refine wa_iadd E d_L_law_1114 ?_
  obtain ⟨g_2, h⟩ := kf_gd h
  refine wa_sald k_v0 g_2 E d_L_law_1115 ?_
  obtain ⟨q_3, hq_3, h⟩ := kf_bd h
  refine wa_callV (st2 := [.int q_3.1]) (c_X11_richest hty v1 (xs (Int32.toNatClampNeg (v3 + 1))) (xs (Int32.toNatClampNeg (v3 + 2))) k_v1 σ hq_3) mv_X11_richest ml_L_138 k_v1 rfl (Nat.le_of_ble_eq_true rfl) rfl (Nat.le_of_ble_eq_true rfl) E d_L_law_1116 rfl ?_
  refine wa_aload_n 2 rfl E d_L_law_1119 ?_
  refine wa_aload_n 0 rfl E d_L_law_1120 ?_
  refine wa_iload_n 3 rfl E d_L_law_1121 ?_
  refine wa_iconst 1 ic_1 E d_L_law_1122 ?_
  refine wa_iadd E d_L_law_1123 ?_
  obtain ⟨g_4, h⟩ := kf_gd h
  refine wa_sald k_v0 g_4 E d_L_law_1124 ?_
  refine wa_aload_n 0 rfl E d_L_law_1125 ?_
  refine wa_iload_n 3 rfl E d_L_law_1126 ?_
  refine wa_iconst 2 ic_2 E d_L_law_1127 ?_
  refine wa_iadd E d_L_law_1128 ?_
  obtain ⟨g_5, h⟩ := kf_gd h
  refine wa_sald k_v0 g_5 E d_L_law_1129 ?_
  obtain ⟨q_6, hq_6, h⟩ := kf_bd h
  refine wa_callV (st2 := [.int q_6.1, .int q_3.1]) (c_X12_richest hty v2 (xs (Int32.toNatClampNeg (v3 + 1))) (xs (Int32.toNatClampNeg (v3 + 2))) k_v2 q_3.2 hq_6) mv_X12_richest ml_L_141 k_v2 rfl (Nat.le_of_ble_eq_true rfl) rfl (Nat.le_of_ble_eq_true rfl) E d_L_law_1130 rfl ?_
  refine wa_icmp_eq E d_L_law_1133 (fun c_7 => ?_) (fun c_7 => ?_)
  · replace h := kf_ift c_7 h
    exact b_L_law_1471 E hty hend hq1 hrec18 v0 v1 v2 v3 k_v0 k_v1 k_v2 q_6.2 h
  · replace h := kf_iff c_7 h
    refine wa_iconst 0 ic_0 E d_L_law_1136 ?_
    cases h
    exact absurd (show (0 : Int32) = 1 from hq1) (by decide)
def f_L_law_1138 (L : Nat) (xs : Nat → Int32) (rec18 : Nat → Nat → Nat → Int32 → kf_St → Option (Int32 × kf_St)) (v0 : Nat) (v1 : Nat) (v2 : Nat) (v3 : Int32) (σ : kf_St) : Option (Int32 × kf_St) :=
  if kf_ix (v3 + 1) L = true then
  (f_X11_flat v1 (xs (Int32.toNatClampNeg (v3 + 1))) σ).bind fun q_2 =>
  if kf_ix (v3 + 1) L = true then
  (f_X12_flat v2 (xs (Int32.toNatClampNeg (v3 + 1))) q_2.2).bind fun q_4 =>
  if q_2.1 = q_4.1 then
    f_L_law_1471 L xs rec18 v0 v1 v2 v3 q_4.2
  else
    some (0, q_4.2)
  else none
  else none
set_option maxRecDepth 100000 in
set_option maxHeartbeats 4000000 in
theorem b_L_law_1138 {X : kf_X} {G : kf_G} {Q : State → Prop} {L : Nat} {xs : Nat → Int32} {rec18 : Nat → Nat → Nat → Int32 → kf_St → Option (Int32 × kf_St)} {q : (Int32 × kf_St)} (E : kf_ok X G cL_law RL 4 (some .boolean) (42)) (hty : kf_wt G) (hend : ∀ {pc pc1 : Nat} (_ : kf_dq cL_law pc pc1 1 .ireturn) (lv : List (Nat × Value)) (σ : kf_St), kf_WA X G 4 Q pc lv [.int 1] σ) (hq1 : q.1 = 1) (hrec18 : ∀ (v0 : Nat) (v1 : Nat) (v2 : Nat) (v3 : Int32) (k_v0 : kf_scr X G v0 L xs) (k_v1 : kf_kd G v1 = 12) (k_v2 : kf_kd G v2 = 13) (σ : kf_St), rec18 v0 v1 v2 v3 σ = some q → kf_WA X G 4 Q 18 [(0, .ref v0), (1, .ref (kf_ad G v1)), (2, .ref (kf_ad G v2)), (3, .int v3)] [] σ) (v0 : Nat) (v1 : Nat) (v2 : Nat) (v3 : Int32) (k_v0 : kf_scr X G v0 L xs) (k_v1 : kf_kd G v1 = 12) (k_v2 : kf_kd G v2 = 13) (σ : kf_St) (h : f_L_law_1138 L xs rec18 v0 v1 v2 v3 σ = some q) : kf_WA X G 4 Q 1138 [(0, .ref v0), (1, .ref (kf_ad G v1)), (2, .ref (kf_ad G v2)), (3, .int v3)] [] σ := by
  unfold f_L_law_1138 at h
  refine wa_aload_n 1 rfl E d_L_law_1138 ?_
  refine wa_aload_n 0 rfl E d_L_law_1139 ?_
  refine wa_iload_n 3 rfl E d_L_law_1140 ?_
  refine wa_iconst 1 ic_1 E d_L_law_1141 ?_
  refine wa_iadd E d_L_law_1142 ?_
  obtain ⟨g_1, h⟩ := kf_gd h
  refine wa_sald k_v0 g_1 E d_L_law_1143 ?_
  obtain ⟨q_2, hq_2, h⟩ := kf_bd h
  refine wa_callV (st2 := [.int q_2.1]) (c_X11_flat hty v1 (xs (Int32.toNatClampNeg (v3 + 1))) k_v1 σ hq_2) mv_X11_flat ml_L_142 k_v1 rfl (Nat.le_of_ble_eq_true rfl) rfl (Nat.le_of_ble_eq_true rfl) E d_L_law_1144 rfl ?_
  refine wa_aload_n 2 rfl E d_L_law_1147 ?_
  refine wa_aload_n 0 rfl E d_L_law_1148 ?_
  refine wa_iload_n 3 rfl E d_L_law_1149 ?_
  refine wa_iconst 1 ic_1 E d_L_law_1150 ?_
  refine wa_iadd E d_L_law_1151 ?_
  obtain ⟨g_3, h⟩ := kf_gd h
  refine wa_sald k_v0 g_3 E d_L_law_1152 ?_
  obtain ⟨q_4, hq_4, h⟩ := kf_bd h
  refine wa_callV (st2 := [.int q_4.1, .int q_2.1]) (c_X12_flat hty v2 (xs (Int32.toNatClampNeg (v3 + 1))) k_v2 q_2.2 hq_4) mv_X12_flat ml_L_145 k_v2 rfl (Nat.le_of_ble_eq_true rfl) rfl (Nat.le_of_ble_eq_true rfl) E d_L_law_1153 rfl ?_
  refine wa_icmp_eq E d_L_law_1156 (fun c_5 => ?_) (fun c_5 => ?_)
  · replace h := kf_ift c_5 h
    exact b_L_law_1471 E hty hend hq1 hrec18 v0 v1 v2 v3 k_v0 k_v1 k_v2 q_4.2 h
  · replace h := kf_iff c_5 h
    refine wa_iconst 0 ic_0 E d_L_law_1159 ?_
    cases h
    exact absurd (show (0 : Int32) = 1 from hq1) (by decide)
def f_L_law_1161 (L : Nat) (xs : Nat → Int32) (rec18 : Nat → Nat → Nat → Int32 → kf_St → Option (Int32 × kf_St)) (v0 : Nat) (v1 : Nat) (v2 : Nat) (v3 : Int32) (σ : kf_St) : Option (Int32 × kf_St) :=
  if kf_ix (v3 + 1) L = true then
  if kf_ix (v3 + 2) L = true then
  if kf_ix (v3 + 3) L = true then
  (f_X11_then v1 (xs (Int32.toNatClampNeg (v3 + 1))) (xs (Int32.toNatClampNeg (v3 + 2))) (xs (Int32.toNatClampNeg (v3 + 3))) σ).bind fun q_4 =>
  if kf_ix (v3 + 1) L = true then
  if kf_ix (v3 + 2) L = true then
  if kf_ix (v3 + 3) L = true then
  (f_X12_then v2 (xs (Int32.toNatClampNeg (v3 + 1))) (xs (Int32.toNatClampNeg (v3 + 2))) (xs (Int32.toNatClampNeg (v3 + 3))) q_4.2).bind fun q_8 =>
  if q_4.1 = q_8.1 then
    f_L_law_1471 L xs rec18 v0 v1 v2 v3 q_8.2
  else
    some (0, q_8.2)
  else none
  else none
  else none
  else none
  else none
  else none
set_option maxRecDepth 100000 in
set_option maxHeartbeats 4000000 in
theorem b_L_law_1161 {X : kf_X} {G : kf_G} {Q : State → Prop} {L : Nat} {xs : Nat → Int32} {rec18 : Nat → Nat → Nat → Int32 → kf_St → Option (Int32 × kf_St)} {q : (Int32 × kf_St)} (E : kf_ok X G cL_law RL 4 (some .boolean) (42)) (hty : kf_wt G) (hend : ∀ {pc pc1 : Nat} (_ : kf_dq cL_law pc pc1 1 .ireturn) (lv : List (Nat × Value)) (σ : kf_St), kf_WA X G 4 Q pc lv [.int 1] σ) (hq1 : q.1 = 1) (hrec18 : ∀ (v0 : Nat) (v1 : Nat) (v2 : Nat) (v3 : Int32) (k_v0 : kf_scr X G v0 L xs) (k_v1 : kf_kd G v1 = 12) (k_v2 : kf_kd G v2 = 13) (σ : kf_St), rec18 v0 v1 v2 v3 σ = some q → kf_WA X G 4 Q 18 [(0, .ref v0), (1, .ref (kf_ad G v1)), (2, .ref (kf_ad G v2)), (3, .int v3)] [] σ) (v0 : Nat) (v1 : Nat) (v2 : Nat) (v3 : Int32) (k_v0 : kf_scr X G v0 L xs) (k_v1 : kf_kd G v1 = 12) (k_v2 : kf_kd G v2 = 13) (σ : kf_St) (h : f_L_law_1161 L xs rec18 v0 v1 v2 v3 σ = some q) : kf_WA X G 4 Q 1161 [(0, .ref v0), (1, .ref (kf_ad G v1)), (2, .ref (kf_ad G v2)), (3, .int v3)] [] σ := by
  unfold f_L_law_1161 at h
  refine wa_aload_n 1 rfl E d_L_law_1161 ?_
  refine wa_aload_n 0 rfl E d_L_law_1162 ?_
  refine wa_iload_n 3 rfl E d_L_law_1163 ?_
  refine wa_iconst 1 ic_1 E d_L_law_1164 ?_
  refine wa_iadd E d_L_law_1165 ?_
  obtain ⟨g_1, h⟩ := kf_gd h
  refine wa_sald k_v0 g_1 E d_L_law_1166 ?_
  refine wa_aload_n 0 rfl E d_L_law_1167 ?_
  refine wa_iload_n 3 rfl E d_L_law_1168 ?_
  refine wa_iconst 2 ic_2 E d_L_law_1169 ?_
  refine wa_iadd E d_L_law_1170 ?_
  obtain ⟨g_2, h⟩ := kf_gd h
  refine wa_sald k_v0 g_2 E d_L_law_1171 ?_
  refine wa_aload_n 0 rfl E d_L_law_1172 ?_
  refine wa_iload_n 3 rfl E d_L_law_1173 ?_
  refine wa_iconst 3 ic_3 E d_L_law_1174 ?_
  refine wa_iadd E d_L_law_1175 ?_
  obtain ⟨g_3, h⟩ := kf_gd h
  refine wa_sald k_v0 g_3 E d_L_law_1176 ?_
  obtain ⟨q_4, hq_4, h⟩ := kf_bd h
  refine wa_callV (st2 := [.int q_4.1]) (c_X11_then hty v1 (xs (Int32.toNatClampNeg (v3 + 1))) (xs (Int32.toNatClampNeg (v3 + 2))) (xs (Int32.toNatClampNeg (v3 + 3))) k_v1 σ hq_4) mv_X11_then ml_L_146 k_v1 rfl (Nat.le_of_ble_eq_true rfl) rfl (Nat.le_of_ble_eq_true rfl) E d_L_law_1177 rfl ?_
  refine wa_aload_n 2 rfl E d_L_law_1180 ?_
  refine wa_aload_n 0 rfl E d_L_law_1181 ?_
  refine wa_iload_n 3 rfl E d_L_law_1182 ?_
  refine wa_iconst 1 ic_1 E d_L_law_1183 ?_
  refine wa_iadd E d_L_law_1184 ?_
  obtain ⟨g_5, h⟩ := kf_gd h
  refine wa_sald k_v0 g_5 E d_L_law_1185 ?_
  refine wa_aload_n 0 rfl E d_L_law_1186 ?_
  refine wa_iload_n 3 rfl E d_L_law_1187 ?_
  refine wa_iconst 2 ic_2 E d_L_law_1188 ?_
  refine wa_iadd E d_L_law_1189 ?_
  obtain ⟨g_6, h⟩ := kf_gd h
  refine wa_sald k_v0 g_6 E d_L_law_1190 ?_
  refine wa_aload_n 0 rfl E d_L_law_1191 ?_
  refine wa_iload_n 3 rfl E d_L_law_1192 ?_
  refine wa_iconst 3 ic_3 E d_L_law_1193 ?_
  refine wa_iadd E d_L_law_1194 ?_
  obtain ⟨g_7, h⟩ := kf_gd h
  refine wa_sald k_v0 g_7 E d_L_law_1195 ?_
  obtain ⟨q_8, hq_8, h⟩ := kf_bd h
  refine wa_callV (st2 := [.int q_8.1, .int q_4.1]) (c_X12_then hty v2 (xs (Int32.toNatClampNeg (v3 + 1))) (xs (Int32.toNatClampNeg (v3 + 2))) (xs (Int32.toNatClampNeg (v3 + 3))) k_v2 q_4.2 hq_8) mv_X12_then ml_L_149 k_v2 rfl (Nat.le_of_ble_eq_true rfl) rfl (Nat.le_of_ble_eq_true rfl) E d_L_law_1196 rfl ?_
  refine wa_icmp_eq E d_L_law_1199 (fun c_9 => ?_) (fun c_9 => ?_)
  · replace h := kf_ift c_9 h
    exact b_L_law_1471 E hty hend hq1 hrec18 v0 v1 v2 v3 k_v0 k_v1 k_v2 q_8.2 h
  · replace h := kf_iff c_9 h
    refine wa_iconst 0 ic_0 E d_L_law_1202 ?_
    cases h
    exact absurd (show (0 : Int32) = 1 from hq1) (by decide)
def f_L_law_1204 (L : Nat) (xs : Nat → Int32) (rec18 : Nat → Nat → Nat → Int32 → kf_St → Option (Int32 × kf_St)) (v0 : Nat) (v1 : Nat) (v2 : Nat) (v3 : Int32) (σ : kf_St) : Option (Int32 × kf_St) :=
  if kf_ix (v3 + 1) L = true then
  if kf_ix (v3 + 2) L = true then
  (f_X11_busy v1 (xs (Int32.toNatClampNeg (v3 + 1))) (xs (Int32.toNatClampNeg (v3 + 2))) σ).bind fun q_3 =>
  if kf_ix (v3 + 1) L = true then
  if kf_ix (v3 + 2) L = true then
  (f_X12_busy v2 (xs (Int32.toNatClampNeg (v3 + 1))) (xs (Int32.toNatClampNeg (v3 + 2))) q_3.2).bind fun q_6 =>
  if q_3.1 = q_6.1 then
    f_L_law_1471 L xs rec18 v0 v1 v2 v3 q_6.2
  else
    some (0, q_6.2)
  else none
  else none
  else none
  else none
set_option maxRecDepth 100000 in
set_option maxHeartbeats 4000000 in
theorem b_L_law_1204 {X : kf_X} {G : kf_G} {Q : State → Prop} {L : Nat} {xs : Nat → Int32} {rec18 : Nat → Nat → Nat → Int32 → kf_St → Option (Int32 × kf_St)} {q : (Int32 × kf_St)} (E : kf_ok X G cL_law RL 4 (some .boolean) (42)) (hty : kf_wt G) (hend : ∀ {pc pc1 : Nat} (_ : kf_dq cL_law pc pc1 1 .ireturn) (lv : List (Nat × Value)) (σ : kf_St), kf_WA X G 4 Q pc lv [.int 1] σ) (hq1 : q.1 = 1) (hrec18 : ∀ (v0 : Nat) (v1 : Nat) (v2 : Nat) (v3 : Int32) (k_v0 : kf_scr X G v0 L xs) (k_v1 : kf_kd G v1 = 12) (k_v2 : kf_kd G v2 = 13) (σ : kf_St), rec18 v0 v1 v2 v3 σ = some q → kf_WA X G 4 Q 18 [(0, .ref v0), (1, .ref (kf_ad G v1)), (2, .ref (kf_ad G v2)), (3, .int v3)] [] σ) (v0 : Nat) (v1 : Nat) (v2 : Nat) (v3 : Int32) (k_v0 : kf_scr X G v0 L xs) (k_v1 : kf_kd G v1 = 12) (k_v2 : kf_kd G v2 = 13) (σ : kf_St) (h : f_L_law_1204 L xs rec18 v0 v1 v2 v3 σ = some q) : kf_WA X G 4 Q 1204 [(0, .ref v0), (1, .ref (kf_ad G v1)), (2, .ref (kf_ad G v2)), (3, .int v3)] [] σ := by
  unfold f_L_law_1204 at h
  refine wa_aload_n 1 rfl E d_L_law_1204 ?_
  refine wa_aload_n 0 rfl E d_L_law_1205 ?_
  refine wa_iload_n 3 rfl E d_L_law_1206 ?_
  refine wa_iconst 1 ic_1 E d_L_law_1207 ?_
  refine wa_iadd E d_L_law_1208 ?_
  obtain ⟨g_1, h⟩ := kf_gd h
  refine wa_sald k_v0 g_1 E d_L_law_1209 ?_
  refine wa_aload_n 0 rfl E d_L_law_1210 ?_
  refine wa_iload_n 3 rfl E d_L_law_1211 ?_
  refine wa_iconst 2 ic_2 E d_L_law_1212 ?_
  refine wa_iadd E d_L_law_1213 ?_
  obtain ⟨g_2, h⟩ := kf_gd h
  refine wa_sald k_v0 g_2 E d_L_law_1214 ?_
  obtain ⟨q_3, hq_3, h⟩ := kf_bd h
  refine wa_callV (st2 := [.int q_3.1]) (c_X11_busy hty v1 (xs (Int32.toNatClampNeg (v3 + 1))) (xs (Int32.toNatClampNeg (v3 + 2))) k_v1 σ hq_3) mv_X11_busy ml_L_150 k_v1 rfl (Nat.le_of_ble_eq_true rfl) rfl (Nat.le_of_ble_eq_true rfl) E d_L_law_1215 rfl ?_
  refine wa_aload_n 2 rfl E d_L_law_1218 ?_
  refine wa_aload_n 0 rfl E d_L_law_1219 ?_
  refine wa_iload_n 3 rfl E d_L_law_1220 ?_
  refine wa_iconst 1 ic_1 E d_L_law_1221 ?_
  refine wa_iadd E d_L_law_1222 ?_
  obtain ⟨g_4, h⟩ := kf_gd h
  refine wa_sald k_v0 g_4 E d_L_law_1223 ?_
  refine wa_aload_n 0 rfl E d_L_law_1224 ?_
  refine wa_iload_n 3 rfl E d_L_law_1225 ?_
  refine wa_iconst 2 ic_2 E d_L_law_1226 ?_
  refine wa_iadd E d_L_law_1227 ?_
  obtain ⟨g_5, h⟩ := kf_gd h
  refine wa_sald k_v0 g_5 E d_L_law_1228 ?_
  obtain ⟨q_6, hq_6, h⟩ := kf_bd h
  refine wa_callV (st2 := [.int q_6.1, .int q_3.1]) (c_X12_busy hty v2 (xs (Int32.toNatClampNeg (v3 + 1))) (xs (Int32.toNatClampNeg (v3 + 2))) k_v2 q_3.2 hq_6) mv_X12_busy ml_L_153 k_v2 rfl (Nat.le_of_ble_eq_true rfl) rfl (Nat.le_of_ble_eq_true rfl) E d_L_law_1229 rfl ?_
  refine wa_icmp_eq E d_L_law_1232 (fun c_7 => ?_) (fun c_7 => ?_)
  · replace h := kf_ift c_7 h
    exact b_L_law_1471 E hty hend hq1 hrec18 v0 v1 v2 v3 k_v0 k_v1 k_v2 q_6.2 h
  · replace h := kf_iff c_7 h
    refine wa_iconst 0 ic_0 E d_L_law_1235 ?_
    cases h
    exact absurd (show (0 : Int32) = 1 from hq1) (by decide)
def f_L_law_1237 (L : Nat) (xs : Nat → Int32) (rec18 : Nat → Nat → Nat → Int32 → kf_St → Option (Int32 × kf_St)) (v0 : Nat) (v1 : Nat) (v2 : Nat) (v3 : Int32) (σ : kf_St) : Option (Int32 × kf_St) :=
  if kf_ix (v3 + 1) L = true then
  if kf_ix (v3 + 2) L = true then
  if kf_ix (v3 + 3) L = true then
  if kf_ix (v3 + 4) L = true then
  (f_X11_year v1 (xs (Int32.toNatClampNeg (v3 + 1))) (xs (Int32.toNatClampNeg (v3 + 2))) (xs (Int32.toNatClampNeg (v3 + 3))) (xs (Int32.toNatClampNeg (v3 + 4))) σ).bind fun q_5 =>
  if kf_ix (v3 + 1) L = true then
  if kf_ix (v3 + 2) L = true then
  if kf_ix (v3 + 3) L = true then
  if kf_ix (v3 + 4) L = true then
  (f_X12_year v2 (xs (Int32.toNatClampNeg (v3 + 1))) (xs (Int32.toNatClampNeg (v3 + 2))) (xs (Int32.toNatClampNeg (v3 + 3))) (xs (Int32.toNatClampNeg (v3 + 4))) q_5.2).bind fun q_10 =>
  if q_5.1 = q_10.1 then
    f_L_law_1471 L xs rec18 v0 v1 v2 v3 q_10.2
  else
    some (0, q_10.2)
  else none
  else none
  else none
  else none
  else none
  else none
  else none
  else none
set_option maxRecDepth 100000 in
set_option maxHeartbeats 4000000 in
theorem b_L_law_1237 {X : kf_X} {G : kf_G} {Q : State → Prop} {L : Nat} {xs : Nat → Int32} {rec18 : Nat → Nat → Nat → Int32 → kf_St → Option (Int32 × kf_St)} {q : (Int32 × kf_St)} (E : kf_ok X G cL_law RL 4 (some .boolean) (42)) (hty : kf_wt G) (hend : ∀ {pc pc1 : Nat} (_ : kf_dq cL_law pc pc1 1 .ireturn) (lv : List (Nat × Value)) (σ : kf_St), kf_WA X G 4 Q pc lv [.int 1] σ) (hq1 : q.1 = 1) (hrec18 : ∀ (v0 : Nat) (v1 : Nat) (v2 : Nat) (v3 : Int32) (k_v0 : kf_scr X G v0 L xs) (k_v1 : kf_kd G v1 = 12) (k_v2 : kf_kd G v2 = 13) (σ : kf_St), rec18 v0 v1 v2 v3 σ = some q → kf_WA X G 4 Q 18 [(0, .ref v0), (1, .ref (kf_ad G v1)), (2, .ref (kf_ad G v2)), (3, .int v3)] [] σ) (v0 : Nat) (v1 : Nat) (v2 : Nat) (v3 : Int32) (k_v0 : kf_scr X G v0 L xs) (k_v1 : kf_kd G v1 = 12) (k_v2 : kf_kd G v2 = 13) (σ : kf_St) (h : f_L_law_1237 L xs rec18 v0 v1 v2 v3 σ = some q) : kf_WA X G 4 Q 1237 [(0, .ref v0), (1, .ref (kf_ad G v1)), (2, .ref (kf_ad G v2)), (3, .int v3)] [] σ := by
  unfold f_L_law_1237 at h
  refine wa_aload_n 1 rfl E d_L_law_1237 ?_
  refine wa_aload_n 0 rfl E d_L_law_1238 ?_
  refine wa_iload_n 3 rfl E d_L_law_1239 ?_
  refine wa_iconst 1 ic_1 E d_L_law_1240 ?_
  refine wa_iadd E d_L_law_1241 ?_
  obtain ⟨g_1, h⟩ := kf_gd h
  refine wa_sald k_v0 g_1 E d_L_law_1242 ?_
  refine wa_aload_n 0 rfl E d_L_law_1243 ?_
  refine wa_iload_n 3 rfl E d_L_law_1244 ?_
  refine wa_iconst 2 ic_2 E d_L_law_1245 ?_
  refine wa_iadd E d_L_law_1246 ?_
  obtain ⟨g_2, h⟩ := kf_gd h
  refine wa_sald k_v0 g_2 E d_L_law_1247 ?_
  refine wa_aload_n 0 rfl E d_L_law_1248 ?_
  refine wa_iload_n 3 rfl E d_L_law_1249 ?_
  refine wa_iconst 3 ic_3 E d_L_law_1250 ?_
  refine wa_iadd E d_L_law_1251 ?_
  obtain ⟨g_3, h⟩ := kf_gd h
  refine wa_sald k_v0 g_3 E d_L_law_1252 ?_
  refine wa_aload_n 0 rfl E d_L_law_1253 ?_
  refine wa_iload_n 3 rfl E d_L_law_1254 ?_
  refine wa_iconst 4 ic_4 E d_L_law_1255 ?_
  refine wa_iadd E d_L_law_1256 ?_
  obtain ⟨g_4, h⟩ := kf_gd h
  refine wa_sald k_v0 g_4 E d_L_law_1257 ?_
  obtain ⟨q_5, hq_5, h⟩ := kf_bd h
  refine wa_callV (st2 := [.int q_5.1]) (c_X11_year hty v1 (xs (Int32.toNatClampNeg (v3 + 1))) (xs (Int32.toNatClampNeg (v3 + 2))) (xs (Int32.toNatClampNeg (v3 + 3))) (xs (Int32.toNatClampNeg (v3 + 4))) k_v1 σ hq_5) mv_X11_year ml_L_154 k_v1 rfl (Nat.le_of_ble_eq_true rfl) rfl (Nat.le_of_ble_eq_true rfl) E d_L_law_1258 rfl ?_
  refine wa_aload_n 2 rfl E d_L_law_1261 ?_
  refine wa_aload_n 0 rfl E d_L_law_1262 ?_
  refine wa_iload_n 3 rfl E d_L_law_1263 ?_
  refine wa_iconst 1 ic_1 E d_L_law_1264 ?_
  refine wa_iadd E d_L_law_1265 ?_
  obtain ⟨g_6, h⟩ := kf_gd h
  refine wa_sald k_v0 g_6 E d_L_law_1266 ?_
  refine wa_aload_n 0 rfl E d_L_law_1267 ?_
  refine wa_iload_n 3 rfl E d_L_law_1268 ?_
  refine wa_iconst 2 ic_2 E d_L_law_1269 ?_
  refine wa_iadd E d_L_law_1270 ?_
  obtain ⟨g_7, h⟩ := kf_gd h
  refine wa_sald k_v0 g_7 E d_L_law_1271 ?_
  refine wa_aload_n 0 rfl E d_L_law_1272 ?_
  refine wa_iload_n 3 rfl E d_L_law_1273 ?_
  refine wa_iconst 3 ic_3 E d_L_law_1274 ?_
  refine wa_iadd E d_L_law_1275 ?_
  obtain ⟨g_8, h⟩ := kf_gd h
  refine wa_sald k_v0 g_8 E d_L_law_1276 ?_
  refine wa_aload_n 0 rfl E d_L_law_1277 ?_
  refine wa_iload_n 3 rfl E d_L_law_1278 ?_
  refine wa_iconst 4 ic_4 E d_L_law_1279 ?_
  refine wa_iadd E d_L_law_1280 ?_
  obtain ⟨g_9, h⟩ := kf_gd h
  refine wa_sald k_v0 g_9 E d_L_law_1281 ?_
  obtain ⟨q_10, hq_10, h⟩ := kf_bd h
  refine wa_callV (st2 := [.int q_10.1, .int q_5.1]) (c_X12_year hty v2 (xs (Int32.toNatClampNeg (v3 + 1))) (xs (Int32.toNatClampNeg (v3 + 2))) (xs (Int32.toNatClampNeg (v3 + 3))) (xs (Int32.toNatClampNeg (v3 + 4))) k_v2 q_5.2 hq_10) mv_X12_year ml_L_158 k_v2 rfl (Nat.le_of_ble_eq_true rfl) rfl (Nat.le_of_ble_eq_true rfl) E d_L_law_1282 rfl ?_
  refine wa_icmp_eq E d_L_law_1285 (fun c_11 => ?_) (fun c_11 => ?_)
  · replace h := kf_ift c_11 h
    exact b_L_law_1471 E hty hend hq1 hrec18 v0 v1 v2 v3 k_v0 k_v1 k_v2 q_10.2 h
  · replace h := kf_iff c_11 h
    refine wa_iconst 0 ic_0 E d_L_law_1288 ?_
    cases h
    exact absurd (show (0 : Int32) = 1 from hq1) (by decide)
def f_L_law_1290 (L : Nat) (xs : Nat → Int32) (rec18 : Nat → Nat → Nat → Int32 → kf_St → Option (Int32 × kf_St)) (v0 : Nat) (v1 : Nat) (v2 : Nat) (v3 : Int32) (σ : kf_St) : Option (Int32 × kf_St) :=
  if kf_ix (v3 + 1) L = true then
  if kf_ix (v3 + 2) L = true then
  if kf_ix (v3 + 3) L = true then
  (f_X11_tell v1 (xs (Int32.toNatClampNeg (v3 + 1))) (xs (Int32.toNatClampNeg (v3 + 2))) (xs (Int32.toNatClampNeg (v3 + 3))) σ).bind fun q_4 =>
  if kf_ix (v3 + 1) L = true then
  if kf_ix (v3 + 2) L = true then
  if kf_ix (v3 + 3) L = true then
  (f_X12_tell v2 (xs (Int32.toNatClampNeg (v3 + 1))) (xs (Int32.toNatClampNeg (v3 + 2))) (xs (Int32.toNatClampNeg (v3 + 3))) q_4.2).bind fun q_8 =>
  if q_4.1 = q_8.1 then
    f_L_law_1471 L xs rec18 v0 v1 v2 v3 q_8.2
  else
    some (0, q_8.2)
  else none
  else none
  else none
  else none
  else none
  else none
set_option maxRecDepth 100000 in
set_option maxHeartbeats 4000000 in
theorem b_L_law_1290 {X : kf_X} {G : kf_G} {Q : State → Prop} {L : Nat} {xs : Nat → Int32} {rec18 : Nat → Nat → Nat → Int32 → kf_St → Option (Int32 × kf_St)} {q : (Int32 × kf_St)} (E : kf_ok X G cL_law RL 4 (some .boolean) (42)) (hty : kf_wt G) (hend : ∀ {pc pc1 : Nat} (_ : kf_dq cL_law pc pc1 1 .ireturn) (lv : List (Nat × Value)) (σ : kf_St), kf_WA X G 4 Q pc lv [.int 1] σ) (hq1 : q.1 = 1) (hrec18 : ∀ (v0 : Nat) (v1 : Nat) (v2 : Nat) (v3 : Int32) (k_v0 : kf_scr X G v0 L xs) (k_v1 : kf_kd G v1 = 12) (k_v2 : kf_kd G v2 = 13) (σ : kf_St), rec18 v0 v1 v2 v3 σ = some q → kf_WA X G 4 Q 18 [(0, .ref v0), (1, .ref (kf_ad G v1)), (2, .ref (kf_ad G v2)), (3, .int v3)] [] σ) (v0 : Nat) (v1 : Nat) (v2 : Nat) (v3 : Int32) (k_v0 : kf_scr X G v0 L xs) (k_v1 : kf_kd G v1 = 12) (k_v2 : kf_kd G v2 = 13) (σ : kf_St) (h : f_L_law_1290 L xs rec18 v0 v1 v2 v3 σ = some q) : kf_WA X G 4 Q 1290 [(0, .ref v0), (1, .ref (kf_ad G v1)), (2, .ref (kf_ad G v2)), (3, .int v3)] [] σ := by
  unfold f_L_law_1290 at h
  refine wa_aload_n 1 rfl E d_L_law_1290 ?_
  refine wa_aload_n 0 rfl E d_L_law_1291 ?_
  refine wa_iload_n 3 rfl E d_L_law_1292 ?_
  refine wa_iconst 1 ic_1 E d_L_law_1293 ?_
  refine wa_iadd E d_L_law_1294 ?_
  obtain ⟨g_1, h⟩ := kf_gd h
  refine wa_sald k_v0 g_1 E d_L_law_1295 ?_
  refine wa_aload_n 0 rfl E d_L_law_1296 ?_
  refine wa_iload_n 3 rfl E d_L_law_1297 ?_
  refine wa_iconst 2 ic_2 E d_L_law_1298 ?_
  refine wa_iadd E d_L_law_1299 ?_
  obtain ⟨g_2, h⟩ := kf_gd h
  refine wa_sald k_v0 g_2 E d_L_law_1300 ?_
  refine wa_aload_n 0 rfl E d_L_law_1301 ?_
  refine wa_iload_n 3 rfl E d_L_law_1302 ?_
  refine wa_iconst 3 ic_3 E d_L_law_1303 ?_
  refine wa_iadd E d_L_law_1304 ?_
  obtain ⟨g_3, h⟩ := kf_gd h
  refine wa_sald k_v0 g_3 E d_L_law_1305 ?_
  obtain ⟨q_4, hq_4, h⟩ := kf_bd h
  refine wa_callV (st2 := [.int q_4.1]) (c_X11_tell hty v1 (xs (Int32.toNatClampNeg (v3 + 1))) (xs (Int32.toNatClampNeg (v3 + 2))) (xs (Int32.toNatClampNeg (v3 + 3))) k_v1 σ hq_4) mv_X11_tell ml_L_159 k_v1 rfl (Nat.le_of_ble_eq_true rfl) rfl (Nat.le_of_ble_eq_true rfl) E d_L_law_1306 rfl ?_
  refine wa_aload_n 2 rfl E d_L_law_1309 ?_
  refine wa_aload_n 0 rfl E d_L_law_1310 ?_
  refine wa_iload_n 3 rfl E d_L_law_1311 ?_
  refine wa_iconst 1 ic_1 E d_L_law_1312 ?_
  refine wa_iadd E d_L_law_1313 ?_
  obtain ⟨g_5, h⟩ := kf_gd h
  refine wa_sald k_v0 g_5 E d_L_law_1314 ?_
  refine wa_aload_n 0 rfl E d_L_law_1315 ?_
  refine wa_iload_n 3 rfl E d_L_law_1316 ?_
  refine wa_iconst 2 ic_2 E d_L_law_1317 ?_
  refine wa_iadd E d_L_law_1318 ?_
  obtain ⟨g_6, h⟩ := kf_gd h
  refine wa_sald k_v0 g_6 E d_L_law_1319 ?_
  refine wa_aload_n 0 rfl E d_L_law_1320 ?_
  refine wa_iload_n 3 rfl E d_L_law_1321 ?_
  refine wa_iconst 3 ic_3 E d_L_law_1322 ?_
  refine wa_iadd E d_L_law_1323 ?_
  obtain ⟨g_7, h⟩ := kf_gd h
  refine wa_sald k_v0 g_7 E d_L_law_1324 ?_
  obtain ⟨q_8, hq_8, h⟩ := kf_bd h
  refine wa_callV (st2 := [.int q_8.1, .int q_4.1]) (c_X12_tell hty v2 (xs (Int32.toNatClampNeg (v3 + 1))) (xs (Int32.toNatClampNeg (v3 + 2))) (xs (Int32.toNatClampNeg (v3 + 3))) k_v2 q_4.2 hq_8) mv_X12_tell ml_L_162 k_v2 rfl (Nat.le_of_ble_eq_true rfl) rfl (Nat.le_of_ble_eq_true rfl) E d_L_law_1325 rfl ?_
  refine wa_icmp_eq E d_L_law_1328 (fun c_9 => ?_) (fun c_9 => ?_)
  · replace h := kf_ift c_9 h
    exact b_L_law_1471 E hty hend hq1 hrec18 v0 v1 v2 v3 k_v0 k_v1 k_v2 q_8.2 h
  · replace h := kf_iff c_9 h
    refine wa_iconst 0 ic_0 E d_L_law_1331 ?_
    cases h
    exact absurd (show (0 : Int32) = 1 from hq1) (by decide)
def f_L_law_1333 (L : Nat) (xs : Nat → Int32) (rec18 : Nat → Nat → Nat → Int32 → kf_St → Option (Int32 × kf_St)) (v0 : Nat) (v1 : Nat) (v2 : Nat) (v3 : Int32) (σ : kf_St) : Option (Int32 × kf_St) :=
  (f_X11_forget v1 σ).bind fun q_1 =>
  (f_X12_forget v2 q_1.2).bind fun q_2 =>
  if q_1.1 = q_2.1 then
    f_L_law_1471 L xs rec18 v0 v1 v2 v3 q_2.2
  else
    some (0, q_2.2)
set_option maxRecDepth 100000 in
set_option maxHeartbeats 4000000 in
theorem b_L_law_1333 {X : kf_X} {G : kf_G} {Q : State → Prop} {L : Nat} {xs : Nat → Int32} {rec18 : Nat → Nat → Nat → Int32 → kf_St → Option (Int32 × kf_St)} {q : (Int32 × kf_St)} (E : kf_ok X G cL_law RL 4 (some .boolean) (42)) (hty : kf_wt G) (hend : ∀ {pc pc1 : Nat} (_ : kf_dq cL_law pc pc1 1 .ireturn) (lv : List (Nat × Value)) (σ : kf_St), kf_WA X G 4 Q pc lv [.int 1] σ) (hq1 : q.1 = 1) (hrec18 : ∀ (v0 : Nat) (v1 : Nat) (v2 : Nat) (v3 : Int32) (k_v0 : kf_scr X G v0 L xs) (k_v1 : kf_kd G v1 = 12) (k_v2 : kf_kd G v2 = 13) (σ : kf_St), rec18 v0 v1 v2 v3 σ = some q → kf_WA X G 4 Q 18 [(0, .ref v0), (1, .ref (kf_ad G v1)), (2, .ref (kf_ad G v2)), (3, .int v3)] [] σ) (v0 : Nat) (v1 : Nat) (v2 : Nat) (v3 : Int32) (k_v0 : kf_scr X G v0 L xs) (k_v1 : kf_kd G v1 = 12) (k_v2 : kf_kd G v2 = 13) (σ : kf_St) (h : f_L_law_1333 L xs rec18 v0 v1 v2 v3 σ = some q) : kf_WA X G 4 Q 1333 [(0, .ref v0), (1, .ref (kf_ad G v1)), (2, .ref (kf_ad G v2)), (3, .int v3)] [] σ := by
  unfold f_L_law_1333 at h
  refine wa_aload_n 1 rfl E d_L_law_1333 ?_
  obtain ⟨q_1, hq_1, h⟩ := kf_bd h
  refine wa_callV (st2 := [.int q_1.1]) (c_X11_forget hty v1 k_v1 σ hq_1) mv_X11_forget ml_L_163 k_v1 rfl (Nat.le_of_ble_eq_true rfl) rfl (Nat.le_of_ble_eq_true rfl) E d_L_law_1334 rfl ?_
  refine wa_aload_n 2 rfl E d_L_law_1337 ?_
  obtain ⟨q_2, hq_2, h⟩ := kf_bd h
  refine wa_callV (st2 := [.int q_2.1, .int q_1.1]) (c_X12_forget hty v2 k_v2 q_1.2 hq_2) mv_X12_forget ml_L_166 k_v2 rfl (Nat.le_of_ble_eq_true rfl) rfl (Nat.le_of_ble_eq_true rfl) E d_L_law_1338 rfl ?_
  refine wa_icmp_eq E d_L_law_1341 (fun c_3 => ?_) (fun c_3 => ?_)
  · replace h := kf_ift c_3 h
    exact b_L_law_1471 E hty hend hq1 hrec18 v0 v1 v2 v3 k_v0 k_v1 k_v2 q_2.2 h
  · replace h := kf_iff c_3 h
    refine wa_iconst 0 ic_0 E d_L_law_1344 ?_
    cases h
    exact absurd (show (0 : Int32) = 1 from hq1) (by decide)
def f_L_law_1346 (L : Nat) (xs : Nat → Int32) (rec18 : Nat → Nat → Nat → Int32 → kf_St → Option (Int32 × kf_St)) (v0 : Nat) (v1 : Nat) (v2 : Nat) (v3 : Int32) (σ : kf_St) : Option (Int32 × kf_St) :=
  if kf_ix (v3 + 1) L = true then
  if kf_ix (v3 + 2) L = true then
  (f_X11_who v1 (xs (Int32.toNatClampNeg (v3 + 1))) (xs (Int32.toNatClampNeg (v3 + 2))) σ).bind fun q_3 =>
  if kf_ix (v3 + 1) L = true then
  if kf_ix (v3 + 2) L = true then
  (f_X12_who v2 (xs (Int32.toNatClampNeg (v3 + 1))) (xs (Int32.toNatClampNeg (v3 + 2))) q_3.2).bind fun q_6 =>
  if q_3.1 = q_6.1 then
    f_L_law_1471 L xs rec18 v0 v1 v2 v3 q_6.2
  else
    some (0, q_6.2)
  else none
  else none
  else none
  else none
set_option maxRecDepth 100000 in
set_option maxHeartbeats 4000000 in
theorem b_L_law_1346 {X : kf_X} {G : kf_G} {Q : State → Prop} {L : Nat} {xs : Nat → Int32} {rec18 : Nat → Nat → Nat → Int32 → kf_St → Option (Int32 × kf_St)} {q : (Int32 × kf_St)} (E : kf_ok X G cL_law RL 4 (some .boolean) (42)) (hty : kf_wt G) (hend : ∀ {pc pc1 : Nat} (_ : kf_dq cL_law pc pc1 1 .ireturn) (lv : List (Nat × Value)) (σ : kf_St), kf_WA X G 4 Q pc lv [.int 1] σ) (hq1 : q.1 = 1) (hrec18 : ∀ (v0 : Nat) (v1 : Nat) (v2 : Nat) (v3 : Int32) (k_v0 : kf_scr X G v0 L xs) (k_v1 : kf_kd G v1 = 12) (k_v2 : kf_kd G v2 = 13) (σ : kf_St), rec18 v0 v1 v2 v3 σ = some q → kf_WA X G 4 Q 18 [(0, .ref v0), (1, .ref (kf_ad G v1)), (2, .ref (kf_ad G v2)), (3, .int v3)] [] σ) (v0 : Nat) (v1 : Nat) (v2 : Nat) (v3 : Int32) (k_v0 : kf_scr X G v0 L xs) (k_v1 : kf_kd G v1 = 12) (k_v2 : kf_kd G v2 = 13) (σ : kf_St) (h : f_L_law_1346 L xs rec18 v0 v1 v2 v3 σ = some q) : kf_WA X G 4 Q 1346 [(0, .ref v0), (1, .ref (kf_ad G v1)), (2, .ref (kf_ad G v2)), (3, .int v3)] [] σ := by
  unfold f_L_law_1346 at h
  refine wa_aload_n 1 rfl E d_L_law_1346 ?_
  refine wa_aload_n 0 rfl E d_L_law_1347 ?_
  refine wa_iload_n 3 rfl E d_L_law_1348 ?_
  refine wa_iconst 1 ic_1 E d_L_law_1349 ?_
  refine wa_iadd E d_L_law_1350 ?_
  obtain ⟨g_1, h⟩ := kf_gd h
  refine wa_sald k_v0 g_1 E d_L_law_1351 ?_
  refine wa_aload_n 0 rfl E d_L_law_1352 ?_
  refine wa_iload_n 3 rfl E d_L_law_1353 ?_
  refine wa_iconst 2 ic_2 E d_L_law_1354 ?_
  refine wa_iadd E d_L_law_1355 ?_
  obtain ⟨g_2, h⟩ := kf_gd h
  refine wa_sald k_v0 g_2 E d_L_law_1356 ?_
  obtain ⟨q_3, hq_3, h⟩ := kf_bd h
  refine wa_callV (st2 := [.int q_3.1]) (c_X11_who hty v1 (xs (Int32.toNatClampNeg (v3 + 1))) (xs (Int32.toNatClampNeg (v3 + 2))) k_v1 σ hq_3) mv_X11_who ml_L_167 k_v1 rfl (Nat.le_of_ble_eq_true rfl) rfl (Nat.le_of_ble_eq_true rfl) E d_L_law_1357 rfl ?_
  refine wa_aload_n 2 rfl E d_L_law_1360 ?_
  refine wa_aload_n 0 rfl E d_L_law_1361 ?_
  refine wa_iload_n 3 rfl E d_L_law_1362 ?_
  refine wa_iconst 1 ic_1 E d_L_law_1363 ?_
  refine wa_iadd E d_L_law_1364 ?_
  obtain ⟨g_4, h⟩ := kf_gd h
  refine wa_sald k_v0 g_4 E d_L_law_1365 ?_
  refine wa_aload_n 0 rfl E d_L_law_1366 ?_
  refine wa_iload_n 3 rfl E d_L_law_1367 ?_
  refine wa_iconst 2 ic_2 E d_L_law_1368 ?_
  refine wa_iadd E d_L_law_1369 ?_
  obtain ⟨g_5, h⟩ := kf_gd h
  refine wa_sald k_v0 g_5 E d_L_law_1370 ?_
  obtain ⟨q_6, hq_6, h⟩ := kf_bd h
  refine wa_callV (st2 := [.int q_6.1, .int q_3.1]) (c_X12_who hty v2 (xs (Int32.toNatClampNeg (v3 + 1))) (xs (Int32.toNatClampNeg (v3 + 2))) k_v2 q_3.2 hq_6) mv_X12_who ml_L_170 k_v2 rfl (Nat.le_of_ble_eq_true rfl) rfl (Nat.le_of_ble_eq_true rfl) E d_L_law_1371 rfl ?_
  refine wa_icmp_eq E d_L_law_1374 (fun c_7 => ?_) (fun c_7 => ?_)
  · replace h := kf_ift c_7 h
    exact b_L_law_1471 E hty hend hq1 hrec18 v0 v1 v2 v3 k_v0 k_v1 k_v2 q_6.2 h
  · replace h := kf_iff c_7 h
    refine wa_iconst 0 ic_0 E d_L_law_1377 ?_
    cases h
    exact absurd (show (0 : Int32) = 1 from hq1) (by decide)
def f_L_law_1379 (L : Nat) (xs : Nat → Int32) (rec18 : Nat → Nat → Nat → Int32 → kf_St → Option (Int32 × kf_St)) (v0 : Nat) (v1 : Nat) (v2 : Nat) (v3 : Int32) (σ : kf_St) : Option (Int32 × kf_St) :=
  if kf_ix (v3 + 1) L = true then
  (f_X11_ask v1 (xs (Int32.toNatClampNeg (v3 + 1))) σ).bind fun q_2 =>
  if kf_ix (v3 + 1) L = true then
  (f_X12_ask v2 (xs (Int32.toNatClampNeg (v3 + 1))) q_2.2).bind fun q_4 =>
  if q_2.1 = q_4.1 then
    f_L_law_1471 L xs rec18 v0 v1 v2 v3 q_4.2
  else
    some (0, q_4.2)
  else none
  else none
set_option maxRecDepth 100000 in
set_option maxHeartbeats 4000000 in
theorem b_L_law_1379 {X : kf_X} {G : kf_G} {Q : State → Prop} {L : Nat} {xs : Nat → Int32} {rec18 : Nat → Nat → Nat → Int32 → kf_St → Option (Int32 × kf_St)} {q : (Int32 × kf_St)} (E : kf_ok X G cL_law RL 4 (some .boolean) (42)) (hty : kf_wt G) (hend : ∀ {pc pc1 : Nat} (_ : kf_dq cL_law pc pc1 1 .ireturn) (lv : List (Nat × Value)) (σ : kf_St), kf_WA X G 4 Q pc lv [.int 1] σ) (hq1 : q.1 = 1) (hrec18 : ∀ (v0 : Nat) (v1 : Nat) (v2 : Nat) (v3 : Int32) (k_v0 : kf_scr X G v0 L xs) (k_v1 : kf_kd G v1 = 12) (k_v2 : kf_kd G v2 = 13) (σ : kf_St), rec18 v0 v1 v2 v3 σ = some q → kf_WA X G 4 Q 18 [(0, .ref v0), (1, .ref (kf_ad G v1)), (2, .ref (kf_ad G v2)), (3, .int v3)] [] σ) (v0 : Nat) (v1 : Nat) (v2 : Nat) (v3 : Int32) (k_v0 : kf_scr X G v0 L xs) (k_v1 : kf_kd G v1 = 12) (k_v2 : kf_kd G v2 = 13) (σ : kf_St) (h : f_L_law_1379 L xs rec18 v0 v1 v2 v3 σ = some q) : kf_WA X G 4 Q 1379 [(0, .ref v0), (1, .ref (kf_ad G v1)), (2, .ref (kf_ad G v2)), (3, .int v3)] [] σ := by
  unfold f_L_law_1379 at h
  refine wa_aload_n 1 rfl E d_L_law_1379 ?_
  refine wa_aload_n 0 rfl E d_L_law_1380 ?_
  refine wa_iload_n 3 rfl E d_L_law_1381 ?_
  refine wa_iconst 1 ic_1 E d_L_law_1382 ?_
  refine wa_iadd E d_L_law_1383 ?_
  obtain ⟨g_1, h⟩ := kf_gd h
  refine wa_sald k_v0 g_1 E d_L_law_1384 ?_
  obtain ⟨q_2, hq_2, h⟩ := kf_bd h
  refine wa_callV (st2 := [.int q_2.1]) (c_X11_ask hty v1 (xs (Int32.toNatClampNeg (v3 + 1))) k_v1 σ hq_2) mv_X11_ask ml_L_171 k_v1 rfl (Nat.le_of_ble_eq_true rfl) rfl (Nat.le_of_ble_eq_true rfl) E d_L_law_1385 rfl ?_
  refine wa_aload_n 2 rfl E d_L_law_1388 ?_
  refine wa_aload_n 0 rfl E d_L_law_1389 ?_
  refine wa_iload_n 3 rfl E d_L_law_1390 ?_
  refine wa_iconst 1 ic_1 E d_L_law_1391 ?_
  refine wa_iadd E d_L_law_1392 ?_
  obtain ⟨g_3, h⟩ := kf_gd h
  refine wa_sald k_v0 g_3 E d_L_law_1393 ?_
  obtain ⟨q_4, hq_4, h⟩ := kf_bd h
  refine wa_callV (st2 := [.int q_4.1, .int q_2.1]) (c_X12_ask hty v2 (xs (Int32.toNatClampNeg (v3 + 1))) k_v2 q_2.2 hq_4) mv_X12_ask ml_L_174 k_v2 rfl (Nat.le_of_ble_eq_true rfl) rfl (Nat.le_of_ble_eq_true rfl) E d_L_law_1394 rfl ?_
  refine wa_icmp_eq E d_L_law_1397 (fun c_5 => ?_) (fun c_5 => ?_)
  · replace h := kf_ift c_5 h
    exact b_L_law_1471 E hty hend hq1 hrec18 v0 v1 v2 v3 k_v0 k_v1 k_v2 q_4.2 h
  · replace h := kf_iff c_5 h
    refine wa_iconst 0 ic_0 E d_L_law_1400 ?_
    cases h
    exact absurd (show (0 : Int32) = 1 from hq1) (by decide)
def f_L_law_1402 (L : Nat) (xs : Nat → Int32) (rec18 : Nat → Nat → Nat → Int32 → kf_St → Option (Int32 × kf_St)) (v0 : Nat) (v1 : Nat) (v2 : Nat) (v3 : Int32) (σ : kf_St) : Option (Int32 × kf_St) :=
  if kf_ix (v3 + 1) L = true then
  (f_X11_hold v1 (xs (Int32.toNatClampNeg (v3 + 1))) σ).bind fun q_2 =>
  if kf_ix (v3 + 1) L = true then
  (f_X12_hold v2 (xs (Int32.toNatClampNeg (v3 + 1))) q_2.2).bind fun q_4 =>
  if q_2.1 = q_4.1 then
    f_L_law_1471 L xs rec18 v0 v1 v2 v3 q_4.2
  else
    some (0, q_4.2)
  else none
  else none
set_option maxRecDepth 100000 in
set_option maxHeartbeats 4000000 in
theorem b_L_law_1402 {X : kf_X} {G : kf_G} {Q : State → Prop} {L : Nat} {xs : Nat → Int32} {rec18 : Nat → Nat → Nat → Int32 → kf_St → Option (Int32 × kf_St)} {q : (Int32 × kf_St)} (E : kf_ok X G cL_law RL 4 (some .boolean) (42)) (hty : kf_wt G) (hend : ∀ {pc pc1 : Nat} (_ : kf_dq cL_law pc pc1 1 .ireturn) (lv : List (Nat × Value)) (σ : kf_St), kf_WA X G 4 Q pc lv [.int 1] σ) (hq1 : q.1 = 1) (hrec18 : ∀ (v0 : Nat) (v1 : Nat) (v2 : Nat) (v3 : Int32) (k_v0 : kf_scr X G v0 L xs) (k_v1 : kf_kd G v1 = 12) (k_v2 : kf_kd G v2 = 13) (σ : kf_St), rec18 v0 v1 v2 v3 σ = some q → kf_WA X G 4 Q 18 [(0, .ref v0), (1, .ref (kf_ad G v1)), (2, .ref (kf_ad G v2)), (3, .int v3)] [] σ) (v0 : Nat) (v1 : Nat) (v2 : Nat) (v3 : Int32) (k_v0 : kf_scr X G v0 L xs) (k_v1 : kf_kd G v1 = 12) (k_v2 : kf_kd G v2 = 13) (σ : kf_St) (h : f_L_law_1402 L xs rec18 v0 v1 v2 v3 σ = some q) : kf_WA X G 4 Q 1402 [(0, .ref v0), (1, .ref (kf_ad G v1)), (2, .ref (kf_ad G v2)), (3, .int v3)] [] σ := by
  unfold f_L_law_1402 at h
  refine wa_aload_n 1 rfl E d_L_law_1402 ?_
  refine wa_aload_n 0 rfl E d_L_law_1403 ?_
  refine wa_iload_n 3 rfl E d_L_law_1404 ?_
  refine wa_iconst 1 ic_1 E d_L_law_1405 ?_
  refine wa_iadd E d_L_law_1406 ?_
  obtain ⟨g_1, h⟩ := kf_gd h
  refine wa_sald k_v0 g_1 E d_L_law_1407 ?_
  obtain ⟨q_2, hq_2, h⟩ := kf_bd h
  refine wa_callV (st2 := [.int q_2.1]) (c_X11_hold hty v1 (xs (Int32.toNatClampNeg (v3 + 1))) k_v1 σ hq_2) mv_X11_hold ml_L_175 k_v1 rfl (Nat.le_of_ble_eq_true rfl) rfl (Nat.le_of_ble_eq_true rfl) E d_L_law_1408 rfl ?_
  refine wa_aload_n 2 rfl E d_L_law_1411 ?_
  refine wa_aload_n 0 rfl E d_L_law_1412 ?_
  refine wa_iload_n 3 rfl E d_L_law_1413 ?_
  refine wa_iconst 1 ic_1 E d_L_law_1414 ?_
  refine wa_iadd E d_L_law_1415 ?_
  obtain ⟨g_3, h⟩ := kf_gd h
  refine wa_sald k_v0 g_3 E d_L_law_1416 ?_
  obtain ⟨q_4, hq_4, h⟩ := kf_bd h
  refine wa_callV (st2 := [.int q_4.1, .int q_2.1]) (c_X12_hold hty v2 (xs (Int32.toNatClampNeg (v3 + 1))) k_v2 q_2.2 hq_4) mv_X12_hold ml_L_178 k_v2 rfl (Nat.le_of_ble_eq_true rfl) rfl (Nat.le_of_ble_eq_true rfl) E d_L_law_1417 rfl ?_
  refine wa_icmp_eq E d_L_law_1420 (fun c_5 => ?_) (fun c_5 => ?_)
  · replace h := kf_ift c_5 h
    exact b_L_law_1471 E hty hend hq1 hrec18 v0 v1 v2 v3 k_v0 k_v1 k_v2 q_4.2 h
  · replace h := kf_iff c_5 h
    refine wa_iconst 0 ic_0 E d_L_law_1423 ?_
    cases h
    exact absurd (show (0 : Int32) = 1 from hq1) (by decide)
def f_L_law_1425 (L : Nat) (xs : Nat → Int32) (rec18 : Nat → Nat → Nat → Int32 → kf_St → Option (Int32 × kf_St)) (v0 : Nat) (v1 : Nat) (v2 : Nat) (v3 : Int32) (σ : kf_St) : Option (Int32 × kf_St) :=
  if kf_ix (v3 + 1) L = true then
  (f_X11_restore v1 (xs (Int32.toNatClampNeg (v3 + 1))) σ).bind fun q_2 =>
  if kf_ix (v3 + 1) L = true then
  (f_X12_restore v2 (xs (Int32.toNatClampNeg (v3 + 1))) q_2.2).bind fun q_4 =>
  if q_2.1 = q_4.1 then
    f_L_law_1471 L xs rec18 v0 v1 v2 v3 q_4.2
  else
    some (0, q_4.2)
  else none
  else none
set_option maxRecDepth 100000 in
set_option maxHeartbeats 4000000 in
theorem b_L_law_1425 {X : kf_X} {G : kf_G} {Q : State → Prop} {L : Nat} {xs : Nat → Int32} {rec18 : Nat → Nat → Nat → Int32 → kf_St → Option (Int32 × kf_St)} {q : (Int32 × kf_St)} (E : kf_ok X G cL_law RL 4 (some .boolean) (42)) (hty : kf_wt G) (hend : ∀ {pc pc1 : Nat} (_ : kf_dq cL_law pc pc1 1 .ireturn) (lv : List (Nat × Value)) (σ : kf_St), kf_WA X G 4 Q pc lv [.int 1] σ) (hq1 : q.1 = 1) (hrec18 : ∀ (v0 : Nat) (v1 : Nat) (v2 : Nat) (v3 : Int32) (k_v0 : kf_scr X G v0 L xs) (k_v1 : kf_kd G v1 = 12) (k_v2 : kf_kd G v2 = 13) (σ : kf_St), rec18 v0 v1 v2 v3 σ = some q → kf_WA X G 4 Q 18 [(0, .ref v0), (1, .ref (kf_ad G v1)), (2, .ref (kf_ad G v2)), (3, .int v3)] [] σ) (v0 : Nat) (v1 : Nat) (v2 : Nat) (v3 : Int32) (k_v0 : kf_scr X G v0 L xs) (k_v1 : kf_kd G v1 = 12) (k_v2 : kf_kd G v2 = 13) (σ : kf_St) (h : f_L_law_1425 L xs rec18 v0 v1 v2 v3 σ = some q) : kf_WA X G 4 Q 1425 [(0, .ref v0), (1, .ref (kf_ad G v1)), (2, .ref (kf_ad G v2)), (3, .int v3)] [] σ := by
  unfold f_L_law_1425 at h
  refine wa_aload_n 1 rfl E d_L_law_1425 ?_
  refine wa_aload_n 0 rfl E d_L_law_1426 ?_
  refine wa_iload_n 3 rfl E d_L_law_1427 ?_
  refine wa_iconst 1 ic_1 E d_L_law_1428 ?_
  refine wa_iadd E d_L_law_1429 ?_
  obtain ⟨g_1, h⟩ := kf_gd h
  refine wa_sald k_v0 g_1 E d_L_law_1430 ?_
  obtain ⟨q_2, hq_2, h⟩ := kf_bd h
  refine wa_callV (st2 := [.int q_2.1]) (c_X11_restore hty v1 (xs (Int32.toNatClampNeg (v3 + 1))) k_v1 σ hq_2) mv_X11_restore ml_L_179 k_v1 rfl (Nat.le_of_ble_eq_true rfl) rfl (Nat.le_of_ble_eq_true rfl) E d_L_law_1431 rfl ?_
  refine wa_aload_n 2 rfl E d_L_law_1434 ?_
  refine wa_aload_n 0 rfl E d_L_law_1435 ?_
  refine wa_iload_n 3 rfl E d_L_law_1436 ?_
  refine wa_iconst 1 ic_1 E d_L_law_1437 ?_
  refine wa_iadd E d_L_law_1438 ?_
  obtain ⟨g_3, h⟩ := kf_gd h
  refine wa_sald k_v0 g_3 E d_L_law_1439 ?_
  obtain ⟨q_4, hq_4, h⟩ := kf_bd h
  refine wa_callV (st2 := [.int q_4.1, .int q_2.1]) (c_X12_restore hty v2 (xs (Int32.toNatClampNeg (v3 + 1))) k_v2 q_2.2 hq_4) mv_X12_restore ml_L_182 k_v2 rfl (Nat.le_of_ble_eq_true rfl) rfl (Nat.le_of_ble_eq_true rfl) E d_L_law_1440 rfl ?_
  refine wa_icmp_eq E d_L_law_1443 (fun c_5 => ?_) (fun c_5 => ?_)
  · replace h := kf_ift c_5 h
    exact b_L_law_1471 E hty hend hq1 hrec18 v0 v1 v2 v3 k_v0 k_v1 k_v2 q_4.2 h
  · replace h := kf_iff c_5 h
    refine wa_iconst 0 ic_0 E d_L_law_1446 ?_
    cases h
    exact absurd (show (0 : Int32) = 1 from hq1) (by decide)
def f_L_law_1448 (L : Nat) (xs : Nat → Int32) (rec18 : Nat → Nat → Nat → Int32 → kf_St → Option (Int32 × kf_St)) (v0 : Nat) (v1 : Nat) (v2 : Nat) (v3 : Int32) (σ : kf_St) : Option (Int32 × kf_St) :=
  if kf_ix (v3 + 1) L = true then
  (f_X11_count v1 (xs (Int32.toNatClampNeg (v3 + 1))) σ).bind fun q_2 =>
  if kf_ix (v3 + 1) L = true then
  (f_X12_count v2 (xs (Int32.toNatClampNeg (v3 + 1))) q_2.2).bind fun q_4 =>
  if q_2.1 = q_4.1 then
    f_L_law_1471 L xs rec18 v0 v1 v2 v3 q_4.2
  else
    some (0, q_4.2)
  else none
  else none
set_option maxRecDepth 100000 in
set_option maxHeartbeats 4000000 in
theorem b_L_law_1448 {X : kf_X} {G : kf_G} {Q : State → Prop} {L : Nat} {xs : Nat → Int32} {rec18 : Nat → Nat → Nat → Int32 → kf_St → Option (Int32 × kf_St)} {q : (Int32 × kf_St)} (E : kf_ok X G cL_law RL 4 (some .boolean) (42)) (hty : kf_wt G) (hend : ∀ {pc pc1 : Nat} (_ : kf_dq cL_law pc pc1 1 .ireturn) (lv : List (Nat × Value)) (σ : kf_St), kf_WA X G 4 Q pc lv [.int 1] σ) (hq1 : q.1 = 1) (hrec18 : ∀ (v0 : Nat) (v1 : Nat) (v2 : Nat) (v3 : Int32) (k_v0 : kf_scr X G v0 L xs) (k_v1 : kf_kd G v1 = 12) (k_v2 : kf_kd G v2 = 13) (σ : kf_St), rec18 v0 v1 v2 v3 σ = some q → kf_WA X G 4 Q 18 [(0, .ref v0), (1, .ref (kf_ad G v1)), (2, .ref (kf_ad G v2)), (3, .int v3)] [] σ) (v0 : Nat) (v1 : Nat) (v2 : Nat) (v3 : Int32) (k_v0 : kf_scr X G v0 L xs) (k_v1 : kf_kd G v1 = 12) (k_v2 : kf_kd G v2 = 13) (σ : kf_St) (h : f_L_law_1448 L xs rec18 v0 v1 v2 v3 σ = some q) : kf_WA X G 4 Q 1448 [(0, .ref v0), (1, .ref (kf_ad G v1)), (2, .ref (kf_ad G v2)), (3, .int v3)] [] σ := by
  unfold f_L_law_1448 at h
  refine wa_aload_n 1 rfl E d_L_law_1448 ?_
  refine wa_aload_n 0 rfl E d_L_law_1449 ?_
  refine wa_iload_n 3 rfl E d_L_law_1450 ?_
  refine wa_iconst 1 ic_1 E d_L_law_1451 ?_
  refine wa_iadd E d_L_law_1452 ?_
  obtain ⟨g_1, h⟩ := kf_gd h
  refine wa_sald k_v0 g_1 E d_L_law_1453 ?_
  obtain ⟨q_2, hq_2, h⟩ := kf_bd h
  refine wa_callV (st2 := [.int q_2.1]) (c_X11_count hty v1 (xs (Int32.toNatClampNeg (v3 + 1))) k_v1 σ hq_2) mv_X11_count ml_L_183 k_v1 rfl (Nat.le_of_ble_eq_true rfl) rfl (Nat.le_of_ble_eq_true rfl) E d_L_law_1454 rfl ?_
  refine wa_aload_n 2 rfl E d_L_law_1457 ?_
  refine wa_aload_n 0 rfl E d_L_law_1458 ?_
  refine wa_iload_n 3 rfl E d_L_law_1459 ?_
  refine wa_iconst 1 ic_1 E d_L_law_1460 ?_
  refine wa_iadd E d_L_law_1461 ?_
  obtain ⟨g_3, h⟩ := kf_gd h
  refine wa_sald k_v0 g_3 E d_L_law_1462 ?_
  obtain ⟨q_4, hq_4, h⟩ := kf_bd h
  refine wa_callV (st2 := [.int q_4.1, .int q_2.1]) (c_X12_count hty v2 (xs (Int32.toNatClampNeg (v3 + 1))) k_v2 q_2.2 hq_4) mv_X12_count ml_L_186 k_v2 rfl (Nat.le_of_ble_eq_true rfl) rfl (Nat.le_of_ble_eq_true rfl) E d_L_law_1463 rfl ?_
  refine wa_icmp_eq E d_L_law_1466 (fun c_5 => ?_) (fun c_5 => ?_)
  · replace h := kf_ift c_5 h
    exact b_L_law_1471 E hty hend hq1 hrec18 v0 v1 v2 v3 k_v0 k_v1 k_v2 q_4.2 h
  · replace h := kf_iff c_5 h
    refine wa_iconst 0 ic_0 E d_L_law_1469 ?_
    cases h
    exact absurd (show (0 : Int32) = 1 from hq1) (by decide)
def f_L_law_18_s (L : Nat) (xs : Nat → Int32) (rec18 : Nat → Nat → Nat → Int32 → kf_St → Option (Int32 × kf_St)) (v0 : Nat) (v1 : Nat) (v2 : Nat) (v3 : Int32) (σ : kf_St) : Option (Int32 × kf_St) :=
  if ((nI L) - 6) < v3 then
    some (1, σ)
  else
    if kf_ix v3 L = true then
    if ((xs (Int32.toNatClampNeg v3)) &&& 63) = 0 then
      f_L_law_212 L xs rec18 v0 v1 v2 v3 σ
    else
      if ((xs (Int32.toNatClampNeg v3)) &&& 63) = 1 then
        f_L_law_275 L xs rec18 v0 v1 v2 v3 σ
      else
        if ((xs (Int32.toNatClampNeg v3)) &&& 63) = 2 then
          f_L_law_298 L xs rec18 v0 v1 v2 v3 σ
        else
          if ((xs (Int32.toNatClampNeg v3)) &&& 63) = 3 then
            f_L_law_311 L xs rec18 v0 v1 v2 v3 σ
          else
            if ((xs (Int32.toNatClampNeg v3)) &&& 63) = 4 then
              f_L_law_324 L xs rec18 v0 v1 v2 v3 σ
            else
              if ((xs (Int32.toNatClampNeg v3)) &&& 63) = 5 then
                f_L_law_357 L xs rec18 v0 v1 v2 v3 σ
              else
                if ((xs (Int32.toNatClampNeg v3)) &&& 63) = 6 then
                  f_L_law_390 L xs rec18 v0 v1 v2 v3 σ
                else
                  if ((xs (Int32.toNatClampNeg v3)) &&& 63) = 7 then
                    f_L_law_423 L xs rec18 v0 v1 v2 v3 σ
                  else
                    if ((xs (Int32.toNatClampNeg v3)) &&& 63) = 8 then
                      f_L_law_456 L xs rec18 v0 v1 v2 v3 σ
                    else
                      if ((xs (Int32.toNatClampNeg v3)) &&& 63) = 9 then
                        f_L_law_499 L xs rec18 v0 v1 v2 v3 σ
                      else
                        if ((xs (Int32.toNatClampNeg v3)) &&& 63) = 10 then
                          f_L_law_532 L xs rec18 v0 v1 v2 v3 σ
                        else
                          if ((xs (Int32.toNatClampNeg v3)) &&& 63) = 11 then
                            f_L_law_555 L xs rec18 v0 v1 v2 v3 σ
                          else
                            if ((xs (Int32.toNatClampNeg v3)) &&& 63) = 12 then
                              f_L_law_588 L xs rec18 v0 v1 v2 v3 σ
                            else
                              if ((xs (Int32.toNatClampNeg v3)) &&& 63) = 13 then
                                f_L_law_637 L xs rec18 v0 v1 v2 v3 σ
                              else
                                if ((xs (Int32.toNatClampNeg v3)) &&& 63) = 14 then
                                  f_L_law_660 L xs rec18 v0 v1 v2 v3 σ
                                else
                                  if ((xs (Int32.toNatClampNeg v3)) &&& 63) = 15 then
                                    f_L_law_673 L xs rec18 v0 v1 v2 v3 σ
                                  else
                                    if ((xs (Int32.toNatClampNeg v3)) &&& 63) = 16 then
                                      f_L_law_716 L xs rec18 v0 v1 v2 v3 σ
                                    else
                                      if ((xs (Int32.toNatClampNeg v3)) &&& 63) = 17 then
                                        f_L_law_759 L xs rec18 v0 v1 v2 v3 σ
                                      else
                                        if ((xs (Int32.toNatClampNeg v3)) &&& 63) = 18 then
                                          f_L_law_792 L xs rec18 v0 v1 v2 v3 σ
                                        else
                                          if ((xs (Int32.toNatClampNeg v3)) &&& 63) = 19 then
                                            f_L_law_815 L xs rec18 v0 v1 v2 v3 σ
                                          else
                                            if ((xs (Int32.toNatClampNeg v3)) &&& 63) = 20 then
                                              f_L_law_838 L xs rec18 v0 v1 v2 v3 σ
                                            else
                                              if ((xs (Int32.toNatClampNeg v3)) &&& 63) = 21 then
                                                f_L_law_861 L xs rec18 v0 v1 v2 v3 σ
                                              else
                                                if ((xs (Int32.toNatClampNeg v3)) &&& 63) = 22 then
                                                  f_L_law_884 L xs rec18 v0 v1 v2 v3 σ
                                                else
                                                  if ((xs (Int32.toNatClampNeg v3)) &&& 63) = 23 then
                                                    f_L_law_917 L xs rec18 v0 v1 v2 v3 σ
                                                  else
                                                    if ((xs (Int32.toNatClampNeg v3)) &&& 63) = 24 then
                                                      f_L_law_950 L xs rec18 v0 v1 v2 v3 σ
                                                    else
                                                      if ((xs (Int32.toNatClampNeg v3)) &&& 63) = 25 then
                                                        f_L_law_973 L xs rec18 v0 v1 v2 v3 σ
                                                      else
                                                        if ((xs (Int32.toNatClampNeg v3)) &&& 63) = 26 then
                                                          f_L_law_1006 L xs rec18 v0 v1 v2 v3 σ
                                                        else
                                                          if ((xs (Int32.toNatClampNeg v3)) &&& 63) = 27 then
                                                            f_L_law_1039 L xs rec18 v0 v1 v2 v3 σ
                                                          else
                                                            if ((xs (Int32.toNatClampNeg v3)) &&& 63) = 28 then
                                                              f_L_law_1072 L xs rec18 v0 v1 v2 v3 σ
                                                            else
                                                              if ((xs (Int32.toNatClampNeg v3)) &&& 63) = 29 then
                                                                f_L_law_1105 L xs rec18 v0 v1 v2 v3 σ
                                                              else
                                                                if ((xs (Int32.toNatClampNeg v3)) &&& 63) = 30 then
                                                                  f_L_law_1138 L xs rec18 v0 v1 v2 v3 σ
                                                                else
                                                                  if ((xs (Int32.toNatClampNeg v3)) &&& 63) = 31 then
                                                                    f_L_law_1161 L xs rec18 v0 v1 v2 v3 σ
                                                                  else
                                                                    if ((xs (Int32.toNatClampNeg v3)) &&& 63) = 32 then
                                                                      f_L_law_1204 L xs rec18 v0 v1 v2 v3 σ
                                                                    else
                                                                      if ((xs (Int32.toNatClampNeg v3)) &&& 63) = 33 then
                                                                        f_L_law_1237 L xs rec18 v0 v1 v2 v3 σ
                                                                      else
                                                                        if ((xs (Int32.toNatClampNeg v3)) &&& 63) = 34 then
                                                                          f_L_law_1290 L xs rec18 v0 v1 v2 v3 σ
                                                                        else
                                                                          if ((xs (Int32.toNatClampNeg v3)) &&& 63) = 35 then
                                                                            f_L_law_1333 L xs rec18 v0 v1 v2 v3 σ
                                                                          else
                                                                            if ((xs (Int32.toNatClampNeg v3)) &&& 63) = 36 then
                                                                              f_L_law_1346 L xs rec18 v0 v1 v2 v3 σ
                                                                            else
                                                                              if ((xs (Int32.toNatClampNeg v3)) &&& 63) = 37 then
                                                                                f_L_law_1379 L xs rec18 v0 v1 v2 v3 σ
                                                                              else
                                                                                if ((xs (Int32.toNatClampNeg v3)) &&& 63) = 38 then
                                                                                  f_L_law_1402 L xs rec18 v0 v1 v2 v3 σ
                                                                                else
                                                                                  if ((xs (Int32.toNatClampNeg v3)) &&& 63) = 39 then
                                                                                    f_L_law_1425 L xs rec18 v0 v1 v2 v3 σ
                                                                                  else
                                                                                    if ((xs (Int32.toNatClampNeg v3)) &&& 63) = 40 then
                                                                                      f_L_law_1448 L xs rec18 v0 v1 v2 v3 σ
                                                                                    else
                                                                                      f_L_law_1471 L xs rec18 v0 v1 v2 v3 σ
    else none
def f_L_law_18 (L : Nat) (xs : Nat → Int32) : Nat → Nat → Nat → Nat → Int32 → kf_St → Option (Int32 × kf_St)
  | 0, _, _, _, _, _ => none
  | n + 1, v0, v1, v2, v3, σ => f_L_law_18_s L xs (f_L_law_18 L xs n) v0 v1 v2 v3 σ
set_option maxRecDepth 100000 in
set_option maxHeartbeats 4000000 in
theorem b_L_law_18_s {X : kf_X} {G : kf_G} {Q : State → Prop} {L : Nat} {xs : Nat → Int32} (rec18 : Nat → Nat → Nat → Int32 → kf_St → Option (Int32 × kf_St)) {q : (Int32 × kf_St)} (E : kf_ok X G cL_law RL 4 (some .boolean) (42)) (hty : kf_wt G) (hend : ∀ {pc pc1 : Nat} (_ : kf_dq cL_law pc pc1 1 .ireturn) (lv : List (Nat × Value)) (σ : kf_St), kf_WA X G 4 Q pc lv [.int 1] σ) (hq1 : q.1 = 1) (hrec18 : ∀ (v0 : Nat) (v1 : Nat) (v2 : Nat) (v3 : Int32) (k_v0 : kf_scr X G v0 L xs) (k_v1 : kf_kd G v1 = 12) (k_v2 : kf_kd G v2 = 13) (σ : kf_St), rec18 v0 v1 v2 v3 σ = some q → kf_WA X G 4 Q 18 [(0, .ref v0), (1, .ref (kf_ad G v1)), (2, .ref (kf_ad G v2)), (3, .int v3)] [] σ) (v0 : Nat) (v1 : Nat) (v2 : Nat) (v3 : Int32) (k_v0 : kf_scr X G v0 L xs) (k_v1 : kf_kd G v1 = 12) (k_v2 : kf_kd G v2 = 13) (σ : kf_St) (h : f_L_law_18_s L xs rec18 v0 v1 v2 v3 σ = some q) : kf_WA X G 4 Q 18 [(0, .ref v0), (1, .ref (kf_ad G v1)), (2, .ref (kf_ad G v2)), (3, .int v3)] [] σ := by
  unfold f_L_law_18_s at h
  refine wa_iload_n 3 rfl E d_L_law_18 ?_
  refine wa_aload_n 0 rfl E d_L_law_19 ?_
  refine wa_slen k_v0 E d_L_law_20 ?_
  refine wa_bipush 6 bp_6 E d_L_law_21 ?_
  refine wa_isub E d_L_law_23 ?_
  refine wa_icmp_gt E d_L_law_24 (fun c_1 => ?_) (fun c_1 => ?_)
  · replace h := kf_ift c_1 h
    refine wa_iconst 1 ic_1 E d_L_law_1477 ?_
    cases h
    exact hend d_L_law_1478 _ σ
  · replace h := kf_iff c_1 h
    refine wa_aload_n 0 rfl E d_L_law_27 ?_
    refine wa_iload_n 3 rfl E d_L_law_28 ?_
    obtain ⟨g_2, h⟩ := kf_gd h
    refine wa_sald k_v0 g_2 E d_L_law_29 ?_
    refine wa_bipush 63 bp_63 E d_L_law_30 ?_
    refine wa_iand E d_L_law_32 ?_
    by_cases c_3 : ((xs (Int32.toNatClampNeg v3)) &&& 63) = 0
    · replace h := kf_ift c_3 h
      refine wa_tabIn (off := 179) (tgt := 212) (by rw [c_3]; decide) (by rw [c_3]; decide) (by rw [c_3]; rfl) (by decide) E d_L_law_33 ?_
      exact b_L_law_212 E hty hend hq1 hrec18 v0 v1 v2 v3 k_v0 k_v1 k_v2 σ h
    · replace h := kf_iff c_3 h
      by_cases c_4 : ((xs (Int32.toNatClampNeg v3)) &&& 63) = 1
      · replace h := kf_ift c_4 h
        refine wa_tabIn (off := 242) (tgt := 275) (by rw [c_4]; decide) (by rw [c_4]; decide) (by rw [c_4]; rfl) (by decide) E d_L_law_33 ?_
        exact b_L_law_275 E hty hend hq1 hrec18 v0 v1 v2 v3 k_v0 k_v1 k_v2 σ h
      · replace h := kf_iff c_4 h
        by_cases c_5 : ((xs (Int32.toNatClampNeg v3)) &&& 63) = 2
        · replace h := kf_ift c_5 h
          refine wa_tabIn (off := 265) (tgt := 298) (by rw [c_5]; decide) (by rw [c_5]; decide) (by rw [c_5]; rfl) (by decide) E d_L_law_33 ?_
          exact b_L_law_298 E hty hend hq1 hrec18 v0 v1 v2 v3 k_v0 k_v1 k_v2 σ h
        · replace h := kf_iff c_5 h
          by_cases c_6 : ((xs (Int32.toNatClampNeg v3)) &&& 63) = 3
          · replace h := kf_ift c_6 h
            refine wa_tabIn (off := 278) (tgt := 311) (by rw [c_6]; decide) (by rw [c_6]; decide) (by rw [c_6]; rfl) (by decide) E d_L_law_33 ?_
            exact b_L_law_311 E hty hend hq1 hrec18 v0 v1 v2 v3 k_v0 k_v1 k_v2 σ h
          · replace h := kf_iff c_6 h
            by_cases c_7 : ((xs (Int32.toNatClampNeg v3)) &&& 63) = 4
            · replace h := kf_ift c_7 h
              refine wa_tabIn (off := 291) (tgt := 324) (by rw [c_7]; decide) (by rw [c_7]; decide) (by rw [c_7]; rfl) (by decide) E d_L_law_33 ?_
              exact b_L_law_324 E hty hend hq1 hrec18 v0 v1 v2 v3 k_v0 k_v1 k_v2 σ h
            · replace h := kf_iff c_7 h
              by_cases c_8 : ((xs (Int32.toNatClampNeg v3)) &&& 63) = 5
              · replace h := kf_ift c_8 h
                refine wa_tabIn (off := 324) (tgt := 357) (by rw [c_8]; decide) (by rw [c_8]; decide) (by rw [c_8]; rfl) (by decide) E d_L_law_33 ?_
                exact b_L_law_357 E hty hend hq1 hrec18 v0 v1 v2 v3 k_v0 k_v1 k_v2 σ h
              · replace h := kf_iff c_8 h
                by_cases c_9 : ((xs (Int32.toNatClampNeg v3)) &&& 63) = 6
                · replace h := kf_ift c_9 h
                  refine wa_tabIn (off := 357) (tgt := 390) (by rw [c_9]; decide) (by rw [c_9]; decide) (by rw [c_9]; rfl) (by decide) E d_L_law_33 ?_
                  exact b_L_law_390 E hty hend hq1 hrec18 v0 v1 v2 v3 k_v0 k_v1 k_v2 σ h
                · replace h := kf_iff c_9 h
                  by_cases c_10 : ((xs (Int32.toNatClampNeg v3)) &&& 63) = 7
                  · replace h := kf_ift c_10 h
                    refine wa_tabIn (off := 390) (tgt := 423) (by rw [c_10]; decide) (by rw [c_10]; decide) (by rw [c_10]; rfl) (by decide) E d_L_law_33 ?_
                    exact b_L_law_423 E hty hend hq1 hrec18 v0 v1 v2 v3 k_v0 k_v1 k_v2 σ h
                  · replace h := kf_iff c_10 h
                    by_cases c_11 : ((xs (Int32.toNatClampNeg v3)) &&& 63) = 8
                    · replace h := kf_ift c_11 h
                      refine wa_tabIn (off := 423) (tgt := 456) (by rw [c_11]; decide) (by rw [c_11]; decide) (by rw [c_11]; rfl) (by decide) E d_L_law_33 ?_
                      exact b_L_law_456 E hty hend hq1 hrec18 v0 v1 v2 v3 k_v0 k_v1 k_v2 σ h
                    · replace h := kf_iff c_11 h
                      by_cases c_12 : ((xs (Int32.toNatClampNeg v3)) &&& 63) = 9
                      · replace h := kf_ift c_12 h
                        refine wa_tabIn (off := 466) (tgt := 499) (by rw [c_12]; decide) (by rw [c_12]; decide) (by rw [c_12]; rfl) (by decide) E d_L_law_33 ?_
                        exact b_L_law_499 E hty hend hq1 hrec18 v0 v1 v2 v3 k_v0 k_v1 k_v2 σ h
                      · replace h := kf_iff c_12 h
                        by_cases c_13 : ((xs (Int32.toNatClampNeg v3)) &&& 63) = 10
                        · replace h := kf_ift c_13 h
                          refine wa_tabIn (off := 499) (tgt := 532) (by rw [c_13]; decide) (by rw [c_13]; decide) (by rw [c_13]; rfl) (by decide) E d_L_law_33 ?_
                          exact b_L_law_532 E hty hend hq1 hrec18 v0 v1 v2 v3 k_v0 k_v1 k_v2 σ h
                        · replace h := kf_iff c_13 h
                          by_cases c_14 : ((xs (Int32.toNatClampNeg v3)) &&& 63) = 11
                          · replace h := kf_ift c_14 h
                            refine wa_tabIn (off := 522) (tgt := 555) (by rw [c_14]; decide) (by rw [c_14]; decide) (by rw [c_14]; rfl) (by decide) E d_L_law_33 ?_
                            exact b_L_law_555 E hty hend hq1 hrec18 v0 v1 v2 v3 k_v0 k_v1 k_v2 σ h
                          · replace h := kf_iff c_14 h
                            by_cases c_15 : ((xs (Int32.toNatClampNeg v3)) &&& 63) = 12
                            · replace h := kf_ift c_15 h
                              refine wa_tabIn (off := 555) (tgt := 588) (by rw [c_15]; decide) (by rw [c_15]; decide) (by rw [c_15]; rfl) (by decide) E d_L_law_33 ?_
                              exact b_L_law_588 E hty hend hq1 hrec18 v0 v1 v2 v3 k_v0 k_v1 k_v2 σ h
                            · replace h := kf_iff c_15 h
                              by_cases c_16 : ((xs (Int32.toNatClampNeg v3)) &&& 63) = 13
                              · replace h := kf_ift c_16 h
                                refine wa_tabIn (off := 604) (tgt := 637) (by rw [c_16]; decide) (by rw [c_16]; decide) (by rw [c_16]; rfl) (by decide) E d_L_law_33 ?_
                                exact b_L_law_637 E hty hend hq1 hrec18 v0 v1 v2 v3 k_v0 k_v1 k_v2 σ h
                              · replace h := kf_iff c_16 h
                                by_cases c_17 : ((xs (Int32.toNatClampNeg v3)) &&& 63) = 14
                                · replace h := kf_ift c_17 h
                                  refine wa_tabIn (off := 627) (tgt := 660) (by rw [c_17]; decide) (by rw [c_17]; decide) (by rw [c_17]; rfl) (by decide) E d_L_law_33 ?_
                                  exact b_L_law_660 E hty hend hq1 hrec18 v0 v1 v2 v3 k_v0 k_v1 k_v2 σ h
                                · replace h := kf_iff c_17 h
                                  by_cases c_18 : ((xs (Int32.toNatClampNeg v3)) &&& 63) = 15
                                  · replace h := kf_ift c_18 h
                                    refine wa_tabIn (off := 640) (tgt := 673) (by rw [c_18]; decide) (by rw [c_18]; decide) (by rw [c_18]; rfl) (by decide) E d_L_law_33 ?_
                                    exact b_L_law_673 E hty hend hq1 hrec18 v0 v1 v2 v3 k_v0 k_v1 k_v2 σ h
                                  · replace h := kf_iff c_18 h
                                    by_cases c_19 : ((xs (Int32.toNatClampNeg v3)) &&& 63) = 16
                                    · replace h := kf_ift c_19 h
                                      refine wa_tabIn (off := 683) (tgt := 716) (by rw [c_19]; decide) (by rw [c_19]; decide) (by rw [c_19]; rfl) (by decide) E d_L_law_33 ?_
                                      exact b_L_law_716 E hty hend hq1 hrec18 v0 v1 v2 v3 k_v0 k_v1 k_v2 σ h
                                    · replace h := kf_iff c_19 h
                                      by_cases c_20 : ((xs (Int32.toNatClampNeg v3)) &&& 63) = 17
                                      · replace h := kf_ift c_20 h
                                        refine wa_tabIn (off := 726) (tgt := 759) (by rw [c_20]; decide) (by rw [c_20]; decide) (by rw [c_20]; rfl) (by decide) E d_L_law_33 ?_
                                        exact b_L_law_759 E hty hend hq1 hrec18 v0 v1 v2 v3 k_v0 k_v1 k_v2 σ h
                                      · replace h := kf_iff c_20 h
                                        by_cases c_21 : ((xs (Int32.toNatClampNeg v3)) &&& 63) = 18
                                        · replace h := kf_ift c_21 h
                                          refine wa_tabIn (off := 759) (tgt := 792) (by rw [c_21]; decide) (by rw [c_21]; decide) (by rw [c_21]; rfl) (by decide) E d_L_law_33 ?_
                                          exact b_L_law_792 E hty hend hq1 hrec18 v0 v1 v2 v3 k_v0 k_v1 k_v2 σ h
                                        · replace h := kf_iff c_21 h
                                          by_cases c_22 : ((xs (Int32.toNatClampNeg v3)) &&& 63) = 19
                                          · replace h := kf_ift c_22 h
                                            refine wa_tabIn (off := 782) (tgt := 815) (by rw [c_22]; decide) (by rw [c_22]; decide) (by rw [c_22]; rfl) (by decide) E d_L_law_33 ?_
                                            exact b_L_law_815 E hty hend hq1 hrec18 v0 v1 v2 v3 k_v0 k_v1 k_v2 σ h
                                          · replace h := kf_iff c_22 h
                                            by_cases c_23 : ((xs (Int32.toNatClampNeg v3)) &&& 63) = 20
                                            · replace h := kf_ift c_23 h
                                              refine wa_tabIn (off := 805) (tgt := 838) (by rw [c_23]; decide) (by rw [c_23]; decide) (by rw [c_23]; rfl) (by decide) E d_L_law_33 ?_
                                              exact b_L_law_838 E hty hend hq1 hrec18 v0 v1 v2 v3 k_v0 k_v1 k_v2 σ h
                                            · replace h := kf_iff c_23 h
                                              by_cases c_24 : ((xs (Int32.toNatClampNeg v3)) &&& 63) = 21
                                              · replace h := kf_ift c_24 h
                                                refine wa_tabIn (off := 828) (tgt := 861) (by rw [c_24]; decide) (by rw [c_24]; decide) (by rw [c_24]; rfl) (by decide) E d_L_law_33 ?_
                                                exact b_L_law_861 E hty hend hq1 hrec18 v0 v1 v2 v3 k_v0 k_v1 k_v2 σ h
                                              · replace h := kf_iff c_24 h
                                                by_cases c_25 : ((xs (Int32.toNatClampNeg v3)) &&& 63) = 22
                                                · replace h := kf_ift c_25 h
                                                  refine wa_tabIn (off := 851) (tgt := 884) (by rw [c_25]; decide) (by rw [c_25]; decide) (by rw [c_25]; rfl) (by decide) E d_L_law_33 ?_
                                                  exact b_L_law_884 E hty hend hq1 hrec18 v0 v1 v2 v3 k_v0 k_v1 k_v2 σ h
                                                · replace h := kf_iff c_25 h
                                                  by_cases c_26 : ((xs (Int32.toNatClampNeg v3)) &&& 63) = 23
                                                  · replace h := kf_ift c_26 h
                                                    refine wa_tabIn (off := 884) (tgt := 917) (by rw [c_26]; decide) (by rw [c_26]; decide) (by rw [c_26]; rfl) (by decide) E d_L_law_33 ?_
                                                    exact b_L_law_917 E hty hend hq1 hrec18 v0 v1 v2 v3 k_v0 k_v1 k_v2 σ h
                                                  · replace h := kf_iff c_26 h
                                                    by_cases c_27 : ((xs (Int32.toNatClampNeg v3)) &&& 63) = 24
                                                    · replace h := kf_ift c_27 h
                                                      refine wa_tabIn (off := 917) (tgt := 950) (by rw [c_27]; decide) (by rw [c_27]; decide) (by rw [c_27]; rfl) (by decide) E d_L_law_33 ?_
                                                      exact b_L_law_950 E hty hend hq1 hrec18 v0 v1 v2 v3 k_v0 k_v1 k_v2 σ h
                                                    · replace h := kf_iff c_27 h
                                                      by_cases c_28 : ((xs (Int32.toNatClampNeg v3)) &&& 63) = 25
                                                      · replace h := kf_ift c_28 h
                                                        refine wa_tabIn (off := 940) (tgt := 973) (by rw [c_28]; decide) (by rw [c_28]; decide) (by rw [c_28]; rfl) (by decide) E d_L_law_33 ?_
                                                        exact b_L_law_973 E hty hend hq1 hrec18 v0 v1 v2 v3 k_v0 k_v1 k_v2 σ h
                                                      · replace h := kf_iff c_28 h
                                                        by_cases c_29 : ((xs (Int32.toNatClampNeg v3)) &&& 63) = 26
                                                        · replace h := kf_ift c_29 h
                                                          refine wa_tabIn (off := 973) (tgt := 1006) (by rw [c_29]; decide) (by rw [c_29]; decide) (by rw [c_29]; rfl) (by decide) E d_L_law_33 ?_
                                                          exact b_L_law_1006 E hty hend hq1 hrec18 v0 v1 v2 v3 k_v0 k_v1 k_v2 σ h
                                                        · replace h := kf_iff c_29 h
                                                          by_cases c_30 : ((xs (Int32.toNatClampNeg v3)) &&& 63) = 27
                                                          · replace h := kf_ift c_30 h
                                                            refine wa_tabIn (off := 1006) (tgt := 1039) (by rw [c_30]; decide) (by rw [c_30]; decide) (by rw [c_30]; rfl) (by decide) E d_L_law_33 ?_
                                                            exact b_L_law_1039 E hty hend hq1 hrec18 v0 v1 v2 v3 k_v0 k_v1 k_v2 σ h
                                                          · replace h := kf_iff c_30 h
                                                            by_cases c_31 : ((xs (Int32.toNatClampNeg v3)) &&& 63) = 28
                                                            · replace h := kf_ift c_31 h
                                                              refine wa_tabIn (off := 1039) (tgt := 1072) (by rw [c_31]; decide) (by rw [c_31]; decide) (by rw [c_31]; rfl) (by decide) E d_L_law_33 ?_
                                                              exact b_L_law_1072 E hty hend hq1 hrec18 v0 v1 v2 v3 k_v0 k_v1 k_v2 σ h
                                                            · replace h := kf_iff c_31 h
                                                              by_cases c_32 : ((xs (Int32.toNatClampNeg v3)) &&& 63) = 29
                                                              · replace h := kf_ift c_32 h
                                                                refine wa_tabIn (off := 1072) (tgt := 1105) (by rw [c_32]; decide) (by rw [c_32]; decide) (by rw [c_32]; rfl) (by decide) E d_L_law_33 ?_
                                                                exact b_L_law_1105 E hty hend hq1 hrec18 v0 v1 v2 v3 k_v0 k_v1 k_v2 σ h
                                                              · replace h := kf_iff c_32 h
                                                                by_cases c_33 : ((xs (Int32.toNatClampNeg v3)) &&& 63) = 30
                                                                · replace h := kf_ift c_33 h
                                                                  refine wa_tabIn (off := 1105) (tgt := 1138) (by rw [c_33]; decide) (by rw [c_33]; decide) (by rw [c_33]; rfl) (by decide) E d_L_law_33 ?_
                                                                  exact b_L_law_1138 E hty hend hq1 hrec18 v0 v1 v2 v3 k_v0 k_v1 k_v2 σ h
                                                                · replace h := kf_iff c_33 h
                                                                  by_cases c_34 : ((xs (Int32.toNatClampNeg v3)) &&& 63) = 31
                                                                  · replace h := kf_ift c_34 h
                                                                    refine wa_tabIn (off := 1128) (tgt := 1161) (by rw [c_34]; decide) (by rw [c_34]; decide) (by rw [c_34]; rfl) (by decide) E d_L_law_33 ?_
                                                                    exact b_L_law_1161 E hty hend hq1 hrec18 v0 v1 v2 v3 k_v0 k_v1 k_v2 σ h
                                                                  · replace h := kf_iff c_34 h
                                                                    by_cases c_35 : ((xs (Int32.toNatClampNeg v3)) &&& 63) = 32
                                                                    · replace h := kf_ift c_35 h
                                                                      refine wa_tabIn (off := 1171) (tgt := 1204) (by rw [c_35]; decide) (by rw [c_35]; decide) (by rw [c_35]; rfl) (by decide) E d_L_law_33 ?_
                                                                      exact b_L_law_1204 E hty hend hq1 hrec18 v0 v1 v2 v3 k_v0 k_v1 k_v2 σ h
                                                                    · replace h := kf_iff c_35 h
                                                                      by_cases c_36 : ((xs (Int32.toNatClampNeg v3)) &&& 63) = 33
                                                                      · replace h := kf_ift c_36 h
                                                                        refine wa_tabIn (off := 1204) (tgt := 1237) (by rw [c_36]; decide) (by rw [c_36]; decide) (by rw [c_36]; rfl) (by decide) E d_L_law_33 ?_
                                                                        exact b_L_law_1237 E hty hend hq1 hrec18 v0 v1 v2 v3 k_v0 k_v1 k_v2 σ h
                                                                      · replace h := kf_iff c_36 h
                                                                        by_cases c_37 : ((xs (Int32.toNatClampNeg v3)) &&& 63) = 34
                                                                        · replace h := kf_ift c_37 h
                                                                          refine wa_tabIn (off := 1257) (tgt := 1290) (by rw [c_37]; decide) (by rw [c_37]; decide) (by rw [c_37]; rfl) (by decide) E d_L_law_33 ?_
                                                                          exact b_L_law_1290 E hty hend hq1 hrec18 v0 v1 v2 v3 k_v0 k_v1 k_v2 σ h
                                                                        · replace h := kf_iff c_37 h
                                                                          by_cases c_38 : ((xs (Int32.toNatClampNeg v3)) &&& 63) = 35
                                                                          · replace h := kf_ift c_38 h
                                                                            refine wa_tabIn (off := 1300) (tgt := 1333) (by rw [c_38]; decide) (by rw [c_38]; decide) (by rw [c_38]; rfl) (by decide) E d_L_law_33 ?_
                                                                            exact b_L_law_1333 E hty hend hq1 hrec18 v0 v1 v2 v3 k_v0 k_v1 k_v2 σ h
                                                                          · replace h := kf_iff c_38 h
                                                                            by_cases c_39 : ((xs (Int32.toNatClampNeg v3)) &&& 63) = 36
                                                                            · replace h := kf_ift c_39 h
                                                                              refine wa_tabIn (off := 1313) (tgt := 1346) (by rw [c_39]; decide) (by rw [c_39]; decide) (by rw [c_39]; rfl) (by decide) E d_L_law_33 ?_
                                                                              exact b_L_law_1346 E hty hend hq1 hrec18 v0 v1 v2 v3 k_v0 k_v1 k_v2 σ h
                                                                            · replace h := kf_iff c_39 h
                                                                              by_cases c_40 : ((xs (Int32.toNatClampNeg v3)) &&& 63) = 37
                                                                              · replace h := kf_ift c_40 h
                                                                                refine wa_tabIn (off := 1346) (tgt := 1379) (by rw [c_40]; decide) (by rw [c_40]; decide) (by rw [c_40]; rfl) (by decide) E d_L_law_33 ?_
                                                                                exact b_L_law_1379 E hty hend hq1 hrec18 v0 v1 v2 v3 k_v0 k_v1 k_v2 σ h
                                                                              · replace h := kf_iff c_40 h
                                                                                by_cases c_41 : ((xs (Int32.toNatClampNeg v3)) &&& 63) = 38
                                                                                · replace h := kf_ift c_41 h
                                                                                  refine wa_tabIn (off := 1369) (tgt := 1402) (by rw [c_41]; decide) (by rw [c_41]; decide) (by rw [c_41]; rfl) (by decide) E d_L_law_33 ?_
                                                                                  exact b_L_law_1402 E hty hend hq1 hrec18 v0 v1 v2 v3 k_v0 k_v1 k_v2 σ h
                                                                                · replace h := kf_iff c_41 h
                                                                                  by_cases c_42 : ((xs (Int32.toNatClampNeg v3)) &&& 63) = 39
                                                                                  · replace h := kf_ift c_42 h
                                                                                    refine wa_tabIn (off := 1392) (tgt := 1425) (by rw [c_42]; decide) (by rw [c_42]; decide) (by rw [c_42]; rfl) (by decide) E d_L_law_33 ?_
                                                                                    exact b_L_law_1425 E hty hend hq1 hrec18 v0 v1 v2 v3 k_v0 k_v1 k_v2 σ h
                                                                                  · replace h := kf_iff c_42 h
                                                                                    by_cases c_43 : ((xs (Int32.toNatClampNeg v3)) &&& 63) = 40
                                                                                    · replace h := kf_ift c_43 h
                                                                                      refine wa_tabIn (off := 1415) (tgt := 1448) (by rw [c_43]; decide) (by rw [c_43]; decide) (by rw [c_43]; rfl) (by decide) E d_L_law_33 ?_
                                                                                      exact b_L_law_1448 E hty hend hq1 hrec18 v0 v1 v2 v3 k_v0 k_v1 k_v2 σ h
                                                                                    · replace h := kf_iff c_43 h
                                                                                      refine wa_tabOut (tgt := 1471) (kf_out [0, 1, 2, 3, 4, 5, 6, 7, 8, 9, 10, 11, 12, 13, 14, 15, 16, 17, 18, 19, 20, 21, 22, 23, 24, 25, 26, 27, 28, 29, 30, 31, 32, 33, 34, 35, 36, 37, 38, 39, 40] (by decide +kernel) (List.forall_mem_cons.mpr ⟨c_3, List.forall_mem_cons.mpr ⟨c_4, List.forall_mem_cons.mpr ⟨c_5, List.forall_mem_cons.mpr ⟨c_6, List.forall_mem_cons.mpr ⟨c_7, List.forall_mem_cons.mpr ⟨c_8, List.forall_mem_cons.mpr ⟨c_9, List.forall_mem_cons.mpr ⟨c_10, List.forall_mem_cons.mpr ⟨c_11, List.forall_mem_cons.mpr ⟨c_12, List.forall_mem_cons.mpr ⟨c_13, List.forall_mem_cons.mpr ⟨c_14, List.forall_mem_cons.mpr ⟨c_15, List.forall_mem_cons.mpr ⟨c_16, List.forall_mem_cons.mpr ⟨c_17, List.forall_mem_cons.mpr ⟨c_18, List.forall_mem_cons.mpr ⟨c_19, List.forall_mem_cons.mpr ⟨c_20, List.forall_mem_cons.mpr ⟨c_21, List.forall_mem_cons.mpr ⟨c_22, List.forall_mem_cons.mpr ⟨c_23, List.forall_mem_cons.mpr ⟨c_24, List.forall_mem_cons.mpr ⟨c_25, List.forall_mem_cons.mpr ⟨c_26, List.forall_mem_cons.mpr ⟨c_27, List.forall_mem_cons.mpr ⟨c_28, List.forall_mem_cons.mpr ⟨c_29, List.forall_mem_cons.mpr ⟨c_30, List.forall_mem_cons.mpr ⟨c_31, List.forall_mem_cons.mpr ⟨c_32, List.forall_mem_cons.mpr ⟨c_33, List.forall_mem_cons.mpr ⟨c_34, List.forall_mem_cons.mpr ⟨c_35, List.forall_mem_cons.mpr ⟨c_36, List.forall_mem_cons.mpr ⟨c_37, List.forall_mem_cons.mpr ⟨c_38, List.forall_mem_cons.mpr ⟨c_39, List.forall_mem_cons.mpr ⟨c_40, List.forall_mem_cons.mpr ⟨c_41, List.forall_mem_cons.mpr ⟨c_42, List.forall_mem_cons.mpr ⟨c_43, fun _ h => absurd h List.not_mem_nil⟩⟩⟩⟩⟩⟩⟩⟩⟩⟩⟩⟩⟩⟩⟩⟩⟩⟩⟩⟩⟩⟩⟩⟩⟩⟩⟩⟩⟩⟩⟩⟩⟩⟩⟩⟩⟩⟩⟩⟩⟩)) (by decide) E d_L_law_33 ?_
                                                                                      exact b_L_law_1471 E hty hend hq1 hrec18 v0 v1 v2 v3 k_v0 k_v1 k_v2 σ h
theorem b_L_law_18 {X : kf_X} {G : kf_G} {Q : State → Prop} {L : Nat} {xs : Nat → Int32} {q : (Int32 × kf_St)} (E : kf_ok X G cL_law RL 4 (some .boolean) (42)) (hty : kf_wt G) (hend : ∀ {pc pc1 : Nat} (_ : kf_dq cL_law pc pc1 1 .ireturn) (lv : List (Nat × Value)) (σ : kf_St), kf_WA X G 4 Q pc lv [.int 1] σ) (hq1 : q.1 = 1) : ∀ (N : Nat) (v0 : Nat) (v1 : Nat) (v2 : Nat) (v3 : Int32) (k_v0 : kf_scr X G v0 L xs) (k_v1 : kf_kd G v1 = 12) (k_v2 : kf_kd G v2 = 13) (σ : kf_St) (_ : f_L_law_18 L xs N v0 v1 v2 v3 σ = some q), kf_WA X G 4 Q 18 [(0, .ref v0), (1, .ref (kf_ad G v1)), (2, .ref (kf_ad G v2)), (3, .int v3)] [] σ
  | 0, _, _, _, _, _, _, _, _, h => by cases h
  | N + 1, v0, v1, v2, v3, k_v0, k_v1, k_v2, σ, h => b_L_law_18_s _ E hty hend hq1 (b_L_law_18 E hty hend hq1 N) v0 v1 v2 v3 k_v0 k_v1 k_v2 σ h
