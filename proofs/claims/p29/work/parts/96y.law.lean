/-! the law, op by op over the pairs (printed by wip/e2/t12.py) -/
theorem qL_18 : xe_look (xc 276) 18 = some (.iload_n 3, 1, 0, 0, 0) := by decide +kernel
theorem qL_19 : xe_look (xc 276) 19 = some (.aload_n 0, 1, 0, 0, 0) := by decide +kernel
theorem qL_20 : xe_look (xc 276) 20 = some (.arraylength, 1, 0, 0, 0) := by decide +kernel
theorem qL_21 : xe_look (xc 276) 21 = some (.bipush 6, 2, 0, 0, 0) := by decide +kernel
theorem qL_23 : xe_look (xc 276) 23 = some (.isub, 1, 0, 0, 0) := by decide +kernel
theorem qL_24 : xe_look (xc 276) 24 = some (.if_icmp .gt 1296, 3, 0, 0, 0) := by decide +kernel
theorem qL_27 : xe_look (xc 276) 27 = some (.aload_n 0, 1, 0, 0, 0) := by decide +kernel
theorem qL_28 : xe_look (xc 276) 28 = some (.iload_n 3, 1, 0, 0, 0) := by decide +kernel
theorem qL_29 : xe_look (xc 276) 29 = some (.iaload, 1, 0, 0, 0) := by decide +kernel
theorem qL_30 : xe_look (xc 276) 30 = some (.bipush 63, 2, 0, 0, 0) := by decide +kernel
theorem qL_32 : xe_look (xc 276) 32 = some (.iand, 1, 0, 0, 0) := by decide +kernel
theorem qL_33 : xe_look (xc 276) 33 = some (.tableswitch 1281 0 34 #[155, 218, 271, 304, 337, 360, 403, 426, 449, 472, 515, 558, 591, 614, 627, 650, 703, 736, 769, 802, 835, 868, 901, 934, 987, 1030, 1063, 1096, 1140, 1163, 1176, 1199, 1212, 1225, 1258], 155, 0, 0, 0) := by decide +kernel
theorem qL_188 : xe_look (xc 276) 188 = some (.aload_n 1, 1, 0, 0, 0) := by decide +kernel
theorem qL_189 : xe_look (xc 276) 189 = some (.aload_n 0, 1, 0, 0, 0) := by decide +kernel
theorem qL_190 : xe_look (xc 276) 190 = some (.iload_n 3, 1, 0, 0, 0) := by decide +kernel
theorem qL_191 : xe_look (xc 276) 191 = some (.iconst 1, 1, 0, 0, 0) := by decide +kernel
theorem qL_192 : xe_look (xc 276) 192 = some (.iadd, 1, 0, 0, 0) := by decide +kernel
theorem qL_193 : xe_look (xc 276) 193 = some (.iaload, 1, 0, 0, 0) := by decide +kernel
theorem qL_194 : xe_look (xc 276) 194 = some (.aload_n 0, 1, 0, 0, 0) := by decide +kernel
theorem qL_195 : xe_look (xc 276) 195 = some (.iload_n 3, 1, 0, 0, 0) := by decide +kernel
theorem qL_196 : xe_look (xc 276) 196 = some (.iconst 2, 1, 0, 0, 0) := by decide +kernel
theorem qL_197 : xe_look (xc 276) 197 = some (.iadd, 1, 0, 0, 0) := by decide +kernel
theorem qL_198 : xe_look (xc 276) 198 = some (.iaload, 1, 0, 0, 0) := by decide +kernel
theorem qL_199 : xe_look (xc 276) 199 = some (.aload_n 0, 1, 0, 0, 0) := by decide +kernel
theorem qL_200 : xe_look (xc 276) 200 = some (.iload_n 3, 1, 0, 0, 0) := by decide +kernel
theorem qL_201 : xe_look (xc 276) 201 = some (.iconst 3, 1, 0, 0, 0) := by decide +kernel
theorem qL_202 : xe_look (xc 276) 202 = some (.iadd, 1, 0, 0, 0) := by decide +kernel
theorem qL_203 : xe_look (xc 276) 203 = some (.iaload, 1, 0, 0, 0) := by decide +kernel
theorem qL_204 : xe_look (xc 276) 204 = some (.aload_n 0, 1, 0, 0, 0) := by decide +kernel
theorem qL_205 : xe_look (xc 276) 205 = some (.iload_n 3, 1, 0, 0, 0) := by decide +kernel
theorem qL_206 : xe_look (xc 276) 206 = some (.iconst 4, 1, 0, 0, 0) := by decide +kernel
theorem qL_207 : xe_look (xc 276) 207 = some (.iadd, 1, 0, 0, 0) := by decide +kernel
theorem qL_208 : xe_look (xc 276) 208 = some (.iaload, 1, 0, 0, 0) := by decide +kernel
theorem qL_209 : xe_look (xc 276) 209 = some (.aload_n 0, 1, 0, 0, 0) := by decide +kernel
theorem qL_210 : xe_look (xc 276) 210 = some (.iload_n 3, 1, 0, 0, 0) := by decide +kernel
theorem qL_211 : xe_look (xc 276) 211 = some (.iconst 5, 1, 0, 0, 0) := by decide +kernel
theorem qL_212 : xe_look (xc 276) 212 = some (.iadd, 1, 0, 0, 0) := by decide +kernel
theorem qL_213 : xe_look (xc 276) 213 = some (.iaload, 1, 0, 0, 0) := by decide +kernel
theorem qL_214 : xe_look (xc 276) 214 = some (.invokevirtual 13, 3, 0, 119, 1292) := by decide +kernel
theorem qL_217 : xe_look (xc 276) 217 = some (.pop, 1, 0, 0, 0) := by decide +kernel
theorem qL_218 : xe_look (xc 276) 218 = some (.aload_n 2, 1, 0, 0, 0) := by decide +kernel
theorem qL_219 : xe_look (xc 276) 219 = some (.aload_n 0, 1, 0, 0, 0) := by decide +kernel
theorem qL_220 : xe_look (xc 276) 220 = some (.iload_n 3, 1, 0, 0, 0) := by decide +kernel
theorem qL_221 : xe_look (xc 276) 221 = some (.iconst 1, 1, 0, 0, 0) := by decide +kernel
theorem qL_222 : xe_look (xc 276) 222 = some (.iadd, 1, 0, 0, 0) := by decide +kernel
theorem qL_223 : xe_look (xc 276) 223 = some (.iaload, 1, 0, 0, 0) := by decide +kernel
theorem qL_224 : xe_look (xc 276) 224 = some (.aload_n 0, 1, 0, 0, 0) := by decide +kernel
theorem qL_225 : xe_look (xc 276) 225 = some (.iload_n 3, 1, 0, 0, 0) := by decide +kernel
theorem qL_226 : xe_look (xc 276) 226 = some (.iconst 2, 1, 0, 0, 0) := by decide +kernel
theorem qL_227 : xe_look (xc 276) 227 = some (.iadd, 1, 0, 0, 0) := by decide +kernel
theorem qL_228 : xe_look (xc 276) 228 = some (.iaload, 1, 0, 0, 0) := by decide +kernel
theorem qL_229 : xe_look (xc 276) 229 = some (.aload_n 0, 1, 0, 0, 0) := by decide +kernel
theorem qL_230 : xe_look (xc 276) 230 = some (.iload_n 3, 1, 0, 0, 0) := by decide +kernel
theorem qL_231 : xe_look (xc 276) 231 = some (.iconst 3, 1, 0, 0, 0) := by decide +kernel
theorem qL_232 : xe_look (xc 276) 232 = some (.iadd, 1, 0, 0, 0) := by decide +kernel
theorem qL_233 : xe_look (xc 276) 233 = some (.iaload, 1, 0, 0, 0) := by decide +kernel
theorem qL_234 : xe_look (xc 276) 234 = some (.aload_n 0, 1, 0, 0, 0) := by decide +kernel
theorem qL_235 : xe_look (xc 276) 235 = some (.iload_n 3, 1, 0, 0, 0) := by decide +kernel
theorem qL_236 : xe_look (xc 276) 236 = some (.iconst 4, 1, 0, 0, 0) := by decide +kernel
theorem qL_237 : xe_look (xc 276) 237 = some (.iadd, 1, 0, 0, 0) := by decide +kernel
theorem qL_238 : xe_look (xc 276) 238 = some (.iaload, 1, 0, 0, 0) := by decide +kernel
theorem qL_239 : xe_look (xc 276) 239 = some (.aload_n 0, 1, 0, 0, 0) := by decide +kernel
theorem qL_240 : xe_look (xc 276) 240 = some (.iload_n 3, 1, 0, 0, 0) := by decide +kernel
theorem qL_241 : xe_look (xc 276) 241 = some (.iconst 5, 1, 0, 0, 0) := by decide +kernel
theorem qL_242 : xe_look (xc 276) 242 = some (.iadd, 1, 0, 0, 0) := by decide +kernel
theorem qL_243 : xe_look (xc 276) 243 = some (.iaload, 1, 0, 0, 0) := by decide +kernel
theorem qL_244 : xe_look (xc 276) 244 = some (.invokevirtual 17, 3, 0, 189, 1293) := by decide +kernel
theorem qL_247 : xe_look (xc 276) 247 = some (.pop, 1, 0, 0, 0) := by decide +kernel
theorem qL_248 : xe_look (xc 276) 248 = some (.goto 1066, 3, 0, 0, 0) := by decide +kernel
theorem qL_251 : xe_look (xc 276) 251 = some (.aload_n 1, 1, 0, 0, 0) := by decide +kernel
theorem qL_252 : xe_look (xc 276) 252 = some (.aload_n 0, 1, 0, 0, 0) := by decide +kernel
theorem qL_253 : xe_look (xc 276) 253 = some (.iload_n 3, 1, 0, 0, 0) := by decide +kernel
theorem qL_254 : xe_look (xc 276) 254 = some (.iconst 1, 1, 0, 0, 0) := by decide +kernel
theorem qL_255 : xe_look (xc 276) 255 = some (.iadd, 1, 0, 0, 0) := by decide +kernel
theorem qL_256 : xe_look (xc 276) 256 = some (.iaload, 1, 0, 0, 0) := by decide +kernel
theorem qL_257 : xe_look (xc 276) 257 = some (.aload_n 0, 1, 0, 0, 0) := by decide +kernel
theorem qL_258 : xe_look (xc 276) 258 = some (.iload_n 3, 1, 0, 0, 0) := by decide +kernel
theorem qL_259 : xe_look (xc 276) 259 = some (.iconst 2, 1, 0, 0, 0) := by decide +kernel
theorem qL_260 : xe_look (xc 276) 260 = some (.iadd, 1, 0, 0, 0) := by decide +kernel
theorem qL_261 : xe_look (xc 276) 261 = some (.iaload, 1, 0, 0, 0) := by decide +kernel
theorem qL_262 : xe_look (xc 276) 262 = some (.aload_n 0, 1, 0, 0, 0) := by decide +kernel
theorem qL_263 : xe_look (xc 276) 263 = some (.iload_n 3, 1, 0, 0, 0) := by decide +kernel
theorem qL_264 : xe_look (xc 276) 264 = some (.iconst 3, 1, 0, 0, 0) := by decide +kernel
theorem qL_265 : xe_look (xc 276) 265 = some (.iadd, 1, 0, 0, 0) := by decide +kernel
theorem qL_266 : xe_look (xc 276) 266 = some (.iaload, 1, 0, 0, 0) := by decide +kernel
theorem qL_267 : xe_look (xc 276) 267 = some (.aload_n 0, 1, 0, 0, 0) := by decide +kernel
theorem qL_268 : xe_look (xc 276) 268 = some (.iload_n 3, 1, 0, 0, 0) := by decide +kernel
theorem qL_269 : xe_look (xc 276) 269 = some (.iconst 4, 1, 0, 0, 0) := by decide +kernel
theorem qL_270 : xe_look (xc 276) 270 = some (.iadd, 1, 0, 0, 0) := by decide +kernel
theorem qL_271 : xe_look (xc 276) 271 = some (.iaload, 1, 0, 0, 0) := by decide +kernel
theorem qL_272 : xe_look (xc 276) 272 = some (.invokevirtual 18, 3, 0, 147, 1294) := by decide +kernel
theorem qL_275 : xe_look (xc 276) 275 = some (.pop, 1, 0, 0, 0) := by decide +kernel
theorem qL_276 : xe_look (xc 276) 276 = some (.aload_n 2, 1, 0, 0, 0) := by decide +kernel
theorem qL_277 : xe_look (xc 276) 277 = some (.aload_n 0, 1, 0, 0, 0) := by decide +kernel
theorem qL_278 : xe_look (xc 276) 278 = some (.iload_n 3, 1, 0, 0, 0) := by decide +kernel
theorem qL_279 : xe_look (xc 276) 279 = some (.iconst 1, 1, 0, 0, 0) := by decide +kernel
theorem qL_280 : xe_look (xc 276) 280 = some (.iadd, 1, 0, 0, 0) := by decide +kernel
theorem qL_281 : xe_look (xc 276) 281 = some (.iaload, 1, 0, 0, 0) := by decide +kernel
theorem qL_282 : xe_look (xc 276) 282 = some (.aload_n 0, 1, 0, 0, 0) := by decide +kernel
theorem qL_283 : xe_look (xc 276) 283 = some (.iload_n 3, 1, 0, 0, 0) := by decide +kernel
theorem qL_284 : xe_look (xc 276) 284 = some (.iconst 2, 1, 0, 0, 0) := by decide +kernel
theorem qL_285 : xe_look (xc 276) 285 = some (.iadd, 1, 0, 0, 0) := by decide +kernel
theorem qL_286 : xe_look (xc 276) 286 = some (.iaload, 1, 0, 0, 0) := by decide +kernel
theorem qL_287 : xe_look (xc 276) 287 = some (.aload_n 0, 1, 0, 0, 0) := by decide +kernel
theorem qL_288 : xe_look (xc 276) 288 = some (.iload_n 3, 1, 0, 0, 0) := by decide +kernel
theorem qL_289 : xe_look (xc 276) 289 = some (.iconst 3, 1, 0, 0, 0) := by decide +kernel
theorem qL_290 : xe_look (xc 276) 290 = some (.iadd, 1, 0, 0, 0) := by decide +kernel
theorem qL_291 : xe_look (xc 276) 291 = some (.iaload, 1, 0, 0, 0) := by decide +kernel
theorem qL_292 : xe_look (xc 276) 292 = some (.aload_n 0, 1, 0, 0, 0) := by decide +kernel
theorem qL_293 : xe_look (xc 276) 293 = some (.iload_n 3, 1, 0, 0, 0) := by decide +kernel
theorem qL_294 : xe_look (xc 276) 294 = some (.iconst 4, 1, 0, 0, 0) := by decide +kernel
theorem qL_295 : xe_look (xc 276) 295 = some (.iadd, 1, 0, 0, 0) := by decide +kernel
theorem qL_296 : xe_look (xc 276) 296 = some (.iaload, 1, 0, 0, 0) := by decide +kernel
theorem qL_297 : xe_look (xc 276) 297 = some (.invokevirtual 22, 3, 0, 251, 1295) := by decide +kernel
theorem qL_300 : xe_look (xc 276) 300 = some (.pop, 1, 0, 0, 0) := by decide +kernel
theorem qL_301 : xe_look (xc 276) 301 = some (.goto 1013, 3, 0, 0, 0) := by decide +kernel
theorem qL_304 : xe_look (xc 276) 304 = some (.aload_n 1, 1, 0, 0, 0) := by decide +kernel
theorem qL_305 : xe_look (xc 276) 305 = some (.aload_n 0, 1, 0, 0, 0) := by decide +kernel
theorem qL_306 : xe_look (xc 276) 306 = some (.iload_n 3, 1, 0, 0, 0) := by decide +kernel
theorem qL_307 : xe_look (xc 276) 307 = some (.iconst 1, 1, 0, 0, 0) := by decide +kernel
theorem qL_308 : xe_look (xc 276) 308 = some (.iadd, 1, 0, 0, 0) := by decide +kernel
theorem qL_309 : xe_look (xc 276) 309 = some (.iaload, 1, 0, 0, 0) := by decide +kernel
theorem qL_310 : xe_look (xc 276) 310 = some (.aload_n 0, 1, 0, 0, 0) := by decide +kernel
theorem qL_311 : xe_look (xc 276) 311 = some (.iload_n 3, 1, 0, 0, 0) := by decide +kernel
theorem qL_312 : xe_look (xc 276) 312 = some (.iconst 2, 1, 0, 0, 0) := by decide +kernel
theorem qL_313 : xe_look (xc 276) 313 = some (.iadd, 1, 0, 0, 0) := by decide +kernel
theorem qL_314 : xe_look (xc 276) 314 = some (.iaload, 1, 0, 0, 0) := by decide +kernel
theorem qL_315 : xe_look (xc 276) 315 = some (.invokevirtual 23, 3, 0, 139, 1296) := by decide +kernel
theorem qL_318 : xe_look (xc 276) 318 = some (.pop, 1, 0, 0, 0) := by decide +kernel
theorem qL_319 : xe_look (xc 276) 319 = some (.aload_n 2, 1, 0, 0, 0) := by decide +kernel
theorem qL_320 : xe_look (xc 276) 320 = some (.aload_n 0, 1, 0, 0, 0) := by decide +kernel
theorem qL_321 : xe_look (xc 276) 321 = some (.iload_n 3, 1, 0, 0, 0) := by decide +kernel
theorem qL_322 : xe_look (xc 276) 322 = some (.iconst 1, 1, 0, 0, 0) := by decide +kernel
theorem qL_323 : xe_look (xc 276) 323 = some (.iadd, 1, 0, 0, 0) := by decide +kernel
theorem qL_324 : xe_look (xc 276) 324 = some (.iaload, 1, 0, 0, 0) := by decide +kernel
theorem qL_325 : xe_look (xc 276) 325 = some (.aload_n 0, 1, 0, 0, 0) := by decide +kernel
theorem qL_326 : xe_look (xc 276) 326 = some (.iload_n 3, 1, 0, 0, 0) := by decide +kernel
theorem qL_327 : xe_look (xc 276) 327 = some (.iconst 2, 1, 0, 0, 0) := by decide +kernel
theorem qL_328 : xe_look (xc 276) 328 = some (.iadd, 1, 0, 0, 0) := by decide +kernel
theorem qL_329 : xe_look (xc 276) 329 = some (.iaload, 1, 0, 0, 0) := by decide +kernel
theorem qL_330 : xe_look (xc 276) 330 = some (.invokevirtual 27, 3, 0, 231, 1297) := by decide +kernel
theorem qL_333 : xe_look (xc 276) 333 = some (.pop, 1, 0, 0, 0) := by decide +kernel
theorem qL_334 : xe_look (xc 276) 334 = some (.goto 980, 3, 0, 0, 0) := by decide +kernel
theorem qL_337 : xe_look (xc 276) 337 = some (.aload_n 1, 1, 0, 0, 0) := by decide +kernel
theorem qL_338 : xe_look (xc 276) 338 = some (.aload_n 0, 1, 0, 0, 0) := by decide +kernel
theorem qL_339 : xe_look (xc 276) 339 = some (.iload_n 3, 1, 0, 0, 0) := by decide +kernel
theorem qL_340 : xe_look (xc 276) 340 = some (.iconst 1, 1, 0, 0, 0) := by decide +kernel
theorem qL_341 : xe_look (xc 276) 341 = some (.iadd, 1, 0, 0, 0) := by decide +kernel
theorem qL_342 : xe_look (xc 276) 342 = some (.iaload, 1, 0, 0, 0) := by decide +kernel
theorem qL_343 : xe_look (xc 276) 343 = some (.aload_n 0, 1, 0, 0, 0) := by decide +kernel
theorem qL_344 : xe_look (xc 276) 344 = some (.iload_n 3, 1, 0, 0, 0) := by decide +kernel
theorem qL_345 : xe_look (xc 276) 345 = some (.iconst 2, 1, 0, 0, 0) := by decide +kernel
theorem qL_346 : xe_look (xc 276) 346 = some (.iadd, 1, 0, 0, 0) := by decide +kernel
theorem qL_347 : xe_look (xc 276) 347 = some (.iaload, 1, 0, 0, 0) := by decide +kernel
theorem qL_348 : xe_look (xc 276) 348 = some (.invokevirtual 28, 3, 0, 116, 1298) := by decide +kernel
theorem qL_351 : xe_look (xc 276) 351 = some (.pop, 1, 0, 0, 0) := by decide +kernel
theorem qL_352 : xe_look (xc 276) 352 = some (.aload_n 2, 1, 0, 0, 0) := by decide +kernel
theorem qL_353 : xe_look (xc 276) 353 = some (.aload_n 0, 1, 0, 0, 0) := by decide +kernel
theorem qL_354 : xe_look (xc 276) 354 = some (.iload_n 3, 1, 0, 0, 0) := by decide +kernel
theorem qL_355 : xe_look (xc 276) 355 = some (.iconst 1, 1, 0, 0, 0) := by decide +kernel
theorem qL_356 : xe_look (xc 276) 356 = some (.iadd, 1, 0, 0, 0) := by decide +kernel
theorem qL_357 : xe_look (xc 276) 357 = some (.iaload, 1, 0, 0, 0) := by decide +kernel
theorem qL_358 : xe_look (xc 276) 358 = some (.aload_n 0, 1, 0, 0, 0) := by decide +kernel
theorem qL_359 : xe_look (xc 276) 359 = some (.iload_n 3, 1, 0, 0, 0) := by decide +kernel
theorem qL_360 : xe_look (xc 276) 360 = some (.iconst 2, 1, 0, 0, 0) := by decide +kernel
theorem qL_361 : xe_look (xc 276) 361 = some (.iadd, 1, 0, 0, 0) := by decide +kernel
theorem qL_362 : xe_look (xc 276) 362 = some (.iaload, 1, 0, 0, 0) := by decide +kernel
theorem qL_363 : xe_look (xc 276) 363 = some (.invokevirtual 31, 3, 0, 183, 1299) := by decide +kernel
theorem qL_366 : xe_look (xc 276) 366 = some (.pop, 1, 0, 0, 0) := by decide +kernel
theorem qL_367 : xe_look (xc 276) 367 = some (.goto 947, 3, 0, 0, 0) := by decide +kernel
theorem qL_370 : xe_look (xc 276) 370 = some (.aload_n 1, 1, 0, 0, 0) := by decide +kernel
theorem qL_371 : xe_look (xc 276) 371 = some (.aload_n 0, 1, 0, 0, 0) := by decide +kernel
theorem qL_372 : xe_look (xc 276) 372 = some (.iload_n 3, 1, 0, 0, 0) := by decide +kernel
theorem qL_373 : xe_look (xc 276) 373 = some (.iconst 1, 1, 0, 0, 0) := by decide +kernel
theorem qL_374 : xe_look (xc 276) 374 = some (.iadd, 1, 0, 0, 0) := by decide +kernel
theorem qL_375 : xe_look (xc 276) 375 = some (.iaload, 1, 0, 0, 0) := by decide +kernel
theorem qL_376 : xe_look (xc 276) 376 = some (.invokevirtual 32, 3, 0, 120, 1300) := by decide +kernel
theorem qL_379 : xe_look (xc 276) 379 = some (.pop, 1, 0, 0, 0) := by decide +kernel
theorem qL_380 : xe_look (xc 276) 380 = some (.aload_n 2, 1, 0, 0, 0) := by decide +kernel
theorem qL_381 : xe_look (xc 276) 381 = some (.aload_n 0, 1, 0, 0, 0) := by decide +kernel
theorem qL_382 : xe_look (xc 276) 382 = some (.iload_n 3, 1, 0, 0, 0) := by decide +kernel
theorem qL_383 : xe_look (xc 276) 383 = some (.iconst 1, 1, 0, 0, 0) := by decide +kernel
theorem qL_384 : xe_look (xc 276) 384 = some (.iadd, 1, 0, 0, 0) := by decide +kernel
theorem qL_385 : xe_look (xc 276) 385 = some (.iaload, 1, 0, 0, 0) := by decide +kernel
theorem qL_386 : xe_look (xc 276) 386 = some (.invokevirtual 36, 3, 0, 194, 1301) := by decide +kernel
theorem qL_389 : xe_look (xc 276) 389 = some (.pop, 1, 0, 0, 0) := by decide +kernel
theorem qL_390 : xe_look (xc 276) 390 = some (.goto 924, 3, 0, 0, 0) := by decide +kernel
theorem qL_393 : xe_look (xc 276) 393 = some (.aload_n 1, 1, 0, 0, 0) := by decide +kernel
theorem qL_394 : xe_look (xc 276) 394 = some (.aload_n 0, 1, 0, 0, 0) := by decide +kernel
theorem qL_395 : xe_look (xc 276) 395 = some (.iload_n 3, 1, 0, 0, 0) := by decide +kernel
theorem qL_396 : xe_look (xc 276) 396 = some (.iconst 1, 1, 0, 0, 0) := by decide +kernel
theorem qL_397 : xe_look (xc 276) 397 = some (.iadd, 1, 0, 0, 0) := by decide +kernel
theorem qL_398 : xe_look (xc 276) 398 = some (.iaload, 1, 0, 0, 0) := by decide +kernel
theorem qL_399 : xe_look (xc 276) 399 = some (.aload_n 0, 1, 0, 0, 0) := by decide +kernel
theorem qL_400 : xe_look (xc 276) 400 = some (.iload_n 3, 1, 0, 0, 0) := by decide +kernel
theorem qL_401 : xe_look (xc 276) 401 = some (.iconst 2, 1, 0, 0, 0) := by decide +kernel
theorem qL_402 : xe_look (xc 276) 402 = some (.iadd, 1, 0, 0, 0) := by decide +kernel
theorem qL_403 : xe_look (xc 276) 403 = some (.iaload, 1, 0, 0, 0) := by decide +kernel
theorem qL_404 : xe_look (xc 276) 404 = some (.aload_n 0, 1, 0, 0, 0) := by decide +kernel
theorem qL_405 : xe_look (xc 276) 405 = some (.iload_n 3, 1, 0, 0, 0) := by decide +kernel
theorem qL_406 : xe_look (xc 276) 406 = some (.iconst 3, 1, 0, 0, 0) := by decide +kernel
theorem qL_407 : xe_look (xc 276) 407 = some (.iadd, 1, 0, 0, 0) := by decide +kernel
theorem qL_408 : xe_look (xc 276) 408 = some (.iaload, 1, 0, 0, 0) := by decide +kernel
theorem qL_409 : xe_look (xc 276) 409 = some (.invokevirtual 37, 3, 0, 134, 1302) := by decide +kernel
theorem qL_412 : xe_look (xc 276) 412 = some (.pop, 1, 0, 0, 0) := by decide +kernel
theorem qL_413 : xe_look (xc 276) 413 = some (.aload_n 2, 1, 0, 0, 0) := by decide +kernel
theorem qL_414 : xe_look (xc 276) 414 = some (.aload_n 0, 1, 0, 0, 0) := by decide +kernel
theorem qL_415 : xe_look (xc 276) 415 = some (.iload_n 3, 1, 0, 0, 0) := by decide +kernel
theorem qL_416 : xe_look (xc 276) 416 = some (.iconst 1, 1, 0, 0, 0) := by decide +kernel
theorem qL_417 : xe_look (xc 276) 417 = some (.iadd, 1, 0, 0, 0) := by decide +kernel
theorem qL_418 : xe_look (xc 276) 418 = some (.iaload, 1, 0, 0, 0) := by decide +kernel
theorem qL_419 : xe_look (xc 276) 419 = some (.aload_n 0, 1, 0, 0, 0) := by decide +kernel
theorem qL_420 : xe_look (xc 276) 420 = some (.iload_n 3, 1, 0, 0, 0) := by decide +kernel
theorem qL_421 : xe_look (xc 276) 421 = some (.iconst 2, 1, 0, 0, 0) := by decide +kernel
theorem qL_422 : xe_look (xc 276) 422 = some (.iadd, 1, 0, 0, 0) := by decide +kernel
theorem qL_423 : xe_look (xc 276) 423 = some (.iaload, 1, 0, 0, 0) := by decide +kernel
theorem qL_424 : xe_look (xc 276) 424 = some (.aload_n 0, 1, 0, 0, 0) := by decide +kernel
theorem qL_425 : xe_look (xc 276) 425 = some (.iload_n 3, 1, 0, 0, 0) := by decide +kernel
theorem qL_426 : xe_look (xc 276) 426 = some (.iconst 3, 1, 0, 0, 0) := by decide +kernel
theorem qL_427 : xe_look (xc 276) 427 = some (.iadd, 1, 0, 0, 0) := by decide +kernel
theorem qL_428 : xe_look (xc 276) 428 = some (.iaload, 1, 0, 0, 0) := by decide +kernel
theorem qL_429 : xe_look (xc 276) 429 = some (.invokevirtual 41, 3, 0, 221, 1303) := by decide +kernel
theorem qL_432 : xe_look (xc 276) 432 = some (.pop, 1, 0, 0, 0) := by decide +kernel
theorem qL_433 : xe_look (xc 276) 433 = some (.goto 881, 3, 0, 0, 0) := by decide +kernel
theorem qL_436 : xe_look (xc 276) 436 = some (.aload_n 1, 1, 0, 0, 0) := by decide +kernel
theorem qL_437 : xe_look (xc 276) 437 = some (.aload_n 0, 1, 0, 0, 0) := by decide +kernel
theorem qL_438 : xe_look (xc 276) 438 = some (.iload_n 3, 1, 0, 0, 0) := by decide +kernel
theorem qL_439 : xe_look (xc 276) 439 = some (.iconst 1, 1, 0, 0, 0) := by decide +kernel
theorem qL_440 : xe_look (xc 276) 440 = some (.iadd, 1, 0, 0, 0) := by decide +kernel
theorem qL_441 : xe_look (xc 276) 441 = some (.iaload, 1, 0, 0, 0) := by decide +kernel
theorem qL_442 : xe_look (xc 276) 442 = some (.invokevirtual 42, 3, 0, 128, 1304) := by decide +kernel
theorem qL_445 : xe_look (xc 276) 445 = some (.pop, 1, 0, 0, 0) := by decide +kernel
theorem qL_446 : xe_look (xc 276) 446 = some (.aload_n 2, 1, 0, 0, 0) := by decide +kernel
theorem qL_447 : xe_look (xc 276) 447 = some (.aload_n 0, 1, 0, 0, 0) := by decide +kernel
theorem qL_448 : xe_look (xc 276) 448 = some (.iload_n 3, 1, 0, 0, 0) := by decide +kernel
theorem qL_449 : xe_look (xc 276) 449 = some (.iconst 1, 1, 0, 0, 0) := by decide +kernel
theorem qL_450 : xe_look (xc 276) 450 = some (.iadd, 1, 0, 0, 0) := by decide +kernel
theorem qL_451 : xe_look (xc 276) 451 = some (.iaload, 1, 0, 0, 0) := by decide +kernel
theorem qL_452 : xe_look (xc 276) 452 = some (.invokevirtual 45, 3, 0, 211, 1305) := by decide +kernel
theorem qL_455 : xe_look (xc 276) 455 = some (.pop, 1, 0, 0, 0) := by decide +kernel
theorem qL_456 : xe_look (xc 276) 456 = some (.goto 858, 3, 0, 0, 0) := by decide +kernel
theorem qL_459 : xe_look (xc 276) 459 = some (.aload_n 1, 1, 0, 0, 0) := by decide +kernel
theorem qL_460 : xe_look (xc 276) 460 = some (.aload_n 0, 1, 0, 0, 0) := by decide +kernel
theorem qL_461 : xe_look (xc 276) 461 = some (.iload_n 3, 1, 0, 0, 0) := by decide +kernel
theorem qL_462 : xe_look (xc 276) 462 = some (.iconst 1, 1, 0, 0, 0) := by decide +kernel
theorem qL_463 : xe_look (xc 276) 463 = some (.iadd, 1, 0, 0, 0) := by decide +kernel
theorem qL_464 : xe_look (xc 276) 464 = some (.iaload, 1, 0, 0, 0) := by decide +kernel
theorem qL_465 : xe_look (xc 276) 465 = some (.invokevirtual 46, 3, 0, 157, 1306) := by decide +kernel
theorem qL_468 : xe_look (xc 276) 468 = some (.pop, 1, 0, 0, 0) := by decide +kernel
theorem qL_469 : xe_look (xc 276) 469 = some (.aload_n 2, 1, 0, 0, 0) := by decide +kernel
theorem qL_470 : xe_look (xc 276) 470 = some (.aload_n 0, 1, 0, 0, 0) := by decide +kernel
theorem qL_471 : xe_look (xc 276) 471 = some (.iload_n 3, 1, 0, 0, 0) := by decide +kernel
theorem qL_472 : xe_look (xc 276) 472 = some (.iconst 1, 1, 0, 0, 0) := by decide +kernel
theorem qL_473 : xe_look (xc 276) 473 = some (.iadd, 1, 0, 0, 0) := by decide +kernel
theorem qL_474 : xe_look (xc 276) 474 = some (.iaload, 1, 0, 0, 0) := by decide +kernel
theorem qL_475 : xe_look (xc 276) 475 = some (.invokevirtual 50, 3, 0, 264, 1307) := by decide +kernel
theorem qL_478 : xe_look (xc 276) 478 = some (.pop, 1, 0, 0, 0) := by decide +kernel
theorem qL_479 : xe_look (xc 276) 479 = some (.goto 835, 3, 0, 0, 0) := by decide +kernel
theorem qL_482 : xe_look (xc 276) 482 = some (.aload_n 1, 1, 0, 0, 0) := by decide +kernel
theorem qL_483 : xe_look (xc 276) 483 = some (.aload_n 0, 1, 0, 0, 0) := by decide +kernel
theorem qL_484 : xe_look (xc 276) 484 = some (.iload_n 3, 1, 0, 0, 0) := by decide +kernel
theorem qL_485 : xe_look (xc 276) 485 = some (.iconst 1, 1, 0, 0, 0) := by decide +kernel
theorem qL_486 : xe_look (xc 276) 486 = some (.iadd, 1, 0, 0, 0) := by decide +kernel
theorem qL_487 : xe_look (xc 276) 487 = some (.iaload, 1, 0, 0, 0) := by decide +kernel
theorem qL_488 : xe_look (xc 276) 488 = some (.invokevirtual 51, 3, 0, 129, 1308) := by decide +kernel
theorem qL_491 : xe_look (xc 276) 491 = some (.pop, 1, 0, 0, 0) := by decide +kernel
theorem qL_492 : xe_look (xc 276) 492 = some (.aload_n 2, 1, 0, 0, 0) := by decide +kernel
theorem qL_493 : xe_look (xc 276) 493 = some (.aload_n 0, 1, 0, 0, 0) := by decide +kernel
theorem qL_494 : xe_look (xc 276) 494 = some (.iload_n 3, 1, 0, 0, 0) := by decide +kernel
theorem qL_495 : xe_look (xc 276) 495 = some (.iconst 1, 1, 0, 0, 0) := by decide +kernel
theorem qL_496 : xe_look (xc 276) 496 = some (.iadd, 1, 0, 0, 0) := by decide +kernel
theorem qL_497 : xe_look (xc 276) 497 = some (.iaload, 1, 0, 0, 0) := by decide +kernel
theorem qL_498 : xe_look (xc 276) 498 = some (.invokevirtual 54, 3, 0, 213, 1309) := by decide +kernel
theorem qL_501 : xe_look (xc 276) 501 = some (.pop, 1, 0, 0, 0) := by decide +kernel
theorem qL_502 : xe_look (xc 276) 502 = some (.goto 812, 3, 0, 0, 0) := by decide +kernel
theorem qL_505 : xe_look (xc 276) 505 = some (.aload_n 1, 1, 0, 0, 0) := by decide +kernel
theorem qL_506 : xe_look (xc 276) 506 = some (.aload_n 0, 1, 0, 0, 0) := by decide +kernel
theorem qL_507 : xe_look (xc 276) 507 = some (.iload_n 3, 1, 0, 0, 0) := by decide +kernel
theorem qL_508 : xe_look (xc 276) 508 = some (.iconst 1, 1, 0, 0, 0) := by decide +kernel
theorem qL_509 : xe_look (xc 276) 509 = some (.iadd, 1, 0, 0, 0) := by decide +kernel
theorem qL_510 : xe_look (xc 276) 510 = some (.iaload, 1, 0, 0, 0) := by decide +kernel
theorem qL_511 : xe_look (xc 276) 511 = some (.aload_n 0, 1, 0, 0, 0) := by decide +kernel
theorem qL_512 : xe_look (xc 276) 512 = some (.iload_n 3, 1, 0, 0, 0) := by decide +kernel
theorem qL_513 : xe_look (xc 276) 513 = some (.iconst 2, 1, 0, 0, 0) := by decide +kernel
theorem qL_514 : xe_look (xc 276) 514 = some (.iadd, 1, 0, 0, 0) := by decide +kernel
theorem qL_515 : xe_look (xc 276) 515 = some (.iaload, 1, 0, 0, 0) := by decide +kernel
theorem qL_516 : xe_look (xc 276) 516 = some (.aload_n 0, 1, 0, 0, 0) := by decide +kernel
theorem qL_517 : xe_look (xc 276) 517 = some (.iload_n 3, 1, 0, 0, 0) := by decide +kernel
theorem qL_518 : xe_look (xc 276) 518 = some (.iconst 3, 1, 0, 0, 0) := by decide +kernel
theorem qL_519 : xe_look (xc 276) 519 = some (.iadd, 1, 0, 0, 0) := by decide +kernel
theorem qL_520 : xe_look (xc 276) 520 = some (.iaload, 1, 0, 0, 0) := by decide +kernel
theorem qL_521 : xe_look (xc 276) 521 = some (.invokevirtual 55, 3, 0, 164, 1310) := by decide +kernel
theorem qL_524 : xe_look (xc 276) 524 = some (.pop, 1, 0, 0, 0) := by decide +kernel
theorem qL_525 : xe_look (xc 276) 525 = some (.aload_n 2, 1, 0, 0, 0) := by decide +kernel
theorem qL_526 : xe_look (xc 276) 526 = some (.aload_n 0, 1, 0, 0, 0) := by decide +kernel
theorem qL_527 : xe_look (xc 276) 527 = some (.iload_n 3, 1, 0, 0, 0) := by decide +kernel
theorem qL_528 : xe_look (xc 276) 528 = some (.iconst 1, 1, 0, 0, 0) := by decide +kernel
theorem qL_529 : xe_look (xc 276) 529 = some (.iadd, 1, 0, 0, 0) := by decide +kernel
theorem qL_530 : xe_look (xc 276) 530 = some (.iaload, 1, 0, 0, 0) := by decide +kernel
theorem qL_531 : xe_look (xc 276) 531 = some (.aload_n 0, 1, 0, 0, 0) := by decide +kernel
theorem qL_532 : xe_look (xc 276) 532 = some (.iload_n 3, 1, 0, 0, 0) := by decide +kernel
theorem qL_533 : xe_look (xc 276) 533 = some (.iconst 2, 1, 0, 0, 0) := by decide +kernel
theorem qL_534 : xe_look (xc 276) 534 = some (.iadd, 1, 0, 0, 0) := by decide +kernel
theorem qL_535 : xe_look (xc 276) 535 = some (.iaload, 1, 0, 0, 0) := by decide +kernel
theorem qL_536 : xe_look (xc 276) 536 = some (.aload_n 0, 1, 0, 0, 0) := by decide +kernel
theorem qL_537 : xe_look (xc 276) 537 = some (.iload_n 3, 1, 0, 0, 0) := by decide +kernel
theorem qL_538 : xe_look (xc 276) 538 = some (.iconst 3, 1, 0, 0, 0) := by decide +kernel
theorem qL_539 : xe_look (xc 276) 539 = some (.iadd, 1, 0, 0, 0) := by decide +kernel
theorem qL_540 : xe_look (xc 276) 540 = some (.iaload, 1, 0, 0, 0) := by decide +kernel
theorem qL_541 : xe_look (xc 276) 541 = some (.invokevirtual 59, 3, 0, 273, 1311) := by decide +kernel
theorem qL_544 : xe_look (xc 276) 544 = some (.pop, 1, 0, 0, 0) := by decide +kernel
theorem qL_545 : xe_look (xc 276) 545 = some (.goto 769, 3, 0, 0, 0) := by decide +kernel
theorem qL_548 : xe_look (xc 276) 548 = some (.aload_n 1, 1, 0, 0, 0) := by decide +kernel
theorem qL_549 : xe_look (xc 276) 549 = some (.aload_n 0, 1, 0, 0, 0) := by decide +kernel
theorem qL_550 : xe_look (xc 276) 550 = some (.iload_n 3, 1, 0, 0, 0) := by decide +kernel
theorem qL_551 : xe_look (xc 276) 551 = some (.iconst 1, 1, 0, 0, 0) := by decide +kernel
theorem qL_552 : xe_look (xc 276) 552 = some (.iadd, 1, 0, 0, 0) := by decide +kernel
theorem qL_553 : xe_look (xc 276) 553 = some (.iaload, 1, 0, 0, 0) := by decide +kernel
theorem qL_554 : xe_look (xc 276) 554 = some (.aload_n 0, 1, 0, 0, 0) := by decide +kernel
theorem qL_555 : xe_look (xc 276) 555 = some (.iload_n 3, 1, 0, 0, 0) := by decide +kernel
theorem qL_556 : xe_look (xc 276) 556 = some (.iconst 2, 1, 0, 0, 0) := by decide +kernel
theorem qL_557 : xe_look (xc 276) 557 = some (.iadd, 1, 0, 0, 0) := by decide +kernel
theorem qL_558 : xe_look (xc 276) 558 = some (.iaload, 1, 0, 0, 0) := by decide +kernel
theorem qL_559 : xe_look (xc 276) 559 = some (.aload_n 0, 1, 0, 0, 0) := by decide +kernel
theorem qL_560 : xe_look (xc 276) 560 = some (.iload_n 3, 1, 0, 0, 0) := by decide +kernel
theorem qL_561 : xe_look (xc 276) 561 = some (.iconst 3, 1, 0, 0, 0) := by decide +kernel
theorem qL_562 : xe_look (xc 276) 562 = some (.iadd, 1, 0, 0, 0) := by decide +kernel
theorem qL_563 : xe_look (xc 276) 563 = some (.iaload, 1, 0, 0, 0) := by decide +kernel
theorem qL_564 : xe_look (xc 276) 564 = some (.invokevirtual 60, 3, 0, 146, 1312) := by decide +kernel
theorem qL_567 : xe_look (xc 276) 567 = some (.pop, 1, 0, 0, 0) := by decide +kernel
theorem qL_568 : xe_look (xc 276) 568 = some (.aload_n 2, 1, 0, 0, 0) := by decide +kernel
theorem qL_569 : xe_look (xc 276) 569 = some (.aload_n 0, 1, 0, 0, 0) := by decide +kernel
theorem qL_570 : xe_look (xc 276) 570 = some (.iload_n 3, 1, 0, 0, 0) := by decide +kernel
theorem qL_571 : xe_look (xc 276) 571 = some (.iconst 1, 1, 0, 0, 0) := by decide +kernel
theorem qL_572 : xe_look (xc 276) 572 = some (.iadd, 1, 0, 0, 0) := by decide +kernel
theorem qL_573 : xe_look (xc 276) 573 = some (.iaload, 1, 0, 0, 0) := by decide +kernel
theorem qL_574 : xe_look (xc 276) 574 = some (.aload_n 0, 1, 0, 0, 0) := by decide +kernel
theorem qL_575 : xe_look (xc 276) 575 = some (.iload_n 3, 1, 0, 0, 0) := by decide +kernel
theorem qL_576 : xe_look (xc 276) 576 = some (.iconst 2, 1, 0, 0, 0) := by decide +kernel
theorem qL_577 : xe_look (xc 276) 577 = some (.iadd, 1, 0, 0, 0) := by decide +kernel
theorem qL_578 : xe_look (xc 276) 578 = some (.iaload, 1, 0, 0, 0) := by decide +kernel
theorem qL_579 : xe_look (xc 276) 579 = some (.aload_n 0, 1, 0, 0, 0) := by decide +kernel
theorem qL_580 : xe_look (xc 276) 580 = some (.iload_n 3, 1, 0, 0, 0) := by decide +kernel
theorem qL_581 : xe_look (xc 276) 581 = some (.iconst 3, 1, 0, 0, 0) := by decide +kernel
theorem qL_582 : xe_look (xc 276) 582 = some (.iadd, 1, 0, 0, 0) := by decide +kernel
theorem qL_583 : xe_look (xc 276) 583 = some (.iaload, 1, 0, 0, 0) := by decide +kernel
theorem qL_584 : xe_look (xc 276) 584 = some (.invokevirtual 63, 3, 0, 247, 1313) := by decide +kernel
theorem qL_587 : xe_look (xc 276) 587 = some (.pop, 1, 0, 0, 0) := by decide +kernel
theorem qL_588 : xe_look (xc 276) 588 = some (.goto 726, 3, 0, 0, 0) := by decide +kernel
theorem qL_591 : xe_look (xc 276) 591 = some (.aload_n 1, 1, 0, 0, 0) := by decide +kernel
theorem qL_592 : xe_look (xc 276) 592 = some (.aload_n 0, 1, 0, 0, 0) := by decide +kernel
theorem qL_593 : xe_look (xc 276) 593 = some (.iload_n 3, 1, 0, 0, 0) := by decide +kernel
theorem qL_594 : xe_look (xc 276) 594 = some (.iconst 1, 1, 0, 0, 0) := by decide +kernel
theorem qL_595 : xe_look (xc 276) 595 = some (.iadd, 1, 0, 0, 0) := by decide +kernel
theorem qL_596 : xe_look (xc 276) 596 = some (.iaload, 1, 0, 0, 0) := by decide +kernel
theorem qL_597 : xe_look (xc 276) 597 = some (.aload_n 0, 1, 0, 0, 0) := by decide +kernel
theorem qL_598 : xe_look (xc 276) 598 = some (.iload_n 3, 1, 0, 0, 0) := by decide +kernel
theorem qL_599 : xe_look (xc 276) 599 = some (.iconst 2, 1, 0, 0, 0) := by decide +kernel
theorem qL_600 : xe_look (xc 276) 600 = some (.iadd, 1, 0, 0, 0) := by decide +kernel
theorem qL_601 : xe_look (xc 276) 601 = some (.iaload, 1, 0, 0, 0) := by decide +kernel
theorem qL_602 : xe_look (xc 276) 602 = some (.invokevirtual 64, 3, 0, 148, 1314) := by decide +kernel
theorem qL_605 : xe_look (xc 276) 605 = some (.pop, 1, 0, 0, 0) := by decide +kernel
theorem qL_606 : xe_look (xc 276) 606 = some (.aload_n 2, 1, 0, 0, 0) := by decide +kernel
theorem qL_607 : xe_look (xc 276) 607 = some (.aload_n 0, 1, 0, 0, 0) := by decide +kernel
theorem qL_608 : xe_look (xc 276) 608 = some (.iload_n 3, 1, 0, 0, 0) := by decide +kernel
theorem qL_609 : xe_look (xc 276) 609 = some (.iconst 1, 1, 0, 0, 0) := by decide +kernel
theorem qL_610 : xe_look (xc 276) 610 = some (.iadd, 1, 0, 0, 0) := by decide +kernel
theorem qL_611 : xe_look (xc 276) 611 = some (.iaload, 1, 0, 0, 0) := by decide +kernel
theorem qL_612 : xe_look (xc 276) 612 = some (.aload_n 0, 1, 0, 0, 0) := by decide +kernel
theorem qL_613 : xe_look (xc 276) 613 = some (.iload_n 3, 1, 0, 0, 0) := by decide +kernel
theorem qL_614 : xe_look (xc 276) 614 = some (.iconst 2, 1, 0, 0, 0) := by decide +kernel
theorem qL_615 : xe_look (xc 276) 615 = some (.iadd, 1, 0, 0, 0) := by decide +kernel
theorem qL_616 : xe_look (xc 276) 616 = some (.iaload, 1, 0, 0, 0) := by decide +kernel
theorem qL_617 : xe_look (xc 276) 617 = some (.invokevirtual 68, 3, 0, 252, 1315) := by decide +kernel
theorem qL_620 : xe_look (xc 276) 620 = some (.pop, 1, 0, 0, 0) := by decide +kernel
theorem qL_621 : xe_look (xc 276) 621 = some (.goto 693, 3, 0, 0, 0) := by decide +kernel
theorem qL_624 : xe_look (xc 276) 624 = some (.aload_n 1, 1, 0, 0, 0) := by decide +kernel
theorem qL_625 : xe_look (xc 276) 625 = some (.aload_n 0, 1, 0, 0, 0) := by decide +kernel
theorem qL_626 : xe_look (xc 276) 626 = some (.iload_n 3, 1, 0, 0, 0) := by decide +kernel
theorem qL_627 : xe_look (xc 276) 627 = some (.iconst 1, 1, 0, 0, 0) := by decide +kernel
theorem qL_628 : xe_look (xc 276) 628 = some (.iadd, 1, 0, 0, 0) := by decide +kernel
theorem qL_629 : xe_look (xc 276) 629 = some (.iaload, 1, 0, 0, 0) := by decide +kernel
theorem qL_630 : xe_look (xc 276) 630 = some (.invokevirtual 69, 3, 0, 122, 1316) := by decide +kernel
theorem qL_633 : xe_look (xc 276) 633 = some (.pop, 1, 0, 0, 0) := by decide +kernel
theorem qL_634 : xe_look (xc 276) 634 = some (.aload_n 2, 1, 0, 0, 0) := by decide +kernel
theorem qL_635 : xe_look (xc 276) 635 = some (.aload_n 0, 1, 0, 0, 0) := by decide +kernel
theorem qL_636 : xe_look (xc 276) 636 = some (.iload_n 3, 1, 0, 0, 0) := by decide +kernel
theorem qL_637 : xe_look (xc 276) 637 = some (.iconst 1, 1, 0, 0, 0) := by decide +kernel
theorem qL_638 : xe_look (xc 276) 638 = some (.iadd, 1, 0, 0, 0) := by decide +kernel
theorem qL_639 : xe_look (xc 276) 639 = some (.iaload, 1, 0, 0, 0) := by decide +kernel
theorem qL_640 : xe_look (xc 276) 640 = some (.invokevirtual 72, 3, 0, 200, 1317) := by decide +kernel
theorem qL_643 : xe_look (xc 276) 643 = some (.pop, 1, 0, 0, 0) := by decide +kernel
theorem qL_644 : xe_look (xc 276) 644 = some (.goto 670, 3, 0, 0, 0) := by decide +kernel
theorem qL_647 : xe_look (xc 276) 647 = some (.aload_n 1, 1, 0, 0, 0) := by decide +kernel
theorem qL_648 : xe_look (xc 276) 648 = some (.invokevirtual 73, 3, 0, 118, 1318) := by decide +kernel
theorem qL_651 : xe_look (xc 276) 651 = some (.pop, 1, 0, 0, 0) := by decide +kernel
theorem qL_652 : xe_look (xc 276) 652 = some (.aload_n 2, 1, 0, 0, 0) := by decide +kernel
theorem qL_653 : xe_look (xc 276) 653 = some (.invokevirtual 77, 3, 0, 187, 1319) := by decide +kernel
theorem qL_656 : xe_look (xc 276) 656 = some (.pop, 1, 0, 0, 0) := by decide +kernel
theorem qL_657 : xe_look (xc 276) 657 = some (.goto 657, 3, 0, 0, 0) := by decide +kernel
theorem qL_660 : xe_look (xc 276) 660 = some (.aload_n 1, 1, 0, 0, 0) := by decide +kernel
theorem qL_661 : xe_look (xc 276) 661 = some (.aload_n 0, 1, 0, 0, 0) := by decide +kernel
theorem qL_662 : xe_look (xc 276) 662 = some (.iload_n 3, 1, 0, 0, 0) := by decide +kernel
theorem qL_663 : xe_look (xc 276) 663 = some (.iconst 1, 1, 0, 0, 0) := by decide +kernel
theorem qL_664 : xe_look (xc 276) 664 = some (.iadd, 1, 0, 0, 0) := by decide +kernel
theorem qL_665 : xe_look (xc 276) 665 = some (.iaload, 1, 0, 0, 0) := by decide +kernel
theorem qL_666 : xe_look (xc 276) 666 = some (.invokevirtual 78, 3, 0, 158, 1320) := by decide +kernel
theorem qL_669 : xe_look (xc 276) 669 = some (.pop, 1, 0, 0, 0) := by decide +kernel
theorem qL_670 : xe_look (xc 276) 670 = some (.aload_n 2, 1, 0, 0, 0) := by decide +kernel
theorem qL_671 : xe_look (xc 276) 671 = some (.aload_n 0, 1, 0, 0, 0) := by decide +kernel
theorem qL_672 : xe_look (xc 276) 672 = some (.iload_n 3, 1, 0, 0, 0) := by decide +kernel
theorem qL_673 : xe_look (xc 276) 673 = some (.iconst 1, 1, 0, 0, 0) := by decide +kernel
theorem qL_674 : xe_look (xc 276) 674 = some (.iadd, 1, 0, 0, 0) := by decide +kernel
theorem qL_675 : xe_look (xc 276) 675 = some (.iaload, 1, 0, 0, 0) := by decide +kernel
theorem qL_676 : xe_look (xc 276) 676 = some (.invokevirtual 81, 3, 0, 265, 1321) := by decide +kernel
theorem qL_679 : xe_look (xc 276) 679 = some (.pop, 1, 0, 0, 0) := by decide +kernel
theorem qL_680 : xe_look (xc 276) 680 = some (.goto 634, 3, 0, 0, 0) := by decide +kernel
theorem qL_683 : xe_look (xc 276) 683 = some (.aload_n 1, 1, 0, 0, 0) := by decide +kernel
theorem qL_684 : xe_look (xc 276) 684 = some (.aload_n 0, 1, 0, 0, 0) := by decide +kernel
theorem qL_685 : xe_look (xc 276) 685 = some (.iload_n 3, 1, 0, 0, 0) := by decide +kernel
theorem qL_686 : xe_look (xc 276) 686 = some (.iconst 1, 1, 0, 0, 0) := by decide +kernel
theorem qL_687 : xe_look (xc 276) 687 = some (.iadd, 1, 0, 0, 0) := by decide +kernel
theorem qL_688 : xe_look (xc 276) 688 = some (.iaload, 1, 0, 0, 0) := by decide +kernel
theorem qL_689 : xe_look (xc 276) 689 = some (.aload_n 0, 1, 0, 0, 0) := by decide +kernel
theorem qL_690 : xe_look (xc 276) 690 = some (.iload_n 3, 1, 0, 0, 0) := by decide +kernel
theorem qL_691 : xe_look (xc 276) 691 = some (.iconst 2, 1, 0, 0, 0) := by decide +kernel
theorem qL_692 : xe_look (xc 276) 692 = some (.iadd, 1, 0, 0, 0) := by decide +kernel
theorem qL_693 : xe_look (xc 276) 693 = some (.iaload, 1, 0, 0, 0) := by decide +kernel
theorem qL_694 : xe_look (xc 276) 694 = some (.aload_n 0, 1, 0, 0, 0) := by decide +kernel
theorem qL_695 : xe_look (xc 276) 695 = some (.iload_n 3, 1, 0, 0, 0) := by decide +kernel
theorem qL_696 : xe_look (xc 276) 696 = some (.iconst 3, 1, 0, 0, 0) := by decide +kernel
theorem qL_697 : xe_look (xc 276) 697 = some (.iadd, 1, 0, 0, 0) := by decide +kernel
theorem qL_698 : xe_look (xc 276) 698 = some (.iaload, 1, 0, 0, 0) := by decide +kernel
theorem qL_699 : xe_look (xc 276) 699 = some (.aload_n 0, 1, 0, 0, 0) := by decide +kernel
theorem qL_700 : xe_look (xc 276) 700 = some (.iload_n 3, 1, 0, 0, 0) := by decide +kernel
theorem qL_701 : xe_look (xc 276) 701 = some (.iconst 4, 1, 0, 0, 0) := by decide +kernel
theorem qL_702 : xe_look (xc 276) 702 = some (.iadd, 1, 0, 0, 0) := by decide +kernel
theorem qL_703 : xe_look (xc 276) 703 = some (.iaload, 1, 0, 0, 0) := by decide +kernel
theorem qL_704 : xe_look (xc 276) 704 = some (.invokevirtual 82, 3, 0, 137, 1322) := by decide +kernel
theorem qL_707 : xe_look (xc 276) 707 = some (.pop, 1, 0, 0, 0) := by decide +kernel
theorem qL_708 : xe_look (xc 276) 708 = some (.aload_n 2, 1, 0, 0, 0) := by decide +kernel
theorem qL_709 : xe_look (xc 276) 709 = some (.aload_n 0, 1, 0, 0, 0) := by decide +kernel
theorem qL_710 : xe_look (xc 276) 710 = some (.iload_n 3, 1, 0, 0, 0) := by decide +kernel
theorem qL_711 : xe_look (xc 276) 711 = some (.iconst 1, 1, 0, 0, 0) := by decide +kernel
theorem qL_712 : xe_look (xc 276) 712 = some (.iadd, 1, 0, 0, 0) := by decide +kernel
theorem qL_713 : xe_look (xc 276) 713 = some (.iaload, 1, 0, 0, 0) := by decide +kernel
theorem qL_714 : xe_look (xc 276) 714 = some (.aload_n 0, 1, 0, 0, 0) := by decide +kernel
theorem qL_715 : xe_look (xc 276) 715 = some (.iload_n 3, 1, 0, 0, 0) := by decide +kernel
theorem qL_716 : xe_look (xc 276) 716 = some (.iconst 2, 1, 0, 0, 0) := by decide +kernel
theorem qL_717 : xe_look (xc 276) 717 = some (.iadd, 1, 0, 0, 0) := by decide +kernel
theorem qL_718 : xe_look (xc 276) 718 = some (.iaload, 1, 0, 0, 0) := by decide +kernel
theorem qL_719 : xe_look (xc 276) 719 = some (.aload_n 0, 1, 0, 0, 0) := by decide +kernel
theorem qL_720 : xe_look (xc 276) 720 = some (.iload_n 3, 1, 0, 0, 0) := by decide +kernel
theorem qL_721 : xe_look (xc 276) 721 = some (.iconst 3, 1, 0, 0, 0) := by decide +kernel
theorem qL_722 : xe_look (xc 276) 722 = some (.iadd, 1, 0, 0, 0) := by decide +kernel
theorem qL_723 : xe_look (xc 276) 723 = some (.iaload, 1, 0, 0, 0) := by decide +kernel
theorem qL_724 : xe_look (xc 276) 724 = some (.aload_n 0, 1, 0, 0, 0) := by decide +kernel
theorem qL_725 : xe_look (xc 276) 725 = some (.iload_n 3, 1, 0, 0, 0) := by decide +kernel
theorem qL_726 : xe_look (xc 276) 726 = some (.iconst 4, 1, 0, 0, 0) := by decide +kernel
theorem qL_727 : xe_look (xc 276) 727 = some (.iadd, 1, 0, 0, 0) := by decide +kernel
theorem qL_728 : xe_look (xc 276) 728 = some (.iaload, 1, 0, 0, 0) := by decide +kernel
theorem qL_729 : xe_look (xc 276) 729 = some (.invokevirtual 86, 3, 0, 228, 1323) := by decide +kernel
theorem qL_732 : xe_look (xc 276) 732 = some (.pop, 1, 0, 0, 0) := by decide +kernel
theorem qL_733 : xe_look (xc 276) 733 = some (.goto 581, 3, 0, 0, 0) := by decide +kernel
theorem qL_736 : xe_look (xc 276) 736 = some (.aload_n 1, 1, 0, 0, 0) := by decide +kernel
theorem qL_737 : xe_look (xc 276) 737 = some (.aload_n 0, 1, 0, 0, 0) := by decide +kernel
theorem qL_738 : xe_look (xc 276) 738 = some (.iload_n 3, 1, 0, 0, 0) := by decide +kernel
theorem qL_739 : xe_look (xc 276) 739 = some (.iconst 1, 1, 0, 0, 0) := by decide +kernel
theorem qL_740 : xe_look (xc 276) 740 = some (.iadd, 1, 0, 0, 0) := by decide +kernel
theorem qL_741 : xe_look (xc 276) 741 = some (.iaload, 1, 0, 0, 0) := by decide +kernel
theorem qL_742 : xe_look (xc 276) 742 = some (.aload_n 0, 1, 0, 0, 0) := by decide +kernel
theorem qL_743 : xe_look (xc 276) 743 = some (.iload_n 3, 1, 0, 0, 0) := by decide +kernel
theorem qL_744 : xe_look (xc 276) 744 = some (.iconst 2, 1, 0, 0, 0) := by decide +kernel
theorem qL_745 : xe_look (xc 276) 745 = some (.iadd, 1, 0, 0, 0) := by decide +kernel
theorem qL_746 : xe_look (xc 276) 746 = some (.iaload, 1, 0, 0, 0) := by decide +kernel
theorem qL_747 : xe_look (xc 276) 747 = some (.invokevirtual 87, 3, 0, 156, 1324) := by decide +kernel
theorem qL_750 : xe_look (xc 276) 750 = some (.pop2, 1, 0, 0, 0) := by decide +kernel
theorem qL_751 : xe_look (xc 276) 751 = some (.aload_n 2, 1, 0, 0, 0) := by decide +kernel
theorem qL_752 : xe_look (xc 276) 752 = some (.aload_n 0, 1, 0, 0, 0) := by decide +kernel
theorem qL_753 : xe_look (xc 276) 753 = some (.iload_n 3, 1, 0, 0, 0) := by decide +kernel
theorem qL_754 : xe_look (xc 276) 754 = some (.iconst 1, 1, 0, 0, 0) := by decide +kernel
theorem qL_755 : xe_look (xc 276) 755 = some (.iadd, 1, 0, 0, 0) := by decide +kernel
theorem qL_756 : xe_look (xc 276) 756 = some (.iaload, 1, 0, 0, 0) := by decide +kernel
theorem qL_757 : xe_look (xc 276) 757 = some (.aload_n 0, 1, 0, 0, 0) := by decide +kernel
theorem qL_758 : xe_look (xc 276) 758 = some (.iload_n 3, 1, 0, 0, 0) := by decide +kernel
theorem qL_759 : xe_look (xc 276) 759 = some (.iconst 2, 1, 0, 0, 0) := by decide +kernel
theorem qL_760 : xe_look (xc 276) 760 = some (.iadd, 1, 0, 0, 0) := by decide +kernel
theorem qL_761 : xe_look (xc 276) 761 = some (.iaload, 1, 0, 0, 0) := by decide +kernel
theorem qL_762 : xe_look (xc 276) 762 = some (.invokevirtual 91, 3, 0, 263, 1325) := by decide +kernel
theorem qL_765 : xe_look (xc 276) 765 = some (.pop2, 1, 0, 0, 0) := by decide +kernel
theorem qL_766 : xe_look (xc 276) 766 = some (.goto 548, 3, 0, 0, 0) := by decide +kernel
theorem qL_769 : xe_look (xc 276) 769 = some (.aload_n 1, 1, 0, 0, 0) := by decide +kernel
theorem qL_770 : xe_look (xc 276) 770 = some (.aload_n 0, 1, 0, 0, 0) := by decide +kernel
theorem qL_771 : xe_look (xc 276) 771 = some (.iload_n 3, 1, 0, 0, 0) := by decide +kernel
theorem qL_772 : xe_look (xc 276) 772 = some (.iconst 1, 1, 0, 0, 0) := by decide +kernel
theorem qL_773 : xe_look (xc 276) 773 = some (.iadd, 1, 0, 0, 0) := by decide +kernel
theorem qL_774 : xe_look (xc 276) 774 = some (.iaload, 1, 0, 0, 0) := by decide +kernel
theorem qL_775 : xe_look (xc 276) 775 = some (.aload_n 0, 1, 0, 0, 0) := by decide +kernel
theorem qL_776 : xe_look (xc 276) 776 = some (.iload_n 3, 1, 0, 0, 0) := by decide +kernel
theorem qL_777 : xe_look (xc 276) 777 = some (.iconst 2, 1, 0, 0, 0) := by decide +kernel
theorem qL_778 : xe_look (xc 276) 778 = some (.iadd, 1, 0, 0, 0) := by decide +kernel
theorem qL_779 : xe_look (xc 276) 779 = some (.iaload, 1, 0, 0, 0) := by decide +kernel
theorem qL_780 : xe_look (xc 276) 780 = some (.invokevirtual 92, 3, 0, 130, 1326) := by decide +kernel
theorem qL_783 : xe_look (xc 276) 783 = some (.pop2, 1, 0, 0, 0) := by decide +kernel
theorem qL_784 : xe_look (xc 276) 784 = some (.aload_n 2, 1, 0, 0, 0) := by decide +kernel
theorem qL_785 : xe_look (xc 276) 785 = some (.aload_n 0, 1, 0, 0, 0) := by decide +kernel
theorem qL_786 : xe_look (xc 276) 786 = some (.iload_n 3, 1, 0, 0, 0) := by decide +kernel
theorem qL_787 : xe_look (xc 276) 787 = some (.iconst 1, 1, 0, 0, 0) := by decide +kernel
theorem qL_788 : xe_look (xc 276) 788 = some (.iadd, 1, 0, 0, 0) := by decide +kernel
theorem qL_789 : xe_look (xc 276) 789 = some (.iaload, 1, 0, 0, 0) := by decide +kernel
theorem qL_790 : xe_look (xc 276) 790 = some (.aload_n 0, 1, 0, 0, 0) := by decide +kernel
theorem qL_791 : xe_look (xc 276) 791 = some (.iload_n 3, 1, 0, 0, 0) := by decide +kernel
theorem qL_792 : xe_look (xc 276) 792 = some (.iconst 2, 1, 0, 0, 0) := by decide +kernel
theorem qL_793 : xe_look (xc 276) 793 = some (.iadd, 1, 0, 0, 0) := by decide +kernel
theorem qL_794 : xe_look (xc 276) 794 = some (.iaload, 1, 0, 0, 0) := by decide +kernel
theorem qL_795 : xe_look (xc 276) 795 = some (.invokevirtual 95, 3, 0, 217, 1327) := by decide +kernel
theorem qL_798 : xe_look (xc 276) 798 = some (.pop2, 1, 0, 0, 0) := by decide +kernel
theorem qL_799 : xe_look (xc 276) 799 = some (.goto 515, 3, 0, 0, 0) := by decide +kernel
theorem qL_802 : xe_look (xc 276) 802 = some (.aload_n 1, 1, 0, 0, 0) := by decide +kernel
theorem qL_803 : xe_look (xc 276) 803 = some (.aload_n 0, 1, 0, 0, 0) := by decide +kernel
theorem qL_804 : xe_look (xc 276) 804 = some (.iload_n 3, 1, 0, 0, 0) := by decide +kernel
theorem qL_805 : xe_look (xc 276) 805 = some (.iconst 1, 1, 0, 0, 0) := by decide +kernel
theorem qL_806 : xe_look (xc 276) 806 = some (.iadd, 1, 0, 0, 0) := by decide +kernel
theorem qL_807 : xe_look (xc 276) 807 = some (.iaload, 1, 0, 0, 0) := by decide +kernel
theorem qL_808 : xe_look (xc 276) 808 = some (.aload_n 0, 1, 0, 0, 0) := by decide +kernel
theorem qL_809 : xe_look (xc 276) 809 = some (.iload_n 3, 1, 0, 0, 0) := by decide +kernel
theorem qL_810 : xe_look (xc 276) 810 = some (.iconst 2, 1, 0, 0, 0) := by decide +kernel
theorem qL_811 : xe_look (xc 276) 811 = some (.iadd, 1, 0, 0, 0) := by decide +kernel
theorem qL_812 : xe_look (xc 276) 812 = some (.iaload, 1, 0, 0, 0) := by decide +kernel
theorem qL_813 : xe_look (xc 276) 813 = some (.invokevirtual 96, 3, 0, 150, 1328) := by decide +kernel
theorem qL_816 : xe_look (xc 276) 816 = some (.pop, 1, 0, 0, 0) := by decide +kernel
theorem qL_817 : xe_look (xc 276) 817 = some (.aload_n 2, 1, 0, 0, 0) := by decide +kernel
theorem qL_818 : xe_look (xc 276) 818 = some (.aload_n 0, 1, 0, 0, 0) := by decide +kernel
theorem qL_819 : xe_look (xc 276) 819 = some (.iload_n 3, 1, 0, 0, 0) := by decide +kernel
theorem qL_820 : xe_look (xc 276) 820 = some (.iconst 1, 1, 0, 0, 0) := by decide +kernel
theorem qL_821 : xe_look (xc 276) 821 = some (.iadd, 1, 0, 0, 0) := by decide +kernel
theorem qL_822 : xe_look (xc 276) 822 = some (.iaload, 1, 0, 0, 0) := by decide +kernel
theorem qL_823 : xe_look (xc 276) 823 = some (.aload_n 0, 1, 0, 0, 0) := by decide +kernel
theorem qL_824 : xe_look (xc 276) 824 = some (.iload_n 3, 1, 0, 0, 0) := by decide +kernel
theorem qL_825 : xe_look (xc 276) 825 = some (.iconst 2, 1, 0, 0, 0) := by decide +kernel
theorem qL_826 : xe_look (xc 276) 826 = some (.iadd, 1, 0, 0, 0) := by decide +kernel
theorem qL_827 : xe_look (xc 276) 827 = some (.iaload, 1, 0, 0, 0) := by decide +kernel
theorem qL_828 : xe_look (xc 276) 828 = some (.invokevirtual 99, 3, 0, 258, 1329) := by decide +kernel
theorem qL_831 : xe_look (xc 276) 831 = some (.pop, 1, 0, 0, 0) := by decide +kernel
theorem qL_832 : xe_look (xc 276) 832 = some (.goto 482, 3, 0, 0, 0) := by decide +kernel
theorem qL_835 : xe_look (xc 276) 835 = some (.aload_n 1, 1, 0, 0, 0) := by decide +kernel
theorem qL_836 : xe_look (xc 276) 836 = some (.aload_n 0, 1, 0, 0, 0) := by decide +kernel
theorem qL_837 : xe_look (xc 276) 837 = some (.iload_n 3, 1, 0, 0, 0) := by decide +kernel
theorem qL_838 : xe_look (xc 276) 838 = some (.iconst 1, 1, 0, 0, 0) := by decide +kernel
theorem qL_839 : xe_look (xc 276) 839 = some (.iadd, 1, 0, 0, 0) := by decide +kernel
theorem qL_840 : xe_look (xc 276) 840 = some (.iaload, 1, 0, 0, 0) := by decide +kernel
theorem qL_841 : xe_look (xc 276) 841 = some (.aload_n 0, 1, 0, 0, 0) := by decide +kernel
theorem qL_842 : xe_look (xc 276) 842 = some (.iload_n 3, 1, 0, 0, 0) := by decide +kernel
theorem qL_843 : xe_look (xc 276) 843 = some (.iconst 2, 1, 0, 0, 0) := by decide +kernel
theorem qL_844 : xe_look (xc 276) 844 = some (.iadd, 1, 0, 0, 0) := by decide +kernel
theorem qL_845 : xe_look (xc 276) 845 = some (.iaload, 1, 0, 0, 0) := by decide +kernel
theorem qL_846 : xe_look (xc 276) 846 = some (.invokevirtual 100, 3, 0, 117, 1330) := by decide +kernel
theorem qL_849 : xe_look (xc 276) 849 = some (.pop, 1, 0, 0, 0) := by decide +kernel
theorem qL_850 : xe_look (xc 276) 850 = some (.aload_n 2, 1, 0, 0, 0) := by decide +kernel
theorem qL_851 : xe_look (xc 276) 851 = some (.aload_n 0, 1, 0, 0, 0) := by decide +kernel
theorem qL_852 : xe_look (xc 276) 852 = some (.iload_n 3, 1, 0, 0, 0) := by decide +kernel
theorem qL_853 : xe_look (xc 276) 853 = some (.iconst 1, 1, 0, 0, 0) := by decide +kernel
theorem qL_854 : xe_look (xc 276) 854 = some (.iadd, 1, 0, 0, 0) := by decide +kernel
theorem qL_855 : xe_look (xc 276) 855 = some (.iaload, 1, 0, 0, 0) := by decide +kernel
theorem qL_856 : xe_look (xc 276) 856 = some (.aload_n 0, 1, 0, 0, 0) := by decide +kernel
theorem qL_857 : xe_look (xc 276) 857 = some (.iload_n 3, 1, 0, 0, 0) := by decide +kernel
theorem qL_858 : xe_look (xc 276) 858 = some (.iconst 2, 1, 0, 0, 0) := by decide +kernel
theorem qL_859 : xe_look (xc 276) 859 = some (.iadd, 1, 0, 0, 0) := by decide +kernel
theorem qL_860 : xe_look (xc 276) 860 = some (.iaload, 1, 0, 0, 0) := by decide +kernel
theorem qL_861 : xe_look (xc 276) 861 = some (.invokevirtual 103, 3, 0, 184, 1331) := by decide +kernel
theorem qL_864 : xe_look (xc 276) 864 = some (.pop, 1, 0, 0, 0) := by decide +kernel
theorem qL_865 : xe_look (xc 276) 865 = some (.goto 449, 3, 0, 0, 0) := by decide +kernel
theorem qL_868 : xe_look (xc 276) 868 = some (.aload_n 1, 1, 0, 0, 0) := by decide +kernel
theorem qL_869 : xe_look (xc 276) 869 = some (.aload_n 0, 1, 0, 0, 0) := by decide +kernel
theorem qL_870 : xe_look (xc 276) 870 = some (.iload_n 3, 1, 0, 0, 0) := by decide +kernel
theorem qL_871 : xe_look (xc 276) 871 = some (.iconst 1, 1, 0, 0, 0) := by decide +kernel
theorem qL_872 : xe_look (xc 276) 872 = some (.iadd, 1, 0, 0, 0) := by decide +kernel
theorem qL_873 : xe_look (xc 276) 873 = some (.iaload, 1, 0, 0, 0) := by decide +kernel
theorem qL_874 : xe_look (xc 276) 874 = some (.aload_n 0, 1, 0, 0, 0) := by decide +kernel
theorem qL_875 : xe_look (xc 276) 875 = some (.iload_n 3, 1, 0, 0, 0) := by decide +kernel
theorem qL_876 : xe_look (xc 276) 876 = some (.iconst 2, 1, 0, 0, 0) := by decide +kernel
theorem qL_877 : xe_look (xc 276) 877 = some (.iadd, 1, 0, 0, 0) := by decide +kernel
theorem qL_878 : xe_look (xc 276) 878 = some (.iaload, 1, 0, 0, 0) := by decide +kernel
theorem qL_879 : xe_look (xc 276) 879 = some (.invokevirtual 104, 3, 0, 132, 1332) := by decide +kernel
theorem qL_882 : xe_look (xc 276) 882 = some (.pop2, 1, 0, 0, 0) := by decide +kernel
theorem qL_883 : xe_look (xc 276) 883 = some (.aload_n 2, 1, 0, 0, 0) := by decide +kernel
theorem qL_884 : xe_look (xc 276) 884 = some (.aload_n 0, 1, 0, 0, 0) := by decide +kernel
theorem qL_885 : xe_look (xc 276) 885 = some (.iload_n 3, 1, 0, 0, 0) := by decide +kernel
theorem qL_886 : xe_look (xc 276) 886 = some (.iconst 1, 1, 0, 0, 0) := by decide +kernel
theorem qL_887 : xe_look (xc 276) 887 = some (.iadd, 1, 0, 0, 0) := by decide +kernel
theorem qL_888 : xe_look (xc 276) 888 = some (.iaload, 1, 0, 0, 0) := by decide +kernel
theorem qL_889 : xe_look (xc 276) 889 = some (.aload_n 0, 1, 0, 0, 0) := by decide +kernel
theorem qL_890 : xe_look (xc 276) 890 = some (.iload_n 3, 1, 0, 0, 0) := by decide +kernel
theorem qL_891 : xe_look (xc 276) 891 = some (.iconst 2, 1, 0, 0, 0) := by decide +kernel
theorem qL_892 : xe_look (xc 276) 892 = some (.iadd, 1, 0, 0, 0) := by decide +kernel
theorem qL_893 : xe_look (xc 276) 893 = some (.iaload, 1, 0, 0, 0) := by decide +kernel
theorem qL_894 : xe_look (xc 276) 894 = some (.invokevirtual 107, 3, 0, 219, 1333) := by decide +kernel
theorem qL_897 : xe_look (xc 276) 897 = some (.pop2, 1, 0, 0, 0) := by decide +kernel
theorem qL_898 : xe_look (xc 276) 898 = some (.goto 416, 3, 0, 0, 0) := by decide +kernel
theorem qL_901 : xe_look (xc 276) 901 = some (.aload_n 1, 1, 0, 0, 0) := by decide +kernel
theorem qL_902 : xe_look (xc 276) 902 = some (.aload_n 0, 1, 0, 0, 0) := by decide +kernel
theorem qL_903 : xe_look (xc 276) 903 = some (.iload_n 3, 1, 0, 0, 0) := by decide +kernel
theorem qL_904 : xe_look (xc 276) 904 = some (.iconst 1, 1, 0, 0, 0) := by decide +kernel
theorem qL_905 : xe_look (xc 276) 905 = some (.iadd, 1, 0, 0, 0) := by decide +kernel
theorem qL_906 : xe_look (xc 276) 906 = some (.iaload, 1, 0, 0, 0) := by decide +kernel
theorem qL_907 : xe_look (xc 276) 907 = some (.aload_n 0, 1, 0, 0, 0) := by decide +kernel
theorem qL_908 : xe_look (xc 276) 908 = some (.iload_n 3, 1, 0, 0, 0) := by decide +kernel
theorem qL_909 : xe_look (xc 276) 909 = some (.iconst 2, 1, 0, 0, 0) := by decide +kernel
theorem qL_910 : xe_look (xc 276) 910 = some (.iadd, 1, 0, 0, 0) := by decide +kernel
theorem qL_911 : xe_look (xc 276) 911 = some (.iaload, 1, 0, 0, 0) := by decide +kernel
theorem qL_912 : xe_look (xc 276) 912 = some (.invokevirtual 108, 3, 0, 111, 1334) := by decide +kernel
theorem qL_915 : xe_look (xc 276) 915 = some (.pop, 1, 0, 0, 0) := by decide +kernel
theorem qL_916 : xe_look (xc 276) 916 = some (.aload_n 2, 1, 0, 0, 0) := by decide +kernel
theorem qL_917 : xe_look (xc 276) 917 = some (.aload_n 0, 1, 0, 0, 0) := by decide +kernel
theorem qL_918 : xe_look (xc 276) 918 = some (.iload_n 3, 1, 0, 0, 0) := by decide +kernel
theorem qL_919 : xe_look (xc 276) 919 = some (.iconst 1, 1, 0, 0, 0) := by decide +kernel
theorem qL_920 : xe_look (xc 276) 920 = some (.iadd, 1, 0, 0, 0) := by decide +kernel
theorem qL_921 : xe_look (xc 276) 921 = some (.iaload, 1, 0, 0, 0) := by decide +kernel
theorem qL_922 : xe_look (xc 276) 922 = some (.aload_n 0, 1, 0, 0, 0) := by decide +kernel
theorem qL_923 : xe_look (xc 276) 923 = some (.iload_n 3, 1, 0, 0, 0) := by decide +kernel
theorem qL_924 : xe_look (xc 276) 924 = some (.iconst 2, 1, 0, 0, 0) := by decide +kernel
theorem qL_925 : xe_look (xc 276) 925 = some (.iadd, 1, 0, 0, 0) := by decide +kernel
theorem qL_926 : xe_look (xc 276) 926 = some (.iaload, 1, 0, 0, 0) := by decide +kernel
theorem qL_927 : xe_look (xc 276) 927 = some (.invokevirtual 111, 3, 0, 177, 1335) := by decide +kernel
theorem qL_930 : xe_look (xc 276) 930 = some (.pop, 1, 0, 0, 0) := by decide +kernel
theorem qL_931 : xe_look (xc 276) 931 = some (.goto 383, 3, 0, 0, 0) := by decide +kernel
theorem qL_934 : xe_look (xc 276) 934 = some (.aload_n 1, 1, 0, 0, 0) := by decide +kernel
theorem qL_935 : xe_look (xc 276) 935 = some (.aload_n 0, 1, 0, 0, 0) := by decide +kernel
theorem qL_936 : xe_look (xc 276) 936 = some (.iload_n 3, 1, 0, 0, 0) := by decide +kernel
theorem qL_937 : xe_look (xc 276) 937 = some (.iconst 1, 1, 0, 0, 0) := by decide +kernel
theorem qL_938 : xe_look (xc 276) 938 = some (.iadd, 1, 0, 0, 0) := by decide +kernel
theorem qL_939 : xe_look (xc 276) 939 = some (.iaload, 1, 0, 0, 0) := by decide +kernel
theorem qL_940 : xe_look (xc 276) 940 = some (.aload_n 0, 1, 0, 0, 0) := by decide +kernel
theorem qL_941 : xe_look (xc 276) 941 = some (.iload_n 3, 1, 0, 0, 0) := by decide +kernel
theorem qL_942 : xe_look (xc 276) 942 = some (.iconst 2, 1, 0, 0, 0) := by decide +kernel
theorem qL_943 : xe_look (xc 276) 943 = some (.iadd, 1, 0, 0, 0) := by decide +kernel
theorem qL_944 : xe_look (xc 276) 944 = some (.iaload, 1, 0, 0, 0) := by decide +kernel
theorem qL_945 : xe_look (xc 276) 945 = some (.invokevirtual 112, 3, 0, 149, 1336) := by decide +kernel
theorem qL_948 : xe_look (xc 276) 948 = some (.pop2, 1, 0, 0, 0) := by decide +kernel
theorem qL_949 : xe_look (xc 276) 949 = some (.aload_n 2, 1, 0, 0, 0) := by decide +kernel
theorem qL_950 : xe_look (xc 276) 950 = some (.aload_n 0, 1, 0, 0, 0) := by decide +kernel
theorem qL_951 : xe_look (xc 276) 951 = some (.iload_n 3, 1, 0, 0, 0) := by decide +kernel
theorem qL_952 : xe_look (xc 276) 952 = some (.iconst 1, 1, 0, 0, 0) := by decide +kernel
theorem qL_953 : xe_look (xc 276) 953 = some (.iadd, 1, 0, 0, 0) := by decide +kernel
theorem qL_954 : xe_look (xc 276) 954 = some (.iaload, 1, 0, 0, 0) := by decide +kernel
theorem qL_955 : xe_look (xc 276) 955 = some (.aload_n 0, 1, 0, 0, 0) := by decide +kernel
theorem qL_956 : xe_look (xc 276) 956 = some (.iload_n 3, 1, 0, 0, 0) := by decide +kernel
theorem qL_957 : xe_look (xc 276) 957 = some (.iconst 2, 1, 0, 0, 0) := by decide +kernel
theorem qL_958 : xe_look (xc 276) 958 = some (.iadd, 1, 0, 0, 0) := by decide +kernel
theorem qL_959 : xe_look (xc 276) 959 = some (.iaload, 1, 0, 0, 0) := by decide +kernel
theorem qL_960 : xe_look (xc 276) 960 = some (.invokevirtual 115, 3, 0, 254, 1337) := by decide +kernel
theorem qL_963 : xe_look (xc 276) 963 = some (.pop2, 1, 0, 0, 0) := by decide +kernel
theorem qL_964 : xe_look (xc 276) 964 = some (.goto 350, 3, 0, 0, 0) := by decide +kernel
theorem qL_967 : xe_look (xc 276) 967 = some (.aload_n 1, 1, 0, 0, 0) := by decide +kernel
theorem qL_968 : xe_look (xc 276) 968 = some (.aload_n 0, 1, 0, 0, 0) := by decide +kernel
theorem qL_969 : xe_look (xc 276) 969 = some (.iload_n 3, 1, 0, 0, 0) := by decide +kernel
theorem qL_970 : xe_look (xc 276) 970 = some (.iconst 1, 1, 0, 0, 0) := by decide +kernel
theorem qL_971 : xe_look (xc 276) 971 = some (.iadd, 1, 0, 0, 0) := by decide +kernel
theorem qL_972 : xe_look (xc 276) 972 = some (.iaload, 1, 0, 0, 0) := by decide +kernel
theorem qL_973 : xe_look (xc 276) 973 = some (.aload_n 0, 1, 0, 0, 0) := by decide +kernel
theorem qL_974 : xe_look (xc 276) 974 = some (.iload_n 3, 1, 0, 0, 0) := by decide +kernel
theorem qL_975 : xe_look (xc 276) 975 = some (.iconst 2, 1, 0, 0, 0) := by decide +kernel
theorem qL_976 : xe_look (xc 276) 976 = some (.iadd, 1, 0, 0, 0) := by decide +kernel
theorem qL_977 : xe_look (xc 276) 977 = some (.iaload, 1, 0, 0, 0) := by decide +kernel
theorem qL_978 : xe_look (xc 276) 978 = some (.aload_n 0, 1, 0, 0, 0) := by decide +kernel
theorem qL_979 : xe_look (xc 276) 979 = some (.iload_n 3, 1, 0, 0, 0) := by decide +kernel
theorem qL_980 : xe_look (xc 276) 980 = some (.iconst 3, 1, 0, 0, 0) := by decide +kernel
theorem qL_981 : xe_look (xc 276) 981 = some (.iadd, 1, 0, 0, 0) := by decide +kernel
theorem qL_982 : xe_look (xc 276) 982 = some (.iaload, 1, 0, 0, 0) := by decide +kernel
theorem qL_983 : xe_look (xc 276) 983 = some (.aload_n 0, 1, 0, 0, 0) := by decide +kernel
theorem qL_984 : xe_look (xc 276) 984 = some (.iload_n 3, 1, 0, 0, 0) := by decide +kernel
theorem qL_985 : xe_look (xc 276) 985 = some (.iconst 4, 1, 0, 0, 0) := by decide +kernel
theorem qL_986 : xe_look (xc 276) 986 = some (.iadd, 1, 0, 0, 0) := by decide +kernel
theorem qL_987 : xe_look (xc 276) 987 = some (.iaload, 1, 0, 0, 0) := by decide +kernel
theorem qL_988 : xe_look (xc 276) 988 = some (.invokevirtual 116, 3, 0, 142, 1338) := by decide +kernel
theorem qL_991 : xe_look (xc 276) 991 = some (.pop2, 1, 0, 0, 0) := by decide +kernel
theorem qL_992 : xe_look (xc 276) 992 = some (.aload_n 2, 1, 0, 0, 0) := by decide +kernel
theorem qL_993 : xe_look (xc 276) 993 = some (.aload_n 0, 1, 0, 0, 0) := by decide +kernel
theorem qL_994 : xe_look (xc 276) 994 = some (.iload_n 3, 1, 0, 0, 0) := by decide +kernel
theorem qL_995 : xe_look (xc 276) 995 = some (.iconst 1, 1, 0, 0, 0) := by decide +kernel
theorem qL_996 : xe_look (xc 276) 996 = some (.iadd, 1, 0, 0, 0) := by decide +kernel
theorem qL_997 : xe_look (xc 276) 997 = some (.iaload, 1, 0, 0, 0) := by decide +kernel
theorem qL_998 : xe_look (xc 276) 998 = some (.aload_n 0, 1, 0, 0, 0) := by decide +kernel
theorem qL_999 : xe_look (xc 276) 999 = some (.iload_n 3, 1, 0, 0, 0) := by decide +kernel
theorem qL_1000 : xe_look (xc 276) 1000 = some (.iconst 2, 1, 0, 0, 0) := by decide +kernel
theorem qL_1001 : xe_look (xc 276) 1001 = some (.iadd, 1, 0, 0, 0) := by decide +kernel
theorem qL_1002 : xe_look (xc 276) 1002 = some (.iaload, 1, 0, 0, 0) := by decide +kernel
theorem qL_1003 : xe_look (xc 276) 1003 = some (.aload_n 0, 1, 0, 0, 0) := by decide +kernel
theorem qL_1004 : xe_look (xc 276) 1004 = some (.iload_n 3, 1, 0, 0, 0) := by decide +kernel
theorem qL_1005 : xe_look (xc 276) 1005 = some (.iconst 3, 1, 0, 0, 0) := by decide +kernel
theorem qL_1006 : xe_look (xc 276) 1006 = some (.iadd, 1, 0, 0, 0) := by decide +kernel
theorem qL_1007 : xe_look (xc 276) 1007 = some (.iaload, 1, 0, 0, 0) := by decide +kernel
theorem qL_1008 : xe_look (xc 276) 1008 = some (.aload_n 0, 1, 0, 0, 0) := by decide +kernel
theorem qL_1009 : xe_look (xc 276) 1009 = some (.iload_n 3, 1, 0, 0, 0) := by decide +kernel
theorem qL_1010 : xe_look (xc 276) 1010 = some (.iconst 4, 1, 0, 0, 0) := by decide +kernel
theorem qL_1011 : xe_look (xc 276) 1011 = some (.iadd, 1, 0, 0, 0) := by decide +kernel
theorem qL_1012 : xe_look (xc 276) 1012 = some (.iaload, 1, 0, 0, 0) := by decide +kernel
theorem qL_1013 : xe_look (xc 276) 1013 = some (.invokevirtual 120, 3, 0, 243, 1339) := by decide +kernel
theorem qL_1016 : xe_look (xc 276) 1016 = some (.pop2, 1, 0, 0, 0) := by decide +kernel
theorem qL_1017 : xe_look (xc 276) 1017 = some (.goto 297, 3, 0, 0, 0) := by decide +kernel
theorem qL_1020 : xe_look (xc 276) 1020 = some (.aload_n 1, 1, 0, 0, 0) := by decide +kernel
theorem qL_1021 : xe_look (xc 276) 1021 = some (.aload_n 0, 1, 0, 0, 0) := by decide +kernel
theorem qL_1022 : xe_look (xc 276) 1022 = some (.iload_n 3, 1, 0, 0, 0) := by decide +kernel
theorem qL_1023 : xe_look (xc 276) 1023 = some (.iconst 1, 1, 0, 0, 0) := by decide +kernel
theorem qL_1024 : xe_look (xc 276) 1024 = some (.iadd, 1, 0, 0, 0) := by decide +kernel
theorem qL_1025 : xe_look (xc 276) 1025 = some (.iaload, 1, 0, 0, 0) := by decide +kernel
theorem qL_1026 : xe_look (xc 276) 1026 = some (.aload_n 0, 1, 0, 0, 0) := by decide +kernel
theorem qL_1027 : xe_look (xc 276) 1027 = some (.iload_n 3, 1, 0, 0, 0) := by decide +kernel
theorem qL_1028 : xe_look (xc 276) 1028 = some (.iconst 2, 1, 0, 0, 0) := by decide +kernel
theorem qL_1029 : xe_look (xc 276) 1029 = some (.iadd, 1, 0, 0, 0) := by decide +kernel
theorem qL_1030 : xe_look (xc 276) 1030 = some (.iaload, 1, 0, 0, 0) := by decide +kernel
theorem qL_1031 : xe_look (xc 276) 1031 = some (.aload_n 0, 1, 0, 0, 0) := by decide +kernel
theorem qL_1032 : xe_look (xc 276) 1032 = some (.iload_n 3, 1, 0, 0, 0) := by decide +kernel
theorem qL_1033 : xe_look (xc 276) 1033 = some (.iconst 3, 1, 0, 0, 0) := by decide +kernel
theorem qL_1034 : xe_look (xc 276) 1034 = some (.iadd, 1, 0, 0, 0) := by decide +kernel
theorem qL_1035 : xe_look (xc 276) 1035 = some (.iaload, 1, 0, 0, 0) := by decide +kernel
theorem qL_1036 : xe_look (xc 276) 1036 = some (.invokevirtual 121, 3, 0, 145, 1340) := by decide +kernel
theorem qL_1039 : xe_look (xc 276) 1039 = some (.pop, 1, 0, 0, 0) := by decide +kernel
theorem qL_1040 : xe_look (xc 276) 1040 = some (.aload_n 2, 1, 0, 0, 0) := by decide +kernel
theorem qL_1041 : xe_look (xc 276) 1041 = some (.aload_n 0, 1, 0, 0, 0) := by decide +kernel
theorem qL_1042 : xe_look (xc 276) 1042 = some (.iload_n 3, 1, 0, 0, 0) := by decide +kernel
theorem qL_1043 : xe_look (xc 276) 1043 = some (.iconst 1, 1, 0, 0, 0) := by decide +kernel
theorem qL_1044 : xe_look (xc 276) 1044 = some (.iadd, 1, 0, 0, 0) := by decide +kernel
theorem qL_1045 : xe_look (xc 276) 1045 = some (.iaload, 1, 0, 0, 0) := by decide +kernel
theorem qL_1046 : xe_look (xc 276) 1046 = some (.aload_n 0, 1, 0, 0, 0) := by decide +kernel
theorem qL_1047 : xe_look (xc 276) 1047 = some (.iload_n 3, 1, 0, 0, 0) := by decide +kernel
theorem qL_1048 : xe_look (xc 276) 1048 = some (.iconst 2, 1, 0, 0, 0) := by decide +kernel
theorem qL_1049 : xe_look (xc 276) 1049 = some (.iadd, 1, 0, 0, 0) := by decide +kernel
theorem qL_1050 : xe_look (xc 276) 1050 = some (.iaload, 1, 0, 0, 0) := by decide +kernel
theorem qL_1051 : xe_look (xc 276) 1051 = some (.aload_n 0, 1, 0, 0, 0) := by decide +kernel
theorem qL_1052 : xe_look (xc 276) 1052 = some (.iload_n 3, 1, 0, 0, 0) := by decide +kernel
theorem qL_1053 : xe_look (xc 276) 1053 = some (.iconst 3, 1, 0, 0, 0) := by decide +kernel
theorem qL_1054 : xe_look (xc 276) 1054 = some (.iadd, 1, 0, 0, 0) := by decide +kernel
theorem qL_1055 : xe_look (xc 276) 1055 = some (.iaload, 1, 0, 0, 0) := by decide +kernel
theorem qL_1056 : xe_look (xc 276) 1056 = some (.invokevirtual 124, 3, 0, 246, 1341) := by decide +kernel
theorem qL_1059 : xe_look (xc 276) 1059 = some (.pop, 1, 0, 0, 0) := by decide +kernel
theorem qL_1060 : xe_look (xc 276) 1060 = some (.goto 254, 3, 0, 0, 0) := by decide +kernel
theorem qL_1063 : xe_look (xc 276) 1063 = some (.aload_n 1, 1, 0, 0, 0) := by decide +kernel
theorem qL_1064 : xe_look (xc 276) 1064 = some (.aload_n 0, 1, 0, 0, 0) := by decide +kernel
theorem qL_1065 : xe_look (xc 276) 1065 = some (.iload_n 3, 1, 0, 0, 0) := by decide +kernel
theorem qL_1066 : xe_look (xc 276) 1066 = some (.iconst 1, 1, 0, 0, 0) := by decide +kernel
theorem qL_1067 : xe_look (xc 276) 1067 = some (.iadd, 1, 0, 0, 0) := by decide +kernel
theorem qL_1068 : xe_look (xc 276) 1068 = some (.iaload, 1, 0, 0, 0) := by decide +kernel
theorem qL_1069 : xe_look (xc 276) 1069 = some (.aload_n 0, 1, 0, 0, 0) := by decide +kernel
theorem qL_1070 : xe_look (xc 276) 1070 = some (.iload_n 3, 1, 0, 0, 0) := by decide +kernel
theorem qL_1071 : xe_look (xc 276) 1071 = some (.iconst 2, 1, 0, 0, 0) := by decide +kernel
theorem qL_1072 : xe_look (xc 276) 1072 = some (.iadd, 1, 0, 0, 0) := by decide +kernel
theorem qL_1073 : xe_look (xc 276) 1073 = some (.iaload, 1, 0, 0, 0) := by decide +kernel
theorem qL_1074 : xe_look (xc 276) 1074 = some (.invokevirtual 125, 3, 0, 133, 1342) := by decide +kernel
theorem qL_1077 : xe_look (xc 276) 1077 = some (.pop, 1, 0, 0, 0) := by decide +kernel
theorem qL_1078 : xe_look (xc 276) 1078 = some (.aload_n 2, 1, 0, 0, 0) := by decide +kernel
theorem qL_1079 : xe_look (xc 276) 1079 = some (.aload_n 0, 1, 0, 0, 0) := by decide +kernel
theorem qL_1080 : xe_look (xc 276) 1080 = some (.iload_n 3, 1, 0, 0, 0) := by decide +kernel
theorem qL_1081 : xe_look (xc 276) 1081 = some (.iconst 1, 1, 0, 0, 0) := by decide +kernel
theorem qL_1082 : xe_look (xc 276) 1082 = some (.iadd, 1, 0, 0, 0) := by decide +kernel
theorem qL_1083 : xe_look (xc 276) 1083 = some (.iaload, 1, 0, 0, 0) := by decide +kernel
theorem qL_1084 : xe_look (xc 276) 1084 = some (.aload_n 0, 1, 0, 0, 0) := by decide +kernel
theorem qL_1085 : xe_look (xc 276) 1085 = some (.iload_n 3, 1, 0, 0, 0) := by decide +kernel
theorem qL_1086 : xe_look (xc 276) 1086 = some (.iconst 2, 1, 0, 0, 0) := by decide +kernel
theorem qL_1087 : xe_look (xc 276) 1087 = some (.iadd, 1, 0, 0, 0) := by decide +kernel
theorem qL_1088 : xe_look (xc 276) 1088 = some (.iaload, 1, 0, 0, 0) := by decide +kernel
theorem qL_1089 : xe_look (xc 276) 1089 = some (.invokevirtual 128, 3, 0, 220, 1343) := by decide +kernel
theorem qL_1092 : xe_look (xc 276) 1092 = some (.pop, 1, 0, 0, 0) := by decide +kernel
theorem qL_1093 : xe_look (xc 276) 1093 = some (.goto 221, 3, 0, 0, 0) := by decide +kernel
theorem qL_1096 : xe_look (xc 276) 1096 = some (.aload_n 1, 1, 0, 0, 0) := by decide +kernel
theorem qL_1097 : xe_look (xc 276) 1097 = some (.aload_n 0, 1, 0, 0, 0) := by decide +kernel
theorem qL_1098 : xe_look (xc 276) 1098 = some (.iload_n 3, 1, 0, 0, 0) := by decide +kernel
theorem qL_1099 : xe_look (xc 276) 1099 = some (.iconst 1, 1, 0, 0, 0) := by decide +kernel
theorem qL_1100 : xe_look (xc 276) 1100 = some (.iadd, 1, 0, 0, 0) := by decide +kernel
theorem qL_1101 : xe_look (xc 276) 1101 = some (.iaload, 1, 0, 0, 0) := by decide +kernel
theorem qL_1102 : xe_look (xc 276) 1102 = some (.aload_n 0, 1, 0, 0, 0) := by decide +kernel
theorem qL_1103 : xe_look (xc 276) 1103 = some (.iload_n 3, 1, 0, 0, 0) := by decide +kernel
theorem qL_1104 : xe_look (xc 276) 1104 = some (.iconst 2, 1, 0, 0, 0) := by decide +kernel
theorem qL_1105 : xe_look (xc 276) 1105 = some (.iadd, 1, 0, 0, 0) := by decide +kernel
theorem qL_1106 : xe_look (xc 276) 1106 = some (.iaload, 1, 0, 0, 0) := by decide +kernel
theorem qL_1107 : xe_look (xc 276) 1107 = some (.invokevirtual 129, 3, 0, 131, 1344) := by decide +kernel
theorem qL_1110 : xe_look (xc 276) 1110 = some (.pop, 1, 0, 0, 0) := by decide +kernel
theorem qL_1111 : xe_look (xc 276) 1111 = some (.aload_n 2, 1, 0, 0, 0) := by decide +kernel
theorem qL_1112 : xe_look (xc 276) 1112 = some (.aload_n 0, 1, 0, 0, 0) := by decide +kernel
theorem qL_1113 : xe_look (xc 276) 1113 = some (.iload_n 3, 1, 0, 0, 0) := by decide +kernel
theorem qL_1114 : xe_look (xc 276) 1114 = some (.iconst 1, 1, 0, 0, 0) := by decide +kernel
theorem qL_1115 : xe_look (xc 276) 1115 = some (.iadd, 1, 0, 0, 0) := by decide +kernel
theorem qL_1116 : xe_look (xc 276) 1116 = some (.iaload, 1, 0, 0, 0) := by decide +kernel
theorem qL_1117 : xe_look (xc 276) 1117 = some (.aload_n 0, 1, 0, 0, 0) := by decide +kernel
theorem qL_1118 : xe_look (xc 276) 1118 = some (.iload_n 3, 1, 0, 0, 0) := by decide +kernel
theorem qL_1119 : xe_look (xc 276) 1119 = some (.iconst 2, 1, 0, 0, 0) := by decide +kernel
theorem qL_1120 : xe_look (xc 276) 1120 = some (.iadd, 1, 0, 0, 0) := by decide +kernel
theorem qL_1121 : xe_look (xc 276) 1121 = some (.iaload, 1, 0, 0, 0) := by decide +kernel
theorem qL_1122 : xe_look (xc 276) 1122 = some (.invokevirtual 132, 3, 0, 218, 1345) := by decide +kernel
theorem qL_1125 : xe_look (xc 276) 1125 = some (.pop, 1, 0, 0, 0) := by decide +kernel
theorem qL_1126 : xe_look (xc 276) 1126 = some (.goto 188, 3, 0, 0, 0) := by decide +kernel
theorem qL_1129 : xe_look (xc 276) 1129 = some (.aload_n 1, 1, 0, 0, 0) := by decide +kernel
theorem qL_1130 : xe_look (xc 276) 1130 = some (.aload_n 0, 1, 0, 0, 0) := by decide +kernel
theorem qL_1131 : xe_look (xc 276) 1131 = some (.iload_n 3, 1, 0, 0, 0) := by decide +kernel
theorem qL_1132 : xe_look (xc 276) 1132 = some (.iconst 1, 1, 0, 0, 0) := by decide +kernel
theorem qL_1133 : xe_look (xc 276) 1133 = some (.iadd, 1, 0, 0, 0) := by decide +kernel
theorem qL_1134 : xe_look (xc 276) 1134 = some (.iaload, 1, 0, 0, 0) := by decide +kernel
theorem qL_1135 : xe_look (xc 276) 1135 = some (.aload_n 0, 1, 0, 0, 0) := by decide +kernel
theorem qL_1136 : xe_look (xc 276) 1136 = some (.iload_n 3, 1, 0, 0, 0) := by decide +kernel
theorem qL_1137 : xe_look (xc 276) 1137 = some (.iconst 2, 1, 0, 0, 0) := by decide +kernel
theorem qL_1138 : xe_look (xc 276) 1138 = some (.iadd, 1, 0, 0, 0) := by decide +kernel
theorem qL_1139 : xe_look (xc 276) 1139 = some (.iaload, 1, 0, 0, 0) := by decide +kernel
theorem qL_1140 : xe_look (xc 276) 1140 = some (.aload_n 0, 1, 0, 0, 0) := by decide +kernel
theorem qL_1141 : xe_look (xc 276) 1141 = some (.iload_n 3, 1, 0, 0, 0) := by decide +kernel
theorem qL_1142 : xe_look (xc 276) 1142 = some (.iconst 3, 1, 0, 0, 0) := by decide +kernel
theorem qL_1143 : xe_look (xc 276) 1143 = some (.iadd, 1, 0, 0, 0) := by decide +kernel
theorem qL_1144 : xe_look (xc 276) 1144 = some (.iaload, 1, 0, 0, 0) := by decide +kernel
theorem qL_1145 : xe_look (xc 276) 1145 = some (.invokevirtual 133, 3, 0, 127, 1346) := by decide +kernel
theorem qL_1148 : xe_look (xc 276) 1148 = some (.aload_n 2, 1, 0, 0, 0) := by decide +kernel
theorem qL_1149 : xe_look (xc 276) 1149 = some (.aload_n 0, 1, 0, 0, 0) := by decide +kernel
theorem qL_1150 : xe_look (xc 276) 1150 = some (.iload_n 3, 1, 0, 0, 0) := by decide +kernel
theorem qL_1151 : xe_look (xc 276) 1151 = some (.iconst 1, 1, 0, 0, 0) := by decide +kernel
theorem qL_1152 : xe_look (xc 276) 1152 = some (.iadd, 1, 0, 0, 0) := by decide +kernel
theorem qL_1153 : xe_look (xc 276) 1153 = some (.iaload, 1, 0, 0, 0) := by decide +kernel
theorem qL_1154 : xe_look (xc 276) 1154 = some (.aload_n 0, 1, 0, 0, 0) := by decide +kernel
theorem qL_1155 : xe_look (xc 276) 1155 = some (.iload_n 3, 1, 0, 0, 0) := by decide +kernel
theorem qL_1156 : xe_look (xc 276) 1156 = some (.iconst 2, 1, 0, 0, 0) := by decide +kernel
theorem qL_1157 : xe_look (xc 276) 1157 = some (.iadd, 1, 0, 0, 0) := by decide +kernel
theorem qL_1158 : xe_look (xc 276) 1158 = some (.iaload, 1, 0, 0, 0) := by decide +kernel
theorem qL_1159 : xe_look (xc 276) 1159 = some (.aload_n 0, 1, 0, 0, 0) := by decide +kernel
theorem qL_1160 : xe_look (xc 276) 1160 = some (.iload_n 3, 1, 0, 0, 0) := by decide +kernel
theorem qL_1161 : xe_look (xc 276) 1161 = some (.iconst 3, 1, 0, 0, 0) := by decide +kernel
theorem qL_1162 : xe_look (xc 276) 1162 = some (.iadd, 1, 0, 0, 0) := by decide +kernel
theorem qL_1163 : xe_look (xc 276) 1163 = some (.iaload, 1, 0, 0, 0) := by decide +kernel
theorem qL_1164 : xe_look (xc 276) 1164 = some (.invokevirtual 137, 3, 0, 210, 1347) := by decide +kernel
theorem qL_1167 : xe_look (xc 276) 1167 = some (.lcmp, 1, 0, 0, 0) := by decide +kernel
theorem qL_1168 : xe_look (xc 276) 1168 = some (.ifCond .eq 146, 3, 0, 0, 0) := by decide +kernel
theorem qL_1173 : xe_look (xc 276) 1173 = some (.aload_n 1, 1, 0, 0, 0) := by decide +kernel
theorem qL_1174 : xe_look (xc 276) 1174 = some (.aload_n 0, 1, 0, 0, 0) := by decide +kernel
theorem qL_1175 : xe_look (xc 276) 1175 = some (.iload_n 3, 1, 0, 0, 0) := by decide +kernel
theorem qL_1176 : xe_look (xc 276) 1176 = some (.iconst 1, 1, 0, 0, 0) := by decide +kernel
theorem qL_1177 : xe_look (xc 276) 1177 = some (.iadd, 1, 0, 0, 0) := by decide +kernel
theorem qL_1178 : xe_look (xc 276) 1178 = some (.iaload, 1, 0, 0, 0) := by decide +kernel
theorem qL_1179 : xe_look (xc 276) 1179 = some (.invokevirtual 138, 3, 0, 121, 1348) := by decide +kernel
theorem qL_1182 : xe_look (xc 276) 1182 = some (.pop2, 1, 0, 0, 0) := by decide +kernel
theorem qL_1183 : xe_look (xc 276) 1183 = some (.aload_n 2, 1, 0, 0, 0) := by decide +kernel
theorem qL_1184 : xe_look (xc 276) 1184 = some (.aload_n 0, 1, 0, 0, 0) := by decide +kernel
theorem qL_1185 : xe_look (xc 276) 1185 = some (.iload_n 3, 1, 0, 0, 0) := by decide +kernel
theorem qL_1186 : xe_look (xc 276) 1186 = some (.iconst 1, 1, 0, 0, 0) := by decide +kernel
theorem qL_1187 : xe_look (xc 276) 1187 = some (.iadd, 1, 0, 0, 0) := by decide +kernel
theorem qL_1188 : xe_look (xc 276) 1188 = some (.iaload, 1, 0, 0, 0) := by decide +kernel
theorem qL_1189 : xe_look (xc 276) 1189 = some (.invokevirtual 142, 3, 0, 195, 1349) := by decide +kernel
theorem qL_1192 : xe_look (xc 276) 1192 = some (.pop2, 1, 0, 0, 0) := by decide +kernel
theorem qL_1193 : xe_look (xc 276) 1193 = some (.goto 121, 3, 0, 0, 0) := by decide +kernel
theorem qL_1196 : xe_look (xc 276) 1196 = some (.aload_n 1, 1, 0, 0, 0) := by decide +kernel
theorem qL_1197 : xe_look (xc 276) 1197 = some (.invokevirtual 143, 3, 0, 140, 1350) := by decide +kernel
theorem qL_1200 : xe_look (xc 276) 1200 = some (.pop, 1, 0, 0, 0) := by decide +kernel
theorem qL_1201 : xe_look (xc 276) 1201 = some (.aload_n 2, 1, 0, 0, 0) := by decide +kernel
theorem qL_1202 : xe_look (xc 276) 1202 = some (.invokevirtual 146, 3, 0, 232, 1351) := by decide +kernel
theorem qL_1205 : xe_look (xc 276) 1205 = some (.pop, 1, 0, 0, 0) := by decide +kernel
theorem qL_1206 : xe_look (xc 276) 1206 = some (.goto 108, 3, 0, 0, 0) := by decide +kernel
theorem qL_1209 : xe_look (xc 276) 1209 = some (.aload_n 1, 1, 0, 0, 0) := by decide +kernel
theorem qL_1210 : xe_look (xc 276) 1210 = some (.aload_n 0, 1, 0, 0, 0) := by decide +kernel
theorem qL_1211 : xe_look (xc 276) 1211 = some (.iload_n 3, 1, 0, 0, 0) := by decide +kernel
theorem qL_1212 : xe_look (xc 276) 1212 = some (.iconst 1, 1, 0, 0, 0) := by decide +kernel
theorem qL_1213 : xe_look (xc 276) 1213 = some (.iadd, 1, 0, 0, 0) := by decide +kernel
theorem qL_1214 : xe_look (xc 276) 1214 = some (.iaload, 1, 0, 0, 0) := by decide +kernel
theorem qL_1215 : xe_look (xc 276) 1215 = some (.invokevirtual 147, 3, 0, 144, 1352) := by decide +kernel
theorem qL_1218 : xe_look (xc 276) 1218 = some (.pop, 1, 0, 0, 0) := by decide +kernel
theorem qL_1219 : xe_look (xc 276) 1219 = some (.aload_n 2, 1, 0, 0, 0) := by decide +kernel
theorem qL_1220 : xe_look (xc 276) 1220 = some (.aload_n 0, 1, 0, 0, 0) := by decide +kernel
theorem qL_1221 : xe_look (xc 276) 1221 = some (.iload_n 3, 1, 0, 0, 0) := by decide +kernel
theorem qL_1222 : xe_look (xc 276) 1222 = some (.iconst 1, 1, 0, 0, 0) := by decide +kernel
theorem qL_1223 : xe_look (xc 276) 1223 = some (.iadd, 1, 0, 0, 0) := by decide +kernel
theorem qL_1224 : xe_look (xc 276) 1224 = some (.iaload, 1, 0, 0, 0) := by decide +kernel
theorem qL_1225 : xe_look (xc 276) 1225 = some (.invokevirtual 150, 3, 0, 245, 1353) := by decide +kernel
theorem qL_1228 : xe_look (xc 276) 1228 = some (.pop, 1, 0, 0, 0) := by decide +kernel
theorem qL_1229 : xe_look (xc 276) 1229 = some (.goto 85, 3, 0, 0, 0) := by decide +kernel
theorem qL_1232 : xe_look (xc 276) 1232 = some (.aload_n 1, 1, 0, 0, 0) := by decide +kernel
theorem qL_1233 : xe_look (xc 276) 1233 = some (.invokevirtual 151, 3, 0, 126, 1354) := by decide +kernel
theorem qL_1236 : xe_look (xc 276) 1236 = some (.pop, 1, 0, 0, 0) := by decide +kernel
theorem qL_1237 : xe_look (xc 276) 1237 = some (.aload_n 2, 1, 0, 0, 0) := by decide +kernel
theorem qL_1238 : xe_look (xc 276) 1238 = some (.invokevirtual 154, 3, 0, 209, 1355) := by decide +kernel
theorem qL_1241 : xe_look (xc 276) 1241 = some (.pop, 1, 0, 0, 0) := by decide +kernel
theorem qL_1242 : xe_look (xc 276) 1242 = some (.goto 72, 3, 0, 0, 0) := by decide +kernel
theorem qL_1245 : xe_look (xc 276) 1245 = some (.aload_n 1, 1, 0, 0, 0) := by decide +kernel
theorem qL_1246 : xe_look (xc 276) 1246 = some (.invokevirtual 155, 3, 0, 160, 1356) := by decide +kernel
theorem qL_1249 : xe_look (xc 276) 1249 = some (.pop, 1, 0, 0, 0) := by decide +kernel
theorem qL_1250 : xe_look (xc 276) 1250 = some (.aload_n 2, 1, 0, 0, 0) := by decide +kernel
theorem qL_1251 : xe_look (xc 276) 1251 = some (.invokevirtual 159, 3, 0, 270, 1357) := by decide +kernel
theorem qL_1254 : xe_look (xc 276) 1254 = some (.pop, 1, 0, 0, 0) := by decide +kernel
theorem qL_1255 : xe_look (xc 276) 1255 = some (.goto 59, 3, 0, 0, 0) := by decide +kernel
theorem qL_1258 : xe_look (xc 276) 1258 = some (.aload_n 1, 1, 0, 0, 0) := by decide +kernel
theorem qL_1259 : xe_look (xc 276) 1259 = some (.aload_n 0, 1, 0, 0, 0) := by decide +kernel
theorem qL_1260 : xe_look (xc 276) 1260 = some (.iload_n 3, 1, 0, 0, 0) := by decide +kernel
theorem qL_1261 : xe_look (xc 276) 1261 = some (.iconst 1, 1, 0, 0, 0) := by decide +kernel
theorem qL_1262 : xe_look (xc 276) 1262 = some (.iadd, 1, 0, 0, 0) := by decide +kernel
theorem qL_1263 : xe_look (xc 276) 1263 = some (.iaload, 1, 0, 0, 0) := by decide +kernel
theorem qL_1264 : xe_look (xc 276) 1264 = some (.aload_n 0, 1, 0, 0, 0) := by decide +kernel
theorem qL_1265 : xe_look (xc 276) 1265 = some (.iload_n 3, 1, 0, 0, 0) := by decide +kernel
theorem qL_1266 : xe_look (xc 276) 1266 = some (.iconst 2, 1, 0, 0, 0) := by decide +kernel
theorem qL_1267 : xe_look (xc 276) 1267 = some (.iadd, 1, 0, 0, 0) := by decide +kernel
theorem qL_1268 : xe_look (xc 276) 1268 = some (.iaload, 1, 0, 0, 0) := by decide +kernel
theorem qL_1269 : xe_look (xc 276) 1269 = some (.invokevirtual 160, 3, 0, 110, 1358) := by decide +kernel
theorem qL_1272 : xe_look (xc 276) 1272 = some (.pop, 1, 0, 0, 0) := by decide +kernel
theorem qL_1273 : xe_look (xc 276) 1273 = some (.aload_n 2, 1, 0, 0, 0) := by decide +kernel
theorem qL_1274 : xe_look (xc 276) 1274 = some (.aload_n 0, 1, 0, 0, 0) := by decide +kernel
theorem qL_1275 : xe_look (xc 276) 1275 = some (.iload_n 3, 1, 0, 0, 0) := by decide +kernel
theorem qL_1276 : xe_look (xc 276) 1276 = some (.iconst 1, 1, 0, 0, 0) := by decide +kernel
theorem qL_1277 : xe_look (xc 276) 1277 = some (.iadd, 1, 0, 0, 0) := by decide +kernel
theorem qL_1278 : xe_look (xc 276) 1278 = some (.iaload, 1, 0, 0, 0) := by decide +kernel
theorem qL_1279 : xe_look (xc 276) 1279 = some (.aload_n 0, 1, 0, 0, 0) := by decide +kernel
theorem qL_1280 : xe_look (xc 276) 1280 = some (.iload_n 3, 1, 0, 0, 0) := by decide +kernel
theorem qL_1281 : xe_look (xc 276) 1281 = some (.iconst 2, 1, 0, 0, 0) := by decide +kernel
theorem qL_1282 : xe_look (xc 276) 1282 = some (.iadd, 1, 0, 0, 0) := by decide +kernel
theorem qL_1283 : xe_look (xc 276) 1283 = some (.iaload, 1, 0, 0, 0) := by decide +kernel
theorem qL_1284 : xe_look (xc 276) 1284 = some (.invokevirtual 163, 3, 0, 174, 1359) := by decide +kernel
theorem qL_1287 : xe_look (xc 276) 1287 = some (.pop, 1, 0, 0, 0) := by decide +kernel
theorem qL_1288 : xe_look (xc 276) 1288 = some (.goto 26, 3, 0, 0, 0) := by decide +kernel
theorem qL_1291 : xe_look (xc 276) 1291 = some (.aload_n 1, 1, 0, 0, 0) := by decide +kernel
theorem qL_1292 : xe_look (xc 276) 1292 = some (.aload_n 0, 1, 0, 0, 0) := by decide +kernel
theorem qL_1293 : xe_look (xc 276) 1293 = some (.iload_n 3, 1, 0, 0, 0) := by decide +kernel
theorem qL_1294 : xe_look (xc 276) 1294 = some (.iconst 1, 1, 0, 0, 0) := by decide +kernel
theorem qL_1295 : xe_look (xc 276) 1295 = some (.iadd, 1, 0, 0, 0) := by decide +kernel
theorem qL_1296 : xe_look (xc 276) 1296 = some (.iaload, 1, 0, 0, 0) := by decide +kernel
theorem qL_1297 : xe_look (xc 276) 1297 = some (.invokevirtual 164, 3, 0, 115, 1360) := by decide +kernel
theorem qL_1300 : xe_look (xc 276) 1300 = some (.pop, 1, 0, 0, 0) := by decide +kernel
theorem qL_1301 : xe_look (xc 276) 1301 = some (.aload_n 2, 1, 0, 0, 0) := by decide +kernel
theorem qL_1302 : xe_look (xc 276) 1302 = some (.aload_n 0, 1, 0, 0, 0) := by decide +kernel
theorem qL_1303 : xe_look (xc 276) 1303 = some (.iload_n 3, 1, 0, 0, 0) := by decide +kernel
theorem qL_1304 : xe_look (xc 276) 1304 = some (.iconst 1, 1, 0, 0, 0) := by decide +kernel
theorem qL_1305 : xe_look (xc 276) 1305 = some (.iadd, 1, 0, 0, 0) := by decide +kernel
theorem qL_1306 : xe_look (xc 276) 1306 = some (.iaload, 1, 0, 0, 0) := by decide +kernel
theorem qL_1307 : xe_look (xc 276) 1307 = some (.invokevirtual 167, 3, 0, 182, 1361) := by decide +kernel
theorem qL_1310 : xe_look (xc 276) 1310 = some (.pop, 1, 0, 0, 0) := by decide +kernel
theorem qL_1311 : xe_look (xc 276) 1311 = some (.goto 3, 3, 0, 0, 0) := by decide +kernel
theorem qL_1314 : xe_look (xc 276) 1314 = some (.iinc 3 6, 3, 0, 0, 0) := by decide +kernel
theorem qL_1317 : xe_look (xc 276) 1317 = some (.goto (-1299), 3, 0, 0, 0) := by decide +kernel
theorem qL_1320 : xe_look (xc 276) 1320 = some (.iconst 1, 1, 0, 0, 0) := by decide +kernel
theorem qL_1321 : xe_look (xc 276) 1321 = some (.ireturn, 1, 0, 0, 0) := by decide +kernel
set_option maxHeartbeats 4000000 in
theorem lo_op0 {xs : Nat → Int32} {L : Nat} (hL : L ≤ 3072) {i : Nat} (hi : i + 6 ≤ L) {lv : List (Nat × pv)} (l0 : px_lg lv 0 = some (pvR 1000)) (l1 : px_lg lv 1 = some (pvR 0)) (l2 : px_lg lv 2 = some (pvR 196)) (l3 : px_lg lv 3 = some (oI (i : Int))) {g : pH} (hG : g_I eG g) (hx : xL g) (hR : R0 g) {P : Option pv × pH → Prop} (hC : ∀ g1 : pH, g_I eG g1 → xL g1 → R0 g1 → u_X (some (xs, L)) 100 276 1314 lv [] g1 P) : u_X (some (xs, L)) 100 276 188 lv [] g P := by
  refine u_0 qL_188 rfl (ld_a l1) ?_
  refine u_0 qL_189 rfl (ld_a l0) ?_
  refine u_0 qL_190 rfl (ld_i l3) ?_
  refine u_0 qL_191 rfl rfl ?_
  refine u_0 qL_192 rfl pu_add ?_
  refine u_0 qL_193 rfl (pq_sa hL ⟨by omega, by omega⟩) ?_
  refine u_0 qL_194 rfl (ld_a l0) ?_
  refine u_0 qL_195 rfl (ld_i l3) ?_
  refine u_0 qL_196 rfl rfl ?_
  refine u_0 qL_197 rfl pu_add ?_
  refine u_0 qL_198 rfl (pq_sa hL ⟨by omega, by omega⟩) ?_
  refine u_0 qL_199 rfl (ld_a l0) ?_
  refine u_0 qL_200 rfl (ld_i l3) ?_
  refine u_0 qL_201 rfl rfl ?_
  refine u_0 qL_202 rfl pu_add ?_
  refine u_0 qL_203 rfl (pq_sa hL ⟨by omega, by omega⟩) ?_
  refine u_0 qL_204 rfl (ld_a l0) ?_
  refine u_0 qL_205 rfl (ld_i l3) ?_
  refine u_0 qL_206 rfl rfl ?_
  refine u_0 qL_207 rfl pu_add ?_
  refine u_0 qL_208 rfl (pq_sa hL ⟨by omega, by omega⟩) ?_
  refine u_0 qL_209 rfl (ld_a l0) ?_
  refine u_0 qL_210 rfl (ld_i l3) ?_
  refine u_0 qL_211 rfl rfl ?_
  refine u_0 qL_212 rfl pu_add ?_
  refine u_0 qL_213 rfl (pq_sa hL ⟨by omega, by omega⟩) ?_
  refine u_3 qL_214 rfl (ar := ([pvR 0, .inl (xs ((i : Int) + 1).toNat), .inl (xs ((i : Int) + 2).toNat), .inl (xs ((i : Int) + 3).toNat), .inl (xs ((i : Int) + 4).toNat), .inl (xs ((i : Int) + 5).toNat)], [])) (pcal_w (as := [.inl (xs ((i : Int) + 5).toNat), .inl (xs ((i : Int) + 4).toNat), .inl (xs ((i : Int) + 3).toNat), .inl (xs ((i : Int) + 2).toNat), .inl (xs ((i : Int) + 1).toNat)]) rfl rfl rfl el_0) ⟨by decide, Nat.le_of_ble_eq_true rfl, Nat.le_of_ble_eq_true rfl, rfl⟩ (t_mono (pr_feed hG hx hR _ _ _ _ _) (fun o ho => ?_))
  obtain ⟨o1, g1⟩ := o
  obtain ⟨v1, e1, t1, H1⟩ := ho
  dsimp only at e1
  subst e1
  obtain ⟨r1, rfl⟩ := ct_0 t1
  show u_X (some (xs, L)) 100 276 217 lv [.inl r1] g1 P
  refine u_0 qL_217 rfl rfl ?_
  show u_X (some (xs, L)) 100 276 218 lv [] g1 P
  refine u_0 qL_218 rfl (ld_a l2) ?_
  refine u_0 qL_219 rfl (ld_a l0) ?_
  refine u_0 qL_220 rfl (ld_i l3) ?_
  refine u_0 qL_221 rfl rfl ?_
  refine u_0 qL_222 rfl pu_add ?_
  refine u_0 qL_223 rfl (pq_sa hL ⟨by omega, by omega⟩) ?_
  refine u_0 qL_224 rfl (ld_a l0) ?_
  refine u_0 qL_225 rfl (ld_i l3) ?_
  refine u_0 qL_226 rfl rfl ?_
  refine u_0 qL_227 rfl pu_add ?_
  refine u_0 qL_228 rfl (pq_sa hL ⟨by omega, by omega⟩) ?_
  refine u_0 qL_229 rfl (ld_a l0) ?_
  refine u_0 qL_230 rfl (ld_i l3) ?_
  refine u_0 qL_231 rfl rfl ?_
  refine u_0 qL_232 rfl pu_add ?_
  refine u_0 qL_233 rfl (pq_sa hL ⟨by omega, by omega⟩) ?_
  refine u_0 qL_234 rfl (ld_a l0) ?_
  refine u_0 qL_235 rfl (ld_i l3) ?_
  refine u_0 qL_236 rfl rfl ?_
  refine u_0 qL_237 rfl pu_add ?_
  refine u_0 qL_238 rfl (pq_sa hL ⟨by omega, by omega⟩) ?_
  refine u_0 qL_239 rfl (ld_a l0) ?_
  refine u_0 qL_240 rfl (ld_i l3) ?_
  refine u_0 qL_241 rfl rfl ?_
  refine u_0 qL_242 rfl pu_add ?_
  refine u_0 qL_243 rfl (pq_sa hL ⟨by omega, by omega⟩) ?_
  refine u_3 qL_244 rfl (ar := ([pvR 196, .inl (xs ((i : Int) + 1).toNat), .inl (xs ((i : Int) + 2).toNat), .inl (xs ((i : Int) + 3).toNat), .inl (xs ((i : Int) + 4).toNat), .inl (xs ((i : Int) + 5).toNat)], [])) (pcal_w (as := [.inl (xs ((i : Int) + 5).toNat), .inl (xs ((i : Int) + 4).toNat), .inl (xs ((i : Int) + 3).toNat), .inl (xs ((i : Int) + 2).toNat), .inl (xs ((i : Int) + 1).toNat)]) rfl rfl rfl el_196) ⟨by decide, Nat.le_of_ble_eq_true rfl, Nat.le_of_ble_eq_true rfl, rfl⟩ (t_mono H1 (fun o ho => ?_))
  obtain ⟨o1, g2⟩ := o
  obtain ⟨v2, e2, t2, G2, X2, Q2, E2⟩ := ho
  dsimp only at e2
  subst e2
  obtain ⟨r2, rfl⟩ := ct_0 t2
  show u_X (some (xs, L)) 100 276 247 lv [.inl r2] g2 P
  refine u_0 qL_247 rfl rfl ?_
  show u_X (some (xs, L)) 100 276 248 lv [] g2 P
  refine u_1 qL_248 rfl (pb_goto (pc := 248) (by decide)) ?_
  show u_X (some (xs, L)) 100 276 1314 lv [] g2 P
  exact hC _ G2 X2 Q2
set_option maxHeartbeats 4000000 in
theorem lo_op1 {xs : Nat → Int32} {L : Nat} (hL : L ≤ 3072) {i : Nat} (hi : i + 6 ≤ L) {lv : List (Nat × pv)} (l0 : px_lg lv 0 = some (pvR 1000)) (l1 : px_lg lv 1 = some (pvR 0)) (l2 : px_lg lv 2 = some (pvR 196)) (l3 : px_lg lv 3 = some (oI (i : Int))) {g : pH} (hG : g_I eG g) (hx : xL g) (hR : R0 g) {P : Option pv × pH → Prop} (hC : ∀ g1 : pH, g_I eG g1 → xL g1 → R0 g1 → u_X (some (xs, L)) 100 276 1314 lv [] g1 P) : u_X (some (xs, L)) 100 276 251 lv [] g P := by
  refine u_0 qL_251 rfl (ld_a l1) ?_
  refine u_0 qL_252 rfl (ld_a l0) ?_
  refine u_0 qL_253 rfl (ld_i l3) ?_
  refine u_0 qL_254 rfl rfl ?_
  refine u_0 qL_255 rfl pu_add ?_
  refine u_0 qL_256 rfl (pq_sa hL ⟨by omega, by omega⟩) ?_
  refine u_0 qL_257 rfl (ld_a l0) ?_
  refine u_0 qL_258 rfl (ld_i l3) ?_
  refine u_0 qL_259 rfl rfl ?_
  refine u_0 qL_260 rfl pu_add ?_
  refine u_0 qL_261 rfl (pq_sa hL ⟨by omega, by omega⟩) ?_
  refine u_0 qL_262 rfl (ld_a l0) ?_
  refine u_0 qL_263 rfl (ld_i l3) ?_
  refine u_0 qL_264 rfl rfl ?_
  refine u_0 qL_265 rfl pu_add ?_
  refine u_0 qL_266 rfl (pq_sa hL ⟨by omega, by omega⟩) ?_
  refine u_0 qL_267 rfl (ld_a l0) ?_
  refine u_0 qL_268 rfl (ld_i l3) ?_
  refine u_0 qL_269 rfl rfl ?_
  refine u_0 qL_270 rfl pu_add ?_
  refine u_0 qL_271 rfl (pq_sa hL ⟨by omega, by omega⟩) ?_
  refine u_3 qL_272 rfl (ar := ([pvR 0, .inl (xs ((i : Int) + 1).toNat), .inl (xs ((i : Int) + 2).toNat), .inl (xs ((i : Int) + 3).toNat), .inl (xs ((i : Int) + 4).toNat)], [])) (pcal_w (as := [.inl (xs ((i : Int) + 4).toNat), .inl (xs ((i : Int) + 3).toNat), .inl (xs ((i : Int) + 2).toNat), .inl (xs ((i : Int) + 1).toNat)]) rfl rfl rfl el_0) ⟨by decide, Nat.le_of_ble_eq_true rfl, Nat.le_of_ble_eq_true rfl, rfl⟩ (t_mono (pr_slide hG hx hR _ _ _ _) (fun o ho => ?_))
  obtain ⟨o1, g1⟩ := o
  obtain ⟨v1, e1, t1, H1⟩ := ho
  dsimp only at e1
  subst e1
  obtain ⟨r1, rfl⟩ := ct_0 t1
  show u_X (some (xs, L)) 100 276 275 lv [.inl r1] g1 P
  refine u_0 qL_275 rfl rfl ?_
  show u_X (some (xs, L)) 100 276 276 lv [] g1 P
  refine u_0 qL_276 rfl (ld_a l2) ?_
  refine u_0 qL_277 rfl (ld_a l0) ?_
  refine u_0 qL_278 rfl (ld_i l3) ?_
  refine u_0 qL_279 rfl rfl ?_
  refine u_0 qL_280 rfl pu_add ?_
  refine u_0 qL_281 rfl (pq_sa hL ⟨by omega, by omega⟩) ?_
  refine u_0 qL_282 rfl (ld_a l0) ?_
  refine u_0 qL_283 rfl (ld_i l3) ?_
  refine u_0 qL_284 rfl rfl ?_
  refine u_0 qL_285 rfl pu_add ?_
  refine u_0 qL_286 rfl (pq_sa hL ⟨by omega, by omega⟩) ?_
  refine u_0 qL_287 rfl (ld_a l0) ?_
  refine u_0 qL_288 rfl (ld_i l3) ?_
  refine u_0 qL_289 rfl rfl ?_
  refine u_0 qL_290 rfl pu_add ?_
  refine u_0 qL_291 rfl (pq_sa hL ⟨by omega, by omega⟩) ?_
  refine u_0 qL_292 rfl (ld_a l0) ?_
  refine u_0 qL_293 rfl (ld_i l3) ?_
  refine u_0 qL_294 rfl rfl ?_
  refine u_0 qL_295 rfl pu_add ?_
  refine u_0 qL_296 rfl (pq_sa hL ⟨by omega, by omega⟩) ?_
  refine u_3 qL_297 rfl (ar := ([pvR 196, .inl (xs ((i : Int) + 1).toNat), .inl (xs ((i : Int) + 2).toNat), .inl (xs ((i : Int) + 3).toNat), .inl (xs ((i : Int) + 4).toNat)], [])) (pcal_w (as := [.inl (xs ((i : Int) + 4).toNat), .inl (xs ((i : Int) + 3).toNat), .inl (xs ((i : Int) + 2).toNat), .inl (xs ((i : Int) + 1).toNat)]) rfl rfl rfl el_196) ⟨by decide, Nat.le_of_ble_eq_true rfl, Nat.le_of_ble_eq_true rfl, rfl⟩ (t_mono H1 (fun o ho => ?_))
  obtain ⟨o1, g2⟩ := o
  obtain ⟨v2, e2, t2, G2, X2, Q2, E2⟩ := ho
  dsimp only at e2
  subst e2
  obtain ⟨r2, rfl⟩ := ct_0 t2
  show u_X (some (xs, L)) 100 276 300 lv [.inl r2] g2 P
  refine u_0 qL_300 rfl rfl ?_
  show u_X (some (xs, L)) 100 276 301 lv [] g2 P
  refine u_1 qL_301 rfl (pb_goto (pc := 301) (by decide)) ?_
  show u_X (some (xs, L)) 100 276 1314 lv [] g2 P
  exact hC _ G2 X2 Q2
set_option maxHeartbeats 4000000 in
theorem lo_op2 {xs : Nat → Int32} {L : Nat} (hL : L ≤ 3072) {i : Nat} (hi : i + 6 ≤ L) {lv : List (Nat × pv)} (l0 : px_lg lv 0 = some (pvR 1000)) (l1 : px_lg lv 1 = some (pvR 0)) (l2 : px_lg lv 2 = some (pvR 196)) (l3 : px_lg lv 3 = some (oI (i : Int))) {g : pH} (hG : g_I eG g) (hx : xL g) (hR : R0 g) {P : Option pv × pH → Prop} (hC : ∀ g1 : pH, g_I eG g1 → xL g1 → R0 g1 → u_X (some (xs, L)) 100 276 1314 lv [] g1 P) : u_X (some (xs, L)) 100 276 304 lv [] g P := by
  refine u_0 qL_304 rfl (ld_a l1) ?_
  refine u_0 qL_305 rfl (ld_a l0) ?_
  refine u_0 qL_306 rfl (ld_i l3) ?_
  refine u_0 qL_307 rfl rfl ?_
  refine u_0 qL_308 rfl pu_add ?_
  refine u_0 qL_309 rfl (pq_sa hL ⟨by omega, by omega⟩) ?_
  refine u_0 qL_310 rfl (ld_a l0) ?_
  refine u_0 qL_311 rfl (ld_i l3) ?_
  refine u_0 qL_312 rfl rfl ?_
  refine u_0 qL_313 rfl pu_add ?_
  refine u_0 qL_314 rfl (pq_sa hL ⟨by omega, by omega⟩) ?_
  refine u_3 qL_315 rfl (ar := ([pvR 0, .inl (xs ((i : Int) + 1).toNat), .inl (xs ((i : Int) + 2).toNat)], [])) (pcal_w (as := [.inl (xs ((i : Int) + 2).toNat), .inl (xs ((i : Int) + 1).toNat)]) rfl rfl rfl el_0) ⟨by decide, Nat.le_of_ble_eq_true rfl, Nat.le_of_ble_eq_true rfl, rfl⟩ (t_mono (pr_put hG hx hR _ _) (fun o ho => ?_))
  obtain ⟨o1, g1⟩ := o
  obtain ⟨v1, e1, t1, H1⟩ := ho
  dsimp only at e1
  subst e1
  obtain ⟨r1, rfl⟩ := ct_0 t1
  show u_X (some (xs, L)) 100 276 318 lv [.inl r1] g1 P
  refine u_0 qL_318 rfl rfl ?_
  show u_X (some (xs, L)) 100 276 319 lv [] g1 P
  refine u_0 qL_319 rfl (ld_a l2) ?_
  refine u_0 qL_320 rfl (ld_a l0) ?_
  refine u_0 qL_321 rfl (ld_i l3) ?_
  refine u_0 qL_322 rfl rfl ?_
  refine u_0 qL_323 rfl pu_add ?_
  refine u_0 qL_324 rfl (pq_sa hL ⟨by omega, by omega⟩) ?_
  refine u_0 qL_325 rfl (ld_a l0) ?_
  refine u_0 qL_326 rfl (ld_i l3) ?_
  refine u_0 qL_327 rfl rfl ?_
  refine u_0 qL_328 rfl pu_add ?_
  refine u_0 qL_329 rfl (pq_sa hL ⟨by omega, by omega⟩) ?_
  refine u_3 qL_330 rfl (ar := ([pvR 196, .inl (xs ((i : Int) + 1).toNat), .inl (xs ((i : Int) + 2).toNat)], [])) (pcal_w (as := [.inl (xs ((i : Int) + 2).toNat), .inl (xs ((i : Int) + 1).toNat)]) rfl rfl rfl el_196) ⟨by decide, Nat.le_of_ble_eq_true rfl, Nat.le_of_ble_eq_true rfl, rfl⟩ (t_mono H1 (fun o ho => ?_))
  obtain ⟨o1, g2⟩ := o
  obtain ⟨v2, e2, t2, G2, X2, Q2, E2⟩ := ho
  dsimp only at e2
  subst e2
  obtain ⟨r2, rfl⟩ := ct_0 t2
  show u_X (some (xs, L)) 100 276 333 lv [.inl r2] g2 P
  refine u_0 qL_333 rfl rfl ?_
  show u_X (some (xs, L)) 100 276 334 lv [] g2 P
  refine u_1 qL_334 rfl (pb_goto (pc := 334) (by decide)) ?_
  show u_X (some (xs, L)) 100 276 1314 lv [] g2 P
  exact hC _ G2 X2 Q2
set_option maxHeartbeats 4000000 in
theorem lo_op3 {xs : Nat → Int32} {L : Nat} (hL : L ≤ 3072) {i : Nat} (hi : i + 6 ≤ L) {lv : List (Nat × pv)} (l0 : px_lg lv 0 = some (pvR 1000)) (l1 : px_lg lv 1 = some (pvR 0)) (l2 : px_lg lv 2 = some (pvR 196)) (l3 : px_lg lv 3 = some (oI (i : Int))) {g : pH} (hG : g_I eG g) (hx : xL g) (hR : R0 g) {P : Option pv × pH → Prop} (hC : ∀ g1 : pH, g_I eG g1 → xL g1 → R0 g1 → u_X (some (xs, L)) 100 276 1314 lv [] g1 P) : u_X (some (xs, L)) 100 276 337 lv [] g P := by
  refine u_0 qL_337 rfl (ld_a l1) ?_
  refine u_0 qL_338 rfl (ld_a l0) ?_
  refine u_0 qL_339 rfl (ld_i l3) ?_
  refine u_0 qL_340 rfl rfl ?_
  refine u_0 qL_341 rfl pu_add ?_
  refine u_0 qL_342 rfl (pq_sa hL ⟨by omega, by omega⟩) ?_
  refine u_0 qL_343 rfl (ld_a l0) ?_
  refine u_0 qL_344 rfl (ld_i l3) ?_
  refine u_0 qL_345 rfl rfl ?_
  refine u_0 qL_346 rfl pu_add ?_
  refine u_0 qL_347 rfl (pq_sa hL ⟨by omega, by omega⟩) ?_
  refine u_3 qL_348 rfl (ar := ([pvR 0, .inl (xs ((i : Int) + 1).toNat), .inl (xs ((i : Int) + 2).toNat)], [])) (pcal_w (as := [.inl (xs ((i : Int) + 2).toNat), .inl (xs ((i : Int) + 1).toNat)]) rfl rfl rfl el_0) ⟨by decide, Nat.le_of_ble_eq_true rfl, Nat.le_of_ble_eq_true rfl, rfl⟩ (t_mono (pr_day hG hx hR _ _) (fun o ho => ?_))
  obtain ⟨o1, g1⟩ := o
  obtain ⟨v1, e1, t1, H1⟩ := ho
  dsimp only at e1
  subst e1
  obtain ⟨r1, rfl⟩ := ct_0 t1
  show u_X (some (xs, L)) 100 276 351 lv [.inl r1] g1 P
  refine u_0 qL_351 rfl rfl ?_
  show u_X (some (xs, L)) 100 276 352 lv [] g1 P
  refine u_0 qL_352 rfl (ld_a l2) ?_
  refine u_0 qL_353 rfl (ld_a l0) ?_
  refine u_0 qL_354 rfl (ld_i l3) ?_
  refine u_0 qL_355 rfl rfl ?_
  refine u_0 qL_356 rfl pu_add ?_
  refine u_0 qL_357 rfl (pq_sa hL ⟨by omega, by omega⟩) ?_
  refine u_0 qL_358 rfl (ld_a l0) ?_
  refine u_0 qL_359 rfl (ld_i l3) ?_
  refine u_0 qL_360 rfl rfl ?_
  refine u_0 qL_361 rfl pu_add ?_
  refine u_0 qL_362 rfl (pq_sa hL ⟨by omega, by omega⟩) ?_
  refine u_3 qL_363 rfl (ar := ([pvR 196, .inl (xs ((i : Int) + 1).toNat), .inl (xs ((i : Int) + 2).toNat)], [])) (pcal_w (as := [.inl (xs ((i : Int) + 2).toNat), .inl (xs ((i : Int) + 1).toNat)]) rfl rfl rfl el_196) ⟨by decide, Nat.le_of_ble_eq_true rfl, Nat.le_of_ble_eq_true rfl, rfl⟩ (t_mono H1 (fun o ho => ?_))
  obtain ⟨o1, g2⟩ := o
  obtain ⟨v2, e2, t2, G2, X2, Q2, E2⟩ := ho
  dsimp only at e2
  subst e2
  obtain ⟨r2, rfl⟩ := ct_0 t2
  show u_X (some (xs, L)) 100 276 366 lv [.inl r2] g2 P
  refine u_0 qL_366 rfl rfl ?_
  show u_X (some (xs, L)) 100 276 367 lv [] g2 P
  refine u_1 qL_367 rfl (pb_goto (pc := 367) (by decide)) ?_
  show u_X (some (xs, L)) 100 276 1314 lv [] g2 P
  exact hC _ G2 X2 Q2
set_option maxHeartbeats 4000000 in
theorem lo_op4 {xs : Nat → Int32} {L : Nat} (hL : L ≤ 3072) {i : Nat} (hi : i + 6 ≤ L) {lv : List (Nat × pv)} (l0 : px_lg lv 0 = some (pvR 1000)) (l1 : px_lg lv 1 = some (pvR 0)) (l2 : px_lg lv 2 = some (pvR 196)) (l3 : px_lg lv 3 = some (oI (i : Int))) {g : pH} (hG : g_I eG g) (hx : xL g) (hR : R0 g) {P : Option pv × pH → Prop} (hC : ∀ g1 : pH, g_I eG g1 → xL g1 → R0 g1 → u_X (some (xs, L)) 100 276 1314 lv [] g1 P) : u_X (some (xs, L)) 100 276 370 lv [] g P := by
  refine u_0 qL_370 rfl (ld_a l1) ?_
  refine u_0 qL_371 rfl (ld_a l0) ?_
  refine u_0 qL_372 rfl (ld_i l3) ?_
  refine u_0 qL_373 rfl rfl ?_
  refine u_0 qL_374 rfl pu_add ?_
  refine u_0 qL_375 rfl (pq_sa hL ⟨by omega, by omega⟩) ?_
  refine u_3 qL_376 rfl (ar := ([pvR 0, .inl (xs ((i : Int) + 1).toNat)], [])) (pcal_w (as := [.inl (xs ((i : Int) + 1).toNat)]) rfl rfl rfl el_0) ⟨by decide, Nat.le_of_ble_eq_true rfl, Nat.le_of_ble_eq_true rfl, rfl⟩ (t_mono (pr_gone hG hx hR _) (fun o ho => ?_))
  obtain ⟨o1, g1⟩ := o
  obtain ⟨v1, e1, t1, H1⟩ := ho
  dsimp only at e1
  subst e1
  obtain ⟨r1, rfl⟩ := ct_0 t1
  show u_X (some (xs, L)) 100 276 379 lv [.inl r1] g1 P
  refine u_0 qL_379 rfl rfl ?_
  show u_X (some (xs, L)) 100 276 380 lv [] g1 P
  refine u_0 qL_380 rfl (ld_a l2) ?_
  refine u_0 qL_381 rfl (ld_a l0) ?_
  refine u_0 qL_382 rfl (ld_i l3) ?_
  refine u_0 qL_383 rfl rfl ?_
  refine u_0 qL_384 rfl pu_add ?_
  refine u_0 qL_385 rfl (pq_sa hL ⟨by omega, by omega⟩) ?_
  refine u_3 qL_386 rfl (ar := ([pvR 196, .inl (xs ((i : Int) + 1).toNat)], [])) (pcal_w (as := [.inl (xs ((i : Int) + 1).toNat)]) rfl rfl rfl el_196) ⟨by decide, Nat.le_of_ble_eq_true rfl, Nat.le_of_ble_eq_true rfl, rfl⟩ (t_mono H1 (fun o ho => ?_))
  obtain ⟨o1, g2⟩ := o
  obtain ⟨v2, e2, t2, G2, X2, Q2, E2⟩ := ho
  dsimp only at e2
  subst e2
  obtain ⟨r2, rfl⟩ := ct_0 t2
  show u_X (some (xs, L)) 100 276 389 lv [.inl r2] g2 P
  refine u_0 qL_389 rfl rfl ?_
  show u_X (some (xs, L)) 100 276 390 lv [] g2 P
  refine u_1 qL_390 rfl (pb_goto (pc := 390) (by decide)) ?_
  show u_X (some (xs, L)) 100 276 1314 lv [] g2 P
  exact hC _ G2 X2 Q2
set_option maxHeartbeats 4000000 in
theorem lo_op5 {xs : Nat → Int32} {L : Nat} (hL : L ≤ 3072) {i : Nat} (hi : i + 6 ≤ L) {lv : List (Nat × pv)} (l0 : px_lg lv 0 = some (pvR 1000)) (l1 : px_lg lv 1 = some (pvR 0)) (l2 : px_lg lv 2 = some (pvR 196)) (l3 : px_lg lv 3 = some (oI (i : Int))) {g : pH} (hG : g_I eG g) (hx : xL g) (hR : R0 g) {P : Option pv × pH → Prop} (hC : ∀ g1 : pH, g_I eG g1 → xL g1 → R0 g1 → u_X (some (xs, L)) 100 276 1314 lv [] g1 P) : u_X (some (xs, L)) 100 276 393 lv [] g P := by
  refine u_0 qL_393 rfl (ld_a l1) ?_
  refine u_0 qL_394 rfl (ld_a l0) ?_
  refine u_0 qL_395 rfl (ld_i l3) ?_
  refine u_0 qL_396 rfl rfl ?_
  refine u_0 qL_397 rfl pu_add ?_
  refine u_0 qL_398 rfl (pq_sa hL ⟨by omega, by omega⟩) ?_
  refine u_0 qL_399 rfl (ld_a l0) ?_
  refine u_0 qL_400 rfl (ld_i l3) ?_
  refine u_0 qL_401 rfl rfl ?_
  refine u_0 qL_402 rfl pu_add ?_
  refine u_0 qL_403 rfl (pq_sa hL ⟨by omega, by omega⟩) ?_
  refine u_0 qL_404 rfl (ld_a l0) ?_
  refine u_0 qL_405 rfl (ld_i l3) ?_
  refine u_0 qL_406 rfl rfl ?_
  refine u_0 qL_407 rfl pu_add ?_
  refine u_0 qL_408 rfl (pq_sa hL ⟨by omega, by omega⟩) ?_
  refine u_3 qL_409 rfl (ar := ([pvR 0, .inl (xs ((i : Int) + 1).toNat), .inl (xs ((i : Int) + 2).toNat), .inl (xs ((i : Int) + 3).toNat)], [])) (pcal_w (as := [.inl (xs ((i : Int) + 3).toNat), .inl (xs ((i : Int) + 2).toNat), .inl (xs ((i : Int) + 1).toNat)]) rfl rfl rfl el_0) ⟨by decide, Nat.le_of_ble_eq_true rfl, Nat.le_of_ble_eq_true rfl, rfl⟩ (t_mono (pr_looker hG hx hR _ _ _) (fun o ho => ?_))
  obtain ⟨o1, g1⟩ := o
  obtain ⟨v1, e1, t1, H1⟩ := ho
  dsimp only at e1
  subst e1
  obtain ⟨r1, rfl⟩ := ct_0 t1
  show u_X (some (xs, L)) 100 276 412 lv [.inl r1] g1 P
  refine u_0 qL_412 rfl rfl ?_
  show u_X (some (xs, L)) 100 276 413 lv [] g1 P
  refine u_0 qL_413 rfl (ld_a l2) ?_
  refine u_0 qL_414 rfl (ld_a l0) ?_
  refine u_0 qL_415 rfl (ld_i l3) ?_
  refine u_0 qL_416 rfl rfl ?_
  refine u_0 qL_417 rfl pu_add ?_
  refine u_0 qL_418 rfl (pq_sa hL ⟨by omega, by omega⟩) ?_
  refine u_0 qL_419 rfl (ld_a l0) ?_
  refine u_0 qL_420 rfl (ld_i l3) ?_
  refine u_0 qL_421 rfl rfl ?_
  refine u_0 qL_422 rfl pu_add ?_
  refine u_0 qL_423 rfl (pq_sa hL ⟨by omega, by omega⟩) ?_
  refine u_0 qL_424 rfl (ld_a l0) ?_
  refine u_0 qL_425 rfl (ld_i l3) ?_
  refine u_0 qL_426 rfl rfl ?_
  refine u_0 qL_427 rfl pu_add ?_
  refine u_0 qL_428 rfl (pq_sa hL ⟨by omega, by omega⟩) ?_
  refine u_3 qL_429 rfl (ar := ([pvR 196, .inl (xs ((i : Int) + 1).toNat), .inl (xs ((i : Int) + 2).toNat), .inl (xs ((i : Int) + 3).toNat)], [])) (pcal_w (as := [.inl (xs ((i : Int) + 3).toNat), .inl (xs ((i : Int) + 2).toNat), .inl (xs ((i : Int) + 1).toNat)]) rfl rfl rfl el_196) ⟨by decide, Nat.le_of_ble_eq_true rfl, Nat.le_of_ble_eq_true rfl, rfl⟩ (t_mono H1 (fun o ho => ?_))
  obtain ⟨o1, g2⟩ := o
  obtain ⟨v2, e2, t2, G2, X2, Q2, E2⟩ := ho
  dsimp only at e2
  subst e2
  obtain ⟨r2, rfl⟩ := ct_0 t2
  show u_X (some (xs, L)) 100 276 432 lv [.inl r2] g2 P
  refine u_0 qL_432 rfl rfl ?_
  show u_X (some (xs, L)) 100 276 433 lv [] g2 P
  refine u_1 qL_433 rfl (pb_goto (pc := 433) (by decide)) ?_
  show u_X (some (xs, L)) 100 276 1314 lv [] g2 P
  exact hC _ G2 X2 Q2
set_option maxHeartbeats 4000000 in
theorem lo_op6 {xs : Nat → Int32} {L : Nat} (hL : L ≤ 3072) {i : Nat} (hi : i + 6 ≤ L) {lv : List (Nat × pv)} (l0 : px_lg lv 0 = some (pvR 1000)) (l1 : px_lg lv 1 = some (pvR 0)) (l2 : px_lg lv 2 = some (pvR 196)) (l3 : px_lg lv 3 = some (oI (i : Int))) {g : pH} (hG : g_I eG g) (hx : xL g) (hR : R0 g) {P : Option pv × pH → Prop} (hC : ∀ g1 : pH, g_I eG g1 → xL g1 → R0 g1 → u_X (some (xs, L)) 100 276 1314 lv [] g1 P) : u_X (some (xs, L)) 100 276 436 lv [] g P := by
  refine u_0 qL_436 rfl (ld_a l1) ?_
  refine u_0 qL_437 rfl (ld_a l0) ?_
  refine u_0 qL_438 rfl (ld_i l3) ?_
  refine u_0 qL_439 rfl rfl ?_
  refine u_0 qL_440 rfl pu_add ?_
  refine u_0 qL_441 rfl (pq_sa hL ⟨by omega, by omega⟩) ?_
  refine u_3 qL_442 rfl (ar := ([pvR 0, .inl (xs ((i : Int) + 1).toNat)], [])) (pcal_w (as := [.inl (xs ((i : Int) + 1).toNat)]) rfl rfl rfl el_0) ⟨by decide, Nat.le_of_ble_eq_true rfl, Nat.le_of_ble_eq_true rfl, rfl⟩ (t_mono (pr_lamps hG hx hR _) (fun o ho => ?_))
  obtain ⟨o1, g1⟩ := o
  obtain ⟨v1, e1, t1, H1⟩ := ho
  dsimp only at e1
  subst e1
  obtain ⟨r1, rfl⟩ := ct_0 t1
  show u_X (some (xs, L)) 100 276 445 lv [.inl r1] g1 P
  refine u_0 qL_445 rfl rfl ?_
  show u_X (some (xs, L)) 100 276 446 lv [] g1 P
  refine u_0 qL_446 rfl (ld_a l2) ?_
  refine u_0 qL_447 rfl (ld_a l0) ?_
  refine u_0 qL_448 rfl (ld_i l3) ?_
  refine u_0 qL_449 rfl rfl ?_
  refine u_0 qL_450 rfl pu_add ?_
  refine u_0 qL_451 rfl (pq_sa hL ⟨by omega, by omega⟩) ?_
  refine u_3 qL_452 rfl (ar := ([pvR 196, .inl (xs ((i : Int) + 1).toNat)], [])) (pcal_w (as := [.inl (xs ((i : Int) + 1).toNat)]) rfl rfl rfl el_196) ⟨by decide, Nat.le_of_ble_eq_true rfl, Nat.le_of_ble_eq_true rfl, rfl⟩ (t_mono H1 (fun o ho => ?_))
  obtain ⟨o1, g2⟩ := o
  obtain ⟨v2, e2, t2, G2, X2, Q2, E2⟩ := ho
  dsimp only at e2
  subst e2
  obtain ⟨r2, rfl⟩ := ct_0 t2
  show u_X (some (xs, L)) 100 276 455 lv [.inl r2] g2 P
  refine u_0 qL_455 rfl rfl ?_
  show u_X (some (xs, L)) 100 276 456 lv [] g2 P
  refine u_1 qL_456 rfl (pb_goto (pc := 456) (by decide)) ?_
  show u_X (some (xs, L)) 100 276 1314 lv [] g2 P
  exact hC _ G2 X2 Q2
set_option maxHeartbeats 4000000 in
theorem lo_op7 {xs : Nat → Int32} {L : Nat} (hL : L ≤ 3072) {i : Nat} (hi : i + 6 ≤ L) {lv : List (Nat × pv)} (l0 : px_lg lv 0 = some (pvR 1000)) (l1 : px_lg lv 1 = some (pvR 0)) (l2 : px_lg lv 2 = some (pvR 196)) (l3 : px_lg lv 3 = some (oI (i : Int))) {g : pH} (hG : g_I eG g) (hx : xL g) (hR : R0 g) {P : Option pv × pH → Prop} (hC : ∀ g1 : pH, g_I eG g1 → xL g1 → R0 g1 → u_X (some (xs, L)) 100 276 1314 lv [] g1 P) : u_X (some (xs, L)) 100 276 459 lv [] g P := by
  refine u_0 qL_459 rfl (ld_a l1) ?_
  refine u_0 qL_460 rfl (ld_a l0) ?_
  refine u_0 qL_461 rfl (ld_i l3) ?_
  refine u_0 qL_462 rfl rfl ?_
  refine u_0 qL_463 rfl pu_add ?_
  refine u_0 qL_464 rfl (pq_sa hL ⟨by omega, by omega⟩) ?_
  refine u_3 qL_465 rfl (ar := ([pvR 0, .inl (xs ((i : Int) + 1).toNat)], [])) (pcal_w (as := [.inl (xs ((i : Int) + 1).toNat)]) rfl rfl rfl el_0) ⟨by decide, Nat.le_of_ble_eq_true rfl, Nat.le_of_ble_eq_true rfl, rfl⟩ (t_mono (pr_tray hG hx hR _) (fun o ho => ?_))
  obtain ⟨o1, g1⟩ := o
  obtain ⟨v1, e1, t1, H1⟩ := ho
  dsimp only at e1
  subst e1
  obtain ⟨r1, rfl⟩ := ct_0 t1
  show u_X (some (xs, L)) 100 276 468 lv [.inl r1] g1 P
  refine u_0 qL_468 rfl rfl ?_
  show u_X (some (xs, L)) 100 276 469 lv [] g1 P
  refine u_0 qL_469 rfl (ld_a l2) ?_
  refine u_0 qL_470 rfl (ld_a l0) ?_
  refine u_0 qL_471 rfl (ld_i l3) ?_
  refine u_0 qL_472 rfl rfl ?_
  refine u_0 qL_473 rfl pu_add ?_
  refine u_0 qL_474 rfl (pq_sa hL ⟨by omega, by omega⟩) ?_
  refine u_3 qL_475 rfl (ar := ([pvR 196, .inl (xs ((i : Int) + 1).toNat)], [])) (pcal_w (as := [.inl (xs ((i : Int) + 1).toNat)]) rfl rfl rfl el_196) ⟨by decide, Nat.le_of_ble_eq_true rfl, Nat.le_of_ble_eq_true rfl, rfl⟩ (t_mono H1 (fun o ho => ?_))
  obtain ⟨o1, g2⟩ := o
  obtain ⟨v2, e2, t2, G2, X2, Q2, E2⟩ := ho
  dsimp only at e2
  subst e2
  obtain ⟨r2, rfl⟩ := ct_0 t2
  show u_X (some (xs, L)) 100 276 478 lv [.inl r2] g2 P
  refine u_0 qL_478 rfl rfl ?_
  show u_X (some (xs, L)) 100 276 479 lv [] g2 P
  refine u_1 qL_479 rfl (pb_goto (pc := 479) (by decide)) ?_
  show u_X (some (xs, L)) 100 276 1314 lv [] g2 P
  exact hC _ G2 X2 Q2
set_option maxHeartbeats 4000000 in
theorem lo_op8 {xs : Nat → Int32} {L : Nat} (hL : L ≤ 3072) {i : Nat} (hi : i + 6 ≤ L) {lv : List (Nat × pv)} (l0 : px_lg lv 0 = some (pvR 1000)) (l1 : px_lg lv 1 = some (pvR 0)) (l2 : px_lg lv 2 = some (pvR 196)) (l3 : px_lg lv 3 = some (oI (i : Int))) {g : pH} (hG : g_I eG g) (hx : xL g) (hR : R0 g) {P : Option pv × pH → Prop} (hC : ∀ g1 : pH, g_I eG g1 → xL g1 → R0 g1 → u_X (some (xs, L)) 100 276 1314 lv [] g1 P) : u_X (some (xs, L)) 100 276 482 lv [] g P := by
  refine u_0 qL_482 rfl (ld_a l1) ?_
  refine u_0 qL_483 rfl (ld_a l0) ?_
  refine u_0 qL_484 rfl (ld_i l3) ?_
  refine u_0 qL_485 rfl rfl ?_
  refine u_0 qL_486 rfl pu_add ?_
  refine u_0 qL_487 rfl (pq_sa hL ⟨by omega, by omega⟩) ?_
  refine u_3 qL_488 rfl (ar := ([pvR 0, .inl (xs ((i : Int) + 1).toNat)], [])) (pcal_w (as := [.inl (xs ((i : Int) + 1).toNat)]) rfl rfl rfl el_0) ⟨by decide, Nat.le_of_ble_eq_true rfl, Nat.le_of_ble_eq_true rfl, rfl⟩ (t_mono (pr_law hG hx hR _) (fun o ho => ?_))
  obtain ⟨o1, g1⟩ := o
  obtain ⟨v1, e1, t1, H1⟩ := ho
  dsimp only at e1
  subst e1
  obtain ⟨r1, rfl⟩ := ct_0 t1
  show u_X (some (xs, L)) 100 276 491 lv [.inl r1] g1 P
  refine u_0 qL_491 rfl rfl ?_
  show u_X (some (xs, L)) 100 276 492 lv [] g1 P
  refine u_0 qL_492 rfl (ld_a l2) ?_
  refine u_0 qL_493 rfl (ld_a l0) ?_
  refine u_0 qL_494 rfl (ld_i l3) ?_
  refine u_0 qL_495 rfl rfl ?_
  refine u_0 qL_496 rfl pu_add ?_
  refine u_0 qL_497 rfl (pq_sa hL ⟨by omega, by omega⟩) ?_
  refine u_3 qL_498 rfl (ar := ([pvR 196, .inl (xs ((i : Int) + 1).toNat)], [])) (pcal_w (as := [.inl (xs ((i : Int) + 1).toNat)]) rfl rfl rfl el_196) ⟨by decide, Nat.le_of_ble_eq_true rfl, Nat.le_of_ble_eq_true rfl, rfl⟩ (t_mono H1 (fun o ho => ?_))
  obtain ⟨o1, g2⟩ := o
  obtain ⟨v2, e2, t2, G2, X2, Q2, E2⟩ := ho
  dsimp only at e2
  subst e2
  obtain ⟨r2, rfl⟩ := ct_0 t2
  show u_X (some (xs, L)) 100 276 501 lv [.inl r2] g2 P
  refine u_0 qL_501 rfl rfl ?_
  show u_X (some (xs, L)) 100 276 502 lv [] g2 P
  refine u_1 qL_502 rfl (pb_goto (pc := 502) (by decide)) ?_
  show u_X (some (xs, L)) 100 276 1314 lv [] g2 P
  exact hC _ G2 X2 Q2
set_option maxHeartbeats 4000000 in
theorem lo_op9 {xs : Nat → Int32} {L : Nat} (hL : L ≤ 3072) {i : Nat} (hi : i + 6 ≤ L) {lv : List (Nat × pv)} (l0 : px_lg lv 0 = some (pvR 1000)) (l1 : px_lg lv 1 = some (pvR 0)) (l2 : px_lg lv 2 = some (pvR 196)) (l3 : px_lg lv 3 = some (oI (i : Int))) {g : pH} (hG : g_I eG g) (hx : xL g) (hR : R0 g) {P : Option pv × pH → Prop} (hC : ∀ g1 : pH, g_I eG g1 → xL g1 → R0 g1 → u_X (some (xs, L)) 100 276 1314 lv [] g1 P) : u_X (some (xs, L)) 100 276 505 lv [] g P := by
  refine u_0 qL_505 rfl (ld_a l1) ?_
  refine u_0 qL_506 rfl (ld_a l0) ?_
  refine u_0 qL_507 rfl (ld_i l3) ?_
  refine u_0 qL_508 rfl rfl ?_
  refine u_0 qL_509 rfl pu_add ?_
  refine u_0 qL_510 rfl (pq_sa hL ⟨by omega, by omega⟩) ?_
  refine u_0 qL_511 rfl (ld_a l0) ?_
  refine u_0 qL_512 rfl (ld_i l3) ?_
  refine u_0 qL_513 rfl rfl ?_
  refine u_0 qL_514 rfl pu_add ?_
  refine u_0 qL_515 rfl (pq_sa hL ⟨by omega, by omega⟩) ?_
  refine u_0 qL_516 rfl (ld_a l0) ?_
  refine u_0 qL_517 rfl (ld_i l3) ?_
  refine u_0 qL_518 rfl rfl ?_
  refine u_0 qL_519 rfl pu_add ?_
  refine u_0 qL_520 rfl (pq_sa hL ⟨by omega, by omega⟩) ?_
  refine u_3 qL_521 rfl (ar := ([pvR 0, .inl (xs ((i : Int) + 1).toNat), .inl (xs ((i : Int) + 2).toNat), .inl (xs ((i : Int) + 3).toNat)], [])) (pcal_w (as := [.inl (xs ((i : Int) + 3).toNat), .inl (xs ((i : Int) + 2).toNat), .inl (xs ((i : Int) + 1).toNat)]) rfl rfl rfl el_0) ⟨by decide, Nat.le_of_ble_eq_true rfl, Nat.le_of_ble_eq_true rfl, rfl⟩ (t_mono (pr_ways hG hx hR _ _ _) (fun o ho => ?_))
  obtain ⟨o1, g1⟩ := o
  obtain ⟨v1, e1, t1, H1⟩ := ho
  dsimp only at e1
  subst e1
  obtain ⟨r1, rfl⟩ := ct_0 t1
  show u_X (some (xs, L)) 100 276 524 lv [.inl r1] g1 P
  refine u_0 qL_524 rfl rfl ?_
  show u_X (some (xs, L)) 100 276 525 lv [] g1 P
  refine u_0 qL_525 rfl (ld_a l2) ?_
  refine u_0 qL_526 rfl (ld_a l0) ?_
  refine u_0 qL_527 rfl (ld_i l3) ?_
  refine u_0 qL_528 rfl rfl ?_
  refine u_0 qL_529 rfl pu_add ?_
  refine u_0 qL_530 rfl (pq_sa hL ⟨by omega, by omega⟩) ?_
  refine u_0 qL_531 rfl (ld_a l0) ?_
  refine u_0 qL_532 rfl (ld_i l3) ?_
  refine u_0 qL_533 rfl rfl ?_
  refine u_0 qL_534 rfl pu_add ?_
  refine u_0 qL_535 rfl (pq_sa hL ⟨by omega, by omega⟩) ?_
  refine u_0 qL_536 rfl (ld_a l0) ?_
  refine u_0 qL_537 rfl (ld_i l3) ?_
  refine u_0 qL_538 rfl rfl ?_
  refine u_0 qL_539 rfl pu_add ?_
  refine u_0 qL_540 rfl (pq_sa hL ⟨by omega, by omega⟩) ?_
  refine u_3 qL_541 rfl (ar := ([pvR 196, .inl (xs ((i : Int) + 1).toNat), .inl (xs ((i : Int) + 2).toNat), .inl (xs ((i : Int) + 3).toNat)], [])) (pcal_w (as := [.inl (xs ((i : Int) + 3).toNat), .inl (xs ((i : Int) + 2).toNat), .inl (xs ((i : Int) + 1).toNat)]) rfl rfl rfl el_196) ⟨by decide, Nat.le_of_ble_eq_true rfl, Nat.le_of_ble_eq_true rfl, rfl⟩ (t_mono H1 (fun o ho => ?_))
  obtain ⟨o1, g2⟩ := o
  obtain ⟨v2, e2, t2, G2, X2, Q2, E2⟩ := ho
  dsimp only at e2
  subst e2
  obtain ⟨r2, rfl⟩ := ct_0 t2
  show u_X (some (xs, L)) 100 276 544 lv [.inl r2] g2 P
  refine u_0 qL_544 rfl rfl ?_
  show u_X (some (xs, L)) 100 276 545 lv [] g2 P
  refine u_1 qL_545 rfl (pb_goto (pc := 545) (by decide)) ?_
  show u_X (some (xs, L)) 100 276 1314 lv [] g2 P
  exact hC _ G2 X2 Q2
set_option maxHeartbeats 4000000 in
theorem lo_op10 {xs : Nat → Int32} {L : Nat} (hL : L ≤ 3072) {i : Nat} (hi : i + 6 ≤ L) {lv : List (Nat × pv)} (l0 : px_lg lv 0 = some (pvR 1000)) (l1 : px_lg lv 1 = some (pvR 0)) (l2 : px_lg lv 2 = some (pvR 196)) (l3 : px_lg lv 3 = some (oI (i : Int))) {g : pH} (hG : g_I eG g) (hx : xL g) (hR : R0 g) {P : Option pv × pH → Prop} (hC : ∀ g1 : pH, g_I eG g1 → xL g1 → R0 g1 → u_X (some (xs, L)) 100 276 1314 lv [] g1 P) : u_X (some (xs, L)) 100 276 548 lv [] g P := by
  refine u_0 qL_548 rfl (ld_a l1) ?_
  refine u_0 qL_549 rfl (ld_a l0) ?_
  refine u_0 qL_550 rfl (ld_i l3) ?_
  refine u_0 qL_551 rfl rfl ?_
  refine u_0 qL_552 rfl pu_add ?_
  refine u_0 qL_553 rfl (pq_sa hL ⟨by omega, by omega⟩) ?_
  refine u_0 qL_554 rfl (ld_a l0) ?_
  refine u_0 qL_555 rfl (ld_i l3) ?_
  refine u_0 qL_556 rfl rfl ?_
  refine u_0 qL_557 rfl pu_add ?_
  refine u_0 qL_558 rfl (pq_sa hL ⟨by omega, by omega⟩) ?_
  refine u_0 qL_559 rfl (ld_a l0) ?_
  refine u_0 qL_560 rfl (ld_i l3) ?_
  refine u_0 qL_561 rfl rfl ?_
  refine u_0 qL_562 rfl pu_add ?_
  refine u_0 qL_563 rfl (pq_sa hL ⟨by omega, by omega⟩) ?_
  refine u_3 qL_564 rfl (ar := ([pvR 0, .inl (xs ((i : Int) + 1).toNat), .inl (xs ((i : Int) + 2).toNat), .inl (xs ((i : Int) + 3).toNat)], [])) (pcal_w (as := [.inl (xs ((i : Int) + 3).toNat), .inl (xs ((i : Int) + 2).toNat), .inl (xs ((i : Int) + 1).toNat)]) rfl rfl rfl el_0) ⟨by decide, Nat.le_of_ble_eq_true rfl, Nat.le_of_ble_eq_true rfl, rfl⟩ (t_mono (pr_shown hG hx hR _ _ _) (fun o ho => ?_))
  obtain ⟨o1, g1⟩ := o
  obtain ⟨v1, e1, t1, H1⟩ := ho
  dsimp only at e1
  subst e1
  obtain ⟨r1, rfl⟩ := ct_0 t1
  show u_X (some (xs, L)) 100 276 567 lv [.inl r1] g1 P
  refine u_0 qL_567 rfl rfl ?_
  show u_X (some (xs, L)) 100 276 568 lv [] g1 P
  refine u_0 qL_568 rfl (ld_a l2) ?_
  refine u_0 qL_569 rfl (ld_a l0) ?_
  refine u_0 qL_570 rfl (ld_i l3) ?_
  refine u_0 qL_571 rfl rfl ?_
  refine u_0 qL_572 rfl pu_add ?_
  refine u_0 qL_573 rfl (pq_sa hL ⟨by omega, by omega⟩) ?_
  refine u_0 qL_574 rfl (ld_a l0) ?_
  refine u_0 qL_575 rfl (ld_i l3) ?_
  refine u_0 qL_576 rfl rfl ?_
  refine u_0 qL_577 rfl pu_add ?_
  refine u_0 qL_578 rfl (pq_sa hL ⟨by omega, by omega⟩) ?_
  refine u_0 qL_579 rfl (ld_a l0) ?_
  refine u_0 qL_580 rfl (ld_i l3) ?_
  refine u_0 qL_581 rfl rfl ?_
  refine u_0 qL_582 rfl pu_add ?_
  refine u_0 qL_583 rfl (pq_sa hL ⟨by omega, by omega⟩) ?_
  refine u_3 qL_584 rfl (ar := ([pvR 196, .inl (xs ((i : Int) + 1).toNat), .inl (xs ((i : Int) + 2).toNat), .inl (xs ((i : Int) + 3).toNat)], [])) (pcal_w (as := [.inl (xs ((i : Int) + 3).toNat), .inl (xs ((i : Int) + 2).toNat), .inl (xs ((i : Int) + 1).toNat)]) rfl rfl rfl el_196) ⟨by decide, Nat.le_of_ble_eq_true rfl, Nat.le_of_ble_eq_true rfl, rfl⟩ (t_mono H1 (fun o ho => ?_))
  obtain ⟨o1, g2⟩ := o
  obtain ⟨v2, e2, t2, G2, X2, Q2, E2⟩ := ho
  dsimp only at e2
  subst e2
  obtain ⟨r2, rfl⟩ := ct_0 t2
  show u_X (some (xs, L)) 100 276 587 lv [.inl r2] g2 P
  refine u_0 qL_587 rfl rfl ?_
  show u_X (some (xs, L)) 100 276 588 lv [] g2 P
  refine u_1 qL_588 rfl (pb_goto (pc := 588) (by decide)) ?_
  show u_X (some (xs, L)) 100 276 1314 lv [] g2 P
  exact hC _ G2 X2 Q2
set_option maxHeartbeats 4000000 in
theorem lo_op11 {xs : Nat → Int32} {L : Nat} (hL : L ≤ 3072) {i : Nat} (hi : i + 6 ≤ L) {lv : List (Nat × pv)} (l0 : px_lg lv 0 = some (pvR 1000)) (l1 : px_lg lv 1 = some (pvR 0)) (l2 : px_lg lv 2 = some (pvR 196)) (l3 : px_lg lv 3 = some (oI (i : Int))) {g : pH} (hG : g_I eG g) (hx : xL g) (hR : R0 g) {P : Option pv × pH → Prop} (hC : ∀ g1 : pH, g_I eG g1 → xL g1 → R0 g1 → u_X (some (xs, L)) 100 276 1314 lv [] g1 P) : u_X (some (xs, L)) 100 276 591 lv [] g P := by
  refine u_0 qL_591 rfl (ld_a l1) ?_
  refine u_0 qL_592 rfl (ld_a l0) ?_
  refine u_0 qL_593 rfl (ld_i l3) ?_
  refine u_0 qL_594 rfl rfl ?_
  refine u_0 qL_595 rfl pu_add ?_
  refine u_0 qL_596 rfl (pq_sa hL ⟨by omega, by omega⟩) ?_
  refine u_0 qL_597 rfl (ld_a l0) ?_
  refine u_0 qL_598 rfl (ld_i l3) ?_
  refine u_0 qL_599 rfl rfl ?_
  refine u_0 qL_600 rfl pu_add ?_
  refine u_0 qL_601 rfl (pq_sa hL ⟨by omega, by omega⟩) ?_
  refine u_3 qL_602 rfl (ar := ([pvR 0, .inl (xs ((i : Int) + 1).toNat), .inl (xs ((i : Int) + 2).toNat)], [])) (pcal_w (as := [.inl (xs ((i : Int) + 2).toNat), .inl (xs ((i : Int) + 1).toNat)]) rfl rfl rfl el_0) ⟨by decide, Nat.le_of_ble_eq_true rfl, Nat.le_of_ble_eq_true rfl, rfl⟩ (t_mono (pr_slideIs hG hx hR _ _) (fun o ho => ?_))
  obtain ⟨o1, g1⟩ := o
  obtain ⟨v1, e1, t1, H1⟩ := ho
  dsimp only at e1
  subst e1
  obtain ⟨r1, rfl⟩ := ct_0 t1
  show u_X (some (xs, L)) 100 276 605 lv [.inl r1] g1 P
  refine u_0 qL_605 rfl rfl ?_
  show u_X (some (xs, L)) 100 276 606 lv [] g1 P
  refine u_0 qL_606 rfl (ld_a l2) ?_
  refine u_0 qL_607 rfl (ld_a l0) ?_
  refine u_0 qL_608 rfl (ld_i l3) ?_
  refine u_0 qL_609 rfl rfl ?_
  refine u_0 qL_610 rfl pu_add ?_
  refine u_0 qL_611 rfl (pq_sa hL ⟨by omega, by omega⟩) ?_
  refine u_0 qL_612 rfl (ld_a l0) ?_
  refine u_0 qL_613 rfl (ld_i l3) ?_
  refine u_0 qL_614 rfl rfl ?_
  refine u_0 qL_615 rfl pu_add ?_
  refine u_0 qL_616 rfl (pq_sa hL ⟨by omega, by omega⟩) ?_
  refine u_3 qL_617 rfl (ar := ([pvR 196, .inl (xs ((i : Int) + 1).toNat), .inl (xs ((i : Int) + 2).toNat)], [])) (pcal_w (as := [.inl (xs ((i : Int) + 2).toNat), .inl (xs ((i : Int) + 1).toNat)]) rfl rfl rfl el_196) ⟨by decide, Nat.le_of_ble_eq_true rfl, Nat.le_of_ble_eq_true rfl, rfl⟩ (t_mono H1 (fun o ho => ?_))
  obtain ⟨o1, g2⟩ := o
  obtain ⟨v2, e2, t2, G2, X2, Q2, E2⟩ := ho
  dsimp only at e2
  subst e2
  obtain ⟨r2, rfl⟩ := ct_0 t2
  show u_X (some (xs, L)) 100 276 620 lv [.inl r2] g2 P
  refine u_0 qL_620 rfl rfl ?_
  show u_X (some (xs, L)) 100 276 621 lv [] g2 P
  refine u_1 qL_621 rfl (pb_goto (pc := 621) (by decide)) ?_
  show u_X (some (xs, L)) 100 276 1314 lv [] g2 P
  exact hC _ G2 X2 Q2
set_option maxHeartbeats 4000000 in
theorem lo_op12 {xs : Nat → Int32} {L : Nat} (hL : L ≤ 3072) {i : Nat} (hi : i + 6 ≤ L) {lv : List (Nat × pv)} (l0 : px_lg lv 0 = some (pvR 1000)) (l1 : px_lg lv 1 = some (pvR 0)) (l2 : px_lg lv 2 = some (pvR 196)) (l3 : px_lg lv 3 = some (oI (i : Int))) {g : pH} (hG : g_I eG g) (hx : xL g) (hR : R0 g) {P : Option pv × pH → Prop} (hC : ∀ g1 : pH, g_I eG g1 → xL g1 → R0 g1 → u_X (some (xs, L)) 100 276 1314 lv [] g1 P) : u_X (some (xs, L)) 100 276 624 lv [] g P := by
  refine u_0 qL_624 rfl (ld_a l1) ?_
  refine u_0 qL_625 rfl (ld_a l0) ?_
  refine u_0 qL_626 rfl (ld_i l3) ?_
  refine u_0 qL_627 rfl rfl ?_
  refine u_0 qL_628 rfl pu_add ?_
  refine u_0 qL_629 rfl (pq_sa hL ⟨by omega, by omega⟩) ?_
  refine u_3 qL_630 rfl (ar := ([pvR 0, .inl (xs ((i : Int) + 1).toNat)], [])) (pcal_w (as := [.inl (xs ((i : Int) + 1).toNat)]) rfl rfl rfl el_0) ⟨by decide, Nat.le_of_ble_eq_true rfl, Nat.le_of_ble_eq_true rfl, rfl⟩ (t_mono (pr_inTray hG hx hR _) (fun o ho => ?_))
  obtain ⟨o1, g1⟩ := o
  obtain ⟨v1, e1, t1, H1⟩ := ho
  dsimp only at e1
  subst e1
  obtain ⟨r1, rfl⟩ := ct_0 t1
  show u_X (some (xs, L)) 100 276 633 lv [.inl r1] g1 P
  refine u_0 qL_633 rfl rfl ?_
  show u_X (some (xs, L)) 100 276 634 lv [] g1 P
  refine u_0 qL_634 rfl (ld_a l2) ?_
  refine u_0 qL_635 rfl (ld_a l0) ?_
  refine u_0 qL_636 rfl (ld_i l3) ?_
  refine u_0 qL_637 rfl rfl ?_
  refine u_0 qL_638 rfl pu_add ?_
  refine u_0 qL_639 rfl (pq_sa hL ⟨by omega, by omega⟩) ?_
  refine u_3 qL_640 rfl (ar := ([pvR 196, .inl (xs ((i : Int) + 1).toNat)], [])) (pcal_w (as := [.inl (xs ((i : Int) + 1).toNat)]) rfl rfl rfl el_196) ⟨by decide, Nat.le_of_ble_eq_true rfl, Nat.le_of_ble_eq_true rfl, rfl⟩ (t_mono H1 (fun o ho => ?_))
  obtain ⟨o1, g2⟩ := o
  obtain ⟨v2, e2, t2, G2, X2, Q2, E2⟩ := ho
  dsimp only at e2
  subst e2
  obtain ⟨r2, rfl⟩ := ct_0 t2
  show u_X (some (xs, L)) 100 276 643 lv [.inl r2] g2 P
  refine u_0 qL_643 rfl rfl ?_
  show u_X (some (xs, L)) 100 276 644 lv [] g2 P
  refine u_1 qL_644 rfl (pb_goto (pc := 644) (by decide)) ?_
  show u_X (some (xs, L)) 100 276 1314 lv [] g2 P
  exact hC _ G2 X2 Q2
set_option maxHeartbeats 4000000 in
theorem lo_op13 {xs : Nat → Int32} {L : Nat} (hL : L ≤ 3072) {i : Nat} (hi : i + 6 ≤ L) {lv : List (Nat × pv)} (l0 : px_lg lv 0 = some (pvR 1000)) (l1 : px_lg lv 1 = some (pvR 0)) (l2 : px_lg lv 2 = some (pvR 196)) (l3 : px_lg lv 3 = some (oI (i : Int))) {g : pH} (hG : g_I eG g) (hx : xL g) (hR : R0 g) {P : Option pv × pH → Prop} (hC : ∀ g1 : pH, g_I eG g1 → xL g1 → R0 g1 → u_X (some (xs, L)) 100 276 1314 lv [] g1 P) : u_X (some (xs, L)) 100 276 647 lv [] g P := by
  refine u_0 qL_647 rfl (ld_a l1) ?_
  refine u_3 qL_648 rfl (ar := ([pvR 0], [])) (pcal_w (as := []) rfl rfl rfl el_0) ⟨by decide, Nat.le_of_ble_eq_true rfl, Nat.le_of_ble_eq_true rfl, rfl⟩ (t_mono (pr_evening hG hx hR) (fun o ho => ?_))
  obtain ⟨o1, g1⟩ := o
  obtain ⟨v1, e1, t1, H1⟩ := ho
  dsimp only at e1
  subst e1
  obtain ⟨r1, rfl⟩ := ct_0 t1
  show u_X (some (xs, L)) 100 276 651 lv [.inl r1] g1 P
  refine u_0 qL_651 rfl rfl ?_
  show u_X (some (xs, L)) 100 276 652 lv [] g1 P
  refine u_0 qL_652 rfl (ld_a l2) ?_
  refine u_3 qL_653 rfl (ar := ([pvR 196], [])) (pcal_w (as := []) rfl rfl rfl el_196) ⟨by decide, Nat.le_of_ble_eq_true rfl, Nat.le_of_ble_eq_true rfl, rfl⟩ (t_mono H1 (fun o ho => ?_))
  obtain ⟨o1, g2⟩ := o
  obtain ⟨v2, e2, t2, G2, X2, Q2, E2⟩ := ho
  dsimp only at e2
  subst e2
  obtain ⟨r2, rfl⟩ := ct_0 t2
  show u_X (some (xs, L)) 100 276 656 lv [.inl r2] g2 P
  refine u_0 qL_656 rfl rfl ?_
  show u_X (some (xs, L)) 100 276 657 lv [] g2 P
  refine u_1 qL_657 rfl (pb_goto (pc := 657) (by decide)) ?_
  show u_X (some (xs, L)) 100 276 1314 lv [] g2 P
  exact hC _ G2 X2 Q2
set_option maxHeartbeats 4000000 in
theorem lo_op14 {xs : Nat → Int32} {L : Nat} (hL : L ≤ 3072) {i : Nat} (hi : i + 6 ≤ L) {lv : List (Nat × pv)} (l0 : px_lg lv 0 = some (pvR 1000)) (l1 : px_lg lv 1 = some (pvR 0)) (l2 : px_lg lv 2 = some (pvR 196)) (l3 : px_lg lv 3 = some (oI (i : Int))) {g : pH} (hG : g_I eG g) (hx : xL g) (hR : R0 g) {P : Option pv × pH → Prop} (hC : ∀ g1 : pH, g_I eG g1 → xL g1 → R0 g1 → u_X (some (xs, L)) 100 276 1314 lv [] g1 P) : u_X (some (xs, L)) 100 276 660 lv [] g P := by
  refine u_0 qL_660 rfl (ld_a l1) ?_
  refine u_0 qL_661 rfl (ld_a l0) ?_
  refine u_0 qL_662 rfl (ld_i l3) ?_
  refine u_0 qL_663 rfl rfl ?_
  refine u_0 qL_664 rfl pu_add ?_
  refine u_0 qL_665 rfl (pq_sa hL ⟨by omega, by omega⟩) ?_
  refine u_3 qL_666 rfl (ar := ([pvR 0, .inl (xs ((i : Int) + 1).toNat)], [])) (pcal_w (as := [.inl (xs ((i : Int) + 1).toNat)]) rfl rfl rfl el_0) ⟨by decide, Nat.le_of_ble_eq_true rfl, Nat.le_of_ble_eq_true rfl, rfl⟩ (t_mono (pr_tried hG hx hR _) (fun o ho => ?_))
  obtain ⟨o1, g1⟩ := o
  obtain ⟨v1, e1, t1, H1⟩ := ho
  dsimp only at e1
  subst e1
  obtain ⟨r1, rfl⟩ := ct_0 t1
  show u_X (some (xs, L)) 100 276 669 lv [.inl r1] g1 P
  refine u_0 qL_669 rfl rfl ?_
  show u_X (some (xs, L)) 100 276 670 lv [] g1 P
  refine u_0 qL_670 rfl (ld_a l2) ?_
  refine u_0 qL_671 rfl (ld_a l0) ?_
  refine u_0 qL_672 rfl (ld_i l3) ?_
  refine u_0 qL_673 rfl rfl ?_
  refine u_0 qL_674 rfl pu_add ?_
  refine u_0 qL_675 rfl (pq_sa hL ⟨by omega, by omega⟩) ?_
  refine u_3 qL_676 rfl (ar := ([pvR 196, .inl (xs ((i : Int) + 1).toNat)], [])) (pcal_w (as := [.inl (xs ((i : Int) + 1).toNat)]) rfl rfl rfl el_196) ⟨by decide, Nat.le_of_ble_eq_true rfl, Nat.le_of_ble_eq_true rfl, rfl⟩ (t_mono H1 (fun o ho => ?_))
  obtain ⟨o1, g2⟩ := o
  obtain ⟨v2, e2, t2, G2, X2, Q2, E2⟩ := ho
  dsimp only at e2
  subst e2
  obtain ⟨r2, rfl⟩ := ct_0 t2
  show u_X (some (xs, L)) 100 276 679 lv [.inl r2] g2 P
  refine u_0 qL_679 rfl rfl ?_
  show u_X (some (xs, L)) 100 276 680 lv [] g2 P
  refine u_1 qL_680 rfl (pb_goto (pc := 680) (by decide)) ?_
  show u_X (some (xs, L)) 100 276 1314 lv [] g2 P
  exact hC _ G2 X2 Q2
set_option maxHeartbeats 4000000 in
theorem lo_op15 {xs : Nat → Int32} {L : Nat} (hL : L ≤ 3072) {i : Nat} (hi : i + 6 ≤ L) {lv : List (Nat × pv)} (l0 : px_lg lv 0 = some (pvR 1000)) (l1 : px_lg lv 1 = some (pvR 0)) (l2 : px_lg lv 2 = some (pvR 196)) (l3 : px_lg lv 3 = some (oI (i : Int))) {g : pH} (hG : g_I eG g) (hx : xL g) (hR : R0 g) {P : Option pv × pH → Prop} (hC : ∀ g1 : pH, g_I eG g1 → xL g1 → R0 g1 → u_X (some (xs, L)) 100 276 1314 lv [] g1 P) : u_X (some (xs, L)) 100 276 683 lv [] g P := by
  refine u_0 qL_683 rfl (ld_a l1) ?_
  refine u_0 qL_684 rfl (ld_a l0) ?_
  refine u_0 qL_685 rfl (ld_i l3) ?_
  refine u_0 qL_686 rfl rfl ?_
  refine u_0 qL_687 rfl pu_add ?_
  refine u_0 qL_688 rfl (pq_sa hL ⟨by omega, by omega⟩) ?_
  refine u_0 qL_689 rfl (ld_a l0) ?_
  refine u_0 qL_690 rfl (ld_i l3) ?_
  refine u_0 qL_691 rfl rfl ?_
  refine u_0 qL_692 rfl pu_add ?_
  refine u_0 qL_693 rfl (pq_sa hL ⟨by omega, by omega⟩) ?_
  refine u_0 qL_694 rfl (ld_a l0) ?_
  refine u_0 qL_695 rfl (ld_i l3) ?_
  refine u_0 qL_696 rfl rfl ?_
  refine u_0 qL_697 rfl pu_add ?_
  refine u_0 qL_698 rfl (pq_sa hL ⟨by omega, by omega⟩) ?_
  refine u_0 qL_699 rfl (ld_a l0) ?_
  refine u_0 qL_700 rfl (ld_i l3) ?_
  refine u_0 qL_701 rfl rfl ?_
  refine u_0 qL_702 rfl pu_add ?_
  refine u_0 qL_703 rfl (pq_sa hL ⟨by omega, by omega⟩) ?_
  refine u_3 qL_704 rfl (ar := ([pvR 0, .inl (xs ((i : Int) + 1).toNat), .inl (xs ((i : Int) + 2).toNat), .inl (xs ((i : Int) + 3).toNat), .inl (xs ((i : Int) + 4).toNat)], [])) (pcal_w (as := [.inl (xs ((i : Int) + 4).toNat), .inl (xs ((i : Int) + 3).toNat), .inl (xs ((i : Int) + 2).toNat), .inl (xs ((i : Int) + 1).toNat)]) rfl rfl rfl el_0) ⟨by decide, Nat.le_of_ble_eq_true rfl, Nat.le_of_ble_eq_true rfl, rfl⟩ (t_mono (pr_odds hG hx hR _ _ _ _) (fun o ho => ?_))
  obtain ⟨o1, g1⟩ := o
  obtain ⟨v1, e1, t1, H1⟩ := ho
  dsimp only at e1
  subst e1
  obtain ⟨r1, rfl⟩ := ct_0 t1
  show u_X (some (xs, L)) 100 276 707 lv [.inl r1] g1 P
  refine u_0 qL_707 rfl rfl ?_
  show u_X (some (xs, L)) 100 276 708 lv [] g1 P
  refine u_0 qL_708 rfl (ld_a l2) ?_
  refine u_0 qL_709 rfl (ld_a l0) ?_
  refine u_0 qL_710 rfl (ld_i l3) ?_
  refine u_0 qL_711 rfl rfl ?_
  refine u_0 qL_712 rfl pu_add ?_
  refine u_0 qL_713 rfl (pq_sa hL ⟨by omega, by omega⟩) ?_
  refine u_0 qL_714 rfl (ld_a l0) ?_
  refine u_0 qL_715 rfl (ld_i l3) ?_
  refine u_0 qL_716 rfl rfl ?_
  refine u_0 qL_717 rfl pu_add ?_
  refine u_0 qL_718 rfl (pq_sa hL ⟨by omega, by omega⟩) ?_
  refine u_0 qL_719 rfl (ld_a l0) ?_
  refine u_0 qL_720 rfl (ld_i l3) ?_
  refine u_0 qL_721 rfl rfl ?_
  refine u_0 qL_722 rfl pu_add ?_
  refine u_0 qL_723 rfl (pq_sa hL ⟨by omega, by omega⟩) ?_
  refine u_0 qL_724 rfl (ld_a l0) ?_
  refine u_0 qL_725 rfl (ld_i l3) ?_
  refine u_0 qL_726 rfl rfl ?_
  refine u_0 qL_727 rfl pu_add ?_
  refine u_0 qL_728 rfl (pq_sa hL ⟨by omega, by omega⟩) ?_
  refine u_3 qL_729 rfl (ar := ([pvR 196, .inl (xs ((i : Int) + 1).toNat), .inl (xs ((i : Int) + 2).toNat), .inl (xs ((i : Int) + 3).toNat), .inl (xs ((i : Int) + 4).toNat)], [])) (pcal_w (as := [.inl (xs ((i : Int) + 4).toNat), .inl (xs ((i : Int) + 3).toNat), .inl (xs ((i : Int) + 2).toNat), .inl (xs ((i : Int) + 1).toNat)]) rfl rfl rfl el_196) ⟨by decide, Nat.le_of_ble_eq_true rfl, Nat.le_of_ble_eq_true rfl, rfl⟩ (t_mono H1 (fun o ho => ?_))
  obtain ⟨o1, g2⟩ := o
  obtain ⟨v2, e2, t2, G2, X2, Q2, E2⟩ := ho
  dsimp only at e2
  subst e2
  obtain ⟨r2, rfl⟩ := ct_0 t2
  show u_X (some (xs, L)) 100 276 732 lv [.inl r2] g2 P
  refine u_0 qL_732 rfl rfl ?_
  show u_X (some (xs, L)) 100 276 733 lv [] g2 P
  refine u_1 qL_733 rfl (pb_goto (pc := 733) (by decide)) ?_
  show u_X (some (xs, L)) 100 276 1314 lv [] g2 P
  exact hC _ G2 X2 Q2
set_option maxHeartbeats 4000000 in
theorem lo_op16 {xs : Nat → Int32} {L : Nat} (hL : L ≤ 3072) {i : Nat} (hi : i + 6 ≤ L) {lv : List (Nat × pv)} (l0 : px_lg lv 0 = some (pvR 1000)) (l1 : px_lg lv 1 = some (pvR 0)) (l2 : px_lg lv 2 = some (pvR 196)) (l3 : px_lg lv 3 = some (oI (i : Int))) {g : pH} (hG : g_I eG g) (hx : xL g) (hR : R0 g) {P : Option pv × pH → Prop} (hC : ∀ g1 : pH, g_I eG g1 → xL g1 → R0 g1 → u_X (some (xs, L)) 100 276 1314 lv [] g1 P) : u_X (some (xs, L)) 100 276 736 lv [] g P := by
  refine u_0 qL_736 rfl (ld_a l1) ?_
  refine u_0 qL_737 rfl (ld_a l0) ?_
  refine u_0 qL_738 rfl (ld_i l3) ?_
  refine u_0 qL_739 rfl rfl ?_
  refine u_0 qL_740 rfl pu_add ?_
  refine u_0 qL_741 rfl (pq_sa hL ⟨by omega, by omega⟩) ?_
  refine u_0 qL_742 rfl (ld_a l0) ?_
  refine u_0 qL_743 rfl (ld_i l3) ?_
  refine u_0 qL_744 rfl rfl ?_
  refine u_0 qL_745 rfl pu_add ?_
  refine u_0 qL_746 rfl (pq_sa hL ⟨by omega, by omega⟩) ?_
  refine u_3 qL_747 rfl (ar := ([pvR 0, .inl (xs ((i : Int) + 1).toNat), .inl (xs ((i : Int) + 2).toNat)], [])) (pcal_w (as := [.inl (xs ((i : Int) + 2).toNat), .inl (xs ((i : Int) + 1).toNat)]) rfl rfl rfl el_0) ⟨by decide, Nat.le_of_ble_eq_true rfl, Nat.le_of_ble_eq_true rfl, rfl⟩ (t_mono (pr_toTurn hG hx hR _ _) (fun o ho => ?_))
  obtain ⟨o1, g1⟩ := o
  obtain ⟨v1, e1, t1, H1⟩ := ho
  dsimp only at e1
  subst e1
  obtain ⟨r1, rfl⟩ := ct_1 t1
  show u_X (some (xs, L)) 100 276 750 lv [.inr (.inl r1)] g1 P
  refine u_0 qL_750 rfl rfl ?_
  show u_X (some (xs, L)) 100 276 751 lv [] g1 P
  refine u_0 qL_751 rfl (ld_a l2) ?_
  refine u_0 qL_752 rfl (ld_a l0) ?_
  refine u_0 qL_753 rfl (ld_i l3) ?_
  refine u_0 qL_754 rfl rfl ?_
  refine u_0 qL_755 rfl pu_add ?_
  refine u_0 qL_756 rfl (pq_sa hL ⟨by omega, by omega⟩) ?_
  refine u_0 qL_757 rfl (ld_a l0) ?_
  refine u_0 qL_758 rfl (ld_i l3) ?_
  refine u_0 qL_759 rfl rfl ?_
  refine u_0 qL_760 rfl pu_add ?_
  refine u_0 qL_761 rfl (pq_sa hL ⟨by omega, by omega⟩) ?_
  refine u_3 qL_762 rfl (ar := ([pvR 196, .inl (xs ((i : Int) + 1).toNat), .inl (xs ((i : Int) + 2).toNat)], [])) (pcal_w (as := [.inl (xs ((i : Int) + 2).toNat), .inl (xs ((i : Int) + 1).toNat)]) rfl rfl rfl el_196) ⟨by decide, Nat.le_of_ble_eq_true rfl, Nat.le_of_ble_eq_true rfl, rfl⟩ (t_mono H1 (fun o ho => ?_))
  obtain ⟨o1, g2⟩ := o
  obtain ⟨v2, e2, t2, G2, X2, Q2, E2⟩ := ho
  dsimp only at e2
  subst e2
  obtain ⟨r2, rfl⟩ := ct_1 t2
  show u_X (some (xs, L)) 100 276 765 lv [.inr (.inl r2)] g2 P
  refine u_0 qL_765 rfl rfl ?_
  show u_X (some (xs, L)) 100 276 766 lv [] g2 P
  refine u_1 qL_766 rfl (pb_goto (pc := 766) (by decide)) ?_
  show u_X (some (xs, L)) 100 276 1314 lv [] g2 P
  exact hC _ G2 X2 Q2
set_option maxHeartbeats 4000000 in
theorem lo_op17 {xs : Nat → Int32} {L : Nat} (hL : L ≤ 3072) {i : Nat} (hi : i + 6 ≤ L) {lv : List (Nat × pv)} (l0 : px_lg lv 0 = some (pvR 1000)) (l1 : px_lg lv 1 = some (pvR 0)) (l2 : px_lg lv 2 = some (pvR 196)) (l3 : px_lg lv 3 = some (oI (i : Int))) {g : pH} (hG : g_I eG g) (hx : xL g) (hR : R0 g) {P : Option pv × pH → Prop} (hC : ∀ g1 : pH, g_I eG g1 → xL g1 → R0 g1 → u_X (some (xs, L)) 100 276 1314 lv [] g1 P) : u_X (some (xs, L)) 100 276 769 lv [] g P := by
  refine u_0 qL_769 rfl (ld_a l1) ?_
  refine u_0 qL_770 rfl (ld_a l0) ?_
  refine u_0 qL_771 rfl (ld_i l3) ?_
  refine u_0 qL_772 rfl rfl ?_
  refine u_0 qL_773 rfl pu_add ?_
  refine u_0 qL_774 rfl (pq_sa hL ⟨by omega, by omega⟩) ?_
  refine u_0 qL_775 rfl (ld_a l0) ?_
  refine u_0 qL_776 rfl (ld_i l3) ?_
  refine u_0 qL_777 rfl rfl ?_
  refine u_0 qL_778 rfl pu_add ?_
  refine u_0 qL_779 rfl (pq_sa hL ⟨by omega, by omega⟩) ?_
  refine u_3 qL_780 rfl (ar := ([pvR 0, .inl (xs ((i : Int) + 1).toNat), .inl (xs ((i : Int) + 2).toNat)], [])) (pcal_w (as := [.inl (xs ((i : Int) + 2).toNat), .inl (xs ((i : Int) + 1).toNat)]) rfl rfl rfl el_0) ⟨by decide, Nat.le_of_ble_eq_true rfl, Nat.le_of_ble_eq_true rfl, rfl⟩ (t_mono (pr_leave hG hx hR _ _) (fun o ho => ?_))
  obtain ⟨o1, g1⟩ := o
  obtain ⟨v1, e1, t1, H1⟩ := ho
  dsimp only at e1
  subst e1
  obtain ⟨r1, rfl⟩ := ct_1 t1
  show u_X (some (xs, L)) 100 276 783 lv [.inr (.inl r1)] g1 P
  refine u_0 qL_783 rfl rfl ?_
  show u_X (some (xs, L)) 100 276 784 lv [] g1 P
  refine u_0 qL_784 rfl (ld_a l2) ?_
  refine u_0 qL_785 rfl (ld_a l0) ?_
  refine u_0 qL_786 rfl (ld_i l3) ?_
  refine u_0 qL_787 rfl rfl ?_
  refine u_0 qL_788 rfl pu_add ?_
  refine u_0 qL_789 rfl (pq_sa hL ⟨by omega, by omega⟩) ?_
  refine u_0 qL_790 rfl (ld_a l0) ?_
  refine u_0 qL_791 rfl (ld_i l3) ?_
  refine u_0 qL_792 rfl rfl ?_
  refine u_0 qL_793 rfl pu_add ?_
  refine u_0 qL_794 rfl (pq_sa hL ⟨by omega, by omega⟩) ?_
  refine u_3 qL_795 rfl (ar := ([pvR 196, .inl (xs ((i : Int) + 1).toNat), .inl (xs ((i : Int) + 2).toNat)], [])) (pcal_w (as := [.inl (xs ((i : Int) + 2).toNat), .inl (xs ((i : Int) + 1).toNat)]) rfl rfl rfl el_196) ⟨by decide, Nat.le_of_ble_eq_true rfl, Nat.le_of_ble_eq_true rfl, rfl⟩ (t_mono H1 (fun o ho => ?_))
  obtain ⟨o1, g2⟩ := o
  obtain ⟨v2, e2, t2, G2, X2, Q2, E2⟩ := ho
  dsimp only at e2
  subst e2
  obtain ⟨r2, rfl⟩ := ct_1 t2
  show u_X (some (xs, L)) 100 276 798 lv [.inr (.inl r2)] g2 P
  refine u_0 qL_798 rfl rfl ?_
  show u_X (some (xs, L)) 100 276 799 lv [] g2 P
  refine u_1 qL_799 rfl (pb_goto (pc := 799) (by decide)) ?_
  show u_X (some (xs, L)) 100 276 1314 lv [] g2 P
  exact hC _ G2 X2 Q2
set_option maxHeartbeats 4000000 in
theorem lo_op18 {xs : Nat → Int32} {L : Nat} (hL : L ≤ 3072) {i : Nat} (hi : i + 6 ≤ L) {lv : List (Nat × pv)} (l0 : px_lg lv 0 = some (pvR 1000)) (l1 : px_lg lv 1 = some (pvR 0)) (l2 : px_lg lv 2 = some (pvR 196)) (l3 : px_lg lv 3 = some (oI (i : Int))) {g : pH} (hG : g_I eG g) (hx : xL g) (hR : R0 g) {P : Option pv × pH → Prop} (hC : ∀ g1 : pH, g_I eG g1 → xL g1 → R0 g1 → u_X (some (xs, L)) 100 276 1314 lv [] g1 P) : u_X (some (xs, L)) 100 276 802 lv [] g P := by
  refine u_0 qL_802 rfl (ld_a l1) ?_
  refine u_0 qL_803 rfl (ld_a l0) ?_
  refine u_0 qL_804 rfl (ld_i l3) ?_
  refine u_0 qL_805 rfl rfl ?_
  refine u_0 qL_806 rfl pu_add ?_
  refine u_0 qL_807 rfl (pq_sa hL ⟨by omega, by omega⟩) ?_
  refine u_0 qL_808 rfl (ld_a l0) ?_
  refine u_0 qL_809 rfl (ld_i l3) ?_
  refine u_0 qL_810 rfl rfl ?_
  refine u_0 qL_811 rfl pu_add ?_
  refine u_0 qL_812 rfl (pq_sa hL ⟨by omega, by omega⟩) ?_
  refine u_3 qL_813 rfl (ar := ([pvR 0, .inl (xs ((i : Int) + 1).toNat), .inl (xs ((i : Int) + 2).toNat)], [])) (pcal_w (as := [.inl (xs ((i : Int) + 2).toNat), .inl (xs ((i : Int) + 1).toNat)]) rfl rfl rfl el_0) ⟨by decide, Nat.le_of_ble_eq_true rfl, Nat.le_of_ble_eq_true rfl, rfl⟩ (t_mono (pr_sure hG hx hR _ _) (fun o ho => ?_))
  obtain ⟨o1, g1⟩ := o
  obtain ⟨v1, e1, t1, H1⟩ := ho
  dsimp only at e1
  subst e1
  obtain ⟨r1, rfl⟩ := ct_0 t1
  show u_X (some (xs, L)) 100 276 816 lv [.inl r1] g1 P
  refine u_0 qL_816 rfl rfl ?_
  show u_X (some (xs, L)) 100 276 817 lv [] g1 P
  refine u_0 qL_817 rfl (ld_a l2) ?_
  refine u_0 qL_818 rfl (ld_a l0) ?_
  refine u_0 qL_819 rfl (ld_i l3) ?_
  refine u_0 qL_820 rfl rfl ?_
  refine u_0 qL_821 rfl pu_add ?_
  refine u_0 qL_822 rfl (pq_sa hL ⟨by omega, by omega⟩) ?_
  refine u_0 qL_823 rfl (ld_a l0) ?_
  refine u_0 qL_824 rfl (ld_i l3) ?_
  refine u_0 qL_825 rfl rfl ?_
  refine u_0 qL_826 rfl pu_add ?_
  refine u_0 qL_827 rfl (pq_sa hL ⟨by omega, by omega⟩) ?_
  refine u_3 qL_828 rfl (ar := ([pvR 196, .inl (xs ((i : Int) + 1).toNat), .inl (xs ((i : Int) + 2).toNat)], [])) (pcal_w (as := [.inl (xs ((i : Int) + 2).toNat), .inl (xs ((i : Int) + 1).toNat)]) rfl rfl rfl el_196) ⟨by decide, Nat.le_of_ble_eq_true rfl, Nat.le_of_ble_eq_true rfl, rfl⟩ (t_mono H1 (fun o ho => ?_))
  obtain ⟨o1, g2⟩ := o
  obtain ⟨v2, e2, t2, G2, X2, Q2, E2⟩ := ho
  dsimp only at e2
  subst e2
  obtain ⟨r2, rfl⟩ := ct_0 t2
  show u_X (some (xs, L)) 100 276 831 lv [.inl r2] g2 P
  refine u_0 qL_831 rfl rfl ?_
  show u_X (some (xs, L)) 100 276 832 lv [] g2 P
  refine u_1 qL_832 rfl (pb_goto (pc := 832) (by decide)) ?_
  show u_X (some (xs, L)) 100 276 1314 lv [] g2 P
  exact hC _ G2 X2 Q2
set_option maxHeartbeats 4000000 in
theorem lo_op19 {xs : Nat → Int32} {L : Nat} (hL : L ≤ 3072) {i : Nat} (hi : i + 6 ≤ L) {lv : List (Nat × pv)} (l0 : px_lg lv 0 = some (pvR 1000)) (l1 : px_lg lv 1 = some (pvR 0)) (l2 : px_lg lv 2 = some (pvR 196)) (l3 : px_lg lv 3 = some (oI (i : Int))) {g : pH} (hG : g_I eG g) (hx : xL g) (hR : R0 g) {P : Option pv × pH → Prop} (hC : ∀ g1 : pH, g_I eG g1 → xL g1 → R0 g1 → u_X (some (xs, L)) 100 276 1314 lv [] g1 P) : u_X (some (xs, L)) 100 276 835 lv [] g P := by
  refine u_0 qL_835 rfl (ld_a l1) ?_
  refine u_0 qL_836 rfl (ld_a l0) ?_
  refine u_0 qL_837 rfl (ld_i l3) ?_
  refine u_0 qL_838 rfl rfl ?_
  refine u_0 qL_839 rfl pu_add ?_
  refine u_0 qL_840 rfl (pq_sa hL ⟨by omega, by omega⟩) ?_
  refine u_0 qL_841 rfl (ld_a l0) ?_
  refine u_0 qL_842 rfl (ld_i l3) ?_
  refine u_0 qL_843 rfl rfl ?_
  refine u_0 qL_844 rfl pu_add ?_
  refine u_0 qL_845 rfl (pq_sa hL ⟨by omega, by omega⟩) ?_
  refine u_3 qL_846 rfl (ar := ([pvR 0, .inl (xs ((i : Int) + 1).toNat), .inl (xs ((i : Int) + 2).toNat)], [])) (pcal_w (as := [.inl (xs ((i : Int) + 2).toNat), .inl (xs ((i : Int) + 1).toNat)]) rfl rfl rfl el_0) ⟨by decide, Nat.le_of_ble_eq_true rfl, Nat.le_of_ble_eq_true rfl, rfl⟩ (t_mono (pr_dots hG hx hR _ _) (fun o ho => ?_))
  obtain ⟨o1, g1⟩ := o
  obtain ⟨v1, e1, t1, H1⟩ := ho
  dsimp only at e1
  subst e1
  obtain ⟨r1, rfl⟩ := ct_0 t1
  show u_X (some (xs, L)) 100 276 849 lv [.inl r1] g1 P
  refine u_0 qL_849 rfl rfl ?_
  show u_X (some (xs, L)) 100 276 850 lv [] g1 P
  refine u_0 qL_850 rfl (ld_a l2) ?_
  refine u_0 qL_851 rfl (ld_a l0) ?_
  refine u_0 qL_852 rfl (ld_i l3) ?_
  refine u_0 qL_853 rfl rfl ?_
  refine u_0 qL_854 rfl pu_add ?_
  refine u_0 qL_855 rfl (pq_sa hL ⟨by omega, by omega⟩) ?_
  refine u_0 qL_856 rfl (ld_a l0) ?_
  refine u_0 qL_857 rfl (ld_i l3) ?_
  refine u_0 qL_858 rfl rfl ?_
  refine u_0 qL_859 rfl pu_add ?_
  refine u_0 qL_860 rfl (pq_sa hL ⟨by omega, by omega⟩) ?_
  refine u_3 qL_861 rfl (ar := ([pvR 196, .inl (xs ((i : Int) + 1).toNat), .inl (xs ((i : Int) + 2).toNat)], [])) (pcal_w (as := [.inl (xs ((i : Int) + 2).toNat), .inl (xs ((i : Int) + 1).toNat)]) rfl rfl rfl el_196) ⟨by decide, Nat.le_of_ble_eq_true rfl, Nat.le_of_ble_eq_true rfl, rfl⟩ (t_mono H1 (fun o ho => ?_))
  obtain ⟨o1, g2⟩ := o
  obtain ⟨v2, e2, t2, G2, X2, Q2, E2⟩ := ho
  dsimp only at e2
  subst e2
  obtain ⟨r2, rfl⟩ := ct_0 t2
  show u_X (some (xs, L)) 100 276 864 lv [.inl r2] g2 P
  refine u_0 qL_864 rfl rfl ?_
  show u_X (some (xs, L)) 100 276 865 lv [] g2 P
  refine u_1 qL_865 rfl (pb_goto (pc := 865) (by decide)) ?_
  show u_X (some (xs, L)) 100 276 1314 lv [] g2 P
  exact hC _ G2 X2 Q2
set_option maxHeartbeats 4000000 in
theorem lo_op20 {xs : Nat → Int32} {L : Nat} (hL : L ≤ 3072) {i : Nat} (hi : i + 6 ≤ L) {lv : List (Nat × pv)} (l0 : px_lg lv 0 = some (pvR 1000)) (l1 : px_lg lv 1 = some (pvR 0)) (l2 : px_lg lv 2 = some (pvR 196)) (l3 : px_lg lv 3 = some (oI (i : Int))) {g : pH} (hG : g_I eG g) (hx : xL g) (hR : R0 g) {P : Option pv × pH → Prop} (hC : ∀ g1 : pH, g_I eG g1 → xL g1 → R0 g1 → u_X (some (xs, L)) 100 276 1314 lv [] g1 P) : u_X (some (xs, L)) 100 276 868 lv [] g P := by
  refine u_0 qL_868 rfl (ld_a l1) ?_
  refine u_0 qL_869 rfl (ld_a l0) ?_
  refine u_0 qL_870 rfl (ld_i l3) ?_
  refine u_0 qL_871 rfl rfl ?_
  refine u_0 qL_872 rfl pu_add ?_
  refine u_0 qL_873 rfl (pq_sa hL ⟨by omega, by omega⟩) ?_
  refine u_0 qL_874 rfl (ld_a l0) ?_
  refine u_0 qL_875 rfl (ld_i l3) ?_
  refine u_0 qL_876 rfl rfl ?_
  refine u_0 qL_877 rfl pu_add ?_
  refine u_0 qL_878 rfl (pq_sa hL ⟨by omega, by omega⟩) ?_
  refine u_3 qL_879 rfl (ar := ([pvR 0, .inl (xs ((i : Int) + 1).toNat), .inl (xs ((i : Int) + 2).toNat)], [])) (pcal_w (as := [.inl (xs ((i : Int) + 2).toNat), .inl (xs ((i : Int) + 1).toNat)]) rfl rfl rfl el_0) ⟨by decide, Nat.le_of_ble_eq_true rfl, Nat.le_of_ble_eq_true rfl, rfl⟩ (t_mono (pr_lightBox hG hx hR _ _) (fun o ho => ?_))
  obtain ⟨o1, g1⟩ := o
  obtain ⟨v1, e1, t1, H1⟩ := ho
  dsimp only at e1
  subst e1
  obtain ⟨r1, rfl⟩ := ct_1 t1
  show u_X (some (xs, L)) 100 276 882 lv [.inr (.inl r1)] g1 P
  refine u_0 qL_882 rfl rfl ?_
  show u_X (some (xs, L)) 100 276 883 lv [] g1 P
  refine u_0 qL_883 rfl (ld_a l2) ?_
  refine u_0 qL_884 rfl (ld_a l0) ?_
  refine u_0 qL_885 rfl (ld_i l3) ?_
  refine u_0 qL_886 rfl rfl ?_
  refine u_0 qL_887 rfl pu_add ?_
  refine u_0 qL_888 rfl (pq_sa hL ⟨by omega, by omega⟩) ?_
  refine u_0 qL_889 rfl (ld_a l0) ?_
  refine u_0 qL_890 rfl (ld_i l3) ?_
  refine u_0 qL_891 rfl rfl ?_
  refine u_0 qL_892 rfl pu_add ?_
  refine u_0 qL_893 rfl (pq_sa hL ⟨by omega, by omega⟩) ?_
  refine u_3 qL_894 rfl (ar := ([pvR 196, .inl (xs ((i : Int) + 1).toNat), .inl (xs ((i : Int) + 2).toNat)], [])) (pcal_w (as := [.inl (xs ((i : Int) + 2).toNat), .inl (xs ((i : Int) + 1).toNat)]) rfl rfl rfl el_196) ⟨by decide, Nat.le_of_ble_eq_true rfl, Nat.le_of_ble_eq_true rfl, rfl⟩ (t_mono H1 (fun o ho => ?_))
  obtain ⟨o1, g2⟩ := o
  obtain ⟨v2, e2, t2, G2, X2, Q2, E2⟩ := ho
  dsimp only at e2
  subst e2
  obtain ⟨r2, rfl⟩ := ct_1 t2
  show u_X (some (xs, L)) 100 276 897 lv [.inr (.inl r2)] g2 P
  refine u_0 qL_897 rfl rfl ?_
  show u_X (some (xs, L)) 100 276 898 lv [] g2 P
  refine u_1 qL_898 rfl (pb_goto (pc := 898) (by decide)) ?_
  show u_X (some (xs, L)) 100 276 1314 lv [] g2 P
  exact hC _ G2 X2 Q2
set_option maxHeartbeats 4000000 in
theorem lo_op21 {xs : Nat → Int32} {L : Nat} (hL : L ≤ 3072) {i : Nat} (hi : i + 6 ≤ L) {lv : List (Nat × pv)} (l0 : px_lg lv 0 = some (pvR 1000)) (l1 : px_lg lv 1 = some (pvR 0)) (l2 : px_lg lv 2 = some (pvR 196)) (l3 : px_lg lv 3 = some (oI (i : Int))) {g : pH} (hG : g_I eG g) (hx : xL g) (hR : R0 g) {P : Option pv × pH → Prop} (hC : ∀ g1 : pH, g_I eG g1 → xL g1 → R0 g1 → u_X (some (xs, L)) 100 276 1314 lv [] g1 P) : u_X (some (xs, L)) 100 276 901 lv [] g P := by
  refine u_0 qL_901 rfl (ld_a l1) ?_
  refine u_0 qL_902 rfl (ld_a l0) ?_
  refine u_0 qL_903 rfl (ld_i l3) ?_
  refine u_0 qL_904 rfl rfl ?_
  refine u_0 qL_905 rfl pu_add ?_
  refine u_0 qL_906 rfl (pq_sa hL ⟨by omega, by omega⟩) ?_
  refine u_0 qL_907 rfl (ld_a l0) ?_
  refine u_0 qL_908 rfl (ld_i l3) ?_
  refine u_0 qL_909 rfl rfl ?_
  refine u_0 qL_910 rfl pu_add ?_
  refine u_0 qL_911 rfl (pq_sa hL ⟨by omega, by omega⟩) ?_
  refine u_3 qL_912 rfl (ar := ([pvR 0, .inl (xs ((i : Int) + 1).toNat), .inl (xs ((i : Int) + 2).toNat)], [])) (pcal_w (as := [.inl (xs ((i : Int) + 2).toNat), .inl (xs ((i : Int) + 1).toNat)]) rfl rfl rfl el_0) ⟨by decide, Nat.le_of_ble_eq_true rfl, Nat.le_of_ble_eq_true rfl, rfl⟩ (t_mono (pr_clue hG hx hR _ _) (fun o ho => ?_))
  obtain ⟨o1, g1⟩ := o
  obtain ⟨v1, e1, t1, H1⟩ := ho
  dsimp only at e1
  subst e1
  obtain ⟨r1, rfl⟩ := ct_0 t1
  show u_X (some (xs, L)) 100 276 915 lv [.inl r1] g1 P
  refine u_0 qL_915 rfl rfl ?_
  show u_X (some (xs, L)) 100 276 916 lv [] g1 P
  refine u_0 qL_916 rfl (ld_a l2) ?_
  refine u_0 qL_917 rfl (ld_a l0) ?_
  refine u_0 qL_918 rfl (ld_i l3) ?_
  refine u_0 qL_919 rfl rfl ?_
  refine u_0 qL_920 rfl pu_add ?_
  refine u_0 qL_921 rfl (pq_sa hL ⟨by omega, by omega⟩) ?_
  refine u_0 qL_922 rfl (ld_a l0) ?_
  refine u_0 qL_923 rfl (ld_i l3) ?_
  refine u_0 qL_924 rfl rfl ?_
  refine u_0 qL_925 rfl pu_add ?_
  refine u_0 qL_926 rfl (pq_sa hL ⟨by omega, by omega⟩) ?_
  refine u_3 qL_927 rfl (ar := ([pvR 196, .inl (xs ((i : Int) + 1).toNat), .inl (xs ((i : Int) + 2).toNat)], [])) (pcal_w (as := [.inl (xs ((i : Int) + 2).toNat), .inl (xs ((i : Int) + 1).toNat)]) rfl rfl rfl el_196) ⟨by decide, Nat.le_of_ble_eq_true rfl, Nat.le_of_ble_eq_true rfl, rfl⟩ (t_mono H1 (fun o ho => ?_))
  obtain ⟨o1, g2⟩ := o
  obtain ⟨v2, e2, t2, G2, X2, Q2, E2⟩ := ho
  dsimp only at e2
  subst e2
  obtain ⟨r2, rfl⟩ := ct_0 t2
  show u_X (some (xs, L)) 100 276 930 lv [.inl r2] g2 P
  refine u_0 qL_930 rfl rfl ?_
  show u_X (some (xs, L)) 100 276 931 lv [] g2 P
  refine u_1 qL_931 rfl (pb_goto (pc := 931) (by decide)) ?_
  show u_X (some (xs, L)) 100 276 1314 lv [] g2 P
  exact hC _ G2 X2 Q2
set_option maxHeartbeats 4000000 in
theorem lo_op22 {xs : Nat → Int32} {L : Nat} (hL : L ≤ 3072) {i : Nat} (hi : i + 6 ≤ L) {lv : List (Nat × pv)} (l0 : px_lg lv 0 = some (pvR 1000)) (l1 : px_lg lv 1 = some (pvR 0)) (l2 : px_lg lv 2 = some (pvR 196)) (l3 : px_lg lv 3 = some (oI (i : Int))) {g : pH} (hG : g_I eG g) (hx : xL g) (hR : R0 g) {P : Option pv × pH → Prop} (hC : ∀ g1 : pH, g_I eG g1 → xL g1 → R0 g1 → u_X (some (xs, L)) 100 276 1314 lv [] g1 P) : u_X (some (xs, L)) 100 276 934 lv [] g P := by
  refine u_0 qL_934 rfl (ld_a l1) ?_
  refine u_0 qL_935 rfl (ld_a l0) ?_
  refine u_0 qL_936 rfl (ld_i l3) ?_
  refine u_0 qL_937 rfl rfl ?_
  refine u_0 qL_938 rfl pu_add ?_
  refine u_0 qL_939 rfl (pq_sa hL ⟨by omega, by omega⟩) ?_
  refine u_0 qL_940 rfl (ld_a l0) ?_
  refine u_0 qL_941 rfl (ld_i l3) ?_
  refine u_0 qL_942 rfl rfl ?_
  refine u_0 qL_943 rfl pu_add ?_
  refine u_0 qL_944 rfl (pq_sa hL ⟨by omega, by omega⟩) ?_
  refine u_3 qL_945 rfl (ar := ([pvR 0, .inl (xs ((i : Int) + 1).toNat), .inl (xs ((i : Int) + 2).toNat)], [])) (pcal_w (as := [.inl (xs ((i : Int) + 2).toNat), .inl (xs ((i : Int) + 1).toNat)]) rfl rfl rfl el_0) ⟨by decide, Nat.le_of_ble_eq_true rfl, Nat.le_of_ble_eq_true rfl, rfl⟩ (t_mono (pr_spilt hG hx hR _ _) (fun o ho => ?_))
  obtain ⟨o1, g1⟩ := o
  obtain ⟨v1, e1, t1, H1⟩ := ho
  dsimp only at e1
  subst e1
  obtain ⟨r1, rfl⟩ := ct_1 t1
  show u_X (some (xs, L)) 100 276 948 lv [.inr (.inl r1)] g1 P
  refine u_0 qL_948 rfl rfl ?_
  show u_X (some (xs, L)) 100 276 949 lv [] g1 P
  refine u_0 qL_949 rfl (ld_a l2) ?_
  refine u_0 qL_950 rfl (ld_a l0) ?_
  refine u_0 qL_951 rfl (ld_i l3) ?_
  refine u_0 qL_952 rfl rfl ?_
  refine u_0 qL_953 rfl pu_add ?_
  refine u_0 qL_954 rfl (pq_sa hL ⟨by omega, by omega⟩) ?_
  refine u_0 qL_955 rfl (ld_a l0) ?_
  refine u_0 qL_956 rfl (ld_i l3) ?_
  refine u_0 qL_957 rfl rfl ?_
  refine u_0 qL_958 rfl pu_add ?_
  refine u_0 qL_959 rfl (pq_sa hL ⟨by omega, by omega⟩) ?_
  refine u_3 qL_960 rfl (ar := ([pvR 196, .inl (xs ((i : Int) + 1).toNat), .inl (xs ((i : Int) + 2).toNat)], [])) (pcal_w (as := [.inl (xs ((i : Int) + 2).toNat), .inl (xs ((i : Int) + 1).toNat)]) rfl rfl rfl el_196) ⟨by decide, Nat.le_of_ble_eq_true rfl, Nat.le_of_ble_eq_true rfl, rfl⟩ (t_mono H1 (fun o ho => ?_))
  obtain ⟨o1, g2⟩ := o
  obtain ⟨v2, e2, t2, G2, X2, Q2, E2⟩ := ho
  dsimp only at e2
  subst e2
  obtain ⟨r2, rfl⟩ := ct_1 t2
  show u_X (some (xs, L)) 100 276 963 lv [.inr (.inl r2)] g2 P
  refine u_0 qL_963 rfl rfl ?_
  show u_X (some (xs, L)) 100 276 964 lv [] g2 P
  refine u_1 qL_964 rfl (pb_goto (pc := 964) (by decide)) ?_
  show u_X (some (xs, L)) 100 276 1314 lv [] g2 P
  exact hC _ G2 X2 Q2
set_option maxHeartbeats 4000000 in
theorem lo_op23 {xs : Nat → Int32} {L : Nat} (hL : L ≤ 3072) {i : Nat} (hi : i + 6 ≤ L) {lv : List (Nat × pv)} (l0 : px_lg lv 0 = some (pvR 1000)) (l1 : px_lg lv 1 = some (pvR 0)) (l2 : px_lg lv 2 = some (pvR 196)) (l3 : px_lg lv 3 = some (oI (i : Int))) {g : pH} (hG : g_I eG g) (hx : xL g) (hR : R0 g) {P : Option pv × pH → Prop} (hC : ∀ g1 : pH, g_I eG g1 → xL g1 → R0 g1 → u_X (some (xs, L)) 100 276 1314 lv [] g1 P) : u_X (some (xs, L)) 100 276 967 lv [] g P := by
  refine u_0 qL_967 rfl (ld_a l1) ?_
  refine u_0 qL_968 rfl (ld_a l0) ?_
  refine u_0 qL_969 rfl (ld_i l3) ?_
  refine u_0 qL_970 rfl rfl ?_
  refine u_0 qL_971 rfl pu_add ?_
  refine u_0 qL_972 rfl (pq_sa hL ⟨by omega, by omega⟩) ?_
  refine u_0 qL_973 rfl (ld_a l0) ?_
  refine u_0 qL_974 rfl (ld_i l3) ?_
  refine u_0 qL_975 rfl rfl ?_
  refine u_0 qL_976 rfl pu_add ?_
  refine u_0 qL_977 rfl (pq_sa hL ⟨by omega, by omega⟩) ?_
  refine u_0 qL_978 rfl (ld_a l0) ?_
  refine u_0 qL_979 rfl (ld_i l3) ?_
  refine u_0 qL_980 rfl rfl ?_
  refine u_0 qL_981 rfl pu_add ?_
  refine u_0 qL_982 rfl (pq_sa hL ⟨by omega, by omega⟩) ?_
  refine u_0 qL_983 rfl (ld_a l0) ?_
  refine u_0 qL_984 rfl (ld_i l3) ?_
  refine u_0 qL_985 rfl rfl ?_
  refine u_0 qL_986 rfl pu_add ?_
  refine u_0 qL_987 rfl (pq_sa hL ⟨by omega, by omega⟩) ?_
  refine u_3 qL_988 rfl (ar := ([pvR 0, .inl (xs ((i : Int) + 1).toNat), .inl (xs ((i : Int) + 2).toNat), .inl (xs ((i : Int) + 3).toNat), .inl (xs ((i : Int) + 4).toNat)], [])) (pcal_w (as := [.inl (xs ((i : Int) + 4).toNat), .inl (xs ((i : Int) + 3).toNat), .inl (xs ((i : Int) + 2).toNat), .inl (xs ((i : Int) + 1).toNat)]) rfl rfl rfl el_0) ⟨by decide, Nat.le_of_ble_eq_true rfl, Nat.le_of_ble_eq_true rfl, rfl⟩ (t_mono (pr_says hG hx hR _ _ _ _) (fun o ho => ?_))
  obtain ⟨o1, g1⟩ := o
  obtain ⟨v1, e1, t1, H1⟩ := ho
  dsimp only at e1
  subst e1
  obtain ⟨r1, rfl⟩ := ct_1 t1
  show u_X (some (xs, L)) 100 276 991 lv [.inr (.inl r1)] g1 P
  refine u_0 qL_991 rfl rfl ?_
  show u_X (some (xs, L)) 100 276 992 lv [] g1 P
  refine u_0 qL_992 rfl (ld_a l2) ?_
  refine u_0 qL_993 rfl (ld_a l0) ?_
  refine u_0 qL_994 rfl (ld_i l3) ?_
  refine u_0 qL_995 rfl rfl ?_
  refine u_0 qL_996 rfl pu_add ?_
  refine u_0 qL_997 rfl (pq_sa hL ⟨by omega, by omega⟩) ?_
  refine u_0 qL_998 rfl (ld_a l0) ?_
  refine u_0 qL_999 rfl (ld_i l3) ?_
  refine u_0 qL_1000 rfl rfl ?_
  refine u_0 qL_1001 rfl pu_add ?_
  refine u_0 qL_1002 rfl (pq_sa hL ⟨by omega, by omega⟩) ?_
  refine u_0 qL_1003 rfl (ld_a l0) ?_
  refine u_0 qL_1004 rfl (ld_i l3) ?_
  refine u_0 qL_1005 rfl rfl ?_
  refine u_0 qL_1006 rfl pu_add ?_
  refine u_0 qL_1007 rfl (pq_sa hL ⟨by omega, by omega⟩) ?_
  refine u_0 qL_1008 rfl (ld_a l0) ?_
  refine u_0 qL_1009 rfl (ld_i l3) ?_
  refine u_0 qL_1010 rfl rfl ?_
  refine u_0 qL_1011 rfl pu_add ?_
  refine u_0 qL_1012 rfl (pq_sa hL ⟨by omega, by omega⟩) ?_
  refine u_3 qL_1013 rfl (ar := ([pvR 196, .inl (xs ((i : Int) + 1).toNat), .inl (xs ((i : Int) + 2).toNat), .inl (xs ((i : Int) + 3).toNat), .inl (xs ((i : Int) + 4).toNat)], [])) (pcal_w (as := [.inl (xs ((i : Int) + 4).toNat), .inl (xs ((i : Int) + 3).toNat), .inl (xs ((i : Int) + 2).toNat), .inl (xs ((i : Int) + 1).toNat)]) rfl rfl rfl el_196) ⟨by decide, Nat.le_of_ble_eq_true rfl, Nat.le_of_ble_eq_true rfl, rfl⟩ (t_mono H1 (fun o ho => ?_))
  obtain ⟨o1, g2⟩ := o
  obtain ⟨v2, e2, t2, G2, X2, Q2, E2⟩ := ho
  dsimp only at e2
  subst e2
  obtain ⟨r2, rfl⟩ := ct_1 t2
  show u_X (some (xs, L)) 100 276 1016 lv [.inr (.inl r2)] g2 P
  refine u_0 qL_1016 rfl rfl ?_
  show u_X (some (xs, L)) 100 276 1017 lv [] g2 P
  refine u_1 qL_1017 rfl (pb_goto (pc := 1017) (by decide)) ?_
  show u_X (some (xs, L)) 100 276 1314 lv [] g2 P
  exact hC _ G2 X2 Q2
set_option maxHeartbeats 4000000 in
theorem lo_op24 {xs : Nat → Int32} {L : Nat} (hL : L ≤ 3072) {i : Nat} (hi : i + 6 ≤ L) {lv : List (Nat × pv)} (l0 : px_lg lv 0 = some (pvR 1000)) (l1 : px_lg lv 1 = some (pvR 0)) (l2 : px_lg lv 2 = some (pvR 196)) (l3 : px_lg lv 3 = some (oI (i : Int))) {g : pH} (hG : g_I eG g) (hx : xL g) (hR : R0 g) {P : Option pv × pH → Prop} (hC : ∀ g1 : pH, g_I eG g1 → xL g1 → R0 g1 → u_X (some (xs, L)) 100 276 1314 lv [] g1 P) : u_X (some (xs, L)) 100 276 1020 lv [] g P := by
  refine u_0 qL_1020 rfl (ld_a l1) ?_
  refine u_0 qL_1021 rfl (ld_a l0) ?_
  refine u_0 qL_1022 rfl (ld_i l3) ?_
  refine u_0 qL_1023 rfl rfl ?_
  refine u_0 qL_1024 rfl pu_add ?_
  refine u_0 qL_1025 rfl (pq_sa hL ⟨by omega, by omega⟩) ?_
  refine u_0 qL_1026 rfl (ld_a l0) ?_
  refine u_0 qL_1027 rfl (ld_i l3) ?_
  refine u_0 qL_1028 rfl rfl ?_
  refine u_0 qL_1029 rfl pu_add ?_
  refine u_0 qL_1030 rfl (pq_sa hL ⟨by omega, by omega⟩) ?_
  refine u_0 qL_1031 rfl (ld_a l0) ?_
  refine u_0 qL_1032 rfl (ld_i l3) ?_
  refine u_0 qL_1033 rfl rfl ?_
  refine u_0 qL_1034 rfl pu_add ?_
  refine u_0 qL_1035 rfl (pq_sa hL ⟨by omega, by omega⟩) ?_
  refine u_3 qL_1036 rfl (ar := ([pvR 0, .inl (xs ((i : Int) + 1).toNat), .inl (xs ((i : Int) + 2).toNat), .inl (xs ((i : Int) + 3).toNat)], [])) (pcal_w (as := [.inl (xs ((i : Int) + 3).toNat), .inl (xs ((i : Int) + 2).toNat), .inl (xs ((i : Int) + 1).toNat)]) rfl rfl rfl el_0) ⟨by decide, Nat.le_of_ble_eq_true rfl, Nat.le_of_ble_eq_true rfl, rfl⟩ (t_mono (pr_shadow hG hx hR _ _ _) (fun o ho => ?_))
  obtain ⟨o1, g1⟩ := o
  obtain ⟨v1, e1, t1, H1⟩ := ho
  dsimp only at e1
  subst e1
  obtain ⟨r1, rfl⟩ := ct_0 t1
  show u_X (some (xs, L)) 100 276 1039 lv [.inl r1] g1 P
  refine u_0 qL_1039 rfl rfl ?_
  show u_X (some (xs, L)) 100 276 1040 lv [] g1 P
  refine u_0 qL_1040 rfl (ld_a l2) ?_
  refine u_0 qL_1041 rfl (ld_a l0) ?_
  refine u_0 qL_1042 rfl (ld_i l3) ?_
  refine u_0 qL_1043 rfl rfl ?_
  refine u_0 qL_1044 rfl pu_add ?_
  refine u_0 qL_1045 rfl (pq_sa hL ⟨by omega, by omega⟩) ?_
  refine u_0 qL_1046 rfl (ld_a l0) ?_
  refine u_0 qL_1047 rfl (ld_i l3) ?_
  refine u_0 qL_1048 rfl rfl ?_
  refine u_0 qL_1049 rfl pu_add ?_
  refine u_0 qL_1050 rfl (pq_sa hL ⟨by omega, by omega⟩) ?_
  refine u_0 qL_1051 rfl (ld_a l0) ?_
  refine u_0 qL_1052 rfl (ld_i l3) ?_
  refine u_0 qL_1053 rfl rfl ?_
  refine u_0 qL_1054 rfl pu_add ?_
  refine u_0 qL_1055 rfl (pq_sa hL ⟨by omega, by omega⟩) ?_
  refine u_3 qL_1056 rfl (ar := ([pvR 196, .inl (xs ((i : Int) + 1).toNat), .inl (xs ((i : Int) + 2).toNat), .inl (xs ((i : Int) + 3).toNat)], [])) (pcal_w (as := [.inl (xs ((i : Int) + 3).toNat), .inl (xs ((i : Int) + 2).toNat), .inl (xs ((i : Int) + 1).toNat)]) rfl rfl rfl el_196) ⟨by decide, Nat.le_of_ble_eq_true rfl, Nat.le_of_ble_eq_true rfl, rfl⟩ (t_mono H1 (fun o ho => ?_))
  obtain ⟨o1, g2⟩ := o
  obtain ⟨v2, e2, t2, G2, X2, Q2, E2⟩ := ho
  dsimp only at e2
  subst e2
  obtain ⟨r2, rfl⟩ := ct_0 t2
  show u_X (some (xs, L)) 100 276 1059 lv [.inl r2] g2 P
  refine u_0 qL_1059 rfl rfl ?_
  show u_X (some (xs, L)) 100 276 1060 lv [] g2 P
  refine u_1 qL_1060 rfl (pb_goto (pc := 1060) (by decide)) ?_
  show u_X (some (xs, L)) 100 276 1314 lv [] g2 P
  exact hC _ G2 X2 Q2
set_option maxHeartbeats 4000000 in
theorem lo_op25 {xs : Nat → Int32} {L : Nat} (hL : L ≤ 3072) {i : Nat} (hi : i + 6 ≤ L) {lv : List (Nat × pv)} (l0 : px_lg lv 0 = some (pvR 1000)) (l1 : px_lg lv 1 = some (pvR 0)) (l2 : px_lg lv 2 = some (pvR 196)) (l3 : px_lg lv 3 = some (oI (i : Int))) {g : pH} (hG : g_I eG g) (hx : xL g) (hR : R0 g) {P : Option pv × pH → Prop} (hC : ∀ g1 : pH, g_I eG g1 → xL g1 → R0 g1 → u_X (some (xs, L)) 100 276 1314 lv [] g1 P) : u_X (some (xs, L)) 100 276 1063 lv [] g P := by
  refine u_0 qL_1063 rfl (ld_a l1) ?_
  refine u_0 qL_1064 rfl (ld_a l0) ?_
  refine u_0 qL_1065 rfl (ld_i l3) ?_
  refine u_0 qL_1066 rfl rfl ?_
  refine u_0 qL_1067 rfl pu_add ?_
  refine u_0 qL_1068 rfl (pq_sa hL ⟨by omega, by omega⟩) ?_
  refine u_0 qL_1069 rfl (ld_a l0) ?_
  refine u_0 qL_1070 rfl (ld_i l3) ?_
  refine u_0 qL_1071 rfl rfl ?_
  refine u_0 qL_1072 rfl pu_add ?_
  refine u_0 qL_1073 rfl (pq_sa hL ⟨by omega, by omega⟩) ?_
  refine u_3 qL_1074 rfl (ar := ([pvR 0, .inl (xs ((i : Int) + 1).toNat), .inl (xs ((i : Int) + 2).toNat)], [])) (pcal_w (as := [.inl (xs ((i : Int) + 2).toNat), .inl (xs ((i : Int) + 1).toNat)]) rfl rfl rfl el_0) ⟨by decide, Nat.le_of_ble_eq_true rfl, Nat.le_of_ble_eq_true rfl, rfl⟩ (t_mono (pr_link hG hx hR _ _) (fun o ho => ?_))
  obtain ⟨o1, g1⟩ := o
  obtain ⟨v1, e1, t1, H1⟩ := ho
  dsimp only at e1
  subst e1
  obtain ⟨r1, rfl⟩ := ct_0 t1
  show u_X (some (xs, L)) 100 276 1077 lv [.inl r1] g1 P
  refine u_0 qL_1077 rfl rfl ?_
  show u_X (some (xs, L)) 100 276 1078 lv [] g1 P
  refine u_0 qL_1078 rfl (ld_a l2) ?_
  refine u_0 qL_1079 rfl (ld_a l0) ?_
  refine u_0 qL_1080 rfl (ld_i l3) ?_
  refine u_0 qL_1081 rfl rfl ?_
  refine u_0 qL_1082 rfl pu_add ?_
  refine u_0 qL_1083 rfl (pq_sa hL ⟨by omega, by omega⟩) ?_
  refine u_0 qL_1084 rfl (ld_a l0) ?_
  refine u_0 qL_1085 rfl (ld_i l3) ?_
  refine u_0 qL_1086 rfl rfl ?_
  refine u_0 qL_1087 rfl pu_add ?_
  refine u_0 qL_1088 rfl (pq_sa hL ⟨by omega, by omega⟩) ?_
  refine u_3 qL_1089 rfl (ar := ([pvR 196, .inl (xs ((i : Int) + 1).toNat), .inl (xs ((i : Int) + 2).toNat)], [])) (pcal_w (as := [.inl (xs ((i : Int) + 2).toNat), .inl (xs ((i : Int) + 1).toNat)]) rfl rfl rfl el_196) ⟨by decide, Nat.le_of_ble_eq_true rfl, Nat.le_of_ble_eq_true rfl, rfl⟩ (t_mono H1 (fun o ho => ?_))
  obtain ⟨o1, g2⟩ := o
  obtain ⟨v2, e2, t2, G2, X2, Q2, E2⟩ := ho
  dsimp only at e2
  subst e2
  obtain ⟨r2, rfl⟩ := ct_0 t2
  show u_X (some (xs, L)) 100 276 1092 lv [.inl r2] g2 P
  refine u_0 qL_1092 rfl rfl ?_
  show u_X (some (xs, L)) 100 276 1093 lv [] g2 P
  refine u_1 qL_1093 rfl (pb_goto (pc := 1093) (by decide)) ?_
  show u_X (some (xs, L)) 100 276 1314 lv [] g2 P
  exact hC _ G2 X2 Q2
set_option maxHeartbeats 4000000 in
theorem lo_op26 {xs : Nat → Int32} {L : Nat} (hL : L ≤ 3072) {i : Nat} (hi : i + 6 ≤ L) {lv : List (Nat × pv)} (l0 : px_lg lv 0 = some (pvR 1000)) (l1 : px_lg lv 1 = some (pvR 0)) (l2 : px_lg lv 2 = some (pvR 196)) (l3 : px_lg lv 3 = some (oI (i : Int))) {g : pH} (hG : g_I eG g) (hx : xL g) (hR : R0 g) {P : Option pv × pH → Prop} (hC : ∀ g1 : pH, g_I eG g1 → xL g1 → R0 g1 → u_X (some (xs, L)) 100 276 1314 lv [] g1 P) : u_X (some (xs, L)) 100 276 1096 lv [] g P := by
  refine u_0 qL_1096 rfl (ld_a l1) ?_
  refine u_0 qL_1097 rfl (ld_a l0) ?_
  refine u_0 qL_1098 rfl (ld_i l3) ?_
  refine u_0 qL_1099 rfl rfl ?_
  refine u_0 qL_1100 rfl pu_add ?_
  refine u_0 qL_1101 rfl (pq_sa hL ⟨by omega, by omega⟩) ?_
  refine u_0 qL_1102 rfl (ld_a l0) ?_
  refine u_0 qL_1103 rfl (ld_i l3) ?_
  refine u_0 qL_1104 rfl rfl ?_
  refine u_0 qL_1105 rfl pu_add ?_
  refine u_0 qL_1106 rfl (pq_sa hL ⟨by omega, by omega⟩) ?_
  refine u_3 qL_1107 rfl (ar := ([pvR 0, .inl (xs ((i : Int) + 1).toNat), .inl (xs ((i : Int) + 2).toNat)], [])) (pcal_w (as := [.inl (xs ((i : Int) + 2).toNat), .inl (xs ((i : Int) + 1).toNat)]) rfl rfl rfl el_0) ⟨by decide, Nat.le_of_ble_eq_true rfl, Nat.le_of_ble_eq_true rfl, rfl⟩ (t_mono (pr_leftOut hG hx hR _ _) (fun o ho => ?_))
  obtain ⟨o1, g1⟩ := o
  obtain ⟨v1, e1, t1, H1⟩ := ho
  dsimp only at e1
  subst e1
  obtain ⟨r1, rfl⟩ := ct_0 t1
  show u_X (some (xs, L)) 100 276 1110 lv [.inl r1] g1 P
  refine u_0 qL_1110 rfl rfl ?_
  show u_X (some (xs, L)) 100 276 1111 lv [] g1 P
  refine u_0 qL_1111 rfl (ld_a l2) ?_
  refine u_0 qL_1112 rfl (ld_a l0) ?_
  refine u_0 qL_1113 rfl (ld_i l3) ?_
  refine u_0 qL_1114 rfl rfl ?_
  refine u_0 qL_1115 rfl pu_add ?_
  refine u_0 qL_1116 rfl (pq_sa hL ⟨by omega, by omega⟩) ?_
  refine u_0 qL_1117 rfl (ld_a l0) ?_
  refine u_0 qL_1118 rfl (ld_i l3) ?_
  refine u_0 qL_1119 rfl rfl ?_
  refine u_0 qL_1120 rfl pu_add ?_
  refine u_0 qL_1121 rfl (pq_sa hL ⟨by omega, by omega⟩) ?_
  refine u_3 qL_1122 rfl (ar := ([pvR 196, .inl (xs ((i : Int) + 1).toNat), .inl (xs ((i : Int) + 2).toNat)], [])) (pcal_w (as := [.inl (xs ((i : Int) + 2).toNat), .inl (xs ((i : Int) + 1).toNat)]) rfl rfl rfl el_196) ⟨by decide, Nat.le_of_ble_eq_true rfl, Nat.le_of_ble_eq_true rfl, rfl⟩ (t_mono H1 (fun o ho => ?_))
  obtain ⟨o1, g2⟩ := o
  obtain ⟨v2, e2, t2, G2, X2, Q2, E2⟩ := ho
  dsimp only at e2
  subst e2
  obtain ⟨r2, rfl⟩ := ct_0 t2
  show u_X (some (xs, L)) 100 276 1125 lv [.inl r2] g2 P
  refine u_0 qL_1125 rfl rfl ?_
  show u_X (some (xs, L)) 100 276 1126 lv [] g2 P
  refine u_1 qL_1126 rfl (pb_goto (pc := 1126) (by decide)) ?_
  show u_X (some (xs, L)) 100 276 1314 lv [] g2 P
  exact hC _ G2 X2 Q2
set_option maxHeartbeats 4000000 in
theorem lo_op27 {xs : Nat → Int32} {L : Nat} (hL : L ≤ 3072) {i : Nat} (hi : i + 6 ≤ L) {lv : List (Nat × pv)} (l0 : px_lg lv 0 = some (pvR 1000)) (l1 : px_lg lv 1 = some (pvR 0)) (l2 : px_lg lv 2 = some (pvR 196)) (l3 : px_lg lv 3 = some (oI (i : Int))) {g : pH} (hG : g_I eG g) (hx : xL g) (hR : R0 g) {P : Option pv × pH → Prop} (hC : ∀ g1 : pH, g_I eG g1 → xL g1 → R0 g1 → u_X (some (xs, L)) 100 276 1314 lv [] g1 P) : u_X (some (xs, L)) 100 276 1129 lv [] g P := by
  refine u_0 qL_1129 rfl (ld_a l1) ?_
  refine u_0 qL_1130 rfl (ld_a l0) ?_
  refine u_0 qL_1131 rfl (ld_i l3) ?_
  refine u_0 qL_1132 rfl rfl ?_
  refine u_0 qL_1133 rfl pu_add ?_
  refine u_0 qL_1134 rfl (pq_sa hL ⟨by omega, by omega⟩) ?_
  refine u_0 qL_1135 rfl (ld_a l0) ?_
  refine u_0 qL_1136 rfl (ld_i l3) ?_
  refine u_0 qL_1137 rfl rfl ?_
  refine u_0 qL_1138 rfl pu_add ?_
  refine u_0 qL_1139 rfl (pq_sa hL ⟨by omega, by omega⟩) ?_
  refine u_0 qL_1140 rfl (ld_a l0) ?_
  refine u_0 qL_1141 rfl (ld_i l3) ?_
  refine u_0 qL_1142 rfl rfl ?_
  refine u_0 qL_1143 rfl pu_add ?_
  refine u_0 qL_1144 rfl (pq_sa hL ⟨by omega, by omega⟩) ?_
  refine u_3 qL_1145 rfl (ar := ([pvR 0, .inl (xs ((i : Int) + 1).toNat), .inl (xs ((i : Int) + 2).toNat), .inl (xs ((i : Int) + 3).toNat)], [])) (pcal_w (as := [.inl (xs ((i : Int) + 3).toNat), .inl (xs ((i : Int) + 2).toNat), .inl (xs ((i : Int) + 1).toNat)]) rfl rfl rfl el_0) ⟨by decide, Nat.le_of_ble_eq_true rfl, Nat.le_of_ble_eq_true rfl, rfl⟩ (t_mono (pt_lamp hG hx hR _ _ _) (fun o ho => ?_))
  obtain ⟨o1, g1⟩ := o
  obtain ⟨v1, e1, t1, H1⟩ := ho
  dsimp only at e1
  subst e1
  obtain ⟨r1, rfl⟩ := ct_1 t1
  show u_X (some (xs, L)) 100 276 1148 lv [.inr (.inl r1)] g1 P
  refine u_0 qL_1148 rfl (ld_a l2) ?_
  refine u_0 qL_1149 rfl (ld_a l0) ?_
  refine u_0 qL_1150 rfl (ld_i l3) ?_
  refine u_0 qL_1151 rfl rfl ?_
  refine u_0 qL_1152 rfl pu_add ?_
  refine u_0 qL_1153 rfl (pq_sa hL ⟨by omega, by omega⟩) ?_
  refine u_0 qL_1154 rfl (ld_a l0) ?_
  refine u_0 qL_1155 rfl (ld_i l3) ?_
  refine u_0 qL_1156 rfl rfl ?_
  refine u_0 qL_1157 rfl pu_add ?_
  refine u_0 qL_1158 rfl (pq_sa hL ⟨by omega, by omega⟩) ?_
  refine u_0 qL_1159 rfl (ld_a l0) ?_
  refine u_0 qL_1160 rfl (ld_i l3) ?_
  refine u_0 qL_1161 rfl rfl ?_
  refine u_0 qL_1162 rfl pu_add ?_
  refine u_0 qL_1163 rfl (pq_sa hL ⟨by omega, by omega⟩) ?_
  refine u_3 qL_1164 rfl (ar := ([pvR 196, .inl (xs ((i : Int) + 1).toNat), .inl (xs ((i : Int) + 2).toNat), .inl (xs ((i : Int) + 3).toNat)], [.inr (.inl r1)])) (pcal_w (as := [.inl (xs ((i : Int) + 3).toNat), .inl (xs ((i : Int) + 2).toNat), .inl (xs ((i : Int) + 1).toNat)]) rfl rfl rfl el_196) ⟨by decide, Nat.le_of_ble_eq_true rfl, Nat.le_of_ble_eq_true rfl, rfl⟩ (t_mono H1 (fun o ho => ?_))
  obtain ⟨o1, g2⟩ := o
  obtain ⟨v2, e2, t2, G2, X2, Q2, E2⟩ := ho
  dsimp only at e2
  subst e2
  obtain ⟨r2, rfl⟩ := ct_1 t2
  show u_X (some (xs, L)) 100 276 1167 lv [.inr (.inl r2), .inr (.inl r1)] g2 P
  have e9 : r1 = r2 := Sum.inl.inj (Sum.inr.inj (E2 rfl))
  subst e9
  refine u_0 qL_1167 rfl rfl ?_
  refine u_1 qL_1168 rfl (pb_eq_t (pc := 1168) (by decide) (lg_same _)) (hC _ G2 X2 Q2)
set_option maxHeartbeats 4000000 in
theorem lo_op28 {xs : Nat → Int32} {L : Nat} (hL : L ≤ 3072) {i : Nat} (hi : i + 6 ≤ L) {lv : List (Nat × pv)} (l0 : px_lg lv 0 = some (pvR 1000)) (l1 : px_lg lv 1 = some (pvR 0)) (l2 : px_lg lv 2 = some (pvR 196)) (l3 : px_lg lv 3 = some (oI (i : Int))) {g : pH} (hG : g_I eG g) (hx : xL g) (hR : R0 g) {P : Option pv × pH → Prop} (hC : ∀ g1 : pH, g_I eG g1 → xL g1 → R0 g1 → u_X (some (xs, L)) 100 276 1314 lv [] g1 P) : u_X (some (xs, L)) 100 276 1173 lv [] g P := by
  refine u_0 qL_1173 rfl (ld_a l1) ?_
  refine u_0 qL_1174 rfl (ld_a l0) ?_
  refine u_0 qL_1175 rfl (ld_i l3) ?_
  refine u_0 qL_1176 rfl rfl ?_
  refine u_0 qL_1177 rfl pu_add ?_
  refine u_0 qL_1178 rfl (pq_sa hL ⟨by omega, by omega⟩) ?_
  refine u_3 qL_1179 rfl (ar := ([pvR 0, .inl (xs ((i : Int) + 1).toNat)], [])) (pcal_w (as := [.inl (xs ((i : Int) + 1).toNat)]) rfl rfl rfl el_0) ⟨by decide, Nat.le_of_ble_eq_true rfl, Nat.le_of_ble_eq_true rfl, rfl⟩ (t_mono (pr_hand hG hx hR _) (fun o ho => ?_))
  obtain ⟨o1, g1⟩ := o
  obtain ⟨v1, e1, t1, H1⟩ := ho
  dsimp only at e1
  subst e1
  obtain ⟨r1, rfl⟩ := ct_1 t1
  show u_X (some (xs, L)) 100 276 1182 lv [.inr (.inl r1)] g1 P
  refine u_0 qL_1182 rfl rfl ?_
  show u_X (some (xs, L)) 100 276 1183 lv [] g1 P
  refine u_0 qL_1183 rfl (ld_a l2) ?_
  refine u_0 qL_1184 rfl (ld_a l0) ?_
  refine u_0 qL_1185 rfl (ld_i l3) ?_
  refine u_0 qL_1186 rfl rfl ?_
  refine u_0 qL_1187 rfl pu_add ?_
  refine u_0 qL_1188 rfl (pq_sa hL ⟨by omega, by omega⟩) ?_
  refine u_3 qL_1189 rfl (ar := ([pvR 196, .inl (xs ((i : Int) + 1).toNat)], [])) (pcal_w (as := [.inl (xs ((i : Int) + 1).toNat)]) rfl rfl rfl el_196) ⟨by decide, Nat.le_of_ble_eq_true rfl, Nat.le_of_ble_eq_true rfl, rfl⟩ (t_mono H1 (fun o ho => ?_))
  obtain ⟨o1, g2⟩ := o
  obtain ⟨v2, e2, t2, G2, X2, Q2, E2⟩ := ho
  dsimp only at e2
  subst e2
  obtain ⟨r2, rfl⟩ := ct_1 t2
  show u_X (some (xs, L)) 100 276 1192 lv [.inr (.inl r2)] g2 P
  refine u_0 qL_1192 rfl rfl ?_
  show u_X (some (xs, L)) 100 276 1193 lv [] g2 P
  refine u_1 qL_1193 rfl (pb_goto (pc := 1193) (by decide)) ?_
  show u_X (some (xs, L)) 100 276 1314 lv [] g2 P
  exact hC _ G2 X2 Q2
set_option maxHeartbeats 4000000 in
theorem lo_op29 {xs : Nat → Int32} {L : Nat} (hL : L ≤ 3072) {i : Nat} (hi : i + 6 ≤ L) {lv : List (Nat × pv)} (l0 : px_lg lv 0 = some (pvR 1000)) (l1 : px_lg lv 1 = some (pvR 0)) (l2 : px_lg lv 2 = some (pvR 196)) (l3 : px_lg lv 3 = some (oI (i : Int))) {g : pH} (hG : g_I eG g) (hx : xL g) (hR : R0 g) {P : Option pv × pH → Prop} (hC : ∀ g1 : pH, g_I eG g1 → xL g1 → R0 g1 → u_X (some (xs, L)) 100 276 1314 lv [] g1 P) : u_X (some (xs, L)) 100 276 1196 lv [] g P := by
  refine u_0 qL_1196 rfl (ld_a l1) ?_
  refine u_3 qL_1197 rfl (ar := ([pvR 0], [])) (pcal_w (as := []) rfl rfl rfl el_0) ⟨by decide, Nat.le_of_ble_eq_true rfl, Nat.le_of_ble_eq_true rfl, rfl⟩ (t_mono (pr_putIn hG hx hR) (fun o ho => ?_))
  obtain ⟨o1, g1⟩ := o
  obtain ⟨v1, e1, t1, H1⟩ := ho
  dsimp only at e1
  subst e1
  obtain ⟨r1, rfl⟩ := ct_0 t1
  show u_X (some (xs, L)) 100 276 1200 lv [.inl r1] g1 P
  refine u_0 qL_1200 rfl rfl ?_
  show u_X (some (xs, L)) 100 276 1201 lv [] g1 P
  refine u_0 qL_1201 rfl (ld_a l2) ?_
  refine u_3 qL_1202 rfl (ar := ([pvR 196], [])) (pcal_w (as := []) rfl rfl rfl el_196) ⟨by decide, Nat.le_of_ble_eq_true rfl, Nat.le_of_ble_eq_true rfl, rfl⟩ (t_mono H1 (fun o ho => ?_))
  obtain ⟨o1, g2⟩ := o
  obtain ⟨v2, e2, t2, G2, X2, Q2, E2⟩ := ho
  dsimp only at e2
  subst e2
  obtain ⟨r2, rfl⟩ := ct_0 t2
  show u_X (some (xs, L)) 100 276 1205 lv [.inl r2] g2 P
  refine u_0 qL_1205 rfl rfl ?_
  show u_X (some (xs, L)) 100 276 1206 lv [] g2 P
  refine u_1 qL_1206 rfl (pb_goto (pc := 1206) (by decide)) ?_
  show u_X (some (xs, L)) 100 276 1314 lv [] g2 P
  exact hC _ G2 X2 Q2
set_option maxHeartbeats 4000000 in
theorem lo_op30 {xs : Nat → Int32} {L : Nat} (hL : L ≤ 3072) {i : Nat} (hi : i + 6 ≤ L) {lv : List (Nat × pv)} (l0 : px_lg lv 0 = some (pvR 1000)) (l1 : px_lg lv 1 = some (pvR 0)) (l2 : px_lg lv 2 = some (pvR 196)) (l3 : px_lg lv 3 = some (oI (i : Int))) {g : pH} (hG : g_I eG g) (hx : xL g) (hR : R0 g) {P : Option pv × pH → Prop} (hC : ∀ g1 : pH, g_I eG g1 → xL g1 → R0 g1 → u_X (some (xs, L)) 100 276 1314 lv [] g1 P) : u_X (some (xs, L)) 100 276 1209 lv [] g P := by
  refine u_0 qL_1209 rfl (ld_a l1) ?_
  refine u_0 qL_1210 rfl (ld_a l0) ?_
  refine u_0 qL_1211 rfl (ld_i l3) ?_
  refine u_0 qL_1212 rfl rfl ?_
  refine u_0 qL_1213 rfl pu_add ?_
  refine u_0 qL_1214 rfl (pq_sa hL ⟨by omega, by omega⟩) ?_
  refine u_3 qL_1215 rfl (ar := ([pvR 0, .inl (xs ((i : Int) + 1).toNat)], [])) (pcal_w (as := [.inl (xs ((i : Int) + 1).toNat)]) rfl rfl rfl el_0) ⟨by decide, Nat.le_of_ble_eq_true rfl, Nat.le_of_ble_eq_true rfl, rfl⟩ (t_mono (pr_seed hG hx hR _) (fun o ho => ?_))
  obtain ⟨o1, g1⟩ := o
  obtain ⟨v1, e1, t1, H1⟩ := ho
  dsimp only at e1
  subst e1
  obtain ⟨r1, rfl⟩ := ct_0 t1
  show u_X (some (xs, L)) 100 276 1218 lv [.inl r1] g1 P
  refine u_0 qL_1218 rfl rfl ?_
  show u_X (some (xs, L)) 100 276 1219 lv [] g1 P
  refine u_0 qL_1219 rfl (ld_a l2) ?_
  refine u_0 qL_1220 rfl (ld_a l0) ?_
  refine u_0 qL_1221 rfl (ld_i l3) ?_
  refine u_0 qL_1222 rfl rfl ?_
  refine u_0 qL_1223 rfl pu_add ?_
  refine u_0 qL_1224 rfl (pq_sa hL ⟨by omega, by omega⟩) ?_
  refine u_3 qL_1225 rfl (ar := ([pvR 196, .inl (xs ((i : Int) + 1).toNat)], [])) (pcal_w (as := [.inl (xs ((i : Int) + 1).toNat)]) rfl rfl rfl el_196) ⟨by decide, Nat.le_of_ble_eq_true rfl, Nat.le_of_ble_eq_true rfl, rfl⟩ (t_mono H1 (fun o ho => ?_))
  obtain ⟨o1, g2⟩ := o
  obtain ⟨v2, e2, t2, G2, X2, Q2, E2⟩ := ho
  dsimp only at e2
  subst e2
  obtain ⟨r2, rfl⟩ := ct_0 t2
  show u_X (some (xs, L)) 100 276 1228 lv [.inl r2] g2 P
  refine u_0 qL_1228 rfl rfl ?_
  show u_X (some (xs, L)) 100 276 1229 lv [] g2 P
  refine u_1 qL_1229 rfl (pb_goto (pc := 1229) (by decide)) ?_
  show u_X (some (xs, L)) 100 276 1314 lv [] g2 P
  exact hC _ G2 X2 Q2
set_option maxHeartbeats 4000000 in
theorem lo_op31 {xs : Nat → Int32} {L : Nat} (hL : L ≤ 3072) {i : Nat} (hi : i + 6 ≤ L) {lv : List (Nat × pv)} (l0 : px_lg lv 0 = some (pvR 1000)) (l1 : px_lg lv 1 = some (pvR 0)) (l2 : px_lg lv 2 = some (pvR 196)) (l3 : px_lg lv 3 = some (oI (i : Int))) {g : pH} (hG : g_I eG g) (hx : xL g) (hR : R0 g) {P : Option pv × pH → Prop} (hC : ∀ g1 : pH, g_I eG g1 → xL g1 → R0 g1 → u_X (some (xs, L)) 100 276 1314 lv [] g1 P) : u_X (some (xs, L)) 100 276 1232 lv [] g P := by
  refine u_0 qL_1232 rfl (ld_a l1) ?_
  refine u_3 qL_1233 rfl (ar := ([pvR 0], [])) (pcal_w (as := []) rfl rfl rfl el_0) ⟨by decide, Nat.le_of_ble_eq_true rfl, Nat.le_of_ble_eq_true rfl, rfl⟩ (t_mono (pr_keep hG hx hR) (fun o ho => ?_))
  obtain ⟨o1, g1⟩ := o
  obtain ⟨v1, e1, t1, H1⟩ := ho
  dsimp only at e1
  subst e1
  obtain ⟨r1, rfl⟩ := ct_0 t1
  show u_X (some (xs, L)) 100 276 1236 lv [.inl r1] g1 P
  refine u_0 qL_1236 rfl rfl ?_
  show u_X (some (xs, L)) 100 276 1237 lv [] g1 P
  refine u_0 qL_1237 rfl (ld_a l2) ?_
  refine u_3 qL_1238 rfl (ar := ([pvR 196], [])) (pcal_w (as := []) rfl rfl rfl el_196) ⟨by decide, Nat.le_of_ble_eq_true rfl, Nat.le_of_ble_eq_true rfl, rfl⟩ (t_mono H1 (fun o ho => ?_))
  obtain ⟨o1, g2⟩ := o
  obtain ⟨v2, e2, t2, G2, X2, Q2, E2⟩ := ho
  dsimp only at e2
  subst e2
  obtain ⟨r2, rfl⟩ := ct_0 t2
  show u_X (some (xs, L)) 100 276 1241 lv [.inl r2] g2 P
  refine u_0 qL_1241 rfl rfl ?_
  show u_X (some (xs, L)) 100 276 1242 lv [] g2 P
  refine u_1 qL_1242 rfl (pb_goto (pc := 1242) (by decide)) ?_
  show u_X (some (xs, L)) 100 276 1314 lv [] g2 P
  exact hC _ G2 X2 Q2
set_option maxHeartbeats 4000000 in
theorem lo_op32 {xs : Nat → Int32} {L : Nat} (hL : L ≤ 3072) {i : Nat} (hi : i + 6 ≤ L) {lv : List (Nat × pv)} (l0 : px_lg lv 0 = some (pvR 1000)) (l1 : px_lg lv 1 = some (pvR 0)) (l2 : px_lg lv 2 = some (pvR 196)) (l3 : px_lg lv 3 = some (oI (i : Int))) {g : pH} (hG : g_I eG g) (hx : xL g) (hR : R0 g) {P : Option pv × pH → Prop} (hC : ∀ g1 : pH, g_I eG g1 → xL g1 → R0 g1 → u_X (some (xs, L)) 100 276 1314 lv [] g1 P) : u_X (some (xs, L)) 100 276 1245 lv [] g P := by
  refine u_0 qL_1245 rfl (ld_a l1) ?_
  refine u_3 qL_1246 rfl (ar := ([pvR 0], [])) (pcal_w (as := []) rfl rfl rfl el_0) ⟨by decide, Nat.le_of_ble_eq_true rfl, Nat.le_of_ble_eq_true rfl, rfl⟩ (t_mono (pr_undo hG hx hR) (fun o ho => ?_))
  obtain ⟨o1, g1⟩ := o
  obtain ⟨v1, e1, t1, H1⟩ := ho
  dsimp only at e1
  subst e1
  obtain ⟨r1, rfl⟩ := ct_0 t1
  show u_X (some (xs, L)) 100 276 1249 lv [.inl r1] g1 P
  refine u_0 qL_1249 rfl rfl ?_
  show u_X (some (xs, L)) 100 276 1250 lv [] g1 P
  refine u_0 qL_1250 rfl (ld_a l2) ?_
  refine u_3 qL_1251 rfl (ar := ([pvR 196], [])) (pcal_w (as := []) rfl rfl rfl el_196) ⟨by decide, Nat.le_of_ble_eq_true rfl, Nat.le_of_ble_eq_true rfl, rfl⟩ (t_mono H1 (fun o ho => ?_))
  obtain ⟨o1, g2⟩ := o
  obtain ⟨v2, e2, t2, G2, X2, Q2, E2⟩ := ho
  dsimp only at e2
  subst e2
  obtain ⟨r2, rfl⟩ := ct_0 t2
  show u_X (some (xs, L)) 100 276 1254 lv [.inl r2] g2 P
  refine u_0 qL_1254 rfl rfl ?_
  show u_X (some (xs, L)) 100 276 1255 lv [] g2 P
  refine u_1 qL_1255 rfl (pb_goto (pc := 1255) (by decide)) ?_
  show u_X (some (xs, L)) 100 276 1314 lv [] g2 P
  exact hC _ G2 X2 Q2
set_option maxHeartbeats 4000000 in
theorem lo_op33 {xs : Nat → Int32} {L : Nat} (hL : L ≤ 3072) {i : Nat} (hi : i + 6 ≤ L) {lv : List (Nat × pv)} (l0 : px_lg lv 0 = some (pvR 1000)) (l1 : px_lg lv 1 = some (pvR 0)) (l2 : px_lg lv 2 = some (pvR 196)) (l3 : px_lg lv 3 = some (oI (i : Int))) {g : pH} (hG : g_I eG g) (hx : xL g) (hR : R0 g) {P : Option pv × pH → Prop} (hC : ∀ g1 : pH, g_I eG g1 → xL g1 → R0 g1 → u_X (some (xs, L)) 100 276 1314 lv [] g1 P) : u_X (some (xs, L)) 100 276 1258 lv [] g P := by
  refine u_0 qL_1258 rfl (ld_a l1) ?_
  refine u_0 qL_1259 rfl (ld_a l0) ?_
  refine u_0 qL_1260 rfl (ld_i l3) ?_
  refine u_0 qL_1261 rfl rfl ?_
  refine u_0 qL_1262 rfl pu_add ?_
  refine u_0 qL_1263 rfl (pq_sa hL ⟨by omega, by omega⟩) ?_
  refine u_0 qL_1264 rfl (ld_a l0) ?_
  refine u_0 qL_1265 rfl (ld_i l3) ?_
  refine u_0 qL_1266 rfl rfl ?_
  refine u_0 qL_1267 rfl pu_add ?_
  refine u_0 qL_1268 rfl (pq_sa hL ⟨by omega, by omega⟩) ?_
  refine u_3 qL_1269 rfl (ar := ([pvR 0, .inl (xs ((i : Int) + 1).toNat), .inl (xs ((i : Int) + 2).toNat)], [])) (pcal_w (as := [.inl (xs ((i : Int) + 2).toNat), .inl (xs ((i : Int) + 1).toNat)]) rfl rfl rfl el_0) ⟨by decide, Nat.le_of_ble_eq_true rfl, Nat.le_of_ble_eq_true rfl, rfl⟩ (t_mono (pr_check hG hx hR _ _) (fun o ho => ?_))
  obtain ⟨o1, g1⟩ := o
  obtain ⟨v1, e1, t1, H1⟩ := ho
  dsimp only at e1
  subst e1
  obtain ⟨r1, rfl⟩ := ct_0 t1
  show u_X (some (xs, L)) 100 276 1272 lv [.inl r1] g1 P
  refine u_0 qL_1272 rfl rfl ?_
  show u_X (some (xs, L)) 100 276 1273 lv [] g1 P
  refine u_0 qL_1273 rfl (ld_a l2) ?_
  refine u_0 qL_1274 rfl (ld_a l0) ?_
  refine u_0 qL_1275 rfl (ld_i l3) ?_
  refine u_0 qL_1276 rfl rfl ?_
  refine u_0 qL_1277 rfl pu_add ?_
  refine u_0 qL_1278 rfl (pq_sa hL ⟨by omega, by omega⟩) ?_
  refine u_0 qL_1279 rfl (ld_a l0) ?_
  refine u_0 qL_1280 rfl (ld_i l3) ?_
  refine u_0 qL_1281 rfl rfl ?_
  refine u_0 qL_1282 rfl pu_add ?_
  refine u_0 qL_1283 rfl (pq_sa hL ⟨by omega, by omega⟩) ?_
  refine u_3 qL_1284 rfl (ar := ([pvR 196, .inl (xs ((i : Int) + 1).toNat), .inl (xs ((i : Int) + 2).toNat)], [])) (pcal_w (as := [.inl (xs ((i : Int) + 2).toNat), .inl (xs ((i : Int) + 1).toNat)]) rfl rfl rfl el_196) ⟨by decide, Nat.le_of_ble_eq_true rfl, Nat.le_of_ble_eq_true rfl, rfl⟩ (t_mono H1 (fun o ho => ?_))
  obtain ⟨o1, g2⟩ := o
  obtain ⟨v2, e2, t2, G2, X2, Q2, E2⟩ := ho
  dsimp only at e2
  subst e2
  obtain ⟨r2, rfl⟩ := ct_0 t2
  show u_X (some (xs, L)) 100 276 1287 lv [.inl r2] g2 P
  refine u_0 qL_1287 rfl rfl ?_
  show u_X (some (xs, L)) 100 276 1288 lv [] g2 P
  refine u_1 qL_1288 rfl (pb_goto (pc := 1288) (by decide)) ?_
  show u_X (some (xs, L)) 100 276 1314 lv [] g2 P
  exact hC _ G2 X2 Q2
set_option maxHeartbeats 4000000 in
theorem lo_op34 {xs : Nat → Int32} {L : Nat} (hL : L ≤ 3072) {i : Nat} (hi : i + 6 ≤ L) {lv : List (Nat × pv)} (l0 : px_lg lv 0 = some (pvR 1000)) (l1 : px_lg lv 1 = some (pvR 0)) (l2 : px_lg lv 2 = some (pvR 196)) (l3 : px_lg lv 3 = some (oI (i : Int))) {g : pH} (hG : g_I eG g) (hx : xL g) (hR : R0 g) {P : Option pv × pH → Prop} (hC : ∀ g1 : pH, g_I eG g1 → xL g1 → R0 g1 → u_X (some (xs, L)) 100 276 1314 lv [] g1 P) : u_X (some (xs, L)) 100 276 1291 lv [] g P := by
  refine u_0 qL_1291 rfl (ld_a l1) ?_
  refine u_0 qL_1292 rfl (ld_a l0) ?_
  refine u_0 qL_1293 rfl (ld_i l3) ?_
  refine u_0 qL_1294 rfl rfl ?_
  refine u_0 qL_1295 rfl pu_add ?_
  refine u_0 qL_1296 rfl (pq_sa hL ⟨by omega, by omega⟩) ?_
  refine u_3 qL_1297 rfl (ar := ([pvR 0, .inl (xs ((i : Int) + 1).toNat)], [])) (pcal_w (as := [.inl (xs ((i : Int) + 1).toNat)]) rfl rfl rfl el_0) ⟨by decide, Nat.le_of_ble_eq_true rfl, Nat.le_of_ble_eq_true rfl, rfl⟩ (t_mono (pr_count hG hx hR _) (fun o ho => ?_))
  obtain ⟨o1, g1⟩ := o
  obtain ⟨v1, e1, t1, H1⟩ := ho
  dsimp only at e1
  subst e1
  obtain ⟨r1, rfl⟩ := ct_0 t1
  show u_X (some (xs, L)) 100 276 1300 lv [.inl r1] g1 P
  refine u_0 qL_1300 rfl rfl ?_
  show u_X (some (xs, L)) 100 276 1301 lv [] g1 P
  refine u_0 qL_1301 rfl (ld_a l2) ?_
  refine u_0 qL_1302 rfl (ld_a l0) ?_
  refine u_0 qL_1303 rfl (ld_i l3) ?_
  refine u_0 qL_1304 rfl rfl ?_
  refine u_0 qL_1305 rfl pu_add ?_
  refine u_0 qL_1306 rfl (pq_sa hL ⟨by omega, by omega⟩) ?_
  refine u_3 qL_1307 rfl (ar := ([pvR 196, .inl (xs ((i : Int) + 1).toNat)], [])) (pcal_w (as := [.inl (xs ((i : Int) + 1).toNat)]) rfl rfl rfl el_196) ⟨by decide, Nat.le_of_ble_eq_true rfl, Nat.le_of_ble_eq_true rfl, rfl⟩ (t_mono H1 (fun o ho => ?_))
  obtain ⟨o1, g2⟩ := o
  obtain ⟨v2, e2, t2, G2, X2, Q2, E2⟩ := ho
  dsimp only at e2
  subst e2
  obtain ⟨r2, rfl⟩ := ct_0 t2
  show u_X (some (xs, L)) 100 276 1310 lv [.inl r2] g2 P
  refine u_0 qL_1310 rfl rfl ?_
  show u_X (some (xs, L)) 100 276 1311 lv [] g2 P
  refine u_1 qL_1311 rfl (pb_goto (pc := 1311) (by decide)) ?_
  show u_X (some (xs, L)) 100 276 1314 lv [] g2 P
  exact hC _ G2 X2 Q2
set_option maxHeartbeats 8000000 in
theorem lo_all {xs : Nat → Int32} {L : Nat} (hL : L ≤ 3072) {P : Option pv × pH → Prop} (hP : ∀ g : pH, P (some (oI 1), g)) : ∀ (m i : Nat) (g : pH) (lv : List (Nat × pv)), L + 6 - i ≤ m → i ≤ L + 6 → g_I eG g → xL g → R0 g → px_lg lv 0 = some (pvR 1000) → px_lg lv 1 = some (pvR 0) → px_lg lv 2 = some (pvR 196) → px_lg lv 3 = some (oI (i : Int)) → u_X (some (xs, L)) 100 276 18 lv [] g P := by
  intro m
  induction m with
  | zero =>
    intro i g lv hm hi hG hx hR l0 l1 l2 l3
    refine u_0 qL_18 rfl (ld_i l3) ?_
    refine u_0 qL_19 rfl (ld_a l0) ?_
    refine u_0 qL_20 rfl pq_sl ?_
    refine u_0 qL_21 rfl (pu_b (n := 6) (by decide)) ?_
    refine u_0 qL_23 rfl pu_sub ?_
    refine ub_gt qL_24 (by decide) ⟨by omega, by omega⟩ ⟨by omega, by omega⟩ (fun c1 => ?_) (fun c1 => ?_)
    · show u_X (some (xs, L)) 100 276 1320 lv [] g P
      refine u_0 qL_1320 rfl rfl ?_
      refine u_5 qL_1321 rfl rfl ?_
      exact hP g
    · omega
  | succ m ih =>
    intro i g lv hm hi hG hx hR l0 l1 l2 l3
    refine u_0 qL_18 rfl (ld_i l3) ?_
    refine u_0 qL_19 rfl (ld_a l0) ?_
    refine u_0 qL_20 rfl pq_sl ?_
    refine u_0 qL_21 rfl (pu_b (n := 6) (by decide)) ?_
    refine u_0 qL_23 rfl pu_sub ?_
    refine ub_gt qL_24 (by decide) ⟨by omega, by omega⟩ ⟨by omega, by omega⟩ (fun c1 => ?_) (fun c1 => ?_)
    · show u_X (some (xs, L)) 100 276 1320 lv [] g P
      refine u_0 qL_1320 rfl rfl ?_
      refine u_5 qL_1321 rfl rfl ?_
      exact hP g
    have hi6 : i + 6 ≤ L := by omega
    have hC : ∀ g1 : pH, g_I eG g1 → xL g1 → R0 g1 → u_X (some (xs, L)) 100 276 1314 lv [] g1 P := fun g1 G1 X1 Q1 => by
      refine u_2 qL_1314 rfl (w := (px_s1 lv 3 (oI ((i : Int) + 6)), [])) (pq_inc l3 (by decide)) ?_
      refine u_1 qL_1317 rfl (pb_goto (pc := 1317) (by decide)) ?_
      exact ih (i + 6) g1 _ (by omega) (by omega) G1 X1 Q1 (s1_ne (by decide) (fun _ => rfl) l0) (s1_ne (by decide) (fun _ => rfl) l1) (s1_ne (by decide) (fun _ => rfl) l2) s1_eq
    show u_X (some (xs, L)) 100 276 27 lv [] g P
    refine u_0 qL_27 rfl (ld_a l0) ?_
    refine u_0 qL_28 rfl (ld_i l3) ?_
    refine u_0 qL_29 rfl (pq_sa hL ⟨by omega, by omega⟩) ?_
    refine u_0 qL_30 rfl (pu_b (n := 63) (by decide)) ?_
    refine u_0 qL_32 rfl rfl ?_
    have h63 := eo_and_r (x := xs (i : Int).toNat) (y := Int32.ofInt 63) (by decide)
    have e63 : (Int32.ofInt 63).toInt = 63 := by decide
    show u_X (some (xs, L)) 100 276 33 lv [.inl (xs (i : Int).toNat &&& Int32.ofInt 63)] g P
    generalize (xs (i : Int).toNat &&& Int32.ofInt 63) = y at h63 ⊢
    by_cases hy : y.toInt < 0 ∨ 34 < y.toInt
    · refine u_1 qL_33 rfl (t := (1314, [])) ?_ (hC g hG hx hR)
      show (if y.toInt < 0 ∨ 34 < y.toInt then (if 0 ≤ ((33 : Nat) : Int) + 1281 then some (px_tg 33 1281, []) else none) else _) = _
      rw [if_pos hy]
      rfl
    · obtain ⟨k, hk⟩ : ∃ k : Nat, y.toInt = k := ⟨y.toInt.toNat, by omega⟩
      have hk2 : k ≤ 34 := by omega
      obtain rfl : y = Int32.ofInt (k : Int) := Int32.toInt_inj.mp (by rw [hk, oT (by omega) (by omega)])
      clear hy hk h63
      match k, hk2 with
      | 0, _ => exact u_1 qL_33 rfl (t := (188, [])) rfl (lo_op0 hL hi6 l0 l1 l2 l3 hG hx hR hC)
      | 1, _ => exact u_1 qL_33 rfl (t := (251, [])) rfl (lo_op1 hL hi6 l0 l1 l2 l3 hG hx hR hC)
      | 2, _ => exact u_1 qL_33 rfl (t := (304, [])) rfl (lo_op2 hL hi6 l0 l1 l2 l3 hG hx hR hC)
      | 3, _ => exact u_1 qL_33 rfl (t := (337, [])) rfl (lo_op3 hL hi6 l0 l1 l2 l3 hG hx hR hC)
      | 4, _ => exact u_1 qL_33 rfl (t := (370, [])) rfl (lo_op4 hL hi6 l0 l1 l2 l3 hG hx hR hC)
      | 5, _ => exact u_1 qL_33 rfl (t := (393, [])) rfl (lo_op5 hL hi6 l0 l1 l2 l3 hG hx hR hC)
      | 6, _ => exact u_1 qL_33 rfl (t := (436, [])) rfl (lo_op6 hL hi6 l0 l1 l2 l3 hG hx hR hC)
      | 7, _ => exact u_1 qL_33 rfl (t := (459, [])) rfl (lo_op7 hL hi6 l0 l1 l2 l3 hG hx hR hC)
      | 8, _ => exact u_1 qL_33 rfl (t := (482, [])) rfl (lo_op8 hL hi6 l0 l1 l2 l3 hG hx hR hC)
      | 9, _ => exact u_1 qL_33 rfl (t := (505, [])) rfl (lo_op9 hL hi6 l0 l1 l2 l3 hG hx hR hC)
      | 10, _ => exact u_1 qL_33 rfl (t := (548, [])) rfl (lo_op10 hL hi6 l0 l1 l2 l3 hG hx hR hC)
      | 11, _ => exact u_1 qL_33 rfl (t := (591, [])) rfl (lo_op11 hL hi6 l0 l1 l2 l3 hG hx hR hC)
      | 12, _ => exact u_1 qL_33 rfl (t := (624, [])) rfl (lo_op12 hL hi6 l0 l1 l2 l3 hG hx hR hC)
      | 13, _ => exact u_1 qL_33 rfl (t := (647, [])) rfl (lo_op13 hL hi6 l0 l1 l2 l3 hG hx hR hC)
      | 14, _ => exact u_1 qL_33 rfl (t := (660, [])) rfl (lo_op14 hL hi6 l0 l1 l2 l3 hG hx hR hC)
      | 15, _ => exact u_1 qL_33 rfl (t := (683, [])) rfl (lo_op15 hL hi6 l0 l1 l2 l3 hG hx hR hC)
      | 16, _ => exact u_1 qL_33 rfl (t := (736, [])) rfl (lo_op16 hL hi6 l0 l1 l2 l3 hG hx hR hC)
      | 17, _ => exact u_1 qL_33 rfl (t := (769, [])) rfl (lo_op17 hL hi6 l0 l1 l2 l3 hG hx hR hC)
      | 18, _ => exact u_1 qL_33 rfl (t := (802, [])) rfl (lo_op18 hL hi6 l0 l1 l2 l3 hG hx hR hC)
      | 19, _ => exact u_1 qL_33 rfl (t := (835, [])) rfl (lo_op19 hL hi6 l0 l1 l2 l3 hG hx hR hC)
      | 20, _ => exact u_1 qL_33 rfl (t := (868, [])) rfl (lo_op20 hL hi6 l0 l1 l2 l3 hG hx hR hC)
      | 21, _ => exact u_1 qL_33 rfl (t := (901, [])) rfl (lo_op21 hL hi6 l0 l1 l2 l3 hG hx hR hC)
      | 22, _ => exact u_1 qL_33 rfl (t := (934, [])) rfl (lo_op22 hL hi6 l0 l1 l2 l3 hG hx hR hC)
      | 23, _ => exact u_1 qL_33 rfl (t := (967, [])) rfl (lo_op23 hL hi6 l0 l1 l2 l3 hG hx hR hC)
      | 24, _ => exact u_1 qL_33 rfl (t := (1020, [])) rfl (lo_op24 hL hi6 l0 l1 l2 l3 hG hx hR hC)
      | 25, _ => exact u_1 qL_33 rfl (t := (1063, [])) rfl (lo_op25 hL hi6 l0 l1 l2 l3 hG hx hR hC)
      | 26, _ => exact u_1 qL_33 rfl (t := (1096, [])) rfl (lo_op26 hL hi6 l0 l1 l2 l3 hG hx hR hC)
      | 27, _ => exact u_1 qL_33 rfl (t := (1129, [])) rfl (lo_op27 hL hi6 l0 l1 l2 l3 hG hx hR hC)
      | 28, _ => exact u_1 qL_33 rfl (t := (1173, [])) rfl (lo_op28 hL hi6 l0 l1 l2 l3 hG hx hR hC)
      | 29, _ => exact u_1 qL_33 rfl (t := (1196, [])) rfl (lo_op29 hL hi6 l0 l1 l2 l3 hG hx hR hC)
      | 30, _ => exact u_1 qL_33 rfl (t := (1209, [])) rfl (lo_op30 hL hi6 l0 l1 l2 l3 hG hx hR hC)
      | 31, _ => exact u_1 qL_33 rfl (t := (1232, [])) rfl (lo_op31 hL hi6 l0 l1 l2 l3 hG hx hR hC)
      | 32, _ => exact u_1 qL_33 rfl (t := (1245, [])) rfl (lo_op32 hL hi6 l0 l1 l2 l3 hG hx hR hC)
      | 33, _ => exact u_1 qL_33 rfl (t := (1258, [])) rfl (lo_op33 hL hi6 l0 l1 l2 l3 hG hx hR hC)
      | 34, _ => exact u_1 qL_33 rfl (t := (1291, [])) rfl (lo_op34 hL hi6 l0 l1 l2 l3 hG hx hR hC)
      | n + 35, h => exact absurd h (by omega)
