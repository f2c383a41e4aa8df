theorem d_Law_0 : decode code 0 = .ok (.new 7, 3) := by decide +kernel
theorem d_Law_3 : decode code 3 = .ok (.dup, 1) := by decide +kernel
theorem d_Law_4 : decode code 4 = .ok (.aload_n 0, 1) := by decide +kernel
theorem d_Law_5 : decode code 5 = .ok (.iconst 0, 1) := by decide +kernel
theorem d_Law_6 : decode code 6 = .ok (.invokestatic 9, 3) := by decide +kernel
theorem d_Law_9 : decode code 9 = .ok (.invokespecial 15, 3) := by decide +kernel
theorem d_Law_12 : decode code 12 = .ok (.astore_n 1, 1) := by decide +kernel
theorem d_Law_13 : decode code 13 = .ok (.new 18, 3) := by decide +kernel
theorem d_Law_16 : decode code 16 = .ok (.dup, 1) := by decide +kernel
theorem d_Law_17 : decode code 17 = .ok (.aload_n 0, 1) := by decide +kernel
theorem d_Law_18 : decode code 18 = .ok (.iconst 0, 1) := by decide +kernel
theorem d_Law_19 : decode code 19 = .ok (.invokestatic 9, 3) := by decide +kernel
theorem d_Law_22 : decode code 22 = .ok (.invokespecial 20, 3) := by decide +kernel
theorem d_Law_25 : decode code 25 = .ok (.astore_n 2, 1) := by decide +kernel
theorem d_Law_26 : decode code 26 = .ok (.iconst 1, 1) := by decide +kernel
theorem d_Law_27 : decode code 27 = .ok (.istore_n 3, 1) := by decide +kernel
theorem d_Law_28 : decode code 28 = .ok (.iload_n 3, 1) := by decide +kernel
theorem d_Law_29 : decode code 29 = .ok (.aload_n 0, 1) := by decide +kernel
theorem d_Law_30 : decode code 30 = .ok (.arraylength, 1) := by decide +kernel
theorem d_Law_31 : decode code 31 = .ok (.iconst 5, 1) := by decide +kernel
theorem d_Law_32 : decode code 32 = .ok (.isub, 1) := by decide +kernel
theorem d_Law_33 : decode code 33 = .ok (.if_icmp .gt 639, 3) := by decide +kernel
theorem d_Law_36 : decode code 36 = .ok (.aload_n 0, 1) := by decide +kernel
theorem d_Law_37 : decode code 37 = .ok (.iload_n 3, 1) := by decide +kernel
theorem d_Law_38 : decode code 38 = .ok (.iaload, 1) := by decide +kernel
theorem d_Law_39 : decode code 39 = .ok (.bipush 31, 2) := by decide +kernel
theorem d_Law_41 : decode code 41 = .ok (.iand, 1) := by decide +kernel
theorem d_Law_42 : decode code 42 = .ok (.tableswitch 624 0 17 #[86, 129, 172, 195, 218, 251, 294, 327, 380, 413, 436, 470, 494, 517, 530, 554, 578, 601], 86) := by decide +kernel
theorem d_Law_128 : decode code 128 = .ok (.aload_n 1, 1) := by decide +kernel
theorem d_Law_129 : decode code 129 = .ok (.aload_n 0, 1) := by decide +kernel
theorem d_Law_130 : decode code 130 = .ok (.iload_n 3, 1) := by decide +kernel
theorem d_Law_131 : decode code 131 = .ok (.iconst 1, 1) := by decide +kernel
theorem d_Law_132 : decode code 132 = .ok (.iadd, 1) := by decide +kernel
theorem d_Law_133 : decode code 133 = .ok (.iaload, 1) := by decide +kernel
theorem d_Law_134 : decode code 134 = .ok (.aload_n 0, 1) := by decide +kernel
theorem d_Law_135 : decode code 135 = .ok (.iload_n 3, 1) := by decide +kernel
theorem d_Law_136 : decode code 136 = .ok (.iconst 2, 1) := by decide +kernel
theorem d_Law_137 : decode code 137 = .ok (.iadd, 1) := by decide +kernel
theorem d_Law_138 : decode code 138 = .ok (.iaload, 1) := by decide +kernel
theorem d_Law_139 : decode code 139 = .ok (.aload_n 0, 1) := by decide +kernel
theorem d_Law_140 : decode code 140 = .ok (.iload_n 3, 1) := by decide +kernel
theorem d_Law_141 : decode code 141 = .ok (.iconst 3, 1) := by decide +kernel
theorem d_Law_142 : decode code 142 = .ok (.iadd, 1) := by decide +kernel
theorem d_Law_143 : decode code 143 = .ok (.iaload, 1) := by decide +kernel
theorem d_Law_144 : decode code 144 = .ok (.invokevirtual 21, 3) := by decide +kernel
theorem d_Law_147 : decode code 147 = .ok (.aload_n 2, 1) := by decide +kernel
theorem d_Law_148 : decode code 148 = .ok (.aload_n 0, 1) := by decide +kernel
theorem d_Law_149 : decode code 149 = .ok (.iload_n 3, 1) := by decide +kernel
theorem d_Law_150 : decode code 150 = .ok (.iconst 1, 1) := by decide +kernel
theorem d_Law_151 : decode code 151 = .ok (.iadd, 1) := by decide +kernel
theorem d_Law_152 : decode code 152 = .ok (.iaload, 1) := by decide +kernel
theorem d_Law_153 : decode code 153 = .ok (.aload_n 0, 1) := by decide +kernel
theorem d_Law_154 : decode code 154 = .ok (.iload_n 3, 1) := by decide +kernel
theorem d_Law_155 : decode code 155 = .ok (.iconst 2, 1) := by decide +kernel
theorem d_Law_156 : decode code 156 = .ok (.iadd, 1) := by decide +kernel
theorem d_Law_157 : decode code 157 = .ok (.iaload, 1) := by decide +kernel
theorem d_Law_158 : decode code 158 = .ok (.aload_n 0, 1) := by decide +kernel
theorem d_Law_159 : decode code 159 = .ok (.iload_n 3, 1) := by decide +kernel
theorem d_Law_160 : decode code 160 = .ok (.iconst 3, 1) := by decide +kernel
theorem d_Law_161 : decode code 161 = .ok (.iadd, 1) := by decide +kernel
theorem d_Law_162 : decode code 162 = .ok (.iaload, 1) := by decide +kernel
theorem d_Law_163 : decode code 163 = .ok (.invokevirtual 25, 3) := by decide +kernel
theorem d_Law_166 : decode code 166 = .ok (.if_icmp .eq 500, 3) := by decide +kernel
theorem d_Law_169 : decode code 169 = .ok (.iconst 0, 1) := by decide +kernel
theorem d_Law_170 : decode code 170 = .ok (.ireturn, 1) := by decide +kernel
theorem d_Law_171 : decode code 171 = .ok (.aload_n 1, 1) := by decide +kernel
theorem d_Law_172 : decode code 172 = .ok (.aload_n 0, 1) := by decide +kernel
theorem d_Law_173 : decode code 173 = .ok (.iload_n 3, 1) := by decide +kernel
theorem d_Law_174 : decode code 174 = .ok (.iconst 1, 1) := by decide +kernel
theorem d_Law_175 : decode code 175 = .ok (.iadd, 1) := by decide +kernel
theorem d_Law_176 : decode code 176 = .ok (.iaload, 1) := by decide +kernel
theorem d_Law_177 : decode code 177 = .ok (.aload_n 0, 1) := by decide +kernel
theorem d_Law_178 : decode code 178 = .ok (.iload_n 3, 1) := by decide +kernel
theorem d_Law_179 : decode code 179 = .ok (.iconst 2, 1) := by decide +kernel
theorem d_Law_180 : decode code 180 = .ok (.iadd, 1) := by decide +kernel
theorem d_Law_181 : decode code 181 = .ok (.iaload, 1) := by decide +kernel
theorem d_Law_182 : decode code 182 = .ok (.aload_n 0, 1) := by decide +kernel
theorem d_Law_183 : decode code 183 = .ok (.iload_n 3, 1) := by decide +kernel
theorem d_Law_184 : decode code 184 = .ok (.iconst 3, 1) := by decide +kernel
theorem d_Law_185 : decode code 185 = .ok (.iadd, 1) := by decide +kernel
theorem d_Law_186 : decode code 186 = .ok (.iaload, 1) := by decide +kernel
theorem d_Law_187 : decode code 187 = .ok (.invokevirtual 26, 3) := by decide +kernel
theorem d_Law_190 : decode code 190 = .ok (.aload_n 2, 1) := by decide +kernel
theorem d_Law_191 : decode code 191 = .ok (.aload_n 0, 1) := by decide +kernel
theorem d_Law_192 : decode code 192 = .ok (.iload_n 3, 1) := by decide +kernel
theorem d_Law_193 : decode code 193 = .ok (.iconst 1, 1) := by decide +kernel
theorem d_Law_194 : decode code 194 = .ok (.iadd, 1) := by decide +kernel
theorem d_Law_195 : decode code 195 = .ok (.iaload, 1) := by decide +kernel
theorem d_Law_196 : decode code 196 = .ok (.aload_n 0, 1) := by decide +kernel
theorem d_Law_197 : decode code 197 = .ok (.iload_n 3, 1) := by decide +kernel
theorem d_Law_198 : decode code 198 = .ok (.iconst 2, 1) := by decide +kernel
theorem d_Law_199 : decode code 199 = .ok (.iadd, 1) := by decide +kernel
theorem d_Law_200 : decode code 200 = .ok (.iaload, 1) := by decide +kernel
theorem d_Law_201 : decode code 201 = .ok (.aload_n 0, 1) := by decide +kernel
theorem d_Law_202 : decode code 202 = .ok (.iload_n 3, 1) := by decide +kernel
theorem d_Law_203 : decode code 203 = .ok (.iconst 3, 1) := by decide +kernel
theorem d_Law_204 : decode code 204 = .ok (.iadd, 1) := by decide +kernel
theorem d_Law_205 : decode code 205 = .ok (.iaload, 1) := by decide +kernel
theorem d_Law_206 : decode code 206 = .ok (.invokevirtual 29, 3) := by decide +kernel
theorem d_Law_209 : decode code 209 = .ok (.if_icmp .eq 457, 3) := by decide +kernel
theorem d_Law_212 : decode code 212 = .ok (.iconst 0, 1) := by decide +kernel
theorem d_Law_213 : decode code 213 = .ok (.ireturn, 1) := by decide +kernel
theorem d_Law_214 : decode code 214 = .ok (.aload_n 1, 1) := by decide +kernel
theorem d_Law_215 : decode code 215 = .ok (.aload_n 0, 1) := by decide +kernel
theorem d_Law_216 : decode code 216 = .ok (.iload_n 3, 1) := by decide +kernel
theorem d_Law_217 : decode code 217 = .ok (.iconst 1, 1) := by decide +kernel
theorem d_Law_218 : decode code 218 = .ok (.iadd, 1) := by decide +kernel
theorem d_Law_219 : decode code 219 = .ok (.iaload, 1) := by decide +kernel
theorem d_Law_220 : decode code 220 = .ok (.invokevirtual 30, 3) := by decide +kernel
theorem d_Law_223 : decode code 223 = .ok (.aload_n 2, 1) := by decide +kernel
theorem d_Law_224 : decode code 224 = .ok (.aload_n 0, 1) := by decide +kernel
theorem d_Law_225 : decode code 225 = .ok (.iload_n 3, 1) := by decide +kernel
theorem d_Law_226 : decode code 226 = .ok (.iconst 1, 1) := by decide +kernel
theorem d_Law_227 : decode code 227 = .ok (.iadd, 1) := by decide +kernel
theorem d_Law_228 : decode code 228 = .ok (.iaload, 1) := by decide +kernel
theorem d_Law_229 : decode code 229 = .ok (.invokevirtual 34, 3) := by decide +kernel
theorem d_Law_232 : decode code 232 = .ok (.if_icmp .eq 434, 3) := by decide +kernel
theorem d_Law_235 : decode code 235 = .ok (.iconst 0, 1) := by decide +kernel
theorem d_Law_236 : decode code 236 = .ok (.ireturn, 1) := by decide +kernel
theorem d_Law_237 : decode code 237 = .ok (.aload_n 1, 1) := by decide +kernel
theorem d_Law_238 : decode code 238 = .ok (.aload_n 0, 1) := by decide +kernel
theorem d_Law_239 : decode code 239 = .ok (.iload_n 3, 1) := by decide +kernel
theorem d_Law_240 : decode code 240 = .ok (.iconst 1, 1) := by decide +kernel
theorem d_Law_241 : decode code 241 = .ok (.iadd, 1) := by decide +kernel
theorem d_Law_242 : decode code 242 = .ok (.iaload, 1) := by decide +kernel
theorem d_Law_243 : decode code 243 = .ok (.invokevirtual 35, 3) := by decide +kernel
theorem d_Law_246 : decode code 246 = .ok (.aload_n 2, 1) := by decide +kernel
theorem d_Law_247 : decode code 247 = .ok (.aload_n 0, 1) := by decide +kernel
theorem d_Law_248 : decode code 248 = .ok (.iload_n 3, 1) := by decide +kernel
theorem d_Law_249 : decode code 249 = .ok (.iconst 1, 1) := by decide +kernel
theorem d_Law_250 : decode code 250 = .ok (.iadd, 1) := by decide +kernel
theorem d_Law_251 : decode code 251 = .ok (.iaload, 1) := by decide +kernel
theorem d_Law_252 : decode code 252 = .ok (.invokevirtual 39, 3) := by decide +kernel
theorem d_Law_255 : decode code 255 = .ok (.if_icmp .eq 411, 3) := by decide +kernel
theorem d_Law_258 : decode code 258 = .ok (.iconst 0, 1) := by decide +kernel
theorem d_Law_259 : decode code 259 = .ok (.ireturn, 1) := by decide +kernel
theorem d_Law_260 : decode code 260 = .ok (.aload_n 1, 1) := by decide +kernel
theorem d_Law_261 : decode code 261 = .ok (.aload_n 0, 1) := by decide +kernel
theorem d_Law_262 : decode code 262 = .ok (.iload_n 3, 1) := by decide +kernel
theorem d_Law_263 : decode code 263 = .ok (.iconst 1, 1) := by decide +kernel
theorem d_Law_264 : decode code 264 = .ok (.iadd, 1) := by decide +kernel
theorem d_Law_265 : decode code 265 = .ok (.iaload, 1) := by decide +kernel
theorem d_Law_266 : decode code 266 = .ok (.aload_n 0, 1) := by decide +kernel
theorem d_Law_267 : decode code 267 = .ok (.iload_n 3, 1) := by decide +kernel
theorem d_Law_268 : decode code 268 = .ok (.iconst 2, 1) := by decide +kernel
theorem d_Law_269 : decode code 269 = .ok (.iadd, 1) := by decide +kernel
theorem d_Law_270 : decode code 270 = .ok (.iaload, 1) := by decide +kernel
theorem d_Law_271 : decode code 271 = .ok (.invokevirtual 40, 3) := by decide +kernel
theorem d_Law_274 : decode code 274 = .ok (.aload_n 2, 1) := by decide +kernel
theorem d_Law_275 : decode code 275 = .ok (.aload_n 0, 1) := by decide +kernel
theorem d_Law_276 : decode code 276 = .ok (.iload_n 3, 1) := by decide +kernel
theorem d_Law_277 : decode code 277 = .ok (.iconst 1, 1) := by decide +kernel
theorem d_Law_278 : decode code 278 = .ok (.iadd, 1) := by decide +kernel
theorem d_Law_279 : decode code 279 = .ok (.iaload, 1) := by decide +kernel
theorem d_Law_280 : decode code 280 = .ok (.aload_n 0, 1) := by decide +kernel
theorem d_Law_281 : decode code 281 = .ok (.iload_n 3, 1) := by decide +kernel
theorem d_Law_282 : decode code 282 = .ok (.iconst 2, 1) := by decide +kernel
theorem d_Law_283 : decode code 283 = .ok (.iadd, 1) := by decide +kernel
theorem d_Law_284 : decode code 284 = .ok (.iaload, 1) := by decide +kernel
theorem d_Law_285 : decode code 285 = .ok (.invokevirtual 44, 3) := by decide +kernel
theorem d_Law_288 : decode code 288 = .ok (.if_icmp .eq 378, 3) := by decide +kernel
theorem d_Law_291 : decode code 291 = .ok (.iconst 0, 1) := by decide +kernel
theorem d_Law_292 : decode code 292 = .ok (.ireturn, 1) := by decide +kernel
theorem d_Law_293 : decode code 293 = .ok (.aload_n 1, 1) := by decide +kernel
theorem d_Law_294 : decode code 294 = .ok (.aload_n 0, 1) := by decide +kernel
theorem d_Law_295 : decode code 295 = .ok (.iload_n 3, 1) := by decide +kernel
theorem d_Law_296 : decode code 296 = .ok (.iconst 1, 1) := by decide +kernel
theorem d_Law_297 : decode code 297 = .ok (.iadd, 1) := by decide +kernel
theorem d_Law_298 : decode code 298 = .ok (.iaload, 1) := by decide +kernel
theorem d_Law_299 : decode code 299 = .ok (.aload_n 0, 1) := by decide +kernel
theorem d_Law_300 : decode code 300 = .ok (.iload_n 3, 1) := by decide +kernel
theorem d_Law_301 : decode code 301 = .ok (.iconst 2, 1) := by decide +kernel
theorem d_Law_302 : decode code 302 = .ok (.iadd, 1) := by decide +kernel
theorem d_Law_303 : decode code 303 = .ok (.iaload, 1) := by decide +kernel
theorem d_Law_304 : decode code 304 = .ok (.aload_n 0, 1) := by decide +kernel
theorem d_Law_305 : decode code 305 = .ok (.iload_n 3, 1) := by decide +kernel
theorem d_Law_306 : decode code 306 = .ok (.iconst 3, 1) := by decide +kernel
theorem d_Law_307 : decode code 307 = .ok (.iadd, 1) := by decide +kernel
theorem d_Law_308 : decode code 308 = .ok (.iaload, 1) := by decide +kernel
theorem d_Law_309 : decode code 309 = .ok (.invokevirtual 45, 3) := by decide +kernel
theorem d_Law_312 : decode code 312 = .ok (.aload_n 2, 1) := by decide +kernel
theorem d_Law_313 : decode code 313 = .ok (.aload_n 0, 1) := by decide +kernel
theorem d_Law_314 : decode code 314 = .ok (.iload_n 3, 1) := by decide +kernel
theorem d_Law_315 : decode code 315 = .ok (.iconst 1, 1) := by decide +kernel
theorem d_Law_316 : decode code 316 = .ok (.iadd, 1) := by decide +kernel
theorem d_Law_317 : decode code 317 = .ok (.iaload, 1) := by decide +kernel
theorem d_Law_318 : decode code 318 = .ok (.aload_n 0, 1) := by decide +kernel
theorem d_Law_319 : decode code 319 = .ok (.iload_n 3, 1) := by decide +kernel
theorem d_Law_320 : decode code 320 = .ok (.iconst 2, 1) := by decide +kernel
theorem d_Law_321 : decode code 321 = .ok (.iadd, 1) := by decide +kernel
theorem d_Law_322 : decode code 322 = .ok (.iaload, 1) := by decide +kernel
theorem d_Law_323 : decode code 323 = .ok (.aload_n 0, 1) := by decide +kernel
theorem d_Law_324 : decode code 324 = .ok (.iload_n 3, 1) := by decide +kernel
theorem d_Law_325 : decode code 325 = .ok (.iconst 3, 1) := by decide +kernel
theorem d_Law_326 : decode code 326 = .ok (.iadd, 1) := by decide +kernel
theorem d_Law_327 : decode code 327 = .ok (.iaload, 1) := by decide +kernel
theorem d_Law_328 : decode code 328 = .ok (.invokevirtual 48, 3) := by decide +kernel
theorem d_Law_331 : decode code 331 = .ok (.if_icmp .eq 335, 3) := by decide +kernel
theorem d_Law_334 : decode code 334 = .ok (.iconst 0, 1) := by decide +kernel
theorem d_Law_335 : decode code 335 = .ok (.ireturn, 1) := by decide +kernel
theorem d_Law_336 : decode code 336 = .ok (.aload_n 1, 1) := by decide +kernel
theorem d_Law_337 : decode code 337 = .ok (.aload_n 0, 1) := by decide +kernel
theorem d_Law_338 : decode code 338 = .ok (.iload_n 3, 1) := by decide +kernel
theorem d_Law_339 : decode code 339 = .ok (.iconst 1, 1) := by decide +kernel
theorem d_Law_340 : decode code 340 = .ok (.iadd, 1) := by decide +kernel
theorem d_Law_341 : decode code 341 = .ok (.iaload, 1) := by decide +kernel
theorem d_Law_342 : decode code 342 = .ok (.aload_n 0, 1) := by decide +kernel
theorem d_Law_343 : decode code 343 = .ok (.iload_n 3, 1) := by decide +kernel
theorem d_Law_344 : decode code 344 = .ok (.iconst 2, 1) := by decide +kernel
theorem d_Law_345 : decode code 345 = .ok (.iadd, 1) := by decide +kernel
theorem d_Law_346 : decode code 346 = .ok (.iaload, 1) := by decide +kernel
theorem d_Law_347 : decode code 347 = .ok (.invokevirtual 49, 3) := by decide +kernel
theorem d_Law_350 : decode code 350 = .ok (.aload_n 2, 1) := by decide +kernel
theorem d_Law_351 : decode code 351 = .ok (.aload_n 0, 1) := by decide +kernel
theorem d_Law_352 : decode code 352 = .ok (.iload_n 3, 1) := by decide +kernel
theorem d_Law_353 : decode code 353 = .ok (.iconst 1, 1) := by decide +kernel
theorem d_Law_354 : decode code 354 = .ok (.iadd, 1) := by decide +kernel
theorem d_Law_355 : decode code 355 = .ok (.iaload, 1) := by decide +kernel
theorem d_Law_356 : decode code 356 = .ok (.aload_n 0, 1) := by decide +kernel
theorem d_Law_357 : decode code 357 = .ok (.iload_n 3, 1) := by decide +kernel
theorem d_Law_358 : decode code 358 = .ok (.iconst 2, 1) := by decide +kernel
theorem d_Law_359 : decode code 359 = .ok (.iadd, 1) := by decide +kernel
theorem d_Law_360 : decode code 360 = .ok (.iaload, 1) := by decide +kernel
theorem d_Law_361 : decode code 361 = .ok (.invokevirtual 53, 3) := by decide +kernel
theorem d_Law_364 : decode code 364 = .ok (.if_icmp .eq 302, 3) := by decide +kernel
theorem d_Law_367 : decode code 367 = .ok (.iconst 0, 1) := by decide +kernel
theorem d_Law_368 : decode code 368 = .ok (.ireturn, 1) := by decide +kernel
theorem d_Law_369 : decode code 369 = .ok (.aload_n 1, 1) := by decide +kernel
theorem d_Law_370 : decode code 370 = .ok (.aload_n 0, 1) := by decide +kernel
theorem d_Law_371 : decode code 371 = .ok (.iload_n 3, 1) := by decide +kernel
theorem d_Law_372 : decode code 372 = .ok (.iconst 1, 1) := by decide +kernel
theorem d_Law_373 : decode code 373 = .ok (.iadd, 1) := by decide +kernel
theorem d_Law_374 : decode code 374 = .ok (.iaload, 1) := by decide +kernel
theorem d_Law_375 : decode code 375 = .ok (.aload_n 0, 1) := by decide +kernel
theorem d_Law_376 : decode code 376 = .ok (.iload_n 3, 1) := by decide +kernel
theorem d_Law_377 : decode code 377 = .ok (.iconst 2, 1) := by decide +kernel
theorem d_Law_378 : decode code 378 = .ok (.iadd, 1) := by decide +kernel
theorem d_Law_379 : decode code 379 = .ok (.iaload, 1) := by decide +kernel
theorem d_Law_380 : decode code 380 = .ok (.aload_n 0, 1) := by decide +kernel
theorem d_Law_381 : decode code 381 = .ok (.iload_n 3, 1) := by decide +kernel
theorem d_Law_382 : decode code 382 = .ok (.iconst 3, 1) := by decide +kernel
theorem d_Law_383 : decode code 383 = .ok (.iadd, 1) := by decide +kernel
theorem d_Law_384 : decode code 384 = .ok (.iaload, 1) := by decide +kernel
theorem d_Law_385 : decode code 385 = .ok (.aload_n 0, 1) := by decide +kernel
theorem d_Law_386 : decode code 386 = .ok (.iload_n 3, 1) := by decide +kernel
theorem d_Law_387 : decode code 387 = .ok (.iconst 4, 1) := by decide +kernel
theorem d_Law_388 : decode code 388 = .ok (.iadd, 1) := by decide +kernel
theorem d_Law_389 : decode code 389 = .ok (.iaload, 1) := by decide +kernel
theorem d_Law_390 : decode code 390 = .ok (.invokevirtual 54, 3) := by decide +kernel
theorem d_Law_393 : decode code 393 = .ok (.aload_n 2, 1) := by decide +kernel
theorem d_Law_394 : decode code 394 = .ok (.aload_n 0, 1) := by decide +kernel
theorem d_Law_395 : decode code 395 = .ok (.iload_n 3, 1) := by decide +kernel
theorem d_Law_396 : decode code 396 = .ok (.iconst 1, 1) := by decide +kernel
theorem d_Law_397 : decode code 397 = .ok (.iadd, 1) := by decide +kernel
theorem d_Law_398 : decode code 398 = .ok (.iaload, 1) := by decide +kernel
theorem d_Law_399 : decode code 399 = .ok (.aload_n 0, 1) := by decide +kernel
theorem d_Law_400 : decode code 400 = .ok (.iload_n 3, 1) := by decide +kernel
theorem d_Law_401 : decode code 401 = .ok (.iconst 2, 1) := by decide +kernel
theorem d_Law_402 : decode code 402 = .ok (.iadd, 1) := by decide +kernel
theorem d_Law_403 : decode code 403 = .ok (.iaload, 1) := by decide +kernel
theorem d_Law_404 : decode code 404 = .ok (.aload_n 0, 1) := by decide +kernel
theorem d_Law_405 : decode code 405 = .ok (.iload_n 3, 1) := by decide +kernel
theorem d_Law_406 : decode code 406 = .ok (.iconst 3, 1) := by decide +kernel
theorem d_Law_407 : decode code 407 = .ok (.iadd, 1) := by decide +kernel
theorem d_Law_408 : decode code 408 = .ok (.iaload, 1) := by decide +kernel
theorem d_Law_409 : decode code 409 = .ok (.aload_n 0, 1) := by decide +kernel
theorem d_Law_410 : decode code 410 = .ok (.iload_n 3, 1) := by decide +kernel
theorem d_Law_411 : decode code 411 = .ok (.iconst 4, 1) := by decide +kernel
theorem d_Law_412 : decode code 412 = .ok (.iadd, 1) := by decide +kernel
theorem d_Law_413 : decode code 413 = .ok (.iaload, 1) := by decide +kernel
theorem d_Law_414 : decode code 414 = .ok (.invokevirtual 58, 3) := by decide +kernel
theorem d_Law_417 : decode code 417 = .ok (.if_icmp .eq 249, 3) := by decide +kernel
theorem d_Law_420 : decode code 420 = .ok (.iconst 0, 1) := by decide +kernel
theorem d_Law_421 : decode code 421 = .ok (.ireturn, 1) := by decide +kernel
theorem d_Law_422 : decode code 422 = .ok (.aload_n 1, 1) := by decide +kernel
theorem d_Law_423 : decode code 423 = .ok (.aload_n 0, 1) := by decide +kernel
theorem d_Law_424 : decode code 424 = .ok (.iload_n 3, 1) := by decide +kernel
theorem d_Law_425 : decode code 425 = .ok (.iconst 1, 1) := by decide +kernel
theorem d_Law_426 : decode code 426 = .ok (.iadd, 1) := by decide +kernel
theorem d_Law_427 : decode code 427 = .ok (.iaload, 1) := by decide +kernel
theorem d_Law_428 : decode code 428 = .ok (.aload_n 0, 1) := by decide +kernel
theorem d_Law_429 : decode code 429 = .ok (.iload_n 3, 1) := by decide +kernel
theorem d_Law_430 : decode code 430 = .ok (.iconst 2, 1) := by decide +kernel
theorem d_Law_431 : decode code 431 = .ok (.iadd, 1) := by decide +kernel
theorem d_Law_432 : decode code 432 = .ok (.iaload, 1) := by decide +kernel
theorem d_Law_433 : decode code 433 = .ok (.invokevirtual 59, 3) := by decide +kernel
theorem d_Law_436 : decode code 436 = .ok (.aload_n 2, 1) := by decide +kernel
theorem d_Law_437 : decode code 437 = .ok (.aload_n 0, 1) := by decide +kernel
theorem d_Law_438 : decode code 438 = .ok (.iload_n 3, 1) := by decide +kernel
theorem d_Law_439 : decode code 439 = .ok (.iconst 1, 1) := by decide +kernel
theorem d_Law_440 : decode code 440 = .ok (.iadd, 1) := by decide +kernel
theorem d_Law_441 : decode code 441 = .ok (.iaload, 1) := by decide +kernel
theorem d_Law_442 : decode code 442 = .ok (.aload_n 0, 1) := by decide +kernel
theorem d_Law_443 : decode code 443 = .ok (.iload_n 3, 1) := by decide +kernel
theorem d_Law_444 : decode code 444 = .ok (.iconst 2, 1) := by decide +kernel
theorem d_Law_445 : decode code 445 = .ok (.iadd, 1) := by decide +kernel
theorem d_Law_446 : decode code 446 = .ok (.iaload, 1) := by decide +kernel
theorem d_Law_447 : decode code 447 = .ok (.invokevirtual 62, 3) := by decide +kernel
theorem d_Law_450 : decode code 450 = .ok (.if_icmp .eq 216, 3) := by decide +kernel
theorem d_Law_453 : decode code 453 = .ok (.iconst 0, 1) := by decide +kernel
theorem d_Law_454 : decode code 454 = .ok (.ireturn, 1) := by decide +kernel
theorem d_Law_455 : decode code 455 = .ok (.aload_n 1, 1) := by decide +kernel
theorem d_Law_456 : decode code 456 = .ok (.aload_n 0, 1) := by decide +kernel
theorem d_Law_457 : decode code 457 = .ok (.iload_n 3, 1) := by decide +kernel
theorem d_Law_458 : decode code 458 = .ok (.iconst 1, 1) := by decide +kernel
theorem d_Law_459 : decode code 459 = .ok (.iadd, 1) := by decide +kernel
theorem d_Law_460 : decode code 460 = .ok (.iaload, 1) := by decide +kernel
theorem d_Law_461 : decode code 461 = .ok (.invokevirtual 63, 3) := by decide +kernel
theorem d_Law_464 : decode code 464 = .ok (.aload_n 2, 1) := by decide +kernel
theorem d_Law_465 : decode code 465 = .ok (.aload_n 0, 1) := by decide +kernel
theorem d_Law_466 : decode code 466 = .ok (.iload_n 3, 1) := by decide +kernel
theorem d_Law_467 : decode code 467 = .ok (.iconst 1, 1) := by decide +kernel
theorem d_Law_468 : decode code 468 = .ok (.iadd, 1) := by decide +kernel
theorem d_Law_469 : decode code 469 = .ok (.iaload, 1) := by decide +kernel
theorem d_Law_470 : decode code 470 = .ok (.invokevirtual 66, 3) := by decide +kernel
theorem d_Law_473 : decode code 473 = .ok (.if_icmp .eq 193, 3) := by decide +kernel
theorem d_Law_476 : decode code 476 = .ok (.iconst 0, 1) := by decide +kernel
theorem d_Law_477 : decode code 477 = .ok (.ireturn, 1) := by decide +kernel
theorem d_Law_478 : decode code 478 = .ok (.aload_n 1, 1) := by decide +kernel
theorem d_Law_479 : decode code 479 = .ok (.aload_n 0, 1) := by decide +kernel
theorem d_Law_480 : decode code 480 = .ok (.iload_n 3, 1) := by decide +kernel
theorem d_Law_481 : decode code 481 = .ok (.iconst 1, 1) := by decide +kernel
theorem d_Law_482 : decode code 482 = .ok (.iadd, 1) := by decide +kernel
theorem d_Law_483 : decode code 483 = .ok (.iaload, 1) := by decide +kernel
theorem d_Law_484 : decode code 484 = .ok (.aload_n 0, 1) := by decide +kernel
theorem d_Law_485 : decode code 485 = .ok (.iload_n 3, 1) := by decide +kernel
theorem d_Law_486 : decode code 486 = .ok (.iconst 2, 1) := by decide +kernel
theorem d_Law_487 : decode code 487 = .ok (.iadd, 1) := by decide +kernel
theorem d_Law_488 : decode code 488 = .ok (.iaload, 1) := by decide +kernel
theorem d_Law_489 : decode code 489 = .ok (.invokevirtual 67, 3) := by decide +kernel
theorem d_Law_492 : decode code 492 = .ok (.aload_n 2, 1) := by decide +kernel
theorem d_Law_493 : decode code 493 = .ok (.aload_n 0, 1) := by decide +kernel
theorem d_Law_494 : decode code 494 = .ok (.iload_n 3, 1) := by decide +kernel
theorem d_Law_495 : decode code 495 = .ok (.iconst 1, 1) := by decide +kernel
theorem d_Law_496 : decode code 496 = .ok (.iadd, 1) := by decide +kernel
theorem d_Law_497 : decode code 497 = .ok (.iaload, 1) := by decide +kernel
theorem d_Law_498 : decode code 498 = .ok (.aload_n 0, 1) := by decide +kernel
theorem d_Law_499 : decode code 499 = .ok (.iload_n 3, 1) := by decide +kernel
theorem d_Law_500 : decode code 500 = .ok (.iconst 2, 1) := by decide +kernel
theorem d_Law_501 : decode code 501 = .ok (.iadd, 1) := by decide +kernel
theorem d_Law_502 : decode code 502 = .ok (.iaload, 1) := by decide +kernel
theorem d_Law_503 : decode code 503 = .ok (.invokevirtual 71, 3) := by decide +kernel
theorem d_Law_506 : decode code 506 = .ok (.lcmp, 1) := by decide +kernel
theorem d_Law_507 : decode code 507 = .ok (.ifCond .eq 159, 3) := by decide +kernel
theorem d_Law_510 : decode code 510 = .ok (.iconst 0, 1) := by decide +kernel
theorem d_Law_511 : decode code 511 = .ok (.ireturn, 1) := by decide +kernel
theorem d_Law_512 : decode code 512 = .ok (.aload_n 1, 1) := by decide +kernel
theorem d_Law_513 : decode code 513 = .ok (.aload_n 0, 1) := by decide +kernel
theorem d_Law_514 : decode code 514 = .ok (.iload_n 3, 1) := by decide +kernel
theorem d_Law_515 : decode code 515 = .ok (.iconst 1, 1) := by decide +kernel
theorem d_Law_516 : decode code 516 = .ok (.iadd, 1) := by decide +kernel
theorem d_Law_517 : decode code 517 = .ok (.iaload, 1) := by decide +kernel
theorem d_Law_518 : decode code 518 = .ok (.invokevirtual 72, 3) := by decide +kernel
theorem d_Law_521 : decode code 521 = .ok (.aload_n 2, 1) := by decide +kernel
theorem d_Law_522 : decode code 522 = .ok (.aload_n 0, 1) := by decide +kernel
theorem d_Law_523 : decode code 523 = .ok (.iload_n 3, 1) := by decide +kernel
theorem d_Law_524 : decode code 524 = .ok (.iconst 1, 1) := by decide +kernel
theorem d_Law_525 : decode code 525 = .ok (.iadd, 1) := by decide +kernel
theorem d_Law_526 : decode code 526 = .ok (.iaload, 1) := by decide +kernel
theorem d_Law_527 : decode code 527 = .ok (.invokevirtual 76, 3) := by decide +kernel
theorem d_Law_530 : decode code 530 = .ok (.lcmp, 1) := by decide +kernel
theorem d_Law_531 : decode code 531 = .ok (.ifCond .eq 135, 3) := by decide +kernel
theorem d_Law_534 : decode code 534 = .ok (.iconst 0, 1) := by decide +kernel
theorem d_Law_535 : decode code 535 = .ok (.ireturn, 1) := by decide +kernel
theorem d_Law_536 : decode code 536 = .ok (.aload_n 1, 1) := by decide +kernel
theorem d_Law_537 : decode code 537 = .ok (.aload_n 0, 1) := by decide +kernel
theorem d_Law_538 : decode code 538 = .ok (.iload_n 3, 1) := by decide +kernel
theorem d_Law_539 : decode code 539 = .ok (.iconst 1, 1) := by decide +kernel
theorem d_Law_540 : decode code 540 = .ok (.iadd, 1) := by decide +kernel
theorem d_Law_541 : decode code 541 = .ok (.iaload, 1) := by decide +kernel
theorem d_Law_542 : decode code 542 = .ok (.invokevirtual 77, 3) := by decide +kernel
theorem d_Law_545 : decode code 545 = .ok (.aload_n 2, 1) := by decide +kernel
theorem d_Law_546 : decode code 546 = .ok (.aload_n 0, 1) := by decide +kernel
theorem d_Law_547 : decode code 547 = .ok (.iload_n 3, 1) := by decide +kernel
theorem d_Law_548 : decode code 548 = .ok (.iconst 1, 1) := by decide +kernel
theorem d_Law_549 : decode code 549 = .ok (.iadd, 1) := by decide +kernel
theorem d_Law_550 : decode code 550 = .ok (.iaload, 1) := by decide +kernel
theorem d_Law_551 : decode code 551 = .ok (.invokevirtual 80, 3) := by decide +kernel
theorem d_Law_554 : decode code 554 = .ok (.if_icmp .eq 112, 3) := by decide +kernel
theorem d_Law_557 : decode code 557 = .ok (.iconst 0, 1) := by decide +kernel
theorem d_Law_558 : decode code 558 = .ok (.ireturn, 1) := by decide +kernel
theorem d_Law_559 : decode code 559 = .ok (.aload_n 1, 1) := by decide +kernel
theorem d_Law_560 : decode code 560 = .ok (.invokevirtual 81, 3) := by decide +kernel
theorem d_Law_563 : decode code 563 = .ok (.aload_n 2, 1) := by decide +kernel
theorem d_Law_564 : decode code 564 = .ok (.invokevirtual 85, 3) := by decide +kernel
theorem d_Law_567 : decode code 567 = .ok (.if_icmp .eq 99, 3) := by decide +kernel
theorem d_Law_570 : decode code 570 = .ok (.iconst 0, 1) := by decide +kernel
theorem d_Law_571 : decode code 571 = .ok (.ireturn, 1) := by decide +kernel
theorem d_Law_572 : decode code 572 = .ok (.aload_n 1, 1) := by decide +kernel
theorem d_Law_573 : decode code 573 = .ok (.aload_n 0, 1) := by decide +kernel
theorem d_Law_574 : decode code 574 = .ok (.iload_n 3, 1) := by decide +kernel
theorem d_Law_575 : decode code 575 = .ok (.iconst 1, 1) := by decide +kernel
theorem d_Law_576 : decode code 576 = .ok (.iadd, 1) := by decide +kernel
theorem d_Law_577 : decode code 577 = .ok (.iaload, 1) := by decide +kernel
theorem d_Law_578 : decode code 578 = .ok (.invokevirtual 86, 3) := by decide +kernel
theorem d_Law_581 : decode code 581 = .ok (.aload_n 2, 1) := by decide +kernel
theorem d_Law_582 : decode code 582 = .ok (.aload_n 0, 1) := by decide +kernel
theorem d_Law_583 : decode code 583 = .ok (.iload_n 3, 1) := by decide +kernel
theorem d_Law_584 : decode code 584 = .ok (.iconst 1, 1) := by decide +kernel
theorem d_Law_585 : decode code 585 = .ok (.iadd, 1) := by decide +kernel
theorem d_Law_586 : decode code 586 = .ok (.iaload, 1) := by decide +kernel
theorem d_Law_587 : decode code 587 = .ok (.invokevirtual 89, 3) := by decide +kernel
theorem d_Law_590 : decode code 590 = .ok (.lcmp, 1) := by decide +kernel
theorem d_Law_591 : decode code 591 = .ok (.ifCond .eq 75, 3) := by decide +kernel
theorem d_Law_594 : decode code 594 = .ok (.iconst 0, 1) := by decide +kernel
theorem d_Law_595 : decode code 595 = .ok (.ireturn, 1) := by decide +kernel
theorem d_Law_596 : decode code 596 = .ok (.aload_n 1, 1) := by decide +kernel
theorem d_Law_597 : decode code 597 = .ok (.aload_n 0, 1) := by decide +kernel
theorem d_Law_598 : decode code 598 = .ok (.iload_n 3, 1) := by decide +kernel
theorem d_Law_599 : decode code 599 = .ok (.iconst 1, 1) := by decide +kernel
theorem d_Law_600 : decode code 600 = .ok (.iadd, 1) := by decide +kernel
theorem d_Law_601 : decode code 601 = .ok (.iaload, 1) := by decide +kernel
theorem d_Law_602 : decode code 602 = .ok (.invokevirtual 90, 3) := by decide +kernel
theorem d_Law_605 : decode code 605 = .ok (.aload_n 2, 1) := by decide +kernel
theorem d_Law_606 : decode code 606 = .ok (.aload_n 0, 1) := by decide +kernel
theorem d_Law_607 : decode code 607 = .ok (.iload_n 3, 1) := by decide +kernel
theorem d_Law_608 : decode code 608 = .ok (.iconst 1, 1) := by decide +kernel
theorem d_Law_609 : decode code 609 = .ok (.iadd, 1) := by decide +kernel
theorem d_Law_610 : decode code 610 = .ok (.iaload, 1) := by decide +kernel
theorem d_Law_611 : decode code 611 = .ok (.invokevirtual 93, 3) := by decide +kernel
theorem d_Law_614 : decode code 614 = .ok (.lcmp, 1) := by decide +kernel
theorem d_Law_615 : decode code 615 = .ok (.ifCond .eq 51, 3) := by decide +kernel
theorem d_Law_618 : decode code 618 = .ok (.iconst 0, 1) := by decide +kernel
theorem d_Law_619 : decode code 619 = .ok (.ireturn, 1) := by decide +kernel
theorem d_Law_620 : decode code 620 = .ok (.aload_n 1, 1) := by decide +kernel
theorem d_Law_621 : decode code 621 = .ok (.aload_n 0, 1) := by decide +kernel
theorem d_Law_622 : decode code 622 = .ok (.iload_n 3, 1) := by decide +kernel
theorem d_Law_623 : decode code 623 = .ok (.iconst 1, 1) := by decide +kernel
theorem d_Law_624 : decode code 624 = .ok (.iadd, 1) := by decide +kernel
theorem d_Law_625 : decode code 625 = .ok (.iaload, 1) := by decide +kernel
theorem d_Law_626 : decode code 626 = .ok (.invokevirtual 94, 3) := by decide +kernel
theorem d_Law_629 : decode code 629 = .ok (.aload_n 2, 1) := by decide +kernel
theorem d_Law_630 : decode code 630 = .ok (.aload_n 0, 1) := by decide +kernel
theorem d_Law_631 : decode code 631 = .ok (.iload_n 3, 1) := by decide +kernel
theorem d_Law_632 : decode code 632 = .ok (.iconst 1, 1) := by decide +kernel
theorem d_Law_633 : decode code 633 = .ok (.iadd, 1) := by decide +kernel
theorem d_Law_634 : decode code 634 = .ok (.iaload, 1) := by decide +kernel
theorem d_Law_635 : decode code 635 = .ok (.invokevirtual 97, 3) := by decide +kernel
theorem d_Law_638 : decode code 638 = .ok (.if_icmp .eq 28, 3) := by decide +kernel
theorem d_Law_641 : decode code 641 = .ok (.iconst 0, 1) := by decide +kernel
theorem d_Law_642 : decode code 642 = .ok (.ireturn, 1) := by decide +kernel
theorem d_Law_643 : decode code 643 = .ok (.aload_n 1, 1) := by decide +kernel
theorem d_Law_644 : decode code 644 = .ok (.aload_n 0, 1) := by decide +kernel
theorem d_Law_645 : decode code 645 = .ok (.iload_n 3, 1) := by decide +kernel
theorem d_Law_646 : decode code 646 = .ok (.iconst 1, 1) := by decide +kernel
theorem d_Law_647 : decode code 647 = .ok (.iadd, 1) := by decide +kernel
theorem d_Law_648 : decode code 648 = .ok (.iaload, 1) := by decide +kernel
theorem d_Law_649 : decode code 649 = .ok (.invokevirtual 98, 3) := by decide +kernel
theorem d_Law_652 : decode code 652 = .ok (.aload_n 2, 1) := by decide +kernel
theorem d_Law_653 : decode code 653 = .ok (.aload_n 0, 1) := by decide +kernel
theorem d_Law_654 : decode code 654 = .ok (.iload_n 3, 1) := by decide +kernel
theorem d_Law_655 : decode code 655 = .ok (.iconst 1, 1) := by decide +kernel
theorem d_Law_656 : decode code 656 = .ok (.iadd, 1) := by decide +kernel
theorem d_Law_657 : decode code 657 = .ok (.iaload, 1) := by decide +kernel
theorem d_Law_658 : decode code 658 = .ok (.invokevirtual 101, 3) := by decide +kernel
theorem d_Law_661 : decode code 661 = .ok (.if_icmp .eq 5, 3) := by decide +kernel
theorem d_Law_664 : decode code 664 = .ok (.iconst 0, 1) := by decide +kernel
theorem d_Law_665 : decode code 665 = .ok (.ireturn, 1) := by decide +kernel
theorem d_Law_666 : decode code 666 = .ok (.iinc 3 5, 3) := by decide +kernel
theorem d_Law_669 : decode code 669 = .ok (.goto (-641), 3) := by decide +kernel
theorem d_Law_672 : decode code 672 = .ok (.iconst 1, 1) := by decide +kernel
theorem d_Law_673 : decode code 673 = .ok (.ireturn, 1) := by decide +kernel
