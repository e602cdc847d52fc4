theorem d_La_law_0 : decode code 0 = .ok (.new 8, 3) := by decide +kernel
theorem d_La_law_3 : decode code 3 = .ok (.dup, 1) := by decide +kernel
theorem d_La_law_4 : decode code 4 = .ok (.invokespecial 73, 3) := by decide +kernel
theorem d_La_law_7 : decode code 7 = .ok (.astore_n 1, 1) := by decide +kernel
theorem d_La_law_8 : decode code 8 = .ok (.new 74, 3) := by decide +kernel
theorem d_La_law_11 : decode code 11 = .ok (.dup, 1) := by decide +kernel
theorem d_La_law_12 : decode code 12 = .ok (.invokespecial 76, 3) := by decide +kernel
theorem d_La_law_15 : decode code 15 = .ok (.astore_n 2, 1) := by decide +kernel
theorem d_La_law_16 : decode code 16 = .ok (.iconst 1, 1) := by decide +kernel
theorem d_La_law_17 : decode code 17 = .ok (.newarray .long, 2) := by decide +kernel
theorem d_La_law_19 : decode code 19 = .ok (.astore_n 3, 1) := by decide +kernel
theorem d_La_law_20 : decode code 20 = .ok (.iconst 0, 1) := by decide +kernel
theorem d_La_law_21 : decode code 21 = .ok (.istore 4, 2) := by decide +kernel
theorem d_La_law_23 : decode code 23 = .ok (.iload 4, 2) := by decide +kernel
theorem d_La_law_25 : decode code 25 = .ok (.aload_n 0, 1) := by decide +kernel
theorem d_La_law_26 : decode code 26 = .ok (.arraylength, 1) := by decide +kernel
theorem d_La_law_27 : decode code 27 = .ok (.iconst 5, 1) := by decide +kernel
theorem d_La_law_28 : decode code 28 = .ok (.isub, 1) := by decide +kernel
theorem d_La_law_29 : decode code 29 = .ok (.if_icmp .gt 1433, 3) := by decide +kernel
theorem d_La_law_32 : decode code 32 = .ok (.aload_n 0, 1) := by decide +kernel
theorem d_La_law_33 : decode code 33 = .ok (.iload 4, 2) := by decide +kernel
theorem d_La_law_35 : decode code 35 = .ok (.iaload, 1) := by decide +kernel
theorem d_La_law_36 : decode code 36 = .ok (.bipush 31, 2) := by decide +kernel
theorem d_La_law_38 : decode code 38 = .ok (.iand, 1) := by decide +kernel
theorem d_La_law_39 : decode code 39 = .ok (.tableswitch 1417 0 20 #[97, 169, 261, 333, 413, 481, 522, 602, 705, 796, 887, 951, 1007, 1020, 1088, 1143, 1211, 1267, 1280, 1336, 1349], 97) := by decide +kernel
theorem d_La_law_136 : decode code 136 = .ok (.aload_n 1, 1) := by decide +kernel
theorem d_La_law_137 : decode code 137 = .ok (.aload_n 0, 1) := by decide +kernel
theorem d_La_law_138 : decode code 138 = .ok (.iload 4, 2) := by decide +kernel
theorem d_La_law_140 : decode code 140 = .ok (.iconst 1, 1) := by decide +kernel
theorem d_La_law_141 : decode code 141 = .ok (.iadd, 1) := by decide +kernel
theorem d_La_law_142 : decode code 142 = .ok (.iaload, 1) := by decide +kernel
theorem d_La_law_143 : decode code 143 = .ok (.aload_n 0, 1) := by decide +kernel
theorem d_La_law_144 : decode code 144 = .ok (.iload 4, 2) := by decide +kernel
theorem d_La_law_146 : decode code 146 = .ok (.iconst 2, 1) := by decide +kernel
theorem d_La_law_147 : decode code 147 = .ok (.iadd, 1) := by decide +kernel
theorem d_La_law_148 : decode code 148 = .ok (.iaload, 1) := by decide +kernel
theorem d_La_law_149 : decode code 149 = .ok (.aload_n 0, 1) := by decide +kernel
theorem d_La_law_150 : decode code 150 = .ok (.iload 4, 2) := by decide +kernel
theorem d_La_law_152 : decode code 152 = .ok (.iconst 3, 1) := by decide +kernel
theorem d_La_law_153 : decode code 153 = .ok (.iadd, 1) := by decide +kernel
theorem d_La_law_154 : decode code 154 = .ok (.iaload, 1) := by decide +kernel
theorem d_La_law_155 : decode code 155 = .ok (.aload_n 0, 1) := by decide +kernel
theorem d_La_law_156 : decode code 156 = .ok (.iload 4, 2) := by decide +kernel
theorem d_La_law_158 : decode code 158 = .ok (.iconst 4, 1) := by decide +kernel
theorem d_La_law_159 : decode code 159 = .ok (.iadd, 1) := by decide +kernel
theorem d_La_law_160 : decode code 160 = .ok (.iaload, 1) := by decide +kernel
theorem d_La_law_161 : decode code 161 = .ok (.invokestatic 77, 3) := by decide +kernel
theorem d_La_law_164 : decode code 164 = .ok (.istore 5, 2) := by decide +kernel
theorem d_La_law_166 : decode code 166 = .ok (.aload_n 2, 1) := by decide +kernel
theorem d_La_law_167 : decode code 167 = .ok (.aload_n 0, 1) := by decide +kernel
theorem d_La_law_168 : decode code 168 = .ok (.iload 4, 2) := by decide +kernel
theorem d_La_law_170 : decode code 170 = .ok (.iconst 1, 1) := by decide +kernel
theorem d_La_law_171 : decode code 171 = .ok (.iadd, 1) := by decide +kernel
theorem d_La_law_172 : decode code 172 = .ok (.iaload, 1) := by decide +kernel
theorem d_La_law_173 : decode code 173 = .ok (.aload_n 0, 1) := by decide +kernel
theorem d_La_law_174 : decode code 174 = .ok (.iload 4, 2) := by decide +kernel
theorem d_La_law_176 : decode code 176 = .ok (.iconst 2, 1) := by decide +kernel
theorem d_La_law_177 : decode code 177 = .ok (.iadd, 1) := by decide +kernel
theorem d_La_law_178 : decode code 178 = .ok (.iaload, 1) := by decide +kernel
theorem d_La_law_179 : decode code 179 = .ok (.aload_n 0, 1) := by decide +kernel
theorem d_La_law_180 : decode code 180 = .ok (.iload 4, 2) := by decide +kernel
theorem d_La_law_182 : decode code 182 = .ok (.iconst 3, 1) := by decide +kernel
theorem d_La_law_183 : decode code 183 = .ok (.iadd, 1) := by decide +kernel
theorem d_La_law_184 : decode code 184 = .ok (.iaload, 1) := by decide +kernel
theorem d_La_law_185 : decode code 185 = .ok (.aload_n 0, 1) := by decide +kernel
theorem d_La_law_186 : decode code 186 = .ok (.iload 4, 2) := by decide +kernel
theorem d_La_law_188 : decode code 188 = .ok (.iconst 4, 1) := by decide +kernel
theorem d_La_law_189 : decode code 189 = .ok (.iadd, 1) := by decide +kernel
theorem d_La_law_190 : decode code 190 = .ok (.iaload, 1) := by decide +kernel
theorem d_La_law_191 : decode code 191 = .ok (.invokevirtual 82, 3) := by decide +kernel
theorem d_La_law_194 : decode code 194 = .ok (.aload_n 2, 1) := by decide +kernel
theorem d_La_law_195 : decode code 195 = .ok (.invokevirtual 83, 3) := by decide +kernel
theorem d_La_law_198 : decode code 198 = .ok (.iload 5, 2) := by decide +kernel
theorem d_La_law_200 : decode code 200 = .ok (.if_icmp .eq 5, 3) := by decide +kernel
theorem d_La_law_203 : decode code 203 = .ok (.iconst 0, 1) := by decide +kernel
theorem d_La_law_204 : decode code 204 = .ok (.ireturn, 1) := by decide +kernel
theorem d_La_law_205 : decode code 205 = .ok (.goto 1251, 3) := by decide +kernel
theorem d_La_law_208 : decode code 208 = .ok (.aload_n 1, 1) := by decide +kernel
theorem d_La_law_209 : decode code 209 = .ok (.aload_n 0, 1) := by decide +kernel
theorem d_La_law_210 : decode code 210 = .ok (.iload 4, 2) := by decide +kernel
theorem d_La_law_212 : decode code 212 = .ok (.iconst 1, 1) := by decide +kernel
theorem d_La_law_213 : decode code 213 = .ok (.iadd, 1) := by decide +kernel
theorem d_La_law_214 : decode code 214 = .ok (.iaload, 1) := by decide +kernel
theorem d_La_law_215 : decode code 215 = .ok (.aload_n 0, 1) := by decide +kernel
theorem d_La_law_216 : decode code 216 = .ok (.iload 4, 2) := by decide +kernel
theorem d_La_law_218 : decode code 218 = .ok (.iconst 2, 1) := by decide +kernel
theorem d_La_law_219 : decode code 219 = .ok (.iadd, 1) := by decide +kernel
theorem d_La_law_220 : decode code 220 = .ok (.iaload, 1) := by decide +kernel
theorem d_La_law_221 : decode code 221 = .ok (.aload_n 0, 1) := by decide +kernel
theorem d_La_law_222 : decode code 222 = .ok (.iload 4, 2) := by decide +kernel
theorem d_La_law_224 : decode code 224 = .ok (.iconst 3, 1) := by decide +kernel
theorem d_La_law_225 : decode code 225 = .ok (.iadd, 1) := by decide +kernel
theorem d_La_law_226 : decode code 226 = .ok (.iaload, 1) := by decide +kernel
theorem d_La_law_227 : decode code 227 = .ok (.aload_n 0, 1) := by decide +kernel
theorem d_La_law_228 : decode code 228 = .ok (.iload 4, 2) := by decide +kernel
theorem d_La_law_230 : decode code 230 = .ok (.iconst 4, 1) := by decide +kernel
theorem d_La_law_231 : decode code 231 = .ok (.iadd, 1) := by decide +kernel
theorem d_La_law_232 : decode code 232 = .ok (.iaload, 1) := by decide +kernel
theorem d_La_law_233 : decode code 233 = .ok (.aload_n 3, 1) := by decide +kernel
theorem d_La_law_234 : decode code 234 = .ok (.invokestatic 87, 3) := by decide +kernel
theorem d_La_law_237 : decode code 237 = .ok (.istore 5, 2) := by decide +kernel
theorem d_La_law_239 : decode code 239 = .ok (.aload_n 2, 1) := by decide +kernel
theorem d_La_law_240 : decode code 240 = .ok (.aload_n 0, 1) := by decide +kernel
theorem d_La_law_241 : decode code 241 = .ok (.iload 4, 2) := by decide +kernel
theorem d_La_law_243 : decode code 243 = .ok (.iconst 1, 1) := by decide +kernel
theorem d_La_law_244 : decode code 244 = .ok (.iadd, 1) := by decide +kernel
theorem d_La_law_245 : decode code 245 = .ok (.iaload, 1) := by decide +kernel
theorem d_La_law_246 : decode code 246 = .ok (.aload_n 0, 1) := by decide +kernel
theorem d_La_law_247 : decode code 247 = .ok (.iload 4, 2) := by decide +kernel
theorem d_La_law_249 : decode code 249 = .ok (.iconst 2, 1) := by decide +kernel
theorem d_La_law_250 : decode code 250 = .ok (.iadd, 1) := by decide +kernel
theorem d_La_law_251 : decode code 251 = .ok (.iaload, 1) := by decide +kernel
theorem d_La_law_252 : decode code 252 = .ok (.aload_n 0, 1) := by decide +kernel
theorem d_La_law_253 : decode code 253 = .ok (.iload 4, 2) := by decide +kernel
theorem d_La_law_255 : decode code 255 = .ok (.iconst 3, 1) := by decide +kernel
theorem d_La_law_256 : decode code 256 = .ok (.iadd, 1) := by decide +kernel
theorem d_La_law_257 : decode code 257 = .ok (.iaload, 1) := by decide +kernel
theorem d_La_law_258 : decode code 258 = .ok (.aload_n 0, 1) := by decide +kernel
theorem d_La_law_259 : decode code 259 = .ok (.iload 4, 2) := by decide +kernel
theorem d_La_law_261 : decode code 261 = .ok (.iconst 4, 1) := by decide +kernel
theorem d_La_law_262 : decode code 262 = .ok (.iadd, 1) := by decide +kernel
theorem d_La_law_263 : decode code 263 = .ok (.iaload, 1) := by decide +kernel
theorem d_La_law_264 : decode code 264 = .ok (.invokevirtual 90, 3) := by decide +kernel
theorem d_La_law_267 : decode code 267 = .ok (.istore 6, 2) := by decide +kernel
theorem d_La_law_269 : decode code 269 = .ok (.aload_n 2, 1) := by decide +kernel
theorem d_La_law_270 : decode code 270 = .ok (.invokevirtual 83, 3) := by decide +kernel
theorem d_La_law_273 : decode code 273 = .ok (.iload 5, 2) := by decide +kernel
theorem d_La_law_275 : decode code 275 = .ok (.if_icmp .eq 5, 3) := by decide +kernel
theorem d_La_law_278 : decode code 278 = .ok (.iconst 0, 1) := by decide +kernel
theorem d_La_law_279 : decode code 279 = .ok (.ireturn, 1) := by decide +kernel
theorem d_La_law_280 : decode code 280 = .ok (.iload 5, 2) := by decide +kernel
theorem d_La_law_282 : decode code 282 = .ok (.ifCond .ne 15, 3) := by decide +kernel
theorem d_La_law_285 : decode code 285 = .ok (.aload_n 3, 1) := by decide +kernel
theorem d_La_law_286 : decode code 286 = .ok (.iconst 0, 1) := by decide +kernel
theorem d_La_law_287 : decode code 287 = .ok (.laload, 1) := by decide +kernel
theorem d_La_law_288 : decode code 288 = .ok (.iload 6, 2) := by decide +kernel
theorem d_La_law_290 : decode code 290 = .ok (.i2l, 1) := by decide +kernel
theorem d_La_law_291 : decode code 291 = .ok (.lcmp, 1) := by decide +kernel
theorem d_La_law_292 : decode code 292 = .ok (.ifCond .eq 5, 3) := by decide +kernel
theorem d_La_law_295 : decode code 295 = .ok (.iconst 0, 1) := by decide +kernel
theorem d_La_law_296 : decode code 296 = .ok (.ireturn, 1) := by decide +kernel
theorem d_La_law_297 : decode code 297 = .ok (.goto 1159, 3) := by decide +kernel
theorem d_La_law_300 : decode code 300 = .ok (.aload_n 1, 1) := by decide +kernel
theorem d_La_law_301 : decode code 301 = .ok (.aload_n 0, 1) := by decide +kernel
theorem d_La_law_302 : decode code 302 = .ok (.iload 4, 2) := by decide +kernel
theorem d_La_law_304 : decode code 304 = .ok (.iconst 1, 1) := by decide +kernel
theorem d_La_law_305 : decode code 305 = .ok (.iadd, 1) := by decide +kernel
theorem d_La_law_306 : decode code 306 = .ok (.iaload, 1) := by decide +kernel
theorem d_La_law_307 : decode code 307 = .ok (.aload_n 0, 1) := by decide +kernel
theorem d_La_law_308 : decode code 308 = .ok (.iload 4, 2) := by decide +kernel
theorem d_La_law_310 : decode code 310 = .ok (.iconst 2, 1) := by decide +kernel
theorem d_La_law_311 : decode code 311 = .ok (.iadd, 1) := by decide +kernel
theorem d_La_law_312 : decode code 312 = .ok (.iaload, 1) := by decide +kernel
theorem d_La_law_313 : decode code 313 = .ok (.aload_n 0, 1) := by decide +kernel
theorem d_La_law_314 : decode code 314 = .ok (.iload 4, 2) := by decide +kernel
theorem d_La_law_316 : decode code 316 = .ok (.iconst 3, 1) := by decide +kernel
theorem d_La_law_317 : decode code 317 = .ok (.iadd, 1) := by decide +kernel
theorem d_La_law_318 : decode code 318 = .ok (.iaload, 1) := by decide +kernel
theorem d_La_law_319 : decode code 319 = .ok (.aload_n 0, 1) := by decide +kernel
theorem d_La_law_320 : decode code 320 = .ok (.iload 4, 2) := by decide +kernel
theorem d_La_law_322 : decode code 322 = .ok (.iconst 4, 1) := by decide +kernel
theorem d_La_law_323 : decode code 323 = .ok (.iadd, 1) := by decide +kernel
theorem d_La_law_324 : decode code 324 = .ok (.iaload, 1) := by decide +kernel
theorem d_La_law_325 : decode code 325 = .ok (.invokestatic 91, 3) := by decide +kernel
theorem d_La_law_328 : decode code 328 = .ok (.istore 5, 2) := by decide +kernel
theorem d_La_law_330 : decode code 330 = .ok (.aload_n 2, 1) := by decide +kernel
theorem d_La_law_331 : decode code 331 = .ok (.aload_n 0, 1) := by decide +kernel
theorem d_La_law_332 : decode code 332 = .ok (.iload 4, 2) := by decide +kernel
theorem d_La_law_334 : decode code 334 = .ok (.iconst 1, 1) := by decide +kernel
theorem d_La_law_335 : decode code 335 = .ok (.iadd, 1) := by decide +kernel
theorem d_La_law_336 : decode code 336 = .ok (.iaload, 1) := by decide +kernel
theorem d_La_law_337 : decode code 337 = .ok (.aload_n 0, 1) := by decide +kernel
theorem d_La_law_338 : decode code 338 = .ok (.iload 4, 2) := by decide +kernel
theorem d_La_law_340 : decode code 340 = .ok (.iconst 2, 1) := by decide +kernel
theorem d_La_law_341 : decode code 341 = .ok (.iadd, 1) := by decide +kernel
theorem d_La_law_342 : decode code 342 = .ok (.iaload, 1) := by decide +kernel
theorem d_La_law_343 : decode code 343 = .ok (.aload_n 0, 1) := by decide +kernel
theorem d_La_law_344 : decode code 344 = .ok (.iload 4, 2) := by decide +kernel
theorem d_La_law_346 : decode code 346 = .ok (.iconst 3, 1) := by decide +kernel
theorem d_La_law_347 : decode code 347 = .ok (.iadd, 1) := by decide +kernel
theorem d_La_law_348 : decode code 348 = .ok (.iaload, 1) := by decide +kernel
theorem d_La_law_349 : decode code 349 = .ok (.aload_n 0, 1) := by decide +kernel
theorem d_La_law_350 : decode code 350 = .ok (.iload 4, 2) := by decide +kernel
theorem d_La_law_352 : decode code 352 = .ok (.iconst 4, 1) := by decide +kernel
theorem d_La_law_353 : decode code 353 = .ok (.iadd, 1) := by decide +kernel
theorem d_La_law_354 : decode code 354 = .ok (.iaload, 1) := by decide +kernel
theorem d_La_law_355 : decode code 355 = .ok (.invokevirtual 93, 3) := by decide +kernel
theorem d_La_law_358 : decode code 358 = .ok (.aload_n 2, 1) := by decide +kernel
theorem d_La_law_359 : decode code 359 = .ok (.invokevirtual 83, 3) := by decide +kernel
theorem d_La_law_362 : decode code 362 = .ok (.iload 5, 2) := by decide +kernel
theorem d_La_law_364 : decode code 364 = .ok (.if_icmp .eq 5, 3) := by decide +kernel
theorem d_La_law_367 : decode code 367 = .ok (.iconst 0, 1) := by decide +kernel
theorem d_La_law_368 : decode code 368 = .ok (.ireturn, 1) := by decide +kernel
theorem d_La_law_369 : decode code 369 = .ok (.goto 1087, 3) := by decide +kernel
theorem d_La_law_372 : decode code 372 = .ok (.aload_n 1, 1) := by decide +kernel
theorem d_La_law_373 : decode code 373 = .ok (.aload_n 0, 1) := by decide +kernel
theorem d_La_law_374 : decode code 374 = .ok (.iload 4, 2) := by decide +kernel
theorem d_La_law_376 : decode code 376 = .ok (.iconst 1, 1) := by decide +kernel
theorem d_La_law_377 : decode code 377 = .ok (.iadd, 1) := by decide +kernel
theorem d_La_law_378 : decode code 378 = .ok (.iaload, 1) := by decide +kernel
theorem d_La_law_379 : decode code 379 = .ok (.aload_n 0, 1) := by decide +kernel
theorem d_La_law_380 : decode code 380 = .ok (.iload 4, 2) := by decide +kernel
theorem d_La_law_382 : decode code 382 = .ok (.iconst 2, 1) := by decide +kernel
theorem d_La_law_383 : decode code 383 = .ok (.iadd, 1) := by decide +kernel
theorem d_La_law_384 : decode code 384 = .ok (.iaload, 1) := by decide +kernel
theorem d_La_law_385 : decode code 385 = .ok (.aload_n 0, 1) := by decide +kernel
theorem d_La_law_386 : decode code 386 = .ok (.iload 4, 2) := by decide +kernel
theorem d_La_law_388 : decode code 388 = .ok (.iconst 3, 1) := by decide +kernel
theorem d_La_law_389 : decode code 389 = .ok (.iadd, 1) := by decide +kernel
theorem d_La_law_390 : decode code 390 = .ok (.iaload, 1) := by decide +kernel
theorem d_La_law_391 : decode code 391 = .ok (.aload_n 3, 1) := by decide +kernel
theorem d_La_law_392 : decode code 392 = .ok (.invokestatic 94, 3) := by decide +kernel
theorem d_La_law_395 : decode code 395 = .ok (.istore 5, 2) := by decide +kernel
theorem d_La_law_397 : decode code 397 = .ok (.aload_n 2, 1) := by decide +kernel
theorem d_La_law_398 : decode code 398 = .ok (.aload_n 0, 1) := by decide +kernel
theorem d_La_law_399 : decode code 399 = .ok (.iload 4, 2) := by decide +kernel
theorem d_La_law_401 : decode code 401 = .ok (.iconst 1, 1) := by decide +kernel
theorem d_La_law_402 : decode code 402 = .ok (.iadd, 1) := by decide +kernel
theorem d_La_law_403 : decode code 403 = .ok (.iaload, 1) := by decide +kernel
theorem d_La_law_404 : decode code 404 = .ok (.aload_n 0, 1) := by decide +kernel
theorem d_La_law_405 : decode code 405 = .ok (.iload 4, 2) := by decide +kernel
theorem d_La_law_407 : decode code 407 = .ok (.iconst 2, 1) := by decide +kernel
theorem d_La_law_408 : decode code 408 = .ok (.iadd, 1) := by decide +kernel
