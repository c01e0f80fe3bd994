theorem d_LW_law_0 : decode code 0 = .ok (.new 7, 3) := by decide +kernel
theorem d_LW_law_3 : decode code 3 = .ok (.dup, 1) := by decide +kernel
theorem d_LW_law_4 : decode code 4 = .ok (.invokespecial 9, 3) := by decide +kernel
theorem d_LW_law_7 : decode code 7 = .ok (.astore_n 1, 1) := by decide +kernel
theorem d_LW_law_8 : decode code 8 = .ok (.new 10, 3) := by decide +kernel
theorem d_LW_law_11 : decode code 11 = .ok (.dup, 1) := by decide +kernel
theorem d_LW_law_12 : decode code 12 = .ok (.invokespecial 12, 3) := by decide +kernel
theorem d_LW_law_15 : decode code 15 = .ok (.astore_n 2, 1) := by decide +kernel
theorem d_LW_law_16 : decode code 16 = .ok (.iconst 0, 1) := by decide +kernel
theorem d_LW_law_17 : decode code 17 = .ok (.istore_n 3, 1) := by decide +kernel
theorem d_LW_law_18 : decode code 18 = .ok (.iload_n 3, 1) := by decide +kernel
theorem d_LW_law_19 : decode code 19 = .ok (.aload_n 0, 1) := by decide +kernel
theorem d_LW_law_20 : decode code 20 = .ok (.arraylength, 1) := by decide +kernel
theorem d_LW_law_21 : decode code 21 = .ok (.bipush 7, 2) := by decide +kernel
theorem d_LW_law_23 : decode code 23 = .ok (.isub, 1) := by decide +kernel
theorem d_LW_law_24 : decode code 24 = .ok (.if_icmp .gt 844, 3) := by decide +kernel
theorem d_LW_law_27 : decode code 27 = .ok (.aload_n 0, 1) := by decide +kernel
theorem d_LW_law_28 : decode code 28 = .ok (.iload_n 3, 1) := by decide +kernel
theorem d_LW_law_29 : decode code 29 = .ok (.iaload, 1) := by decide +kernel
theorem d_LW_law_30 : decode code 30 = .ok (.bipush 15, 2) := by decide +kernel
theorem d_LW_law_32 : decode code 32 = .ok (.iand, 1) := by decide +kernel
theorem d_LW_law_33 : decode code 33 = .ok (.tableswitch 829 0 15 #[79, 164, 227, 240, 283, 306, 369, 442, 466, 561, 610, 673, 736, 770, 793, 816], 79) := by decide +kernel
theorem d_LW_law_112 : decode code 112 = .ok (.aload_n 1, 1) := by decide +kernel
theorem d_LW_law_113 : decode code 113 = .ok (.aload_n 0, 1) := by decide +kernel
theorem d_LW_law_114 : decode code 114 = .ok (.iload_n 3, 1) := by decide +kernel
theorem d_LW_law_115 : decode code 115 = .ok (.iconst 1, 1) := by decide +kernel
theorem d_LW_law_116 : decode code 116 = .ok (.iadd, 1) := by decide +kernel
theorem d_LW_law_117 : decode code 117 = .ok (.iaload, 1) := by decide +kernel
theorem d_LW_law_118 : decode code 118 = .ok (.ifCond .eq 7, 3) := by decide +kernel
theorem d_LW_law_121 : decode code 121 = .ok (.iconst 1, 1) := by decide +kernel
theorem d_LW_law_122 : decode code 122 = .ok (.goto 4, 3) := by decide +kernel
theorem d_LW_law_125 : decode code 125 = .ok (.iconst 0, 1) := by decide +kernel
theorem d_LW_law_126 : decode code 126 = .ok (.aload_n 0, 1) := by decide +kernel
theorem d_LW_law_127 : decode code 127 = .ok (.iload_n 3, 1) := by decide +kernel
theorem d_LW_law_128 : decode code 128 = .ok (.iconst 2, 1) := by decide +kernel
theorem d_LW_law_129 : decode code 129 = .ok (.iadd, 1) := by decide +kernel
theorem d_LW_law_130 : decode code 130 = .ok (.iaload, 1) := by decide +kernel
theorem d_LW_law_131 : decode code 131 = .ok (.ifCond .eq 7, 3) := by decide +kernel
theorem d_LW_law_134 : decode code 134 = .ok (.iconst 1, 1) := by decide +kernel
theorem d_LW_law_135 : decode code 135 = .ok (.goto 4, 3) := by decide +kernel
theorem d_LW_law_138 : decode code 138 = .ok (.iconst 0, 1) := by decide +kernel
theorem d_LW_law_139 : decode code 139 = .ok (.aload_n 0, 1) := by decide +kernel
theorem d_LW_law_140 : decode code 140 = .ok (.iload_n 3, 1) := by decide +kernel
theorem d_LW_law_141 : decode code 141 = .ok (.iconst 3, 1) := by decide +kernel
theorem d_LW_law_142 : decode code 142 = .ok (.iadd, 1) := by decide +kernel
theorem d_LW_law_143 : decode code 143 = .ok (.iaload, 1) := by decide +kernel
theorem d_LW_law_144 : decode code 144 = .ok (.aload_n 0, 1) := by decide +kernel
theorem d_LW_law_145 : decode code 145 = .ok (.iload_n 3, 1) := by decide +kernel
theorem d_LW_law_146 : decode code 146 = .ok (.iconst 4, 1) := by decide +kernel
theorem d_LW_law_147 : decode code 147 = .ok (.iadd, 1) := by decide +kernel
theorem d_LW_law_148 : decode code 148 = .ok (.iaload, 1) := by decide +kernel
theorem d_LW_law_149 : decode code 149 = .ok (.invokevirtual 13, 3) := by decide +kernel
theorem d_LW_law_152 : decode code 152 = .ok (.aload_n 2, 1) := by decide +kernel
theorem d_LW_law_153 : decode code 153 = .ok (.aload_n 0, 1) := by decide +kernel
theorem d_LW_law_154 : decode code 154 = .ok (.iload_n 3, 1) := by decide +kernel
theorem d_LW_law_155 : decode code 155 = .ok (.iconst 1, 1) := by decide +kernel
theorem d_LW_law_156 : decode code 156 = .ok (.iadd, 1) := by decide +kernel
theorem d_LW_law_157 : decode code 157 = .ok (.iaload, 1) := by decide +kernel
theorem d_LW_law_158 : decode code 158 = .ok (.ifCond .eq 7, 3) := by decide +kernel
theorem d_LW_law_161 : decode code 161 = .ok (.iconst 1, 1) := by decide +kernel
theorem d_LW_law_162 : decode code 162 = .ok (.goto 4, 3) := by decide +kernel
theorem d_LW_law_165 : decode code 165 = .ok (.iconst 0, 1) := by decide +kernel
theorem d_LW_law_166 : decode code 166 = .ok (.aload_n 0, 1) := by decide +kernel
theorem d_LW_law_167 : decode code 167 = .ok (.iload_n 3, 1) := by decide +kernel
theorem d_LW_law_168 : decode code 168 = .ok (.iconst 2, 1) := by decide +kernel
theorem d_LW_law_169 : decode code 169 = .ok (.iadd, 1) := by decide +kernel
theorem d_LW_law_170 : decode code 170 = .ok (.iaload, 1) := by decide +kernel
theorem d_LW_law_171 : decode code 171 = .ok (.ifCond .eq 7, 3) := by decide +kernel
theorem d_LW_law_174 : decode code 174 = .ok (.iconst 1, 1) := by decide +kernel
theorem d_LW_law_175 : decode code 175 = .ok (.goto 4, 3) := by decide +kernel
theorem d_LW_law_178 : decode code 178 = .ok (.iconst 0, 1) := by decide +kernel
theorem d_LW_law_179 : decode code 179 = .ok (.aload_n 0, 1) := by decide +kernel
theorem d_LW_law_180 : decode code 180 = .ok (.iload_n 3, 1) := by decide +kernel
theorem d_LW_law_181 : decode code 181 = .ok (.iconst 3, 1) := by decide +kernel
theorem d_LW_law_182 : decode code 182 = .ok (.iadd, 1) := by decide +kernel
theorem d_LW_law_183 : decode code 183 = .ok (.iaload, 1) := by decide +kernel
theorem d_LW_law_184 : decode code 184 = .ok (.aload_n 0, 1) := by decide +kernel
theorem d_LW_law_185 : decode code 185 = .ok (.iload_n 3, 1) := by decide +kernel
theorem d_LW_law_186 : decode code 186 = .ok (.iconst 4, 1) := by decide +kernel
theorem d_LW_law_187 : decode code 187 = .ok (.iadd, 1) := by decide +kernel
theorem d_LW_law_188 : decode code 188 = .ok (.iaload, 1) := by decide +kernel
theorem d_LW_law_189 : decode code 189 = .ok (.invokevirtual 17, 3) := by decide +kernel
theorem d_LW_law_192 : decode code 192 = .ok (.if_icmp .eq 670, 3) := by decide +kernel
theorem d_LW_law_195 : decode code 195 = .ok (.iconst 0, 1) := by decide +kernel
theorem d_LW_law_196 : decode code 196 = .ok (.ireturn, 1) := by decide +kernel
theorem d_LW_law_197 : decode code 197 = .ok (.aload_n 1, 1) := by decide +kernel
theorem d_LW_law_198 : decode code 198 = .ok (.aload_n 0, 1) := by decide +kernel
theorem d_LW_law_199 : decode code 199 = .ok (.iload_n 3, 1) := by decide +kernel
theorem d_LW_law_200 : decode code 200 = .ok (.iconst 1, 1) := by decide +kernel
theorem d_LW_law_201 : decode code 201 = .ok (.iadd, 1) := by decide +kernel
theorem d_LW_law_202 : decode code 202 = .ok (.iaload, 1) := by decide +kernel
theorem d_LW_law_203 : decode code 203 = .ok (.aload_n 0, 1) := by decide +kernel
theorem d_LW_law_204 : decode code 204 = .ok (.iload_n 3, 1) := by decide +kernel
theorem d_LW_law_205 : decode code 205 = .ok (.iconst 2, 1) := by decide +kernel
theorem d_LW_law_206 : decode code 206 = .ok (.iadd, 1) := by decide +kernel
theorem d_LW_law_207 : decode code 207 = .ok (.iaload, 1) := by decide +kernel
theorem d_LW_law_208 : decode code 208 = .ok (.i2l, 1) := by decide +kernel
theorem d_LW_law_209 : decode code 209 = .ok (.bipush 32, 2) := by decide +kernel
theorem d_LW_law_211 : decode code 211 = .ok (.lshl, 1) := by decide +kernel
theorem d_LW_law_212 : decode code 212 = .ok (.aload_n 0, 1) := by decide +kernel
theorem d_LW_law_213 : decode code 213 = .ok (.iload_n 3, 1) := by decide +kernel
theorem d_LW_law_214 : decode code 214 = .ok (.iconst 3, 1) := by decide +kernel
theorem d_LW_law_215 : decode code 215 = .ok (.iadd, 1) := by decide +kernel
theorem d_LW_law_216 : decode code 216 = .ok (.iaload, 1) := by decide +kernel
theorem d_LW_law_217 : decode code 217 = .ok (.i2l, 1) := by decide +kernel
theorem d_LW_law_218 : decode code 218 = .ok (.ldc2_w 18, 3) := by decide +kernel
theorem d_LW_law_221 : decode code 221 = .ok (.land, 1) := by decide +kernel
theorem d_LW_law_222 : decode code 222 = .ok (.lor, 1) := by decide +kernel
theorem d_LW_law_223 : decode code 223 = .ok (.invokevirtual 20, 3) := by decide +kernel
theorem d_LW_law_226 : decode code 226 = .ok (.aload_n 2, 1) := by decide +kernel
theorem d_LW_law_227 : decode code 227 = .ok (.aload_n 0, 1) := by decide +kernel
theorem d_LW_law_228 : decode code 228 = .ok (.iload_n 3, 1) := by decide +kernel
theorem d_LW_law_229 : decode code 229 = .ok (.iconst 1, 1) := by decide +kernel
theorem d_LW_law_230 : decode code 230 = .ok (.iadd, 1) := by decide +kernel
theorem d_LW_law_231 : decode code 231 = .ok (.iaload, 1) := by decide +kernel
theorem d_LW_law_232 : decode code 232 = .ok (.aload_n 0, 1) := by decide +kernel
theorem d_LW_law_233 : decode code 233 = .ok (.iload_n 3, 1) := by decide +kernel
theorem d_LW_law_234 : decode code 234 = .ok (.iconst 2, 1) := by decide +kernel
theorem d_LW_law_235 : decode code 235 = .ok (.iadd, 1) := by decide +kernel
theorem d_LW_law_236 : decode code 236 = .ok (.iaload, 1) := by decide +kernel
theorem d_LW_law_237 : decode code 237 = .ok (.i2l, 1) := by decide +kernel
theorem d_LW_law_238 : decode code 238 = .ok (.bipush 32, 2) := by decide +kernel
theorem d_LW_law_240 : decode code 240 = .ok (.lshl, 1) := by decide +kernel
theorem d_LW_law_241 : decode code 241 = .ok (.aload_n 0, 1) := by decide +kernel
theorem d_LW_law_242 : decode code 242 = .ok (.iload_n 3, 1) := by decide +kernel
theorem d_LW_law_243 : decode code 243 = .ok (.iconst 3, 1) := by decide +kernel
theorem d_LW_law_244 : decode code 244 = .ok (.iadd, 1) := by decide +kernel
theorem d_LW_law_245 : decode code 245 = .ok (.iaload, 1) := by decide +kernel
theorem d_LW_law_246 : decode code 246 = .ok (.i2l, 1) := by decide +kernel
theorem d_LW_law_247 : decode code 247 = .ok (.ldc2_w 18, 3) := by decide +kernel
theorem d_LW_law_250 : decode code 250 = .ok (.land, 1) := by decide +kernel
theorem d_LW_law_251 : decode code 251 = .ok (.lor, 1) := by decide +kernel
theorem d_LW_law_252 : decode code 252 = .ok (.invokevirtual 24, 3) := by decide +kernel
theorem d_LW_law_255 : decode code 255 = .ok (.if_icmp .eq 607, 3) := by decide +kernel
theorem d_LW_law_258 : decode code 258 = .ok (.iconst 0, 1) := by decide +kernel
theorem d_LW_law_259 : decode code 259 = .ok (.ireturn, 1) := by decide +kernel
theorem d_LW_law_260 : decode code 260 = .ok (.aload_n 1, 1) := by decide +kernel
theorem d_LW_law_261 : decode code 261 = .ok (.invokevirtual 25, 3) := by decide +kernel
theorem d_LW_law_264 : decode code 264 = .ok (.aload_n 2, 1) := by decide +kernel
theorem d_LW_law_265 : decode code 265 = .ok (.invokevirtual 29, 3) := by decide +kernel
theorem d_LW_law_268 : decode code 268 = .ok (.if_icmp .eq 594, 3) := by decide +kernel
theorem d_LW_law_271 : decode code 271 = .ok (.iconst 0, 1) := by decide +kernel
theorem d_LW_law_272 : decode code 272 = .ok (.ireturn, 1) := by decide +kernel
theorem d_LW_law_273 : decode code 273 = .ok (.aload_n 1, 1) := by decide +kernel
theorem d_LW_law_274 : decode code 274 = .ok (.aload_n 0, 1) := by decide +kernel
theorem d_LW_law_275 : decode code 275 = .ok (.iload_n 3, 1) := by decide +kernel
theorem d_LW_law_276 : decode code 276 = .ok (.iconst 1, 1) := by decide +kernel
theorem d_LW_law_277 : decode code 277 = .ok (.iadd, 1) := by decide +kernel
theorem d_LW_law_278 : decode code 278 = .ok (.iaload, 1) := by decide +kernel
theorem d_LW_law_279 : decode code 279 = .ok (.aload_n 0, 1) := by decide +kernel
theorem d_LW_law_280 : decode code 280 = .ok (.iload_n 3, 1) := by decide +kernel
theorem d_LW_law_281 : decode code 281 = .ok (.iconst 2, 1) := by decide +kernel
theorem d_LW_law_282 : decode code 282 = .ok (.iadd, 1) := by decide +kernel
theorem d_LW_law_283 : decode code 283 = .ok (.iaload, 1) := by decide +kernel
theorem d_LW_law_284 : decode code 284 = .ok (.aload_n 0, 1) := by decide +kernel
theorem d_LW_law_285 : decode code 285 = .ok (.iload_n 3, 1) := by decide +kernel
theorem d_LW_law_286 : decode code 286 = .ok (.iconst 3, 1) := by decide +kernel
theorem d_LW_law_287 : decode code 287 = .ok (.iadd, 1) := by decide +kernel
theorem d_LW_law_288 : decode code 288 = .ok (.iaload, 1) := by decide +kernel
theorem d_LW_law_289 : decode code 289 = .ok (.invokevirtual 30, 3) := by decide +kernel
theorem d_LW_law_292 : decode code 292 = .ok (.aload_n 2, 1) := by decide +kernel
theorem d_LW_law_293 : decode code 293 = .ok (.aload_n 0, 1) := by decide +kernel
theorem d_LW_law_294 : decode code 294 = .ok (.iload_n 3, 1) := by decide +kernel
theorem d_LW_law_295 : decode code 295 = .ok (.iconst 1, 1) := by decide +kernel
theorem d_LW_law_296 : decode code 296 = .ok (.iadd, 1) := by decide +kernel
theorem d_LW_law_297 : decode code 297 = .ok (.iaload, 1) := by decide +kernel
theorem d_LW_law_298 : decode code 298 = .ok (.aload_n 0, 1) := by decide +kernel
theorem d_LW_law_299 : decode code 299 = .ok (.iload_n 3, 1) := by decide +kernel
theorem d_LW_law_300 : decode code 300 = .ok (.iconst 2, 1) := by decide +kernel
theorem d_LW_law_301 : decode code 301 = .ok (.iadd, 1) := by decide +kernel
theorem d_LW_law_302 : decode code 302 = .ok (.iaload, 1) := by decide +kernel
theorem d_LW_law_303 : decode code 303 = .ok (.aload_n 0, 1) := by decide +kernel
theorem d_LW_law_304 : decode code 304 = .ok (.iload_n 3, 1) := by decide +kernel
theorem d_LW_law_305 : decode code 305 = .ok (.iconst 3, 1) := by decide +kernel
theorem d_LW_law_306 : decode code 306 = .ok (.iadd, 1) := by decide +kernel
theorem d_LW_law_307 : decode code 307 = .ok (.iaload, 1) := by decide +kernel
theorem d_LW_law_308 : decode code 308 = .ok (.invokevirtual 34, 3) := by decide +kernel
theorem d_LW_law_311 : decode code 311 = .ok (.if_icmp .eq 551, 3) := by decide +kernel
theorem d_LW_law_314 : decode code 314 = .ok (.iconst 0, 1) := by decide +kernel
theorem d_LW_law_315 : decode code 315 = .ok (.ireturn, 1) := by decide +kernel
theorem d_LW_law_316 : decode code 316 = .ok (.aload_n 1, 1) := by decide +kernel
theorem d_LW_law_317 : decode code 317 = .ok (.aload_n 0, 1) := by decide +kernel
theorem d_LW_law_318 : decode code 318 = .ok (.iload_n 3, 1) := by decide +kernel
theorem d_LW_law_319 : decode code 319 = .ok (.iconst 1, 1) := by decide +kernel
theorem d_LW_law_320 : decode code 320 = .ok (.iadd, 1) := by decide +kernel
theorem d_LW_law_321 : decode code 321 = .ok (.iaload, 1) := by decide +kernel
theorem d_LW_law_322 : decode code 322 = .ok (.invokevirtual 35, 3) := by decide +kernel
theorem d_LW_law_325 : decode code 325 = .ok (.aload_n 2, 1) := by decide +kernel
theorem d_LW_law_326 : decode code 326 = .ok (.aload_n 0, 1) := by decide +kernel
theorem d_LW_law_327 : decode code 327 = .ok (.iload_n 3, 1) := by decide +kernel
theorem d_LW_law_328 : decode code 328 = .ok (.iconst 1, 1) := by decide +kernel
theorem d_LW_law_329 : decode code 329 = .ok (.iadd, 1) := by decide +kernel
theorem d_LW_law_330 : decode code 330 = .ok (.iaload, 1) := by decide +kernel
theorem d_LW_law_331 : decode code 331 = .ok (.invokevirtual 39, 3) := by decide +kernel
theorem d_LW_law_334 : decode code 334 = .ok (.if_icmp .eq 528, 3) := by decide +kernel
theorem d_LW_law_337 : decode code 337 = .ok (.iconst 0, 1) := by decide +kernel
theorem d_LW_law_338 : decode code 338 = .ok (.ireturn, 1) := by decide +kernel
theorem d_LW_law_339 : decode code 339 = .ok (.aload_n 1, 1) := by decide +kernel
theorem d_LW_law_340 : decode code 340 = .ok (.aload_n 0, 1) := by decide +kernel
theorem d_LW_law_341 : decode code 341 = .ok (.iload_n 3, 1) := by decide +kernel
theorem d_LW_law_342 : decode code 342 = .ok (.iconst 1, 1) := by decide +kernel
theorem d_LW_law_343 : decode code 343 = .ok (.iadd, 1) := by decide +kernel
theorem d_LW_law_344 : decode code 344 = .ok (.iaload, 1) := by decide +kernel
theorem d_LW_law_345 : decode code 345 = .ok (.aload_n 0, 1) := by decide +kernel
theorem d_LW_law_346 : decode code 346 = .ok (.iload_n 3, 1) := by decide +kernel
theorem d_LW_law_347 : decode code 347 = .ok (.iconst 2, 1) := by decide +kernel
theorem d_LW_law_348 : decode code 348 = .ok (.iadd, 1) := by decide +kernel
theorem d_LW_law_349 : decode code 349 = .ok (.iaload, 1) := by decide +kernel
theorem d_LW_law_350 : decode code 350 = .ok (.i2l, 1) := by decide +kernel
theorem d_LW_law_351 : decode code 351 = .ok (.bipush 32, 2) := by decide +kernel
theorem d_LW_law_353 : decode code 353 = .ok (.lshl, 1) := by decide +kernel
theorem d_LW_law_354 : decode code 354 = .ok (.aload_n 0, 1) := by decide +kernel
theorem d_LW_law_355 : decode code 355 = .ok (.iload_n 3, 1) := by decide +kernel
theorem d_LW_law_356 : decode code 356 = .ok (.iconst 3, 1) := by decide +kernel
theorem d_LW_law_357 : decode code 357 = .ok (.iadd, 1) := by decide +kernel
theorem d_LW_law_358 : decode code 358 = .ok (.iaload, 1) := by decide +kernel
theorem d_LW_law_359 : decode code 359 = .ok (.i2l, 1) := by decide +kernel
theorem d_LW_law_360 : decode code 360 = .ok (.ldc2_w 18, 3) := by decide +kernel
theorem d_LW_law_363 : decode code 363 = .ok (.land, 1) := by decide +kernel
theorem d_LW_law_364 : decode code 364 = .ok (.lor, 1) := by decide +kernel
theorem d_LW_law_365 : decode code 365 = .ok (.invokevirtual 40, 3) := by decide +kernel
theorem d_LW_law_368 : decode code 368 = .ok (.aload_n 2, 1) := by decide +kernel
theorem d_LW_law_369 : decode code 369 = .ok (.aload_n 0, 1) := by decide +kernel
theorem d_LW_law_370 : decode code 370 = .ok (.iload_n 3, 1) := by decide +kernel
theorem d_LW_law_371 : decode code 371 = .ok (.iconst 1, 1) := by decide +kernel
theorem d_LW_law_372 : decode code 372 = .ok (.iadd, 1) := by decide +kernel
theorem d_LW_law_373 : decode code 373 = .ok (.iaload, 1) := by decide +kernel
theorem d_LW_law_374 : decode code 374 = .ok (.aload_n 0, 1) := by decide +kernel
theorem d_LW_law_375 : decode code 375 = .ok (.iload_n 3, 1) := by decide +kernel
theorem d_LW_law_376 : decode code 376 = .ok (.iconst 2, 1) := by decide +kernel
theorem d_LW_law_377 : decode code 377 = .ok (.iadd, 1) := by decide +kernel
theorem d_LW_law_378 : decode code 378 = .ok (.iaload, 1) := by decide +kernel
theorem d_LW_law_379 : decode code 379 = .ok (.i2l, 1) := by decide +kernel
theorem d_LW_law_380 : decode code 380 = .ok (.bipush 32, 2) := by decide +kernel
theorem d_LW_law_382 : decode code 382 = .ok (.lshl, 1) := by decide +kernel
theorem d_LW_law_383 : decode code 383 = .ok (.aload_n 0, 1) := by decide +kernel
theorem d_LW_law_384 : decode code 384 = .ok (.iload_n 3, 1) := by decide +kernel
theorem d_LW_law_385 : decode code 385 = .ok (.iconst 3, 1) := by decide +kernel
theorem d_LW_law_386 : decode code 386 = .ok (.iadd, 1) := by decide +kernel
theorem d_LW_law_387 : decode code 387 = .ok (.iaload, 1) := by decide +kernel
theorem d_LW_law_388 : decode code 388 = .ok (.i2l, 1) := by decide +kernel
theorem d_LW_law_389 : decode code 389 = .ok (.ldc2_w 18, 3) := by decide +kernel
theorem d_LW_law_392 : decode code 392 = .ok (.land, 1) := by decide +kernel
theorem d_LW_law_393 : decode code 393 = .ok (.lor, 1) := by decide +kernel
theorem d_LW_law_394 : decode code 394 = .ok (.invokevirtual 43, 3) := by decide +kernel
theorem d_LW_law_397 : decode code 397 = .ok (.if_icmp .eq 465, 3) := by decide +kernel
theorem d_LW_law_400 : decode code 400 = .ok (.iconst 0, 1) := by decide +kernel
theorem d_LW_law_401 : decode code 401 = .ok (.ireturn, 1) := by decide +kernel
theorem d_LW_law_402 : decode code 402 = .ok (.aload_n 1, 1) := by decide +kernel
theorem d_LW_law_403 : decode code 403 = .ok (.aload_n 0, 1) := by decide +kernel
theorem d_LW_law_404 : decode code 404 = .ok (.iload_n 3, 1) := by decide +kernel
theorem d_LW_law_405 : decode code 405 = .ok (.iconst 1, 1) := by decide +kernel
theorem d_LW_law_406 : decode code 406 = .ok (.iadd, 1) := by decide +kernel
theorem d_LW_law_407 : decode code 407 = .ok (.iaload, 1) := by decide +kernel
theorem d_LW_law_408 : decode code 408 = .ok (.aload_n 0, 1) := by decide +kernel
theorem d_LW_law_409 : decode code 409 = .ok (.iload_n 3, 1) := by decide +kernel
theorem d_LW_law_410 : decode code 410 = .ok (.iconst 2, 1) := by decide +kernel
theorem d_LW_law_411 : decode code 411 = .ok (.iadd, 1) := by decide +kernel
theorem d_LW_law_412 : decode code 412 = .ok (.iaload, 1) := by decide +kernel
theorem d_LW_law_413 : decode code 413 = .ok (.aload_n 0, 1) := by decide +kernel
theorem d_LW_law_414 : decode code 414 = .ok (.iload_n 3, 1) := by decide +kernel
theorem d_LW_law_415 : decode code 415 = .ok (.iconst 3, 1) := by decide +kernel
theorem d_LW_law_416 : decode code 416 = .ok (.iadd, 1) := by decide +kernel
theorem d_LW_law_417 : decode code 417 = .ok (.iaload, 1) := by decide +kernel
theorem d_LW_law_418 : decode code 418 = .ok (.i2l, 1) := by decide +kernel
theorem d_LW_law_419 : decode code 419 = .ok (.bipush 32, 2) := by decide +kernel
theorem d_LW_law_421 : decode code 421 = .ok (.lshl, 1) := by decide +kernel
theorem d_LW_law_422 : decode code 422 = .ok (.aload_n 0, 1) := by decide +kernel
theorem d_LW_law_423 : decode code 423 = .ok (.iload_n 3, 1) := by decide +kernel
theorem d_LW_law_424 : decode code 424 = .ok (.iconst 4, 1) := by decide +kernel
theorem d_LW_law_425 : decode code 425 = .ok (.iadd, 1) := by decide +kernel
theorem d_LW_law_426 : decode code 426 = .ok (.iaload, 1) := by decide +kernel
theorem d_LW_law_427 : decode code 427 = .ok (.i2l, 1) := by decide +kernel
theorem d_LW_law_428 : decode code 428 = .ok (.ldc2_w 18, 3) := by decide +kernel
theorem d_LW_law_431 : decode code 431 = .ok (.land, 1) := by decide +kernel
theorem d_LW_law_432 : decode code 432 = .ok (.lor, 1) := by decide +kernel
theorem d_LW_law_433 : decode code 433 = .ok (.invokevirtual 44, 3) := by decide +kernel
theorem d_LW_law_436 : decode code 436 = .ok (.aload_n 2, 1) := by decide +kernel
theorem d_LW_law_437 : decode code 437 = .ok (.aload_n 0, 1) := by decide +kernel
theorem d_LW_law_438 : decode code 438 = .ok (.iload_n 3, 1) := by decide +kernel
theorem d_LW_law_439 : decode code 439 = .ok (.iconst 1, 1) := by decide +kernel
theorem d_LW_law_440 : decode code 440 = .ok (.iadd, 1) := by decide +kernel
theorem d_LW_law_441 : decode code 441 = .ok (.iaload, 1) := by decide +kernel
theorem d_LW_law_442 : decode code 442 = .ok (.aload_n 0, 1) := by decide +kernel
theorem d_LW_law_443 : decode code 443 = .ok (.iload_n 3, 1) := by decide +kernel
theorem d_LW_law_444 : decode code 444 = .ok (.iconst 2, 1) := by decide +kernel
theorem d_LW_law_445 : decode code 445 = .ok (.iadd, 1) := by decide +kernel
theorem d_LW_law_446 : decode code 446 = .ok (.iaload, 1) := by decide +kernel
theorem d_LW_law_447 : decode code 447 = .ok (.aload_n 0, 1) := by decide +kernel
theorem d_LW_law_448 : decode code 448 = .ok (.iload_n 3, 1) := by decide +kernel
theorem d_LW_law_449 : decode code 449 = .ok (.iconst 3, 1) := by decide +kernel
theorem d_LW_law_450 : decode code 450 = .ok (.iadd, 1) := by decide +kernel
theorem d_LW_law_451 : decode code 451 = .ok (.iaload, 1) := by decide +kernel
theorem d_LW_law_452 : decode code 452 = .ok (.i2l, 1) := by decide +kernel
theorem d_LW_law_453 : decode code 453 = .ok (.bipush 32, 2) := by decide +kernel
theorem d_LW_law_455 : decode code 455 = .ok (.lshl, 1) := by decide +kernel
theorem d_LW_law_456 : decode code 456 = .ok (.aload_n 0, 1) := by decide +kernel
theorem d_LW_law_457 : decode code 457 = .ok (.iload_n 3, 1) := by decide +kernel
theorem d_LW_law_458 : decode code 458 = .ok (.iconst 4, 1) := by decide +kernel
theorem d_LW_law_459 : decode code 459 = .ok (.iadd, 1) := by decide +kernel
theorem d_LW_law_460 : decode code 460 = .ok (.iaload, 1) := by decide +kernel
theorem d_LW_law_461 : decode code 461 = .ok (.i2l, 1) := by decide +kernel
theorem d_LW_law_462 : decode code 462 = .ok (.ldc2_w 18, 3) := by decide +kernel
theorem d_LW_law_465 : decode code 465 = .ok (.land, 1) := by decide +kernel
theorem d_LW_law_466 : decode code 466 = .ok (.lor, 1) := by decide +kernel
theorem d_LW_law_467 : decode code 467 = .ok (.invokevirtual 48, 3) := by decide +kernel
theorem d_LW_law_470 : decode code 470 = .ok (.if_icmp .eq 392, 3) := by decide +kernel
theorem d_LW_law_473 : decode code 473 = .ok (.iconst 0, 1) := by decide +kernel
theorem d_LW_law_474 : decode code 474 = .ok (.ireturn, 1) := by decide +kernel
theorem d_LW_law_475 : decode code 475 = .ok (.aload_n 1, 1) := by decide +kernel
theorem d_LW_law_476 : decode code 476 = .ok (.aload_n 0, 1) := by decide +kernel
theorem d_LW_law_477 : decode code 477 = .ok (.iload_n 3, 1) := by decide +kernel
theorem d_LW_law_478 : decode code 478 = .ok (.iconst 1, 1) := by decide +kernel
theorem d_LW_law_479 : decode code 479 = .ok (.iadd, 1) := by decide +kernel
theorem d_LW_law_480 : decode code 480 = .ok (.iaload, 1) := by decide +kernel
theorem d_LW_law_481 : decode code 481 = .ok (.invokevirtual 49, 3) := by decide +kernel
theorem d_LW_law_484 : decode code 484 = .ok (.aload_n 2, 1) := by decide +kernel
theorem d_LW_law_485 : decode code 485 = .ok (.aload_n 0, 1) := by decide +kernel
theorem d_LW_law_486 : decode code 486 = .ok (.iload_n 3, 1) := by decide +kernel
theorem d_LW_law_487 : decode code 487 = .ok (.iconst 1, 1) := by decide +kernel
theorem d_LW_law_488 : decode code 488 = .ok (.iadd, 1) := by decide +kernel
theorem d_LW_law_489 : decode code 489 = .ok (.iaload, 1) := by decide +kernel
theorem d_LW_law_490 : decode code 490 = .ok (.invokevirtual 53, 3) := by decide +kernel
theorem d_LW_law_493 : decode code 493 = .ok (.lcmp, 1) := by decide +kernel
theorem d_LW_law_494 : decode code 494 = .ok (.ifCond .eq 368, 3) := by decide +kernel
theorem d_LW_law_497 : decode code 497 = .ok (.iconst 0, 1) := by decide +kernel
theorem d_LW_law_498 : decode code 498 = .ok (.ireturn, 1) := by decide +kernel
theorem d_LW_law_499 : decode code 499 = .ok (.aload_n 1, 1) := by decide +kernel
theorem d_LW_law_500 : decode code 500 = .ok (.aload_n 0, 1) := by decide +kernel
theorem d_LW_law_501 : decode code 501 = .ok (.iload_n 3, 1) := by decide +kernel
theorem d_LW_law_502 : decode code 502 = .ok (.iconst 1, 1) := by decide +kernel
theorem d_LW_law_503 : decode code 503 = .ok (.iadd, 1) := by decide +kernel
theorem d_LW_law_504 : decode code 504 = .ok (.iaload, 1) := by decide +kernel
theorem d_LW_law_505 : decode code 505 = .ok (.aload_n 0, 1) := by decide +kernel
theorem d_LW_law_506 : decode code 506 = .ok (.iload_n 3, 1) := by decide +kernel
theorem d_LW_law_507 : decode code 507 = .ok (.iconst 2, 1) := by decide +kernel
theorem d_LW_law_508 : decode code 508 = .ok (.iadd, 1) := by decide +kernel
theorem d_LW_law_509 : decode code 509 = .ok (.iaload, 1) := by decide +kernel
theorem d_LW_law_510 : decode code 510 = .ok (.aload_n 0, 1) := by decide +kernel
theorem d_LW_law_511 : decode code 511 = .ok (.iload_n 3, 1) := by decide +kernel
theorem d_LW_law_512 : decode code 512 = .ok (.iconst 3, 1) := by decide +kernel
theorem d_LW_law_513 : decode code 513 = .ok (.iadd, 1) := by decide +kernel
theorem d_LW_law_514 : decode code 514 = .ok (.iaload, 1) := by decide +kernel
theorem d_LW_law_515 : decode code 515 = .ok (.aload_n 0, 1) := by decide +kernel
theorem d_LW_law_516 : decode code 516 = .ok (.iload_n 3, 1) := by decide +kernel
theorem d_LW_law_517 : decode code 517 = .ok (.iconst 4, 1) := by decide +kernel
theorem d_LW_law_518 : decode code 518 = .ok (.iadd, 1) := by decide +kernel
theorem d_LW_law_519 : decode code 519 = .ok (.iaload, 1) := by decide +kernel
theorem d_LW_law_520 : decode code 520 = .ok (.i2l, 1) := by decide +kernel
theorem d_LW_law_521 : decode code 521 = .ok (.bipush 32, 2) := by decide +kernel
theorem d_LW_law_523 : decode code 523 = .ok (.lshl, 1) := by decide +kernel
theorem d_LW_law_524 : decode code 524 = .ok (.aload_n 0, 1) := by decide +kernel
theorem d_LW_law_525 : decode code 525 = .ok (.iload_n 3, 1) := by decide +kernel
theorem d_LW_law_526 : decode code 526 = .ok (.iconst 5, 1) := by decide +kernel
theorem d_LW_law_527 : decode code 527 = .ok (.iadd, 1) := by decide +kernel
theorem d_LW_law_528 : decode code 528 = .ok (.iaload, 1) := by decide +kernel
theorem d_LW_law_529 : decode code 529 = .ok (.i2l, 1) := by decide +kernel
theorem d_LW_law_530 : decode code 530 = .ok (.ldc2_w 18, 3) := by decide +kernel
theorem d_LW_law_533 : decode code 533 = .ok (.land, 1) := by decide +kernel
theorem d_LW_law_534 : decode code 534 = .ok (.lor, 1) := by decide +kernel
theorem d_LW_law_535 : decode code 535 = .ok (.aload_n 0, 1) := by decide +kernel
theorem d_LW_law_536 : decode code 536 = .ok (.iload_n 3, 1) := by decide +kernel
theorem d_LW_law_537 : decode code 537 = .ok (.bipush 6, 2) := by decide +kernel
theorem d_LW_law_539 : decode code 539 = .ok (.iadd, 1) := by decide +kernel
theorem d_LW_law_540 : decode code 540 = .ok (.iaload, 1) := by decide +kernel
theorem d_LW_law_541 : decode code 541 = .ok (.invokevirtual 54, 3) := by decide +kernel
theorem d_LW_law_544 : decode code 544 = .ok (.aload_n 2, 1) := by decide +kernel
theorem d_LW_law_545 : decode code 545 = .ok (.aload_n 0, 1) := by decide +kernel
theorem d_LW_law_546 : decode code 546 = .ok (.iload_n 3, 1) := by decide +kernel
theorem d_LW_law_547 : decode code 547 = .ok (.iconst 1, 1) := by decide +kernel
theorem d_LW_law_548 : decode code 548 = .ok (.iadd, 1) := by decide +kernel
theorem d_LW_law_549 : decode code 549 = .ok (.iaload, 1) := by decide +kernel
theorem d_LW_law_550 : decode code 550 = .ok (.aload_n 0, 1) := by decide +kernel
theorem d_LW_law_551 : decode code 551 = .ok (.iload_n 3, 1) := by decide +kernel
theorem d_LW_law_552 : decode code 552 = .ok (.iconst 2, 1) := by decide +kernel
theorem d_LW_law_553 : decode code 553 = .ok (.iadd, 1) := by decide +kernel
theorem d_LW_law_554 : decode code 554 = .ok (.iaload, 1) := by decide +kernel
theorem d_LW_law_555 : decode code 555 = .ok (.aload_n 0, 1) := by decide +kernel
theorem d_LW_law_556 : decode code 556 = .ok (.iload_n 3, 1) := by decide +kernel
theorem d_LW_law_557 : decode code 557 = .ok (.iconst 3, 1) := by decide +kernel
theorem d_LW_law_558 : decode code 558 = .ok (.iadd, 1) := by decide +kernel
theorem d_LW_law_559 : decode code 559 = .ok (.iaload, 1) := by decide +kernel
theorem d_LW_law_560 : decode code 560 = .ok (.aload_n 0, 1) := by decide +kernel
theorem d_LW_law_561 : decode code 561 = .ok (.iload_n 3, 1) := by decide +kernel
theorem d_LW_law_562 : decode code 562 = .ok (.iconst 4, 1) := by decide +kernel
theorem d_LW_law_563 : decode code 563 = .ok (.iadd, 1) := by decide +kernel
theorem d_LW_law_564 : decode code 564 = .ok (.iaload, 1) := by decide +kernel
theorem d_LW_law_565 : decode code 565 = .ok (.i2l, 1) := by decide +kernel
theorem d_LW_law_566 : decode code 566 = .ok (.bipush 32, 2) := by decide +kernel
theorem d_LW_law_568 : decode code 568 = .ok (.lshl, 1) := by decide +kernel
theorem d_LW_law_569 : decode code 569 = .ok (.aload_n 0, 1) := by decide +kernel
theorem d_LW_law_570 : decode code 570 = .ok (.iload_n 3, 1) := by decide +kernel
theorem d_LW_law_571 : decode code 571 = .ok (.iconst 5, 1) := by decide +kernel
theorem d_LW_law_572 : decode code 572 = .ok (.iadd, 1) := by decide +kernel
theorem d_LW_law_573 : decode code 573 = .ok (.iaload, 1) := by decide +kernel
theorem d_LW_law_574 : decode code 574 = .ok (.i2l, 1) := by decide +kernel
theorem d_LW_law_575 : decode code 575 = .ok (.ldc2_w 18, 3) := by decide +kernel
theorem d_LW_law_578 : decode code 578 = .ok (.land, 1) := by decide +kernel
theorem d_LW_law_579 : decode code 579 = .ok (.lor, 1) := by decide +kernel
theorem d_LW_law_580 : decode code 580 = .ok (.aload_n 0, 1) := by decide +kernel
theorem d_LW_law_581 : decode code 581 = .ok (.iload_n 3, 1) := by decide +kernel
theorem d_LW_law_582 : decode code 582 = .ok (.bipush 6, 2) := by decide +kernel
theorem d_LW_law_584 : decode code 584 = .ok (.iadd, 1) := by decide +kernel
theorem d_LW_law_585 : decode code 585 = .ok (.iaload, 1) := by decide +kernel
theorem d_LW_law_586 : decode code 586 = .ok (.invokevirtual 58, 3) := by decide +kernel
theorem d_LW_law_589 : decode code 589 = .ok (.if_icmp .eq 273, 3) := by decide +kernel
theorem d_LW_law_592 : decode code 592 = .ok (.iconst 0, 1) := by decide +kernel
theorem d_LW_law_593 : decode code 593 = .ok (.ireturn, 1) := by decide +kernel
theorem d_LW_law_594 : decode code 594 = .ok (.aload_n 1, 1) := by decide +kernel
theorem d_LW_law_595 : decode code 595 = .ok (.aload_n 0, 1) := by decide +kernel
theorem d_LW_law_596 : decode code 596 = .ok (.iload_n 3, 1) := by decide +kernel
theorem d_LW_law_597 : decode code 597 = .ok (.iconst 1, 1) := by decide +kernel
theorem d_LW_law_598 : decode code 598 = .ok (.iadd, 1) := by decide +kernel
theorem d_LW_law_599 : decode code 599 = .ok (.iaload, 1) := by decide +kernel
theorem d_LW_law_600 : decode code 600 = .ok (.aload_n 0, 1) := by decide +kernel
theorem d_LW_law_601 : decode code 601 = .ok (.iload_n 3, 1) := by decide +kernel
theorem d_LW_law_602 : decode code 602 = .ok (.iconst 2, 1) := by decide +kernel
theorem d_LW_law_603 : decode code 603 = .ok (.iadd, 1) := by decide +kernel
theorem d_LW_law_604 : decode code 604 = .ok (.iaload, 1) := by decide +kernel
theorem d_LW_law_605 : decode code 605 = .ok (.ifCond .eq 7, 3) := by decide +kernel
theorem d_LW_law_608 : decode code 608 = .ok (.iconst 1, 1) := by decide +kernel
theorem d_LW_law_609 : decode code 609 = .ok (.goto 4, 3) := by decide +kernel
theorem d_LW_law_612 : decode code 612 = .ok (.iconst 0, 1) := by decide +kernel
theorem d_LW_law_613 : decode code 613 = .ok (.invokevirtual 59, 3) := by decide +kernel
theorem d_LW_law_616 : decode code 616 = .ok (.aload_n 2, 1) := by decide +kernel
theorem d_LW_law_617 : decode code 617 = .ok (.aload_n 0, 1) := by decide +kernel
theorem d_LW_law_618 : decode code 618 = .ok (.iload_n 3, 1) := by decide +kernel
theorem d_LW_law_619 : decode code 619 = .ok (.iconst 1, 1) := by decide +kernel
theorem d_LW_law_620 : decode code 620 = .ok (.iadd, 1) := by decide +kernel
theorem d_LW_law_621 : decode code 621 = .ok (.iaload, 1) := by decide +kernel
theorem d_LW_law_622 : decode code 622 = .ok (.aload_n 0, 1) := by decide +kernel
theorem d_LW_law_623 : decode code 623 = .ok (.iload_n 3, 1) := by decide +kernel
theorem d_LW_law_624 : decode code 624 = .ok (.iconst 2, 1) := by decide +kernel
theorem d_LW_law_625 : decode code 625 = .ok (.iadd, 1) := by decide +kernel
theorem d_LW_law_626 : decode code 626 = .ok (.iaload, 1) := by decide +kernel
theorem d_LW_law_627 : decode code 627 = .ok (.ifCond .eq 7, 3) := by decide +kernel
theorem d_LW_law_630 : decode code 630 = .ok (.iconst 1, 1) := by decide +kernel
theorem d_LW_law_631 : decode code 631 = .ok (.goto 4, 3) := by decide +kernel
theorem d_LW_law_634 : decode code 634 = .ok (.iconst 0, 1) := by decide +kernel
theorem d_LW_law_635 : decode code 635 = .ok (.invokevirtual 63, 3) := by decide +kernel
theorem d_LW_law_638 : decode code 638 = .ok (.if_icmp .eq 224, 3) := by decide +kernel
theorem d_LW_law_641 : decode code 641 = .ok (.iconst 0, 1) := by decide +kernel
theorem d_LW_law_642 : decode code 642 = .ok (.ireturn, 1) := by decide +kernel
theorem d_LW_law_643 : decode code 643 = .ok (.aload_n 1, 1) := by decide +kernel
theorem d_LW_law_644 : decode code 644 = .ok (.aload_n 0, 1) := by decide +kernel
theorem d_LW_law_645 : decode code 645 = .ok (.iload_n 3, 1) := by decide +kernel
theorem d_LW_law_646 : decode code 646 = .ok (.iconst 1, 1) := by decide +kernel
theorem d_LW_law_647 : decode code 647 = .ok (.iadd, 1) := by decide +kernel
theorem d_LW_law_648 : decode code 648 = .ok (.iaload, 1) := by decide +kernel
theorem d_LW_law_649 : decode code 649 = .ok (.aload_n 0, 1) := by decide +kernel
theorem d_LW_law_650 : decode code 650 = .ok (.iload_n 3, 1) := by decide +kernel
theorem d_LW_law_651 : decode code 651 = .ok (.iconst 2, 1) := by decide +kernel
theorem d_LW_law_652 : decode code 652 = .ok (.iadd, 1) := by decide +kernel
theorem d_LW_law_653 : decode code 653 = .ok (.iaload, 1) := by decide +kernel
theorem d_LW_law_654 : decode code 654 = .ok (.i2l, 1) := by decide +kernel
theorem d_LW_law_655 : decode code 655 = .ok (.bipush 32, 2) := by decide +kernel
theorem d_LW_law_657 : decode code 657 = .ok (.lshl, 1) := by decide +kernel
theorem d_LW_law_658 : decode code 658 = .ok (.aload_n 0, 1) := by decide +kernel
theorem d_LW_law_659 : decode code 659 = .ok (.iload_n 3, 1) := by decide +kernel
theorem d_LW_law_660 : decode code 660 = .ok (.iconst 3, 1) := by decide +kernel
theorem d_LW_law_661 : decode code 661 = .ok (.iadd, 1) := by decide +kernel
theorem d_LW_law_662 : decode code 662 = .ok (.iaload, 1) := by decide +kernel
theorem d_LW_law_663 : decode code 663 = .ok (.i2l, 1) := by decide +kernel
theorem d_LW_law_664 : decode code 664 = .ok (.ldc2_w 18, 3) := by decide +kernel
theorem d_LW_law_667 : decode code 667 = .ok (.land, 1) := by decide +kernel
theorem d_LW_law_668 : decode code 668 = .ok (.lor, 1) := by decide +kernel
theorem d_LW_law_669 : decode code 669 = .ok (.invokevirtual 64, 3) := by decide +kernel
theorem d_LW_law_672 : decode code 672 = .ok (.aload_n 2, 1) := by decide +kernel
theorem d_LW_law_673 : decode code 673 = .ok (.aload_n 0, 1) := by decide +kernel
theorem d_LW_law_674 : decode code 674 = .ok (.iload_n 3, 1) := by decide +kernel
theorem d_LW_law_675 : decode code 675 = .ok (.iconst 1, 1) := by decide +kernel
theorem d_LW_law_676 : decode code 676 = .ok (.iadd, 1) := by decide +kernel
theorem d_LW_law_677 : decode code 677 = .ok (.iaload, 1) := by decide +kernel
theorem d_LW_law_678 : decode code 678 = .ok (.aload_n 0, 1) := by decide +kernel
theorem d_LW_law_679 : decode code 679 = .ok (.iload_n 3, 1) := by decide +kernel
theorem d_LW_law_680 : decode code 680 = .ok (.iconst 2, 1) := by decide +kernel
theorem d_LW_law_681 : decode code 681 = .ok (.iadd, 1) := by decide +kernel
theorem d_LW_law_682 : decode code 682 = .ok (.iaload, 1) := by decide +kernel
theorem d_LW_law_683 : decode code 683 = .ok (.i2l, 1) := by decide +kernel
theorem d_LW_law_684 : decode code 684 = .ok (.bipush 32, 2) := by decide +kernel
theorem d_LW_law_686 : decode code 686 = .ok (.lshl, 1) := by decide +kernel
theorem d_LW_law_687 : decode code 687 = .ok (.aload_n 0, 1) := by decide +kernel
theorem d_LW_law_688 : decode code 688 = .ok (.iload_n 3, 1) := by decide +kernel
theorem d_LW_law_689 : decode code 689 = .ok (.iconst 3, 1) := by decide +kernel
theorem d_LW_law_690 : decode code 690 = .ok (.iadd, 1) := by decide +kernel
theorem d_LW_law_691 : decode code 691 = .ok (.iaload, 1) := by decide +kernel
theorem d_LW_law_692 : decode code 692 = .ok (.i2l, 1) := by decide +kernel
theorem d_LW_law_693 : decode code 693 = .ok (.ldc2_w 18, 3) := by decide +kernel
theorem d_LW_law_696 : decode code 696 = .ok (.land, 1) := by decide +kernel
theorem d_LW_law_697 : decode code 697 = .ok (.lor, 1) := by decide +kernel
theorem d_LW_law_698 : decode code 698 = .ok (.invokevirtual 67, 3) := by decide +kernel
theorem d_LW_law_701 : decode code 701 = .ok (.if_icmp .eq 161, 3) := by decide +kernel
theorem d_LW_law_704 : decode code 704 = .ok (.iconst 0, 1) := by decide +kernel
theorem d_LW_law_705 : decode code 705 = .ok (.ireturn, 1) := by decide +kernel
theorem d_LW_law_706 : decode code 706 = .ok (.aload_n 1, 1) := by decide +kernel
theorem d_LW_law_707 : decode code 707 = .ok (.aload_n 0, 1) := by decide +kernel
theorem d_LW_law_708 : decode code 708 = .ok (.iload_n 3, 1) := by decide +kernel
theorem d_LW_law_709 : decode code 709 = .ok (.iconst 1, 1) := by decide +kernel
theorem d_LW_law_710 : decode code 710 = .ok (.iadd, 1) := by decide +kernel
theorem d_LW_law_711 : decode code 711 = .ok (.iaload, 1) := by decide +kernel
theorem d_LW_law_712 : decode code 712 = .ok (.aload_n 0, 1) := by decide +kernel
theorem d_LW_law_713 : decode code 713 = .ok (.iload_n 3, 1) := by decide +kernel
theorem d_LW_law_714 : decode code 714 = .ok (.iconst 2, 1) := by decide +kernel
theorem d_LW_law_715 : decode code 715 = .ok (.iadd, 1) := by decide +kernel
theorem d_LW_law_716 : decode code 716 = .ok (.iaload, 1) := by decide +kernel
theorem d_LW_law_717 : decode code 717 = .ok (.i2l, 1) := by decide +kernel
theorem d_LW_law_718 : decode code 718 = .ok (.bipush 32, 2) := by decide +kernel
theorem d_LW_law_720 : decode code 720 = .ok (.lshl, 1) := by decide +kernel
theorem d_LW_law_721 : decode code 721 = .ok (.aload_n 0, 1) := by decide +kernel
theorem d_LW_law_722 : decode code 722 = .ok (.iload_n 3, 1) := by decide +kernel
theorem d_LW_law_723 : decode code 723 = .ok (.iconst 3, 1) := by decide +kernel
theorem d_LW_law_724 : decode code 724 = .ok (.iadd, 1) := by decide +kernel
theorem d_LW_law_725 : decode code 725 = .ok (.iaload, 1) := by decide +kernel
theorem d_LW_law_726 : decode code 726 = .ok (.i2l, 1) := by decide +kernel
theorem d_LW_law_727 : decode code 727 = .ok (.ldc2_w 18, 3) := by decide +kernel
theorem d_LW_law_730 : decode code 730 = .ok (.land, 1) := by decide +kernel
theorem d_LW_law_731 : decode code 731 = .ok (.lor, 1) := by decide +kernel
theorem d_LW_law_732 : decode code 732 = .ok (.invokevirtual 68, 3) := by decide +kernel
theorem d_LW_law_735 : decode code 735 = .ok (.aload_n 2, 1) := by decide +kernel
theorem d_LW_law_736 : decode code 736 = .ok (.aload_n 0, 1) := by decide +kernel
theorem d_LW_law_737 : decode code 737 = .ok (.iload_n 3, 1) := by decide +kernel
theorem d_LW_law_738 : decode code 738 = .ok (.iconst 1, 1) := by decide +kernel
theorem d_LW_law_739 : decode code 739 = .ok (.iadd, 1) := by decide +kernel
theorem d_LW_law_740 : decode code 740 = .ok (.iaload, 1) := by decide +kernel
theorem d_LW_law_741 : decode code 741 = .ok (.aload_n 0, 1) := by decide +kernel
theorem d_LW_law_742 : decode code 742 = .ok (.iload_n 3, 1) := by decide +kernel
theorem d_LW_law_743 : decode code 743 = .ok (.iconst 2, 1) := by decide +kernel
theorem d_LW_law_744 : decode code 744 = .ok (.iadd, 1) := by decide +kernel
theorem d_LW_law_745 : decode code 745 = .ok (.iaload, 1) := by decide +kernel
theorem d_LW_law_746 : decode code 746 = .ok (.i2l, 1) := by decide +kernel
theorem d_LW_law_747 : decode code 747 = .ok (.bipush 32, 2) := by decide +kernel
theorem d_LW_law_749 : decode code 749 = .ok (.lshl, 1) := by decide +kernel
theorem d_LW_law_750 : decode code 750 = .ok (.aload_n 0, 1) := by decide +kernel
theorem d_LW_law_751 : decode code 751 = .ok (.iload_n 3, 1) := by decide +kernel
theorem d_LW_law_752 : decode code 752 = .ok (.iconst 3, 1) := by decide +kernel
theorem d_LW_law_753 : decode code 753 = .ok (.iadd, 1) := by decide +kernel
theorem d_LW_law_754 : decode code 754 = .ok (.iaload, 1) := by decide +kernel
theorem d_LW_law_755 : decode code 755 = .ok (.i2l, 1) := by decide +kernel
theorem d_LW_law_756 : decode code 756 = .ok (.ldc2_w 18, 3) := by decide +kernel
theorem d_LW_law_759 : decode code 759 = .ok (.land, 1) := by decide +kernel
theorem d_LW_law_760 : decode code 760 = .ok (.lor, 1) := by decide +kernel
theorem d_LW_law_761 : decode code 761 = .ok (.invokevirtual 71, 3) := by decide +kernel
theorem d_LW_law_764 : decode code 764 = .ok (.if_icmp .eq 98, 3) := by decide +kernel
theorem d_LW_law_767 : decode code 767 = .ok (.iconst 0, 1) := by decide +kernel
theorem d_LW_law_768 : decode code 768 = .ok (.ireturn, 1) := by decide +kernel
theorem d_LW_law_769 : decode code 769 = .ok (.aload_n 1, 1) := by decide +kernel
theorem d_LW_law_770 : decode code 770 = .ok (.aload_n 0, 1) := by decide +kernel
theorem d_LW_law_771 : decode code 771 = .ok (.iload_n 3, 1) := by decide +kernel
theorem d_LW_law_772 : decode code 772 = .ok (.iconst 1, 1) := by decide +kernel
theorem d_LW_law_773 : decode code 773 = .ok (.iadd, 1) := by decide +kernel
theorem d_LW_law_774 : decode code 774 = .ok (.iaload, 1) := by decide +kernel
theorem d_LW_law_775 : decode code 775 = .ok (.aload_n 0, 1) := by decide +kernel
theorem d_LW_law_776 : decode code 776 = .ok (.iload_n 3, 1) := by decide +kernel
theorem d_LW_law_777 : decode code 777 = .ok (.iconst 2, 1) := by decide +kernel
theorem d_LW_law_778 : decode code 778 = .ok (.iadd, 1) := by decide +kernel
theorem d_LW_law_779 : decode code 779 = .ok (.iaload, 1) := by decide +kernel
theorem d_LW_law_780 : decode code 780 = .ok (.invokevirtual 72, 3) := by decide +kernel
theorem d_LW_law_783 : decode code 783 = .ok (.aload_n 2, 1) := by decide +kernel
theorem d_LW_law_784 : decode code 784 = .ok (.aload_n 0, 1) := by decide +kernel
theorem d_LW_law_785 : decode code 785 = .ok (.iload_n 3, 1) := by decide +kernel
theorem d_LW_law_786 : decode code 786 = .ok (.iconst 1, 1) := by decide +kernel
theorem d_LW_law_787 : decode code 787 = .ok (.iadd, 1) := by decide +kernel
theorem d_LW_law_788 : decode code 788 = .ok (.iaload, 1) := by decide +kernel
theorem d_LW_law_789 : decode code 789 = .ok (.aload_n 0, 1) := by decide +kernel
theorem d_LW_law_790 : decode code 790 = .ok (.iload_n 3, 1) := by decide +kernel
theorem d_LW_law_791 : decode code 791 = .ok (.iconst 2, 1) := by decide +kernel
theorem d_LW_law_792 : decode code 792 = .ok (.iadd, 1) := by decide +kernel
theorem d_LW_law_793 : decode code 793 = .ok (.iaload, 1) := by decide +kernel
theorem d_LW_law_794 : decode code 794 = .ok (.invokevirtual 76, 3) := by decide +kernel
theorem d_LW_law_797 : decode code 797 = .ok (.lcmp, 1) := by decide +kernel
theorem d_LW_law_798 : decode code 798 = .ok (.ifCond .eq 64, 3) := by decide +kernel
theorem d_LW_law_801 : decode code 801 = .ok (.iconst 0, 1) := by decide +kernel
theorem d_LW_law_802 : decode code 802 = .ok (.ireturn, 1) := by decide +kernel
theorem d_LW_law_803 : decode code 803 = .ok (.aload_n 1, 1) := by decide +kernel
theorem d_LW_law_804 : decode code 804 = .ok (.aload_n 0, 1) := by decide +kernel
theorem d_LW_law_805 : decode code 805 = .ok (.iload_n 3, 1) := by decide +kernel
theorem d_LW_law_806 : decode code 806 = .ok (.iconst 1, 1) := by decide +kernel
theorem d_LW_law_807 : decode code 807 = .ok (.iadd, 1) := by decide +kernel
theorem d_LW_law_808 : decode code 808 = .ok (.iaload, 1) := by decide +kernel
theorem d_LW_law_809 : decode code 809 = .ok (.invokevirtual 77, 3) := by decide +kernel
theorem d_LW_law_812 : decode code 812 = .ok (.aload_n 2, 1) := by decide +kernel
theorem d_LW_law_813 : decode code 813 = .ok (.aload_n 0, 1) := by decide +kernel
theorem d_LW_law_814 : decode code 814 = .ok (.iload_n 3, 1) := by decide +kernel
theorem d_LW_law_815 : decode code 815 = .ok (.iconst 1, 1) := by decide +kernel
theorem d_LW_law_816 : decode code 816 = .ok (.iadd, 1) := by decide +kernel
theorem d_LW_law_817 : decode code 817 = .ok (.iaload, 1) := by decide +kernel
theorem d_LW_law_818 : decode code 818 = .ok (.invokevirtual 80, 3) := by decide +kernel
theorem d_LW_law_821 : decode code 821 = .ok (.if_icmp .eq 41, 3) := by decide +kernel
theorem d_LW_law_824 : decode code 824 = .ok (.iconst 0, 1) := by decide +kernel
theorem d_LW_law_825 : decode code 825 = .ok (.ireturn, 1) := by decide +kernel
theorem d_LW_law_826 : decode code 826 = .ok (.aload_n 1, 1) := by decide +kernel
theorem d_LW_law_827 : decode code 827 = .ok (.aload_n 0, 1) := by decide +kernel
theorem d_LW_law_828 : decode code 828 = .ok (.iload_n 3, 1) := by decide +kernel
theorem d_LW_law_829 : decode code 829 = .ok (.iconst 1, 1) := by decide +kernel
theorem d_LW_law_830 : decode code 830 = .ok (.iadd, 1) := by decide +kernel
theorem d_LW_law_831 : decode code 831 = .ok (.iaload, 1) := by decide +kernel
theorem d_LW_law_832 : decode code 832 = .ok (.invokevirtual 81, 3) := by decide +kernel
theorem d_LW_law_835 : decode code 835 = .ok (.aload_n 2, 1) := by decide +kernel
theorem d_LW_law_836 : decode code 836 = .ok (.aload_n 0, 1) := by decide +kernel
theorem d_LW_law_837 : decode code 837 = .ok (.iload_n 3, 1) := by decide +kernel
theorem d_LW_law_838 : decode code 838 = .ok (.iconst 1, 1) := by decide +kernel
theorem d_LW_law_839 : decode code 839 = .ok (.iadd, 1) := by decide +kernel
theorem d_LW_law_840 : decode code 840 = .ok (.iaload, 1) := by decide +kernel
theorem d_LW_law_841 : decode code 841 = .ok (.invokevirtual 84, 3) := by decide +kernel
theorem d_LW_law_844 : decode code 844 = .ok (.if_icmp .eq 18, 3) := by decide +kernel
theorem d_LW_law_847 : decode code 847 = .ok (.iconst 0, 1) := by decide +kernel
theorem d_LW_law_848 : decode code 848 = .ok (.ireturn, 1) := by decide +kernel
theorem d_LW_law_849 : decode code 849 = .ok (.aload_n 1, 1) := by decide +kernel
theorem d_LW_law_850 : decode code 850 = .ok (.invokevirtual 85, 3) := by decide +kernel
theorem d_LW_law_853 : decode code 853 = .ok (.aload_n 2, 1) := by decide +kernel
theorem d_LW_law_854 : decode code 854 = .ok (.invokevirtual 89, 3) := by decide +kernel
theorem d_LW_law_857 : decode code 857 = .ok (.if_icmp .eq 5, 3) := by decide +kernel
theorem d_LW_law_860 : decode code 860 = .ok (.iconst 0, 1) := by decide +kernel
theorem d_LW_law_861 : decode code 861 = .ok (.ireturn, 1) := by decide +kernel
theorem d_LW_law_862 : decode code 862 = .ok (.iinc 3 7, 3) := by decide +kernel
theorem d_LW_law_865 : decode code 865 = .ok (.goto (-847), 3) := by decide +kernel
theorem d_LW_law_868 : decode code 868 = .ok (.iconst 1, 1) := by decide +kernel
theorem d_LW_law_869 : decode code 869 = .ok (.ireturn, 1) := by decide +kernel
