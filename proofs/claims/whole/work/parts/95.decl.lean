/-! decode rows of the law's method, written by gen/m_dl.py -/
theorem d_La_law_0 : decode Y_La_law.2.2.1 0 = .ok (.new 8, 3) := by decide +kernel
theorem d_La_law_3 : decode Y_La_law.2.2.1 3 = .ok (.dup, 1) := by decide +kernel
theorem d_La_law_4 : decode Y_La_law.2.2.1 4 = .ok (.aload_n 0, 1) := by decide +kernel
theorem d_La_law_5 : decode Y_La_law.2.2.1 5 = .ok (.iconst 0, 1) := by decide +kernel
theorem d_La_law_6 : decode Y_La_law.2.2.1 6 = .ok (.invokestatic 73, 3) := by decide +kernel
theorem d_La_law_9 : decode Y_La_law.2.2.1 9 = .ok (.invokespecial 79, 3) := by decide +kernel
theorem d_La_law_12 : decode Y_La_law.2.2.1 12 = .ok (.astore_n 1, 1) := by decide +kernel
theorem d_La_law_13 : decode Y_La_law.2.2.1 13 = .ok (.new 82, 3) := by decide +kernel
theorem d_La_law_16 : decode Y_La_law.2.2.1 16 = .ok (.dup, 1) := by decide +kernel
theorem d_La_law_17 : decode Y_La_law.2.2.1 17 = .ok (.aload_n 0, 1) := by decide +kernel
theorem d_La_law_18 : decode Y_La_law.2.2.1 18 = .ok (.iconst 0, 1) := by decide +kernel
theorem d_La_law_19 : decode Y_La_law.2.2.1 19 = .ok (.invokestatic 73, 3) := by decide +kernel
theorem d_La_law_22 : decode Y_La_law.2.2.1 22 = .ok (.invokespecial 84, 3) := by decide +kernel
theorem d_La_law_25 : decode Y_La_law.2.2.1 25 = .ok (.astore_n 2, 1) := by decide +kernel
theorem d_La_law_26 : decode Y_La_law.2.2.1 26 = .ok (.iconst 1, 1) := by decide +kernel
theorem d_La_law_27 : decode Y_La_law.2.2.1 27 = .ok (.newarray .long, 2) := by decide +kernel
theorem d_La_law_29 : decode Y_La_law.2.2.1 29 = .ok (.astore_n 3, 1) := by decide +kernel
theorem d_La_law_30 : decode Y_La_law.2.2.1 30 = .ok (.iconst 1, 1) := by decide +kernel
theorem d_La_law_31 : decode Y_La_law.2.2.1 31 = .ok (.istore 4, 2) := by decide +kernel
theorem d_La_law_33 : decode Y_La_law.2.2.1 33 = .ok (.iload 4, 2) := by decide +kernel
theorem d_La_law_35 : decode Y_La_law.2.2.1 35 = .ok (.aload_n 0, 1) := by decide +kernel
theorem d_La_law_36 : decode Y_La_law.2.2.1 36 = .ok (.arraylength, 1) := by decide +kernel
theorem d_La_law_37 : decode Y_La_law.2.2.1 37 = .ok (.bipush 6, 2) := by decide +kernel
theorem d_La_law_39 : decode Y_La_law.2.2.1 39 = .ok (.isub, 1) := by decide +kernel
theorem d_La_law_40 : decode Y_La_law.2.2.1 40 = .ok (.if_icmp .gt 1250, 3) := by decide +kernel
theorem d_La_law_43 : decode Y_La_law.2.2.1 43 = .ok (.aload_n 0, 1) := by decide +kernel
theorem d_La_law_44 : decode Y_La_law.2.2.1 44 = .ok (.iload 4, 2) := by decide +kernel
theorem d_La_law_46 : decode Y_La_law.2.2.1 46 = .ok (.iaload, 1) := by decide +kernel
theorem d_La_law_47 : decode Y_La_law.2.2.1 47 = .ok (.bipush 31, 2) := by decide +kernel
theorem d_La_law_49 : decode Y_La_law.2.2.1 49 = .ok (.iand, 1) := by decide +kernel
theorem d_La_law_50 : decode Y_La_law.2.2.1 50 = .ok (.tableswitch 1234 0 18 #[90, 138, 194, 238, 318, 366, 446, 502, 515, 583, 651, 719, 787, 898, 954, 1029, 1085, 1141, 1221], 90) := by decide +kernel
theorem d_La_law_140 : decode Y_La_law.2.2.1 140 = .ok (.aload_n 1, 1) := by decide +kernel
theorem d_La_law_141 : decode Y_La_law.2.2.1 141 = .ok (.aload_n 0, 1) := by decide +kernel
theorem d_La_law_142 : decode Y_La_law.2.2.1 142 = .ok (.iload 4, 2) := by decide +kernel
theorem d_La_law_144 : decode Y_La_law.2.2.1 144 = .ok (.iconst 1, 1) := by decide +kernel
theorem d_La_law_145 : decode Y_La_law.2.2.1 145 = .ok (.iadd, 1) := by decide +kernel
theorem d_La_law_146 : decode Y_La_law.2.2.1 146 = .ok (.iaload, 1) := by decide +kernel
theorem d_La_law_147 : decode Y_La_law.2.2.1 147 = .ok (.aload_n 0, 1) := by decide +kernel
theorem d_La_law_148 : decode Y_La_law.2.2.1 148 = .ok (.iload 4, 2) := by decide +kernel
theorem d_La_law_150 : decode Y_La_law.2.2.1 150 = .ok (.iconst 2, 1) := by decide +kernel
theorem d_La_law_151 : decode Y_La_law.2.2.1 151 = .ok (.iadd, 1) := by decide +kernel
theorem d_La_law_152 : decode Y_La_law.2.2.1 152 = .ok (.iaload, 1) := by decide +kernel
theorem d_La_law_153 : decode Y_La_law.2.2.1 153 = .ok (.invokestatic 85, 3) := by decide +kernel
theorem d_La_law_156 : decode Y_La_law.2.2.1 156 = .ok (.istore 5, 2) := by decide +kernel
theorem d_La_law_158 : decode Y_La_law.2.2.1 158 = .ok (.aload_n 2, 1) := by decide +kernel
theorem d_La_law_159 : decode Y_La_law.2.2.1 159 = .ok (.aload_n 0, 1) := by decide +kernel
theorem d_La_law_160 : decode Y_La_law.2.2.1 160 = .ok (.iload 4, 2) := by decide +kernel
theorem d_La_law_162 : decode Y_La_law.2.2.1 162 = .ok (.iconst 1, 1) := by decide +kernel
theorem d_La_law_163 : decode Y_La_law.2.2.1 163 = .ok (.iadd, 1) := by decide +kernel
theorem d_La_law_164 : decode Y_La_law.2.2.1 164 = .ok (.iaload, 1) := by decide +kernel
theorem d_La_law_165 : decode Y_La_law.2.2.1 165 = .ok (.aload_n 0, 1) := by decide +kernel
theorem d_La_law_166 : decode Y_La_law.2.2.1 166 = .ok (.iload 4, 2) := by decide +kernel
theorem d_La_law_168 : decode Y_La_law.2.2.1 168 = .ok (.iconst 2, 1) := by decide +kernel
theorem d_La_law_169 : decode Y_La_law.2.2.1 169 = .ok (.iadd, 1) := by decide +kernel
theorem d_La_law_170 : decode Y_La_law.2.2.1 170 = .ok (.iaload, 1) := by decide +kernel
theorem d_La_law_171 : decode Y_La_law.2.2.1 171 = .ok (.invokevirtual 88, 3) := by decide +kernel
theorem d_La_law_174 : decode Y_La_law.2.2.1 174 = .ok (.aload_n 2, 1) := by decide +kernel
theorem d_La_law_175 : decode Y_La_law.2.2.1 175 = .ok (.invokevirtual 89, 3) := by decide +kernel
theorem d_La_law_178 : decode Y_La_law.2.2.1 178 = .ok (.iload 5, 2) := by decide +kernel
theorem d_La_law_180 : decode Y_La_law.2.2.1 180 = .ok (.if_icmp .eq 5, 3) := by decide +kernel
theorem d_La_law_183 : decode Y_La_law.2.2.1 183 = .ok (.iconst 0, 1) := by decide +kernel
theorem d_La_law_184 : decode Y_La_law.2.2.1 184 = .ok (.ireturn, 1) := by decide +kernel
theorem d_La_law_185 : decode Y_La_law.2.2.1 185 = .ok (.goto 1099, 3) := by decide +kernel
theorem d_La_law_188 : decode Y_La_law.2.2.1 188 = .ok (.aload_n 1, 1) := by decide +kernel
theorem d_La_law_189 : decode Y_La_law.2.2.1 189 = .ok (.aload_n 0, 1) := by decide +kernel
theorem d_La_law_190 : decode Y_La_law.2.2.1 190 = .ok (.iload 4, 2) := by decide +kernel
theorem d_La_law_192 : decode Y_La_law.2.2.1 192 = .ok (.iconst 1, 1) := by decide +kernel
theorem d_La_law_193 : decode Y_La_law.2.2.1 193 = .ok (.iadd, 1) := by decide +kernel
theorem d_La_law_194 : decode Y_La_law.2.2.1 194 = .ok (.iaload, 1) := by decide +kernel
theorem d_La_law_195 : decode Y_La_law.2.2.1 195 = .ok (.aload_n 3, 1) := by decide +kernel
theorem d_La_law_196 : decode Y_La_law.2.2.1 196 = .ok (.invokestatic 92, 3) := by decide +kernel
theorem d_La_law_199 : decode Y_La_law.2.2.1 199 = .ok (.istore 5, 2) := by decide +kernel
theorem d_La_law_201 : decode Y_La_law.2.2.1 201 = .ok (.aload_n 2, 1) := by decide +kernel
theorem d_La_law_202 : decode Y_La_law.2.2.1 202 = .ok (.aload_n 0, 1) := by decide +kernel
theorem d_La_law_203 : decode Y_La_law.2.2.1 203 = .ok (.iload 4, 2) := by decide +kernel
theorem d_La_law_205 : decode Y_La_law.2.2.1 205 = .ok (.iconst 1, 1) := by decide +kernel
theorem d_La_law_206 : decode Y_La_law.2.2.1 206 = .ok (.iadd, 1) := by decide +kernel
theorem d_La_law_207 : decode Y_La_law.2.2.1 207 = .ok (.iaload, 1) := by decide +kernel
theorem d_La_law_208 : decode Y_La_law.2.2.1 208 = .ok (.invokevirtual 95, 3) := by decide +kernel
theorem d_La_law_211 : decode Y_La_law.2.2.1 211 = .ok (.istore 6, 2) := by decide +kernel
theorem d_La_law_213 : decode Y_La_law.2.2.1 213 = .ok (.aload_n 2, 1) := by decide +kernel
theorem d_La_law_214 : decode Y_La_law.2.2.1 214 = .ok (.invokevirtual 89, 3) := by decide +kernel
theorem d_La_law_217 : decode Y_La_law.2.2.1 217 = .ok (.iload 5, 2) := by decide +kernel
theorem d_La_law_219 : decode Y_La_law.2.2.1 219 = .ok (.if_icmp .eq 5, 3) := by decide +kernel
theorem d_La_law_222 : decode Y_La_law.2.2.1 222 = .ok (.iconst 0, 1) := by decide +kernel
theorem d_La_law_223 : decode Y_La_law.2.2.1 223 = .ok (.ireturn, 1) := by decide +kernel
theorem d_La_law_224 : decode Y_La_law.2.2.1 224 = .ok (.iload 5, 2) := by decide +kernel
theorem d_La_law_226 : decode Y_La_law.2.2.1 226 = .ok (.ifCond .ne 15, 3) := by decide +kernel
theorem d_La_law_229 : decode Y_La_law.2.2.1 229 = .ok (.aload_n 3, 1) := by decide +kernel
theorem d_La_law_230 : decode Y_La_law.2.2.1 230 = .ok (.iconst 0, 1) := by decide +kernel
theorem d_La_law_231 : decode Y_La_law.2.2.1 231 = .ok (.laload, 1) := by decide +kernel
theorem d_La_law_232 : decode Y_La_law.2.2.1 232 = .ok (.iload 6, 2) := by decide +kernel
theorem d_La_law_234 : decode Y_La_law.2.2.1 234 = .ok (.i2l, 1) := by decide +kernel
theorem d_La_law_235 : decode Y_La_law.2.2.1 235 = .ok (.lcmp, 1) := by decide +kernel
theorem d_La_law_236 : decode Y_La_law.2.2.1 236 = .ok (.ifCond .eq 5, 3) := by decide +kernel
theorem d_La_law_239 : decode Y_La_law.2.2.1 239 = .ok (.iconst 0, 1) := by decide +kernel
theorem d_La_law_240 : decode Y_La_law.2.2.1 240 = .ok (.ireturn, 1) := by decide +kernel
theorem d_La_law_241 : decode Y_La_law.2.2.1 241 = .ok (.goto 1043, 3) := by decide +kernel
theorem d_La_law_244 : decode Y_La_law.2.2.1 244 = .ok (.aload_n 1, 1) := by decide +kernel
theorem d_La_law_245 : decode Y_La_law.2.2.1 245 = .ok (.aload_n 3, 1) := by decide +kernel
theorem d_La_law_246 : decode Y_La_law.2.2.1 246 = .ok (.invokestatic 96, 3) := by decide +kernel
theorem d_La_law_249 : decode Y_La_law.2.2.1 249 = .ok (.istore 5, 2) := by decide +kernel
theorem d_La_law_251 : decode Y_La_law.2.2.1 251 = .ok (.aload_n 2, 1) := by decide +kernel
theorem d_La_law_252 : decode Y_La_law.2.2.1 252 = .ok (.invokevirtual 99, 3) := by decide +kernel
theorem d_La_law_255 : decode Y_La_law.2.2.1 255 = .ok (.istore 6, 2) := by decide +kernel
theorem d_La_law_257 : decode Y_La_law.2.2.1 257 = .ok (.aload_n 2, 1) := by decide +kernel
theorem d_La_law_258 : decode Y_La_law.2.2.1 258 = .ok (.invokevirtual 89, 3) := by decide +kernel
theorem d_La_law_261 : decode Y_La_law.2.2.1 261 = .ok (.iload 5, 2) := by decide +kernel
theorem d_La_law_263 : decode Y_La_law.2.2.1 263 = .ok (.if_icmp .eq 5, 3) := by decide +kernel
theorem d_La_law_266 : decode Y_La_law.2.2.1 266 = .ok (.iconst 0, 1) := by decide +kernel
theorem d_La_law_267 : decode Y_La_law.2.2.1 267 = .ok (.ireturn, 1) := by decide +kernel
theorem d_La_law_268 : decode Y_La_law.2.2.1 268 = .ok (.iload 5, 2) := by decide +kernel
theorem d_La_law_270 : decode Y_La_law.2.2.1 270 = .ok (.ifCond .ne 15, 3) := by decide +kernel
theorem d_La_law_273 : decode Y_La_law.2.2.1 273 = .ok (.aload_n 3, 1) := by decide +kernel
theorem d_La_law_274 : decode Y_La_law.2.2.1 274 = .ok (.iconst 0, 1) := by decide +kernel
theorem d_La_law_275 : decode Y_La_law.2.2.1 275 = .ok (.laload, 1) := by decide +kernel
theorem d_La_law_276 : decode Y_La_law.2.2.1 276 = .ok (.iload 6, 2) := by decide +kernel
theorem d_La_law_278 : decode Y_La_law.2.2.1 278 = .ok (.i2l, 1) := by decide +kernel
theorem d_La_law_279 : decode Y_La_law.2.2.1 279 = .ok (.lcmp, 1) := by decide +kernel
theorem d_La_law_280 : decode Y_La_law.2.2.1 280 = .ok (.ifCond .eq 5, 3) := by decide +kernel
theorem d_La_law_283 : decode Y_La_law.2.2.1 283 = .ok (.iconst 0, 1) := by decide +kernel
theorem d_La_law_284 : decode Y_La_law.2.2.1 284 = .ok (.ireturn, 1) := by decide +kernel
theorem d_La_law_285 : decode Y_La_law.2.2.1 285 = .ok (.goto 999, 3) := by decide +kernel
theorem d_La_law_288 : decode Y_La_law.2.2.1 288 = .ok (.aload_n 1, 1) := by decide +kernel
theorem d_La_law_289 : decode Y_La_law.2.2.1 289 = .ok (.aload_n 0, 1) := by decide +kernel
theorem d_La_law_290 : decode Y_La_law.2.2.1 290 = .ok (.iload 4, 2) := by decide +kernel
theorem d_La_law_292 : decode Y_La_law.2.2.1 292 = .ok (.iconst 1, 1) := by decide +kernel
theorem d_La_law_293 : decode Y_La_law.2.2.1 293 = .ok (.iadd, 1) := by decide +kernel
theorem d_La_law_294 : decode Y_La_law.2.2.1 294 = .ok (.iaload, 1) := by decide +kernel
theorem d_La_law_295 : decode Y_La_law.2.2.1 295 = .ok (.aload_n 0, 1) := by decide +kernel
theorem d_La_law_296 : decode Y_La_law.2.2.1 296 = .ok (.iload 4, 2) := by decide +kernel
theorem d_La_law_298 : decode Y_La_law.2.2.1 298 = .ok (.iconst 2, 1) := by decide +kernel
theorem d_La_law_299 : decode Y_La_law.2.2.1 299 = .ok (.iadd, 1) := by decide +kernel
theorem d_La_law_300 : decode Y_La_law.2.2.1 300 = .ok (.iaload, 1) := by decide +kernel
theorem d_La_law_301 : decode Y_La_law.2.2.1 301 = .ok (.aload_n 0, 1) := by decide +kernel
theorem d_La_law_302 : decode Y_La_law.2.2.1 302 = .ok (.iload 4, 2) := by decide +kernel
theorem d_La_law_304 : decode Y_La_law.2.2.1 304 = .ok (.iconst 3, 1) := by decide +kernel
theorem d_La_law_305 : decode Y_La_law.2.2.1 305 = .ok (.iadd, 1) := by decide +kernel
theorem d_La_law_306 : decode Y_La_law.2.2.1 306 = .ok (.iaload, 1) := by decide +kernel
theorem d_La_law_307 : decode Y_La_law.2.2.1 307 = .ok (.aload_n 3, 1) := by decide +kernel
theorem d_La_law_308 : decode Y_La_law.2.2.1 308 = .ok (.invokestatic 100, 3) := by decide +kernel
theorem d_La_law_311 : decode Y_La_law.2.2.1 311 = .ok (.istore 5, 2) := by decide +kernel
theorem d_La_law_313 : decode Y_La_law.2.2.1 313 = .ok (.aload_n 2, 1) := by decide +kernel
theorem d_La_law_314 : decode Y_La_law.2.2.1 314 = .ok (.aload_n 0, 1) := by decide +kernel
theorem d_La_law_315 : decode Y_La_law.2.2.1 315 = .ok (.iload 4, 2) := by decide +kernel
theorem d_La_law_317 : decode Y_La_law.2.2.1 317 = .ok (.iconst 1, 1) := by decide +kernel
theorem d_La_law_318 : decode Y_La_law.2.2.1 318 = .ok (.iadd, 1) := by decide +kernel
theorem d_La_law_319 : decode Y_La_law.2.2.1 319 = .ok (.iaload, 1) := by decide +kernel
theorem d_La_law_320 : decode Y_La_law.2.2.1 320 = .ok (.aload_n 0, 1) := by decide +kernel
theorem d_La_law_321 : decode Y_La_law.2.2.1 321 = .ok (.iload 4, 2) := by decide +kernel
theorem d_La_law_323 : decode Y_La_law.2.2.1 323 = .ok (.iconst 2, 1) := by decide +kernel
theorem d_La_law_324 : decode Y_La_law.2.2.1 324 = .ok (.iadd, 1) := by decide +kernel
theorem d_La_law_325 : decode Y_La_law.2.2.1 325 = .ok (.iaload, 1) := by decide +kernel
theorem d_La_law_326 : decode Y_La_law.2.2.1 326 = .ok (.aload_n 0, 1) := by decide +kernel
theorem d_La_law_327 : decode Y_La_law.2.2.1 327 = .ok (.iload 4, 2) := by decide +kernel
theorem d_La_law_329 : decode Y_La_law.2.2.1 329 = .ok (.iconst 3, 1) := by decide +kernel
theorem d_La_law_330 : decode Y_La_law.2.2.1 330 = .ok (.iadd, 1) := by decide +kernel
theorem d_La_law_331 : decode Y_La_law.2.2.1 331 = .ok (.iaload, 1) := by decide +kernel
theorem d_La_law_332 : decode Y_La_law.2.2.1 332 = .ok (.invokevirtual 103, 3) := by decide +kernel
theorem d_La_law_335 : decode Y_La_law.2.2.1 335 = .ok (.istore 6, 2) := by decide +kernel
theorem d_La_law_337 : decode Y_La_law.2.2.1 337 = .ok (.aload_n 2, 1) := by decide +kernel
theorem d_La_law_338 : decode Y_La_law.2.2.1 338 = .ok (.invokevirtual 89, 3) := by decide +kernel
theorem d_La_law_341 : decode Y_La_law.2.2.1 341 = .ok (.iload 5, 2) := by decide +kernel
theorem d_La_law_343 : decode Y_La_law.2.2.1 343 = .ok (.if_icmp .eq 5, 3) := by decide +kernel
theorem d_La_law_346 : decode Y_La_law.2.2.1 346 = .ok (.iconst 0, 1) := by decide +kernel
theorem d_La_law_347 : decode Y_La_law.2.2.1 347 = .ok (.ireturn, 1) := by decide +kernel
theorem d_La_law_348 : decode Y_La_law.2.2.1 348 = .ok (.iload 5, 2) := by decide +kernel
theorem d_La_law_350 : decode Y_La_law.2.2.1 350 = .ok (.ifCond .ne 15, 3) := by decide +kernel
theorem d_La_law_353 : decode Y_La_law.2.2.1 353 = .ok (.aload_n 3, 1) := by decide +kernel
theorem d_La_law_354 : decode Y_La_law.2.2.1 354 = .ok (.iconst 0, 1) := by decide +kernel
theorem d_La_law_355 : decode Y_La_law.2.2.1 355 = .ok (.laload, 1) := by decide +kernel
theorem d_La_law_356 : decode Y_La_law.2.2.1 356 = .ok (.iload 6, 2) := by decide +kernel
theorem d_La_law_358 : decode Y_La_law.2.2.1 358 = .ok (.i2l, 1) := by decide +kernel
theorem d_La_law_359 : decode Y_La_law.2.2.1 359 = .ok (.lcmp, 1) := by decide +kernel
theorem d_La_law_360 : decode Y_La_law.2.2.1 360 = .ok (.ifCond .eq 5, 3) := by decide +kernel
theorem d_La_law_363 : decode Y_La_law.2.2.1 363 = .ok (.iconst 0, 1) := by decide +kernel
theorem d_La_law_364 : decode Y_La_law.2.2.1 364 = .ok (.ireturn, 1) := by decide +kernel
theorem d_La_law_365 : decode Y_La_law.2.2.1 365 = .ok (.goto 919, 3) := by decide +kernel
theorem d_La_law_368 : decode Y_La_law.2.2.1 368 = .ok (.aload_n 1, 1) := by decide +kernel
theorem d_La_law_369 : decode Y_La_law.2.2.1 369 = .ok (.aload_n 0, 1) := by decide +kernel
theorem d_La_law_370 : decode Y_La_law.2.2.1 370 = .ok (.iload 4, 2) := by decide +kernel
theorem d_La_law_372 : decode Y_La_law.2.2.1 372 = .ok (.iconst 1, 1) := by decide +kernel
theorem d_La_law_373 : decode Y_La_law.2.2.1 373 = .ok (.iadd, 1) := by decide +kernel
theorem d_La_law_374 : decode Y_La_law.2.2.1 374 = .ok (.iaload, 1) := by decide +kernel
theorem d_La_law_375 : decode Y_La_law.2.2.1 375 = .ok (.aload_n 0, 1) := by decide +kernel
theorem d_La_law_376 : decode Y_La_law.2.2.1 376 = .ok (.iload 4, 2) := by decide +kernel
theorem d_La_law_378 : decode Y_La_law.2.2.1 378 = .ok (.iconst 2, 1) := by decide +kernel
theorem d_La_law_379 : decode Y_La_law.2.2.1 379 = .ok (.iadd, 1) := by decide +kernel
theorem d_La_law_380 : decode Y_La_law.2.2.1 380 = .ok (.iaload, 1) := by decide +kernel
theorem d_La_law_381 : decode Y_La_law.2.2.1 381 = .ok (.invokestatic 104, 3) := by decide +kernel
theorem d_La_law_384 : decode Y_La_law.2.2.1 384 = .ok (.istore 5, 2) := by decide +kernel
theorem d_La_law_386 : decode Y_La_law.2.2.1 386 = .ok (.aload_n 2, 1) := by decide +kernel
theorem d_La_law_387 : decode Y_La_law.2.2.1 387 = .ok (.aload_n 0, 1) := by decide +kernel
theorem d_La_law_388 : decode Y_La_law.2.2.1 388 = .ok (.iload 4, 2) := by decide +kernel
theorem d_La_law_390 : decode Y_La_law.2.2.1 390 = .ok (.iconst 1, 1) := by decide +kernel
theorem d_La_law_391 : decode Y_La_law.2.2.1 391 = .ok (.iadd, 1) := by decide +kernel
theorem d_La_law_392 : decode Y_La_law.2.2.1 392 = .ok (.iaload, 1) := by decide +kernel
theorem d_La_law_393 : decode Y_La_law.2.2.1 393 = .ok (.aload_n 0, 1) := by decide +kernel
theorem d_La_law_394 : decode Y_La_law.2.2.1 394 = .ok (.iload 4, 2) := by decide +kernel
theorem d_La_law_396 : decode Y_La_law.2.2.1 396 = .ok (.iconst 2, 1) := by decide +kernel
theorem d_La_law_397 : decode Y_La_law.2.2.1 397 = .ok (.iadd, 1) := by decide +kernel
theorem d_La_law_398 : decode Y_La_law.2.2.1 398 = .ok (.iaload, 1) := by decide +kernel
theorem d_La_law_399 : decode Y_La_law.2.2.1 399 = .ok (.invokevirtual 106, 3) := by decide +kernel
theorem d_La_law_402 : decode Y_La_law.2.2.1 402 = .ok (.aload_n 2, 1) := by decide +kernel
theorem d_La_law_403 : decode Y_La_law.2.2.1 403 = .ok (.invokevirtual 89, 3) := by decide +kernel
theorem d_La_law_406 : decode Y_La_law.2.2.1 406 = .ok (.iload 5, 2) := by decide +kernel
theorem d_La_law_408 : decode Y_La_law.2.2.1 408 = .ok (.if_icmp .eq 5, 3) := by decide +kernel
theorem d_La_law_411 : decode Y_La_law.2.2.1 411 = .ok (.iconst 0, 1) := by decide +kernel
theorem d_La_law_412 : decode Y_La_law.2.2.1 412 = .ok (.ireturn, 1) := by decide +kernel
theorem d_La_law_413 : decode Y_La_law.2.2.1 413 = .ok (.goto 871, 3) := by decide +kernel
theorem d_La_law_416 : decode Y_La_law.2.2.1 416 = .ok (.aload_n 1, 1) := by decide +kernel
theorem d_La_law_417 : decode Y_La_law.2.2.1 417 = .ok (.aload_n 0, 1) := by decide +kernel
theorem d_La_law_418 : decode Y_La_law.2.2.1 418 = .ok (.iload 4, 2) := by decide +kernel
theorem d_La_law_420 : decode Y_La_law.2.2.1 420 = .ok (.iconst 1, 1) := by decide +kernel
theorem d_La_law_421 : decode Y_La_law.2.2.1 421 = .ok (.iadd, 1) := by decide +kernel
theorem d_La_law_422 : decode Y_La_law.2.2.1 422 = .ok (.iaload, 1) := by decide +kernel
theorem d_La_law_423 : decode Y_La_law.2.2.1 423 = .ok (.aload_n 0, 1) := by decide +kernel
theorem d_La_law_424 : decode Y_La_law.2.2.1 424 = .ok (.iload 4, 2) := by decide +kernel
theorem d_La_law_426 : decode Y_La_law.2.2.1 426 = .ok (.iconst 2, 1) := by decide +kernel
theorem d_La_law_427 : decode Y_La_law.2.2.1 427 = .ok (.iadd, 1) := by decide +kernel
theorem d_La_law_428 : decode Y_La_law.2.2.1 428 = .ok (.iaload, 1) := by decide +kernel
theorem d_La_law_429 : decode Y_La_law.2.2.1 429 = .ok (.aload_n 0, 1) := by decide +kernel
theorem d_La_law_430 : decode Y_La_law.2.2.1 430 = .ok (.iload 4, 2) := by decide +kernel
theorem d_La_law_432 : decode Y_La_law.2.2.1 432 = .ok (.iconst 3, 1) := by decide +kernel
theorem d_La_law_433 : decode Y_La_law.2.2.1 433 = .ok (.iadd, 1) := by decide +kernel
theorem d_La_law_434 : decode Y_La_law.2.2.1 434 = .ok (.iaload, 1) := by decide +kernel
theorem d_La_law_435 : decode Y_La_law.2.2.1 435 = .ok (.aload_n 3, 1) := by decide +kernel
theorem d_La_law_436 : decode Y_La_law.2.2.1 436 = .ok (.invokestatic 107, 3) := by decide +kernel
theorem d_La_law_439 : decode Y_La_law.2.2.1 439 = .ok (.istore 5, 2) := by decide +kernel
theorem d_La_law_441 : decode Y_La_law.2.2.1 441 = .ok (.aload_n 2, 1) := by decide +kernel
theorem d_La_law_442 : decode Y_La_law.2.2.1 442 = .ok (.aload_n 0, 1) := by decide +kernel
theorem d_La_law_443 : decode Y_La_law.2.2.1 443 = .ok (.iload 4, 2) := by decide +kernel
theorem d_La_law_445 : decode Y_La_law.2.2.1 445 = .ok (.iconst 1, 1) := by decide +kernel
theorem d_La_law_446 : decode Y_La_law.2.2.1 446 = .ok (.iadd, 1) := by decide +kernel
theorem d_La_law_447 : decode Y_La_law.2.2.1 447 = .ok (.iaload, 1) := by decide +kernel
theorem d_La_law_448 : decode Y_La_law.2.2.1 448 = .ok (.aload_n 0, 1) := by decide +kernel
theorem d_La_law_449 : decode Y_La_law.2.2.1 449 = .ok (.iload 4, 2) := by decide +kernel
theorem d_La_law_451 : decode Y_La_law.2.2.1 451 = .ok (.iconst 2, 1) := by decide +kernel
theorem d_La_law_452 : decode Y_La_law.2.2.1 452 = .ok (.iadd, 1) := by decide +kernel
theorem d_La_law_453 : decode Y_La_law.2.2.1 453 = .ok (.iaload, 1) := by decide +kernel
theorem d_La_law_454 : decode Y_La_law.2.2.1 454 = .ok (.aload_n 0, 1) := by decide +kernel
theorem d_La_law_455 : decode Y_La_law.2.2.1 455 = .ok (.iload 4, 2) := by decide +kernel
theorem d_La_law_457 : decode Y_La_law.2.2.1 457 = .ok (.iconst 3, 1) := by decide +kernel
theorem d_La_law_458 : decode Y_La_law.2.2.1 458 = .ok (.iadd, 1) := by decide +kernel
theorem d_La_law_459 : decode Y_La_law.2.2.1 459 = .ok (.iaload, 1) := by decide +kernel
theorem d_La_law_460 : decode Y_La_law.2.2.1 460 = .ok (.invokevirtual 109, 3) := by decide +kernel
theorem d_La_law_463 : decode Y_La_law.2.2.1 463 = .ok (.istore 6, 2) := by decide +kernel
theorem d_La_law_465 : decode Y_La_law.2.2.1 465 = .ok (.aload_n 2, 1) := by decide +kernel
theorem d_La_law_466 : decode Y_La_law.2.2.1 466 = .ok (.invokevirtual 89, 3) := by decide +kernel
theorem d_La_law_469 : decode Y_La_law.2.2.1 469 = .ok (.iload 5, 2) := by decide +kernel
theorem d_La_law_471 : decode Y_La_law.2.2.1 471 = .ok (.if_icmp .eq 5, 3) := by decide +kernel
theorem d_La_law_474 : decode Y_La_law.2.2.1 474 = .ok (.iconst 0, 1) := by decide +kernel
theorem d_La_law_475 : decode Y_La_law.2.2.1 475 = .ok (.ireturn, 1) := by decide +kernel
theorem d_La_law_476 : decode Y_La_law.2.2.1 476 = .ok (.iload 5, 2) := by decide +kernel
theorem d_La_law_478 : decode Y_La_law.2.2.1 478 = .ok (.ifCond .ne 15, 3) := by decide +kernel
theorem d_La_law_481 : decode Y_La_law.2.2.1 481 = .ok (.aload_n 3, 1) := by decide +kernel
theorem d_La_law_482 : decode Y_La_law.2.2.1 482 = .ok (.iconst 0, 1) := by decide +kernel
theorem d_La_law_483 : decode Y_La_law.2.2.1 483 = .ok (.laload, 1) := by decide +kernel
theorem d_La_law_484 : decode Y_La_law.2.2.1 484 = .ok (.iload 6, 2) := by decide +kernel
theorem d_La_law_486 : decode Y_La_law.2.2.1 486 = .ok (.i2l, 1) := by decide +kernel
theorem d_La_law_487 : decode Y_La_law.2.2.1 487 = .ok (.lcmp, 1) := by decide +kernel
theorem d_La_law_488 : decode Y_La_law.2.2.1 488 = .ok (.ifCond .eq 5, 3) := by decide +kernel
theorem d_La_law_491 : decode Y_La_law.2.2.1 491 = .ok (.iconst 0, 1) := by decide +kernel
theorem d_La_law_492 : decode Y_La_law.2.2.1 492 = .ok (.ireturn, 1) := by decide +kernel
theorem d_La_law_493 : decode Y_La_law.2.2.1 493 = .ok (.goto 791, 3) := by decide +kernel
theorem d_La_law_496 : decode Y_La_law.2.2.1 496 = .ok (.aload_n 1, 1) := by decide +kernel
theorem d_La_law_497 : decode Y_La_law.2.2.1 497 = .ok (.aload_n 0, 1) := by decide +kernel
theorem d_La_law_498 : decode Y_La_law.2.2.1 498 = .ok (.iload 4, 2) := by decide +kernel
theorem d_La_law_500 : decode Y_La_law.2.2.1 500 = .ok (.iconst 1, 1) := by decide +kernel
theorem d_La_law_501 : decode Y_La_law.2.2.1 501 = .ok (.iadd, 1) := by decide +kernel
theorem d_La_law_502 : decode Y_La_law.2.2.1 502 = .ok (.iaload, 1) := by decide +kernel
theorem d_La_law_503 : decode Y_La_law.2.2.1 503 = .ok (.aload_n 3, 1) := by decide +kernel
theorem d_La_law_504 : decode Y_La_law.2.2.1 504 = .ok (.invokestatic 110, 3) := by decide +kernel
theorem d_La_law_507 : decode Y_La_law.2.2.1 507 = .ok (.istore 5, 2) := by decide +kernel
theorem d_La_law_509 : decode Y_La_law.2.2.1 509 = .ok (.aload_n 2, 1) := by decide +kernel
theorem d_La_law_510 : decode Y_La_law.2.2.1 510 = .ok (.aload_n 0, 1) := by decide +kernel
theorem d_La_law_511 : decode Y_La_law.2.2.1 511 = .ok (.iload 4, 2) := by decide +kernel
theorem d_La_law_513 : decode Y_La_law.2.2.1 513 = .ok (.iconst 1, 1) := by decide +kernel
theorem d_La_law_514 : decode Y_La_law.2.2.1 514 = .ok (.iadd, 1) := by decide +kernel
theorem d_La_law_515 : decode Y_La_law.2.2.1 515 = .ok (.iaload, 1) := by decide +kernel
theorem d_La_law_516 : decode Y_La_law.2.2.1 516 = .ok (.invokevirtual 112, 3) := by decide +kernel
theorem d_La_law_519 : decode Y_La_law.2.2.1 519 = .ok (.istore 6, 2) := by decide +kernel
theorem d_La_law_521 : decode Y_La_law.2.2.1 521 = .ok (.aload_n 2, 1) := by decide +kernel
theorem d_La_law_522 : decode Y_La_law.2.2.1 522 = .ok (.invokevirtual 89, 3) := by decide +kernel
theorem d_La_law_525 : decode Y_La_law.2.2.1 525 = .ok (.iload 5, 2) := by decide +kernel
theorem d_La_law_527 : decode Y_La_law.2.2.1 527 = .ok (.if_icmp .eq 5, 3) := by decide +kernel
theorem d_La_law_530 : decode Y_La_law.2.2.1 530 = .ok (.iconst 0, 1) := by decide +kernel
theorem d_La_law_531 : decode Y_La_law.2.2.1 531 = .ok (.ireturn, 1) := by decide +kernel
theorem d_La_law_532 : decode Y_La_law.2.2.1 532 = .ok (.iload 5, 2) := by decide +kernel
theorem d_La_law_534 : decode Y_La_law.2.2.1 534 = .ok (.ifCond .ne 15, 3) := by decide +kernel
theorem d_La_law_537 : decode Y_La_law.2.2.1 537 = .ok (.aload_n 3, 1) := by decide +kernel
theorem d_La_law_538 : decode Y_La_law.2.2.1 538 = .ok (.iconst 0, 1) := by decide +kernel
theorem d_La_law_539 : decode Y_La_law.2.2.1 539 = .ok (.laload, 1) := by decide +kernel
theorem d_La_law_540 : decode Y_La_law.2.2.1 540 = .ok (.iload 6, 2) := by decide +kernel
theorem d_La_law_542 : decode Y_La_law.2.2.1 542 = .ok (.i2l, 1) := by decide +kernel
theorem d_La_law_543 : decode Y_La_law.2.2.1 543 = .ok (.lcmp, 1) := by decide +kernel
theorem d_La_law_544 : decode Y_La_law.2.2.1 544 = .ok (.ifCond .eq 5, 3) := by decide +kernel
theorem d_La_law_547 : decode Y_La_law.2.2.1 547 = .ok (.iconst 0, 1) := by decide +kernel
theorem d_La_law_548 : decode Y_La_law.2.2.1 548 = .ok (.ireturn, 1) := by decide +kernel
theorem d_La_law_549 : decode Y_La_law.2.2.1 549 = .ok (.goto 735, 3) := by decide +kernel
theorem d_La_law_552 : decode Y_La_law.2.2.1 552 = .ok (.aload_n 1, 1) := by decide +kernel
theorem d_La_law_553 : decode Y_La_law.2.2.1 553 = .ok (.invokevirtual 113, 3) := by decide +kernel
theorem d_La_law_556 : decode Y_La_law.2.2.1 556 = .ok (.aload_n 2, 1) := by decide +kernel
theorem d_La_law_557 : decode Y_La_law.2.2.1 557 = .ok (.invokevirtual 116, 3) := by decide +kernel
theorem d_La_law_560 : decode Y_La_law.2.2.1 560 = .ok (.if_icmp .eq 724, 3) := by decide +kernel
theorem d_La_law_563 : decode Y_La_law.2.2.1 563 = .ok (.iconst 0, 1) := by decide +kernel
theorem d_La_law_564 : decode Y_La_law.2.2.1 564 = .ok (.ireturn, 1) := by decide +kernel
theorem d_La_law_565 : decode Y_La_law.2.2.1 565 = .ok (.aload_n 1, 1) := by decide +kernel
theorem d_La_law_566 : decode Y_La_law.2.2.1 566 = .ok (.aload_n 0, 1) := by decide +kernel
theorem d_La_law_567 : decode Y_La_law.2.2.1 567 = .ok (.iload 4, 2) := by decide +kernel
theorem d_La_law_569 : decode Y_La_law.2.2.1 569 = .ok (.iconst 1, 1) := by decide +kernel
theorem d_La_law_570 : decode Y_La_law.2.2.1 570 = .ok (.iadd, 1) := by decide +kernel
theorem d_La_law_571 : decode Y_La_law.2.2.1 571 = .ok (.iaload, 1) := by decide +kernel
theorem d_La_law_572 : decode Y_La_law.2.2.1 572 = .ok (.aload_n 0, 1) := by decide +kernel
theorem d_La_law_573 : decode Y_La_law.2.2.1 573 = .ok (.iload 4, 2) := by decide +kernel
theorem d_La_law_575 : decode Y_La_law.2.2.1 575 = .ok (.iconst 2, 1) := by decide +kernel
theorem d_La_law_576 : decode Y_La_law.2.2.1 576 = .ok (.iadd, 1) := by decide +kernel
theorem d_La_law_577 : decode Y_La_law.2.2.1 577 = .ok (.iaload, 1) := by decide +kernel
theorem d_La_law_578 : decode Y_La_law.2.2.1 578 = .ok (.aload_n 3, 1) := by decide +kernel
theorem d_La_law_579 : decode Y_La_law.2.2.1 579 = .ok (.invokestatic 117, 3) := by decide +kernel
theorem d_La_law_582 : decode Y_La_law.2.2.1 582 = .ok (.istore 5, 2) := by decide +kernel
theorem d_La_law_584 : decode Y_La_law.2.2.1 584 = .ok (.aload_n 2, 1) := by decide +kernel
theorem d_La_law_585 : decode Y_La_law.2.2.1 585 = .ok (.aload_n 0, 1) := by decide +kernel
theorem d_La_law_586 : decode Y_La_law.2.2.1 586 = .ok (.iload 4, 2) := by decide +kernel
theorem d_La_law_588 : decode Y_La_law.2.2.1 588 = .ok (.iconst 1, 1) := by decide +kernel
theorem d_La_law_589 : decode Y_La_law.2.2.1 589 = .ok (.iadd, 1) := by decide +kernel
theorem d_La_law_590 : decode Y_La_law.2.2.1 590 = .ok (.iaload, 1) := by decide +kernel
theorem d_La_law_591 : decode Y_La_law.2.2.1 591 = .ok (.aload_n 0, 1) := by decide +kernel
theorem d_La_law_592 : decode Y_La_law.2.2.1 592 = .ok (.iload 4, 2) := by decide +kernel
theorem d_La_law_594 : decode Y_La_law.2.2.1 594 = .ok (.iconst 2, 1) := by decide +kernel
theorem d_La_law_595 : decode Y_La_law.2.2.1 595 = .ok (.iadd, 1) := by decide +kernel
theorem d_La_law_596 : decode Y_La_law.2.2.1 596 = .ok (.iaload, 1) := by decide +kernel
theorem d_La_law_597 : decode Y_La_law.2.2.1 597 = .ok (.invokevirtual 120, 3) := by decide +kernel
theorem d_La_law_600 : decode Y_La_law.2.2.1 600 = .ok (.istore 6, 2) := by decide +kernel
theorem d_La_law_602 : decode Y_La_law.2.2.1 602 = .ok (.aload_n 2, 1) := by decide +kernel
theorem d_La_law_603 : decode Y_La_law.2.2.1 603 = .ok (.invokevirtual 89, 3) := by decide +kernel
theorem d_La_law_606 : decode Y_La_law.2.2.1 606 = .ok (.iload 5, 2) := by decide +kernel
theorem d_La_law_608 : decode Y_La_law.2.2.1 608 = .ok (.if_icmp .eq 5, 3) := by decide +kernel
theorem d_La_law_611 : decode Y_La_law.2.2.1 611 = .ok (.iconst 0, 1) := by decide +kernel
theorem d_La_law_612 : decode Y_La_law.2.2.1 612 = .ok (.ireturn, 1) := by decide +kernel
theorem d_La_law_613 : decode Y_La_law.2.2.1 613 = .ok (.iload 5, 2) := by decide +kernel
theorem d_La_law_615 : decode Y_La_law.2.2.1 615 = .ok (.ifCond .ne 15, 3) := by decide +kernel
theorem d_La_law_618 : decode Y_La_law.2.2.1 618 = .ok (.aload_n 3, 1) := by decide +kernel
theorem d_La_law_619 : decode Y_La_law.2.2.1 619 = .ok (.iconst 0, 1) := by decide +kernel
theorem d_La_law_620 : decode Y_La_law.2.2.1 620 = .ok (.laload, 1) := by decide +kernel
theorem d_La_law_621 : decode Y_La_law.2.2.1 621 = .ok (.iload 6, 2) := by decide +kernel
theorem d_La_law_623 : decode Y_La_law.2.2.1 623 = .ok (.i2l, 1) := by decide +kernel
theorem d_La_law_624 : decode Y_La_law.2.2.1 624 = .ok (.lcmp, 1) := by decide +kernel
theorem d_La_law_625 : decode Y_La_law.2.2.1 625 = .ok (.ifCond .eq 5, 3) := by decide +kernel
theorem d_La_law_628 : decode Y_La_law.2.2.1 628 = .ok (.iconst 0, 1) := by decide +kernel
theorem d_La_law_629 : decode Y_La_law.2.2.1 629 = .ok (.ireturn, 1) := by decide +kernel
theorem d_La_law_630 : decode Y_La_law.2.2.1 630 = .ok (.goto 654, 3) := by decide +kernel
theorem d_La_law_633 : decode Y_La_law.2.2.1 633 = .ok (.aload_n 1, 1) := by decide +kernel
theorem d_La_law_634 : decode Y_La_law.2.2.1 634 = .ok (.aload_n 0, 1) := by decide +kernel
theorem d_La_law_635 : decode Y_La_law.2.2.1 635 = .ok (.iload 4, 2) := by decide +kernel
theorem d_La_law_637 : decode Y_La_law.2.2.1 637 = .ok (.iconst 1, 1) := by decide +kernel
theorem d_La_law_638 : decode Y_La_law.2.2.1 638 = .ok (.iadd, 1) := by decide +kernel
theorem d_La_law_639 : decode Y_La_law.2.2.1 639 = .ok (.iaload, 1) := by decide +kernel
theorem d_La_law_640 : decode Y_La_law.2.2.1 640 = .ok (.aload_n 0, 1) := by decide +kernel
theorem d_La_law_641 : decode Y_La_law.2.2.1 641 = .ok (.iload 4, 2) := by decide +kernel
theorem d_La_law_643 : decode Y_La_law.2.2.1 643 = .ok (.iconst 2, 1) := by decide +kernel
theorem d_La_law_644 : decode Y_La_law.2.2.1 644 = .ok (.iadd, 1) := by decide +kernel
theorem d_La_law_645 : decode Y_La_law.2.2.1 645 = .ok (.iaload, 1) := by decide +kernel
theorem d_La_law_646 : decode Y_La_law.2.2.1 646 = .ok (.aload_n 3, 1) := by decide +kernel
theorem d_La_law_647 : decode Y_La_law.2.2.1 647 = .ok (.invokestatic 121, 3) := by decide +kernel
theorem d_La_law_650 : decode Y_La_law.2.2.1 650 = .ok (.istore 5, 2) := by decide +kernel
theorem d_La_law_652 : decode Y_La_law.2.2.1 652 = .ok (.aload_n 2, 1) := by decide +kernel
theorem d_La_law_653 : decode Y_La_law.2.2.1 653 = .ok (.aload_n 0, 1) := by decide +kernel
theorem d_La_law_654 : decode Y_La_law.2.2.1 654 = .ok (.iload 4, 2) := by decide +kernel
theorem d_La_law_656 : decode Y_La_law.2.2.1 656 = .ok (.iconst 1, 1) := by decide +kernel
theorem d_La_law_657 : decode Y_La_law.2.2.1 657 = .ok (.iadd, 1) := by decide +kernel
theorem d_La_law_658 : decode Y_La_law.2.2.1 658 = .ok (.iaload, 1) := by decide +kernel
theorem d_La_law_659 : decode Y_La_law.2.2.1 659 = .ok (.aload_n 0, 1) := by decide +kernel
theorem d_La_law_660 : decode Y_La_law.2.2.1 660 = .ok (.iload 4, 2) := by decide +kernel
theorem d_La_law_662 : decode Y_La_law.2.2.1 662 = .ok (.iconst 2, 1) := by decide +kernel
theorem d_La_law_663 : decode Y_La_law.2.2.1 663 = .ok (.iadd, 1) := by decide +kernel
theorem d_La_law_664 : decode Y_La_law.2.2.1 664 = .ok (.iaload, 1) := by decide +kernel
theorem d_La_law_665 : decode Y_La_law.2.2.1 665 = .ok (.invokevirtual 123, 3) := by decide +kernel
theorem d_La_law_668 : decode Y_La_law.2.2.1 668 = .ok (.istore 6, 2) := by decide +kernel
theorem d_La_law_670 : decode Y_La_law.2.2.1 670 = .ok (.aload_n 2, 1) := by decide +kernel
theorem d_La_law_671 : decode Y_La_law.2.2.1 671 = .ok (.invokevirtual 89, 3) := by decide +kernel
theorem d_La_law_674 : decode Y_La_law.2.2.1 674 = .ok (.iload 5, 2) := by decide +kernel
theorem d_La_law_676 : decode Y_La_law.2.2.1 676 = .ok (.if_icmp .eq 5, 3) := by decide +kernel
theorem d_La_law_679 : decode Y_La_law.2.2.1 679 = .ok (.iconst 0, 1) := by decide +kernel
theorem d_La_law_680 : decode Y_La_law.2.2.1 680 = .ok (.ireturn, 1) := by decide +kernel
theorem d_La_law_681 : decode Y_La_law.2.2.1 681 = .ok (.iload 5, 2) := by decide +kernel
theorem d_La_law_683 : decode Y_La_law.2.2.1 683 = .ok (.ifCond .ne 15, 3) := by decide +kernel
theorem d_La_law_686 : decode Y_La_law.2.2.1 686 = .ok (.aload_n 3, 1) := by decide +kernel
theorem d_La_law_687 : decode Y_La_law.2.2.1 687 = .ok (.iconst 0, 1) := by decide +kernel
theorem d_La_law_688 : decode Y_La_law.2.2.1 688 = .ok (.laload, 1) := by decide +kernel
theorem d_La_law_689 : decode Y_La_law.2.2.1 689 = .ok (.iload 6, 2) := by decide +kernel
theorem d_La_law_691 : decode Y_La_law.2.2.1 691 = .ok (.i2l, 1) := by decide +kernel
theorem d_La_law_692 : decode Y_La_law.2.2.1 692 = .ok (.lcmp, 1) := by decide +kernel
theorem d_La_law_693 : decode Y_La_law.2.2.1 693 = .ok (.ifCond .eq 5, 3) := by decide +kernel
theorem d_La_law_696 : decode Y_La_law.2.2.1 696 = .ok (.iconst 0, 1) := by decide +kernel
theorem d_La_law_697 : decode Y_La_law.2.2.1 697 = .ok (.ireturn, 1) := by decide +kernel
theorem d_La_law_698 : decode Y_La_law.2.2.1 698 = .ok (.goto 586, 3) := by decide +kernel
theorem d_La_law_701 : decode Y_La_law.2.2.1 701 = .ok (.aload_n 1, 1) := by decide +kernel
theorem d_La_law_702 : decode Y_La_law.2.2.1 702 = .ok (.aload_n 0, 1) := by decide +kernel
theorem d_La_law_703 : decode Y_La_law.2.2.1 703 = .ok (.iload 4, 2) := by decide +kernel
theorem d_La_law_705 : decode Y_La_law.2.2.1 705 = .ok (.iconst 1, 1) := by decide +kernel
theorem d_La_law_706 : decode Y_La_law.2.2.1 706 = .ok (.iadd, 1) := by decide +kernel
theorem d_La_law_707 : decode Y_La_law.2.2.1 707 = .ok (.iaload, 1) := by decide +kernel
theorem d_La_law_708 : decode Y_La_law.2.2.1 708 = .ok (.aload_n 0, 1) := by decide +kernel
theorem d_La_law_709 : decode Y_La_law.2.2.1 709 = .ok (.iload 4, 2) := by decide +kernel
theorem d_La_law_711 : decode Y_La_law.2.2.1 711 = .ok (.iconst 2, 1) := by decide +kernel
theorem d_La_law_712 : decode Y_La_law.2.2.1 712 = .ok (.iadd, 1) := by decide +kernel
theorem d_La_law_713 : decode Y_La_law.2.2.1 713 = .ok (.iaload, 1) := by decide +kernel
theorem d_La_law_714 : decode Y_La_law.2.2.1 714 = .ok (.aload_n 3, 1) := by decide +kernel
theorem d_La_law_715 : decode Y_La_law.2.2.1 715 = .ok (.invokestatic 124, 3) := by decide +kernel
theorem d_La_law_718 : decode Y_La_law.2.2.1 718 = .ok (.istore 5, 2) := by decide +kernel
theorem d_La_law_720 : decode Y_La_law.2.2.1 720 = .ok (.aload_n 2, 1) := by decide +kernel
theorem d_La_law_721 : decode Y_La_law.2.2.1 721 = .ok (.aload_n 0, 1) := by decide +kernel
theorem d_La_law_722 : decode Y_La_law.2.2.1 722 = .ok (.iload 4, 2) := by decide +kernel
theorem d_La_law_724 : decode Y_La_law.2.2.1 724 = .ok (.iconst 1, 1) := by decide +kernel
theorem d_La_law_725 : decode Y_La_law.2.2.1 725 = .ok (.iadd, 1) := by decide +kernel
theorem d_La_law_726 : decode Y_La_law.2.2.1 726 = .ok (.iaload, 1) := by decide +kernel
theorem d_La_law_727 : decode Y_La_law.2.2.1 727 = .ok (.aload_n 0, 1) := by decide +kernel
theorem d_La_law_728 : decode Y_La_law.2.2.1 728 = .ok (.iload 4, 2) := by decide +kernel
theorem d_La_law_730 : decode Y_La_law.2.2.1 730 = .ok (.iconst 2, 1) := by decide +kernel
theorem d_La_law_731 : decode Y_La_law.2.2.1 731 = .ok (.iadd, 1) := by decide +kernel
theorem d_La_law_732 : decode Y_La_law.2.2.1 732 = .ok (.iaload, 1) := by decide +kernel
theorem d_La_law_733 : decode Y_La_law.2.2.1 733 = .ok (.invokevirtual 126, 3) := by decide +kernel
theorem d_La_law_736 : decode Y_La_law.2.2.1 736 = .ok (.istore 6, 2) := by decide +kernel
theorem d_La_law_738 : decode Y_La_law.2.2.1 738 = .ok (.aload_n 2, 1) := by decide +kernel
theorem d_La_law_739 : decode Y_La_law.2.2.1 739 = .ok (.invokevirtual 89, 3) := by decide +kernel
theorem d_La_law_742 : decode Y_La_law.2.2.1 742 = .ok (.iload 5, 2) := by decide +kernel
theorem d_La_law_744 : decode Y_La_law.2.2.1 744 = .ok (.if_icmp .eq 5, 3) := by decide +kernel
theorem d_La_law_747 : decode Y_La_law.2.2.1 747 = .ok (.iconst 0, 1) := by decide +kernel
theorem d_La_law_748 : decode Y_La_law.2.2.1 748 = .ok (.ireturn, 1) := by decide +kernel
theorem d_La_law_749 : decode Y_La_law.2.2.1 749 = .ok (.iload 5, 2) := by decide +kernel
theorem d_La_law_751 : decode Y_La_law.2.2.1 751 = .ok (.ifCond .ne 15, 3) := by decide +kernel
theorem d_La_law_754 : decode Y_La_law.2.2.1 754 = .ok (.aload_n 3, 1) := by decide +kernel
theorem d_La_law_755 : decode Y_La_law.2.2.1 755 = .ok (.iconst 0, 1) := by decide +kernel
theorem d_La_law_756 : decode Y_La_law.2.2.1 756 = .ok (.laload, 1) := by decide +kernel
theorem d_La_law_757 : decode Y_La_law.2.2.1 757 = .ok (.iload 6, 2) := by decide +kernel
theorem d_La_law_759 : decode Y_La_law.2.2.1 759 = .ok (.i2l, 1) := by decide +kernel
theorem d_La_law_760 : decode Y_La_law.2.2.1 760 = .ok (.lcmp, 1) := by decide +kernel
theorem d_La_law_761 : decode Y_La_law.2.2.1 761 = .ok (.ifCond .eq 5, 3) := by decide +kernel
theorem d_La_law_764 : decode Y_La_law.2.2.1 764 = .ok (.iconst 0, 1) := by decide +kernel
theorem d_La_law_765 : decode Y_La_law.2.2.1 765 = .ok (.ireturn, 1) := by decide +kernel
theorem d_La_law_766 : decode Y_La_law.2.2.1 766 = .ok (.goto 518, 3) := by decide +kernel
theorem d_La_law_769 : decode Y_La_law.2.2.1 769 = .ok (.aload_n 1, 1) := by decide +kernel
theorem d_La_law_770 : decode Y_La_law.2.2.1 770 = .ok (.aload_n 0, 1) := by decide +kernel
theorem d_La_law_771 : decode Y_La_law.2.2.1 771 = .ok (.iload 4, 2) := by decide +kernel
theorem d_La_law_773 : decode Y_La_law.2.2.1 773 = .ok (.iconst 1, 1) := by decide +kernel
theorem d_La_law_774 : decode Y_La_law.2.2.1 774 = .ok (.iadd, 1) := by decide +kernel
theorem d_La_law_775 : decode Y_La_law.2.2.1 775 = .ok (.iaload, 1) := by decide +kernel
theorem d_La_law_776 : decode Y_La_law.2.2.1 776 = .ok (.aload_n 0, 1) := by decide +kernel
theorem d_La_law_777 : decode Y_La_law.2.2.1 777 = .ok (.iload 4, 2) := by decide +kernel
theorem d_La_law_779 : decode Y_La_law.2.2.1 779 = .ok (.iconst 2, 1) := by decide +kernel
theorem d_La_law_780 : decode Y_La_law.2.2.1 780 = .ok (.iadd, 1) := by decide +kernel
theorem d_La_law_781 : decode Y_La_law.2.2.1 781 = .ok (.iaload, 1) := by decide +kernel
theorem d_La_law_782 : decode Y_La_law.2.2.1 782 = .ok (.aload_n 3, 1) := by decide +kernel
theorem d_La_law_783 : decode Y_La_law.2.2.1 783 = .ok (.invokestatic 127, 3) := by decide +kernel
theorem d_La_law_786 : decode Y_La_law.2.2.1 786 = .ok (.istore 5, 2) := by decide +kernel
theorem d_La_law_788 : decode Y_La_law.2.2.1 788 = .ok (.aload_n 2, 1) := by decide +kernel
theorem d_La_law_789 : decode Y_La_law.2.2.1 789 = .ok (.aload_n 0, 1) := by decide +kernel
theorem d_La_law_790 : decode Y_La_law.2.2.1 790 = .ok (.iload 4, 2) := by decide +kernel
theorem d_La_law_792 : decode Y_La_law.2.2.1 792 = .ok (.iconst 1, 1) := by decide +kernel
theorem d_La_law_793 : decode Y_La_law.2.2.1 793 = .ok (.iadd, 1) := by decide +kernel
theorem d_La_law_794 : decode Y_La_law.2.2.1 794 = .ok (.iaload, 1) := by decide +kernel
theorem d_La_law_795 : decode Y_La_law.2.2.1 795 = .ok (.aload_n 0, 1) := by decide +kernel
theorem d_La_law_796 : decode Y_La_law.2.2.1 796 = .ok (.iload 4, 2) := by decide +kernel
theorem d_La_law_798 : decode Y_La_law.2.2.1 798 = .ok (.iconst 2, 1) := by decide +kernel
theorem d_La_law_799 : decode Y_La_law.2.2.1 799 = .ok (.iadd, 1) := by decide +kernel
theorem d_La_law_800 : decode Y_La_law.2.2.1 800 = .ok (.iaload, 1) := by decide +kernel
theorem d_La_law_801 : decode Y_La_law.2.2.1 801 = .ok (.invokevirtual 129, 3) := by decide +kernel
theorem d_La_law_804 : decode Y_La_law.2.2.1 804 = .ok (.istore 6, 2) := by decide +kernel
theorem d_La_law_806 : decode Y_La_law.2.2.1 806 = .ok (.aload_n 2, 1) := by decide +kernel
theorem d_La_law_807 : decode Y_La_law.2.2.1 807 = .ok (.invokevirtual 89, 3) := by decide +kernel
theorem d_La_law_810 : decode Y_La_law.2.2.1 810 = .ok (.iload 5, 2) := by decide +kernel
theorem d_La_law_812 : decode Y_La_law.2.2.1 812 = .ok (.if_icmp .eq 5, 3) := by decide +kernel
theorem d_La_law_815 : decode Y_La_law.2.2.1 815 = .ok (.iconst 0, 1) := by decide +kernel
theorem d_La_law_816 : decode Y_La_law.2.2.1 816 = .ok (.ireturn, 1) := by decide +kernel
theorem d_La_law_817 : decode Y_La_law.2.2.1 817 = .ok (.iload 5, 2) := by decide +kernel
theorem d_La_law_819 : decode Y_La_law.2.2.1 819 = .ok (.ifCond .ne 15, 3) := by decide +kernel
theorem d_La_law_822 : decode Y_La_law.2.2.1 822 = .ok (.aload_n 3, 1) := by decide +kernel
theorem d_La_law_823 : decode Y_La_law.2.2.1 823 = .ok (.iconst 0, 1) := by decide +kernel
theorem d_La_law_824 : decode Y_La_law.2.2.1 824 = .ok (.laload, 1) := by decide +kernel
theorem d_La_law_825 : decode Y_La_law.2.2.1 825 = .ok (.iload 6, 2) := by decide +kernel
theorem d_La_law_827 : decode Y_La_law.2.2.1 827 = .ok (.i2l, 1) := by decide +kernel
theorem d_La_law_828 : decode Y_La_law.2.2.1 828 = .ok (.lcmp, 1) := by decide +kernel
theorem d_La_law_829 : decode Y_La_law.2.2.1 829 = .ok (.ifCond .eq 5, 3) := by decide +kernel
theorem d_La_law_832 : decode Y_La_law.2.2.1 832 = .ok (.iconst 0, 1) := by decide +kernel
theorem d_La_law_833 : decode Y_La_law.2.2.1 833 = .ok (.ireturn, 1) := by decide +kernel
theorem d_La_law_834 : decode Y_La_law.2.2.1 834 = .ok (.goto 450, 3) := by decide +kernel
theorem d_La_law_837 : decode Y_La_law.2.2.1 837 = .ok (.aload_n 1, 1) := by decide +kernel
theorem d_La_law_838 : decode Y_La_law.2.2.1 838 = .ok (.aload_n 0, 1) := by decide +kernel
theorem d_La_law_839 : decode Y_La_law.2.2.1 839 = .ok (.iload 4, 2) := by decide +kernel
theorem d_La_law_841 : decode Y_La_law.2.2.1 841 = .ok (.iconst 1, 1) := by decide +kernel
theorem d_La_law_842 : decode Y_La_law.2.2.1 842 = .ok (.iadd, 1) := by decide +kernel
theorem d_La_law_843 : decode Y_La_law.2.2.1 843 = .ok (.iaload, 1) := by decide +kernel
theorem d_La_law_844 : decode Y_La_law.2.2.1 844 = .ok (.aload_n 0, 1) := by decide +kernel
theorem d_La_law_845 : decode Y_La_law.2.2.1 845 = .ok (.iload 4, 2) := by decide +kernel
theorem d_La_law_847 : decode Y_La_law.2.2.1 847 = .ok (.iconst 2, 1) := by decide +kernel
theorem d_La_law_848 : decode Y_La_law.2.2.1 848 = .ok (.iadd, 1) := by decide +kernel
theorem d_La_law_849 : decode Y_La_law.2.2.1 849 = .ok (.iaload, 1) := by decide +kernel
theorem d_La_law_850 : decode Y_La_law.2.2.1 850 = .ok (.aload_n 0, 1) := by decide +kernel
theorem d_La_law_851 : decode Y_La_law.2.2.1 851 = .ok (.iload 4, 2) := by decide +kernel
theorem d_La_law_853 : decode Y_La_law.2.2.1 853 = .ok (.iconst 3, 1) := by decide +kernel
theorem d_La_law_854 : decode Y_La_law.2.2.1 854 = .ok (.iadd, 1) := by decide +kernel
theorem d_La_law_855 : decode Y_La_law.2.2.1 855 = .ok (.iaload, 1) := by decide +kernel
theorem d_La_law_856 : decode Y_La_law.2.2.1 856 = .ok (.aload_n 0, 1) := by decide +kernel
theorem d_La_law_857 : decode Y_La_law.2.2.1 857 = .ok (.iload 4, 2) := by decide +kernel
theorem d_La_law_859 : decode Y_La_law.2.2.1 859 = .ok (.iconst 4, 1) := by decide +kernel
theorem d_La_law_860 : decode Y_La_law.2.2.1 860 = .ok (.iadd, 1) := by decide +kernel
theorem d_La_law_861 : decode Y_La_law.2.2.1 861 = .ok (.iaload, 1) := by decide +kernel
theorem d_La_law_862 : decode Y_La_law.2.2.1 862 = .ok (.aload_n 0, 1) := by decide +kernel
theorem d_La_law_863 : decode Y_La_law.2.2.1 863 = .ok (.iload 4, 2) := by decide +kernel
theorem d_La_law_865 : decode Y_La_law.2.2.1 865 = .ok (.iconst 5, 1) := by decide +kernel
theorem d_La_law_866 : decode Y_La_law.2.2.1 866 = .ok (.iadd, 1) := by decide +kernel
theorem d_La_law_867 : decode Y_La_law.2.2.1 867 = .ok (.iaload, 1) := by decide +kernel
theorem d_La_law_868 : decode Y_La_law.2.2.1 868 = .ok (.aload_n 3, 1) := by decide +kernel
theorem d_La_law_869 : decode Y_La_law.2.2.1 869 = .ok (.invokestatic 130, 3) := by decide +kernel
theorem d_La_law_872 : decode Y_La_law.2.2.1 872 = .ok (.istore 5, 2) := by decide +kernel
theorem d_La_law_874 : decode Y_La_law.2.2.1 874 = .ok (.aload_n 2, 1) := by decide +kernel
theorem d_La_law_875 : decode Y_La_law.2.2.1 875 = .ok (.aload_n 0, 1) := by decide +kernel
theorem d_La_law_876 : decode Y_La_law.2.2.1 876 = .ok (.iload 4, 2) := by decide +kernel
theorem d_La_law_878 : decode Y_La_law.2.2.1 878 = .ok (.iconst 1, 1) := by decide +kernel
theorem d_La_law_879 : decode Y_La_law.2.2.1 879 = .ok (.iadd, 1) := by decide +kernel
theorem d_La_law_880 : decode Y_La_law.2.2.1 880 = .ok (.iaload, 1) := by decide +kernel
theorem d_La_law_881 : decode Y_La_law.2.2.1 881 = .ok (.aload_n 0, 1) := by decide +kernel
theorem d_La_law_882 : decode Y_La_law.2.2.1 882 = .ok (.iload 4, 2) := by decide +kernel
theorem d_La_law_884 : decode Y_La_law.2.2.1 884 = .ok (.iconst 2, 1) := by decide +kernel
theorem d_La_law_885 : decode Y_La_law.2.2.1 885 = .ok (.iadd, 1) := by decide +kernel
theorem d_La_law_886 : decode Y_La_law.2.2.1 886 = .ok (.iaload, 1) := by decide +kernel
theorem d_La_law_887 : decode Y_La_law.2.2.1 887 = .ok (.aload_n 0, 1) := by decide +kernel
theorem d_La_law_888 : decode Y_La_law.2.2.1 888 = .ok (.iload 4, 2) := by decide +kernel
theorem d_La_law_890 : decode Y_La_law.2.2.1 890 = .ok (.iconst 3, 1) := by decide +kernel
theorem d_La_law_891 : decode Y_La_law.2.2.1 891 = .ok (.iadd, 1) := by decide +kernel
theorem d_La_law_892 : decode Y_La_law.2.2.1 892 = .ok (.iaload, 1) := by decide +kernel
theorem d_La_law_893 : decode Y_La_law.2.2.1 893 = .ok (.aload_n 0, 1) := by decide +kernel
theorem d_La_law_894 : decode Y_La_law.2.2.1 894 = .ok (.iload 4, 2) := by decide +kernel
theorem d_La_law_896 : decode Y_La_law.2.2.1 896 = .ok (.iconst 4, 1) := by decide +kernel
theorem d_La_law_897 : decode Y_La_law.2.2.1 897 = .ok (.iadd, 1) := by decide +kernel
theorem d_La_law_898 : decode Y_La_law.2.2.1 898 = .ok (.iaload, 1) := by decide +kernel
theorem d_La_law_899 : decode Y_La_law.2.2.1 899 = .ok (.aload_n 0, 1) := by decide +kernel
theorem d_La_law_900 : decode Y_La_law.2.2.1 900 = .ok (.iload 4, 2) := by decide +kernel
theorem d_La_law_902 : decode Y_La_law.2.2.1 902 = .ok (.iconst 5, 1) := by decide +kernel
theorem d_La_law_903 : decode Y_La_law.2.2.1 903 = .ok (.iadd, 1) := by decide +kernel
theorem d_La_law_904 : decode Y_La_law.2.2.1 904 = .ok (.iaload, 1) := by decide +kernel
theorem d_La_law_905 : decode Y_La_law.2.2.1 905 = .ok (.invokevirtual 133, 3) := by decide +kernel
theorem d_La_law_908 : decode Y_La_law.2.2.1 908 = .ok (.istore 6, 2) := by decide +kernel
theorem d_La_law_910 : decode Y_La_law.2.2.1 910 = .ok (.aload_n 2, 1) := by decide +kernel
theorem d_La_law_911 : decode Y_La_law.2.2.1 911 = .ok (.invokevirtual 89, 3) := by decide +kernel
theorem d_La_law_914 : decode Y_La_law.2.2.1 914 = .ok (.iload 5, 2) := by decide +kernel
theorem d_La_law_916 : decode Y_La_law.2.2.1 916 = .ok (.if_icmp .eq 5, 3) := by decide +kernel
theorem d_La_law_919 : decode Y_La_law.2.2.1 919 = .ok (.iconst 0, 1) := by decide +kernel
theorem d_La_law_920 : decode Y_La_law.2.2.1 920 = .ok (.ireturn, 1) := by decide +kernel
theorem d_La_law_921 : decode Y_La_law.2.2.1 921 = .ok (.iload 5, 2) := by decide +kernel
theorem d_La_law_923 : decode Y_La_law.2.2.1 923 = .ok (.ifCond .ne 22, 3) := by decide +kernel
theorem d_La_law_926 : decode Y_La_law.2.2.1 926 = .ok (.aload_n 3, 1) := by decide +kernel
theorem d_La_law_927 : decode Y_La_law.2.2.1 927 = .ok (.iconst 0, 1) := by decide +kernel
theorem d_La_law_928 : decode Y_La_law.2.2.1 928 = .ok (.laload, 1) := by decide +kernel
theorem d_La_law_929 : decode Y_La_law.2.2.1 929 = .ok (.iload 6, 2) := by decide +kernel
theorem d_La_law_931 : decode Y_La_law.2.2.1 931 = .ok (.ifCond .eq 7, 3) := by decide +kernel
theorem d_La_law_934 : decode Y_La_law.2.2.1 934 = .ok (.lconst 1, 1) := by decide +kernel
theorem d_La_law_935 : decode Y_La_law.2.2.1 935 = .ok (.goto 4, 3) := by decide +kernel
theorem d_La_law_938 : decode Y_La_law.2.2.1 938 = .ok (.lconst 0, 1) := by decide +kernel
theorem d_La_law_939 : decode Y_La_law.2.2.1 939 = .ok (.lcmp, 1) := by decide +kernel
theorem d_La_law_940 : decode Y_La_law.2.2.1 940 = .ok (.ifCond .eq 5, 3) := by decide +kernel
theorem d_La_law_943 : decode Y_La_law.2.2.1 943 = .ok (.iconst 0, 1) := by decide +kernel
theorem d_La_law_944 : decode Y_La_law.2.2.1 944 = .ok (.ireturn, 1) := by decide +kernel
theorem d_La_law_945 : decode Y_La_law.2.2.1 945 = .ok (.goto 339, 3) := by decide +kernel
theorem d_La_law_948 : decode Y_La_law.2.2.1 948 = .ok (.aload_n 1, 1) := by decide +kernel
theorem d_La_law_949 : decode Y_La_law.2.2.1 949 = .ok (.aload_n 0, 1) := by decide +kernel
theorem d_La_law_950 : decode Y_La_law.2.2.1 950 = .ok (.iload 4, 2) := by decide +kernel
theorem d_La_law_952 : decode Y_La_law.2.2.1 952 = .ok (.iconst 1, 1) := by decide +kernel
theorem d_La_law_953 : decode Y_La_law.2.2.1 953 = .ok (.iadd, 1) := by decide +kernel
theorem d_La_law_954 : decode Y_La_law.2.2.1 954 = .ok (.iaload, 1) := by decide +kernel
theorem d_La_law_955 : decode Y_La_law.2.2.1 955 = .ok (.aload_n 3, 1) := by decide +kernel
theorem d_La_law_956 : decode Y_La_law.2.2.1 956 = .ok (.invokestatic 134, 3) := by decide +kernel
theorem d_La_law_959 : decode Y_La_law.2.2.1 959 = .ok (.istore 5, 2) := by decide +kernel
theorem d_La_law_961 : decode Y_La_law.2.2.1 961 = .ok (.aload_n 2, 1) := by decide +kernel
theorem d_La_law_962 : decode Y_La_law.2.2.1 962 = .ok (.aload_n 0, 1) := by decide +kernel
theorem d_La_law_963 : decode Y_La_law.2.2.1 963 = .ok (.iload 4, 2) := by decide +kernel
theorem d_La_law_965 : decode Y_La_law.2.2.1 965 = .ok (.iconst 1, 1) := by decide +kernel
theorem d_La_law_966 : decode Y_La_law.2.2.1 966 = .ok (.iadd, 1) := by decide +kernel
theorem d_La_law_967 : decode Y_La_law.2.2.1 967 = .ok (.iaload, 1) := by decide +kernel
theorem d_La_law_968 : decode Y_La_law.2.2.1 968 = .ok (.invokevirtual 136, 3) := by decide +kernel
theorem d_La_law_971 : decode Y_La_law.2.2.1 971 = .ok (.istore 6, 2) := by decide +kernel
theorem d_La_law_973 : decode Y_La_law.2.2.1 973 = .ok (.aload_n 2, 1) := by decide +kernel
theorem d_La_law_974 : decode Y_La_law.2.2.1 974 = .ok (.invokevirtual 89, 3) := by decide +kernel
theorem d_La_law_977 : decode Y_La_law.2.2.1 977 = .ok (.iload 5, 2) := by decide +kernel
theorem d_La_law_979 : decode Y_La_law.2.2.1 979 = .ok (.if_icmp .eq 5, 3) := by decide +kernel
theorem d_La_law_982 : decode Y_La_law.2.2.1 982 = .ok (.iconst 0, 1) := by decide +kernel
theorem d_La_law_983 : decode Y_La_law.2.2.1 983 = .ok (.ireturn, 1) := by decide +kernel
theorem d_La_law_984 : decode Y_La_law.2.2.1 984 = .ok (.iload 5, 2) := by decide +kernel
theorem d_La_law_986 : decode Y_La_law.2.2.1 986 = .ok (.ifCond .ne 15, 3) := by decide +kernel
theorem d_La_law_989 : decode Y_La_law.2.2.1 989 = .ok (.aload_n 3, 1) := by decide +kernel
theorem d_La_law_990 : decode Y_La_law.2.2.1 990 = .ok (.iconst 0, 1) := by decide +kernel
theorem d_La_law_991 : decode Y_La_law.2.2.1 991 = .ok (.laload, 1) := by decide +kernel
theorem d_La_law_992 : decode Y_La_law.2.2.1 992 = .ok (.iload 6, 2) := by decide +kernel
theorem d_La_law_994 : decode Y_La_law.2.2.1 994 = .ok (.i2l, 1) := by decide +kernel
theorem d_La_law_995 : decode Y_La_law.2.2.1 995 = .ok (.lcmp, 1) := by decide +kernel
theorem d_La_law_996 : decode Y_La_law.2.2.1 996 = .ok (.ifCond .eq 5, 3) := by decide +kernel
theorem d_La_law_999 : decode Y_La_law.2.2.1 999 = .ok (.iconst 0, 1) := by decide +kernel
theorem d_La_law_1000 : decode Y_La_law.2.2.1 1000 = .ok (.ireturn, 1) := by decide +kernel
theorem d_La_law_1001 : decode Y_La_law.2.2.1 1001 = .ok (.goto 283, 3) := by decide +kernel
theorem d_La_law_1004 : decode Y_La_law.2.2.1 1004 = .ok (.aload_n 1, 1) := by decide +kernel
theorem d_La_law_1005 : decode Y_La_law.2.2.1 1005 = .ok (.aload_n 0, 1) := by decide +kernel
theorem d_La_law_1006 : decode Y_La_law.2.2.1 1006 = .ok (.iload 4, 2) := by decide +kernel
theorem d_La_law_1008 : decode Y_La_law.2.2.1 1008 = .ok (.iconst 1, 1) := by decide +kernel
theorem d_La_law_1009 : decode Y_La_law.2.2.1 1009 = .ok (.iadd, 1) := by decide +kernel
theorem d_La_law_1010 : decode Y_La_law.2.2.1 1010 = .ok (.iaload, 1) := by decide +kernel
theorem d_La_law_1011 : decode Y_La_law.2.2.1 1011 = .ok (.aload_n 0, 1) := by decide +kernel
theorem d_La_law_1012 : decode Y_La_law.2.2.1 1012 = .ok (.iload 4, 2) := by decide +kernel
theorem d_La_law_1014 : decode Y_La_law.2.2.1 1014 = .ok (.iconst 2, 1) := by decide +kernel
theorem d_La_law_1015 : decode Y_La_law.2.2.1 1015 = .ok (.iadd, 1) := by decide +kernel
theorem d_La_law_1016 : decode Y_La_law.2.2.1 1016 = .ok (.iaload, 1) := by decide +kernel
theorem d_La_law_1017 : decode Y_La_law.2.2.1 1017 = .ok (.aload_n 3, 1) := by decide +kernel
theorem d_La_law_1018 : decode Y_La_law.2.2.1 1018 = .ok (.invokestatic 137, 3) := by decide +kernel
theorem d_La_law_1021 : decode Y_La_law.2.2.1 1021 = .ok (.istore 5, 2) := by decide +kernel
theorem d_La_law_1023 : decode Y_La_law.2.2.1 1023 = .ok (.aload_n 2, 1) := by decide +kernel
theorem d_La_law_1024 : decode Y_La_law.2.2.1 1024 = .ok (.aload_n 0, 1) := by decide +kernel
theorem d_La_law_1025 : decode Y_La_law.2.2.1 1025 = .ok (.iload 4, 2) := by decide +kernel
theorem d_La_law_1027 : decode Y_La_law.2.2.1 1027 = .ok (.iconst 1, 1) := by decide +kernel
theorem d_La_law_1028 : decode Y_La_law.2.2.1 1028 = .ok (.iadd, 1) := by decide +kernel
theorem d_La_law_1029 : decode Y_La_law.2.2.1 1029 = .ok (.iaload, 1) := by decide +kernel
theorem d_La_law_1030 : decode Y_La_law.2.2.1 1030 = .ok (.aload_n 0, 1) := by decide +kernel
theorem d_La_law_1031 : decode Y_La_law.2.2.1 1031 = .ok (.iload 4, 2) := by decide +kernel
theorem d_La_law_1033 : decode Y_La_law.2.2.1 1033 = .ok (.iconst 2, 1) := by decide +kernel
theorem d_La_law_1034 : decode Y_La_law.2.2.1 1034 = .ok (.iadd, 1) := by decide +kernel
theorem d_La_law_1035 : decode Y_La_law.2.2.1 1035 = .ok (.iaload, 1) := by decide +kernel
theorem d_La_law_1036 : decode Y_La_law.2.2.1 1036 = .ok (.invokevirtual 139, 3) := by decide +kernel
theorem d_La_law_1039 : decode Y_La_law.2.2.1 1039 = .ok (.istore 6, 2) := by decide +kernel
theorem d_La_law_1041 : decode Y_La_law.2.2.1 1041 = .ok (.aload_n 2, 1) := by decide +kernel
theorem d_La_law_1042 : decode Y_La_law.2.2.1 1042 = .ok (.invokevirtual 89, 3) := by decide +kernel
theorem d_La_law_1045 : decode Y_La_law.2.2.1 1045 = .ok (.iload 5, 2) := by decide +kernel
theorem d_La_law_1047 : decode Y_La_law.2.2.1 1047 = .ok (.if_icmp .eq 5, 3) := by decide +kernel
theorem d_La_law_1050 : decode Y_La_law.2.2.1 1050 = .ok (.iconst 0, 1) := by decide +kernel
theorem d_La_law_1051 : decode Y_La_law.2.2.1 1051 = .ok (.ireturn, 1) := by decide +kernel
theorem d_La_law_1052 : decode Y_La_law.2.2.1 1052 = .ok (.iload 5, 2) := by decide +kernel
theorem d_La_law_1054 : decode Y_La_law.2.2.1 1054 = .ok (.ifCond .ne 22, 3) := by decide +kernel
theorem d_La_law_1057 : decode Y_La_law.2.2.1 1057 = .ok (.aload_n 3, 1) := by decide +kernel
theorem d_La_law_1058 : decode Y_La_law.2.2.1 1058 = .ok (.iconst 0, 1) := by decide +kernel
theorem d_La_law_1059 : decode Y_La_law.2.2.1 1059 = .ok (.laload, 1) := by decide +kernel
theorem d_La_law_1060 : decode Y_La_law.2.2.1 1060 = .ok (.iload 6, 2) := by decide +kernel
theorem d_La_law_1062 : decode Y_La_law.2.2.1 1062 = .ok (.ifCond .eq 7, 3) := by decide +kernel
theorem d_La_law_1065 : decode Y_La_law.2.2.1 1065 = .ok (.lconst 1, 1) := by decide +kernel
theorem d_La_law_1066 : decode Y_La_law.2.2.1 1066 = .ok (.goto 4, 3) := by decide +kernel
theorem d_La_law_1069 : decode Y_La_law.2.2.1 1069 = .ok (.lconst 0, 1) := by decide +kernel
theorem d_La_law_1070 : decode Y_La_law.2.2.1 1070 = .ok (.lcmp, 1) := by decide +kernel
theorem d_La_law_1071 : decode Y_La_law.2.2.1 1071 = .ok (.ifCond .eq 5, 3) := by decide +kernel
theorem d_La_law_1074 : decode Y_La_law.2.2.1 1074 = .ok (.iconst 0, 1) := by decide +kernel
theorem d_La_law_1075 : decode Y_La_law.2.2.1 1075 = .ok (.ireturn, 1) := by decide +kernel
theorem d_La_law_1076 : decode Y_La_law.2.2.1 1076 = .ok (.goto 208, 3) := by decide +kernel
theorem d_La_law_1079 : decode Y_La_law.2.2.1 1079 = .ok (.aload_n 1, 1) := by decide +kernel
theorem d_La_law_1080 : decode Y_La_law.2.2.1 1080 = .ok (.aload_n 0, 1) := by decide +kernel
theorem d_La_law_1081 : decode Y_La_law.2.2.1 1081 = .ok (.iload 4, 2) := by decide +kernel
theorem d_La_law_1083 : decode Y_La_law.2.2.1 1083 = .ok (.iconst 1, 1) := by decide +kernel
theorem d_La_law_1084 : decode Y_La_law.2.2.1 1084 = .ok (.iadd, 1) := by decide +kernel
theorem d_La_law_1085 : decode Y_La_law.2.2.1 1085 = .ok (.iaload, 1) := by decide +kernel
theorem d_La_law_1086 : decode Y_La_law.2.2.1 1086 = .ok (.aload_n 3, 1) := by decide +kernel
theorem d_La_law_1087 : decode Y_La_law.2.2.1 1087 = .ok (.invokestatic 140, 3) := by decide +kernel
theorem d_La_law_1090 : decode Y_La_law.2.2.1 1090 = .ok (.istore 5, 2) := by decide +kernel
theorem d_La_law_1092 : decode Y_La_law.2.2.1 1092 = .ok (.aload_n 2, 1) := by decide +kernel
theorem d_La_law_1093 : decode Y_La_law.2.2.1 1093 = .ok (.aload_n 0, 1) := by decide +kernel
theorem d_La_law_1094 : decode Y_La_law.2.2.1 1094 = .ok (.iload 4, 2) := by decide +kernel
theorem d_La_law_1096 : decode Y_La_law.2.2.1 1096 = .ok (.iconst 1, 1) := by decide +kernel
theorem d_La_law_1097 : decode Y_La_law.2.2.1 1097 = .ok (.iadd, 1) := by decide +kernel
theorem d_La_law_1098 : decode Y_La_law.2.2.1 1098 = .ok (.iaload, 1) := by decide +kernel
theorem d_La_law_1099 : decode Y_La_law.2.2.1 1099 = .ok (.invokevirtual 142, 3) := by decide +kernel
theorem d_La_law_1102 : decode Y_La_law.2.2.1 1102 = .ok (.istore 6, 2) := by decide +kernel
theorem d_La_law_1104 : decode Y_La_law.2.2.1 1104 = .ok (.aload_n 2, 1) := by decide +kernel
theorem d_La_law_1105 : decode Y_La_law.2.2.1 1105 = .ok (.invokevirtual 89, 3) := by decide +kernel
theorem d_La_law_1108 : decode Y_La_law.2.2.1 1108 = .ok (.iload 5, 2) := by decide +kernel
theorem d_La_law_1110 : decode Y_La_law.2.2.1 1110 = .ok (.if_icmp .eq 5, 3) := by decide +kernel
theorem d_La_law_1113 : decode Y_La_law.2.2.1 1113 = .ok (.iconst 0, 1) := by decide +kernel
theorem d_La_law_1114 : decode Y_La_law.2.2.1 1114 = .ok (.ireturn, 1) := by decide +kernel
theorem d_La_law_1115 : decode Y_La_law.2.2.1 1115 = .ok (.iload 5, 2) := by decide +kernel
theorem d_La_law_1117 : decode Y_La_law.2.2.1 1117 = .ok (.ifCond .ne 15, 3) := by decide +kernel
theorem d_La_law_1120 : decode Y_La_law.2.2.1 1120 = .ok (.aload_n 3, 1) := by decide +kernel
theorem d_La_law_1121 : decode Y_La_law.2.2.1 1121 = .ok (.iconst 0, 1) := by decide +kernel
theorem d_La_law_1122 : decode Y_La_law.2.2.1 1122 = .ok (.laload, 1) := by decide +kernel
theorem d_La_law_1123 : decode Y_La_law.2.2.1 1123 = .ok (.iload 6, 2) := by decide +kernel
theorem d_La_law_1125 : decode Y_La_law.2.2.1 1125 = .ok (.i2l, 1) := by decide +kernel
theorem d_La_law_1126 : decode Y_La_law.2.2.1 1126 = .ok (.lcmp, 1) := by decide +kernel
theorem d_La_law_1127 : decode Y_La_law.2.2.1 1127 = .ok (.ifCond .eq 5, 3) := by decide +kernel
theorem d_La_law_1130 : decode Y_La_law.2.2.1 1130 = .ok (.iconst 0, 1) := by decide +kernel
theorem d_La_law_1131 : decode Y_La_law.2.2.1 1131 = .ok (.ireturn, 1) := by decide +kernel
theorem d_La_law_1132 : decode Y_La_law.2.2.1 1132 = .ok (.goto 152, 3) := by decide +kernel
theorem d_La_law_1135 : decode Y_La_law.2.2.1 1135 = .ok (.aload_n 1, 1) := by decide +kernel
theorem d_La_law_1136 : decode Y_La_law.2.2.1 1136 = .ok (.aload_n 0, 1) := by decide +kernel
theorem d_La_law_1137 : decode Y_La_law.2.2.1 1137 = .ok (.iload 4, 2) := by decide +kernel
theorem d_La_law_1139 : decode Y_La_law.2.2.1 1139 = .ok (.iconst 1, 1) := by decide +kernel
theorem d_La_law_1140 : decode Y_La_law.2.2.1 1140 = .ok (.iadd, 1) := by decide +kernel
theorem d_La_law_1141 : decode Y_La_law.2.2.1 1141 = .ok (.iaload, 1) := by decide +kernel
theorem d_La_law_1142 : decode Y_La_law.2.2.1 1142 = .ok (.aload_n 3, 1) := by decide +kernel
theorem d_La_law_1143 : decode Y_La_law.2.2.1 1143 = .ok (.invokestatic 143, 3) := by decide +kernel
theorem d_La_law_1146 : decode Y_La_law.2.2.1 1146 = .ok (.istore 5, 2) := by decide +kernel
theorem d_La_law_1148 : decode Y_La_law.2.2.1 1148 = .ok (.aload_n 2, 1) := by decide +kernel
theorem d_La_law_1149 : decode Y_La_law.2.2.1 1149 = .ok (.aload_n 0, 1) := by decide +kernel
theorem d_La_law_1150 : decode Y_La_law.2.2.1 1150 = .ok (.iload 4, 2) := by decide +kernel
theorem d_La_law_1152 : decode Y_La_law.2.2.1 1152 = .ok (.iconst 1, 1) := by decide +kernel
theorem d_La_law_1153 : decode Y_La_law.2.2.1 1153 = .ok (.iadd, 1) := by decide +kernel
theorem d_La_law_1154 : decode Y_La_law.2.2.1 1154 = .ok (.iaload, 1) := by decide +kernel
theorem d_La_law_1155 : decode Y_La_law.2.2.1 1155 = .ok (.invokevirtual 145, 3) := by decide +kernel
theorem d_La_law_1158 : decode Y_La_law.2.2.1 1158 = .ok (.istore 6, 2) := by decide +kernel
theorem d_La_law_1160 : decode Y_La_law.2.2.1 1160 = .ok (.aload_n 2, 1) := by decide +kernel
theorem d_La_law_1161 : decode Y_La_law.2.2.1 1161 = .ok (.invokevirtual 89, 3) := by decide +kernel
theorem d_La_law_1164 : decode Y_La_law.2.2.1 1164 = .ok (.iload 5, 2) := by decide +kernel
theorem d_La_law_1166 : decode Y_La_law.2.2.1 1166 = .ok (.if_icmp .eq 5, 3) := by decide +kernel
theorem d_La_law_1169 : decode Y_La_law.2.2.1 1169 = .ok (.iconst 0, 1) := by decide +kernel
theorem d_La_law_1170 : decode Y_La_law.2.2.1 1170 = .ok (.ireturn, 1) := by decide +kernel
theorem d_La_law_1171 : decode Y_La_law.2.2.1 1171 = .ok (.iload 5, 2) := by decide +kernel
theorem d_La_law_1173 : decode Y_La_law.2.2.1 1173 = .ok (.ifCond .ne 15, 3) := by decide +kernel
theorem d_La_law_1176 : decode Y_La_law.2.2.1 1176 = .ok (.aload_n 3, 1) := by decide +kernel
theorem d_La_law_1177 : decode Y_La_law.2.2.1 1177 = .ok (.iconst 0, 1) := by decide +kernel
theorem d_La_law_1178 : decode Y_La_law.2.2.1 1178 = .ok (.laload, 1) := by decide +kernel
theorem d_La_law_1179 : decode Y_La_law.2.2.1 1179 = .ok (.iload 6, 2) := by decide +kernel
theorem d_La_law_1181 : decode Y_La_law.2.2.1 1181 = .ok (.i2l, 1) := by decide +kernel
theorem d_La_law_1182 : decode Y_La_law.2.2.1 1182 = .ok (.lcmp, 1) := by decide +kernel
theorem d_La_law_1183 : decode Y_La_law.2.2.1 1183 = .ok (.ifCond .eq 5, 3) := by decide +kernel
theorem d_La_law_1186 : decode Y_La_law.2.2.1 1186 = .ok (.iconst 0, 1) := by decide +kernel
theorem d_La_law_1187 : decode Y_La_law.2.2.1 1187 = .ok (.ireturn, 1) := by decide +kernel
theorem d_La_law_1188 : decode Y_La_law.2.2.1 1188 = .ok (.goto 96, 3) := by decide +kernel
theorem d_La_law_1191 : decode Y_La_law.2.2.1 1191 = .ok (.aload_n 1, 1) := by decide +kernel
theorem d_La_law_1192 : decode Y_La_law.2.2.1 1192 = .ok (.aload_n 0, 1) := by decide +kernel
theorem d_La_law_1193 : decode Y_La_law.2.2.1 1193 = .ok (.iload 4, 2) := by decide +kernel
theorem d_La_law_1195 : decode Y_La_law.2.2.1 1195 = .ok (.iconst 1, 1) := by decide +kernel
theorem d_La_law_1196 : decode Y_La_law.2.2.1 1196 = .ok (.iadd, 1) := by decide +kernel
theorem d_La_law_1197 : decode Y_La_law.2.2.1 1197 = .ok (.iaload, 1) := by decide +kernel
theorem d_La_law_1198 : decode Y_La_law.2.2.1 1198 = .ok (.aload_n 0, 1) := by decide +kernel
theorem d_La_law_1199 : decode Y_La_law.2.2.1 1199 = .ok (.iload 4, 2) := by decide +kernel
theorem d_La_law_1201 : decode Y_La_law.2.2.1 1201 = .ok (.iconst 2, 1) := by decide +kernel
theorem d_La_law_1202 : decode Y_La_law.2.2.1 1202 = .ok (.iadd, 1) := by decide +kernel
theorem d_La_law_1203 : decode Y_La_law.2.2.1 1203 = .ok (.iaload, 1) := by decide +kernel
theorem d_La_law_1204 : decode Y_La_law.2.2.1 1204 = .ok (.aload_n 0, 1) := by decide +kernel
theorem d_La_law_1205 : decode Y_La_law.2.2.1 1205 = .ok (.iload 4, 2) := by decide +kernel
theorem d_La_law_1207 : decode Y_La_law.2.2.1 1207 = .ok (.iconst 3, 1) := by decide +kernel
theorem d_La_law_1208 : decode Y_La_law.2.2.1 1208 = .ok (.iadd, 1) := by decide +kernel
theorem d_La_law_1209 : decode Y_La_law.2.2.1 1209 = .ok (.iaload, 1) := by decide +kernel
theorem d_La_law_1210 : decode Y_La_law.2.2.1 1210 = .ok (.aload_n 3, 1) := by decide +kernel
theorem d_La_law_1211 : decode Y_La_law.2.2.1 1211 = .ok (.invokestatic 146, 3) := by decide +kernel
theorem d_La_law_1214 : decode Y_La_law.2.2.1 1214 = .ok (.istore 5, 2) := by decide +kernel
theorem d_La_law_1216 : decode Y_La_law.2.2.1 1216 = .ok (.aload_n 2, 1) := by decide +kernel
theorem d_La_law_1217 : decode Y_La_law.2.2.1 1217 = .ok (.aload_n 0, 1) := by decide +kernel
theorem d_La_law_1218 : decode Y_La_law.2.2.1 1218 = .ok (.iload 4, 2) := by decide +kernel
theorem d_La_law_1220 : decode Y_La_law.2.2.1 1220 = .ok (.iconst 1, 1) := by decide +kernel
theorem d_La_law_1221 : decode Y_La_law.2.2.1 1221 = .ok (.iadd, 1) := by decide +kernel
theorem d_La_law_1222 : decode Y_La_law.2.2.1 1222 = .ok (.iaload, 1) := by decide +kernel
theorem d_La_law_1223 : decode Y_La_law.2.2.1 1223 = .ok (.aload_n 0, 1) := by decide +kernel
theorem d_La_law_1224 : decode Y_La_law.2.2.1 1224 = .ok (.iload 4, 2) := by decide +kernel
theorem d_La_law_1226 : decode Y_La_law.2.2.1 1226 = .ok (.iconst 2, 1) := by decide +kernel
theorem d_La_law_1227 : decode Y_La_law.2.2.1 1227 = .ok (.iadd, 1) := by decide +kernel
theorem d_La_law_1228 : decode Y_La_law.2.2.1 1228 = .ok (.iaload, 1) := by decide +kernel
theorem d_La_law_1229 : decode Y_La_law.2.2.1 1229 = .ok (.aload_n 0, 1) := by decide +kernel
theorem d_La_law_1230 : decode Y_La_law.2.2.1 1230 = .ok (.iload 4, 2) := by decide +kernel
theorem d_La_law_1232 : decode Y_La_law.2.2.1 1232 = .ok (.iconst 3, 1) := by decide +kernel
theorem d_La_law_1233 : decode Y_La_law.2.2.1 1233 = .ok (.iadd, 1) := by decide +kernel
theorem d_La_law_1234 : decode Y_La_law.2.2.1 1234 = .ok (.iaload, 1) := by decide +kernel
theorem d_La_law_1235 : decode Y_La_law.2.2.1 1235 = .ok (.invokevirtual 148, 3) := by decide +kernel
theorem d_La_law_1238 : decode Y_La_law.2.2.1 1238 = .ok (.istore 6, 2) := by decide +kernel
theorem d_La_law_1240 : decode Y_La_law.2.2.1 1240 = .ok (.aload_n 2, 1) := by decide +kernel
theorem d_La_law_1241 : decode Y_La_law.2.2.1 1241 = .ok (.invokevirtual 89, 3) := by decide +kernel
theorem d_La_law_1244 : decode Y_La_law.2.2.1 1244 = .ok (.iload 5, 2) := by decide +kernel
theorem d_La_law_1246 : decode Y_La_law.2.2.1 1246 = .ok (.if_icmp .eq 5, 3) := by decide +kernel
theorem d_La_law_1249 : decode Y_La_law.2.2.1 1249 = .ok (.iconst 0, 1) := by decide +kernel
theorem d_La_law_1250 : decode Y_La_law.2.2.1 1250 = .ok (.ireturn, 1) := by decide +kernel
theorem d_La_law_1251 : decode Y_La_law.2.2.1 1251 = .ok (.iload 5, 2) := by decide +kernel
theorem d_La_law_1253 : decode Y_La_law.2.2.1 1253 = .ok (.ifCond .ne 15, 3) := by decide +kernel
theorem d_La_law_1256 : decode Y_La_law.2.2.1 1256 = .ok (.aload_n 3, 1) := by decide +kernel
theorem d_La_law_1257 : decode Y_La_law.2.2.1 1257 = .ok (.iconst 0, 1) := by decide +kernel
theorem d_La_law_1258 : decode Y_La_law.2.2.1 1258 = .ok (.laload, 1) := by decide +kernel
theorem d_La_law_1259 : decode Y_La_law.2.2.1 1259 = .ok (.iload 6, 2) := by decide +kernel
theorem d_La_law_1261 : decode Y_La_law.2.2.1 1261 = .ok (.i2l, 1) := by decide +kernel
theorem d_La_law_1262 : decode Y_La_law.2.2.1 1262 = .ok (.lcmp, 1) := by decide +kernel
theorem d_La_law_1263 : decode Y_La_law.2.2.1 1263 = .ok (.ifCond .eq 5, 3) := by decide +kernel
theorem d_La_law_1266 : decode Y_La_law.2.2.1 1266 = .ok (.iconst 0, 1) := by decide +kernel
theorem d_La_law_1267 : decode Y_La_law.2.2.1 1267 = .ok (.ireturn, 1) := by decide +kernel
theorem d_La_law_1268 : decode Y_La_law.2.2.1 1268 = .ok (.goto 16, 3) := by decide +kernel
theorem d_La_law_1271 : decode Y_La_law.2.2.1 1271 = .ok (.aload_n 1, 1) := by decide +kernel
theorem d_La_law_1272 : decode Y_La_law.2.2.1 1272 = .ok (.invokevirtual 149, 3) := by decide +kernel
theorem d_La_law_1275 : decode Y_La_law.2.2.1 1275 = .ok (.aload_n 2, 1) := by decide +kernel
theorem d_La_law_1276 : decode Y_La_law.2.2.1 1276 = .ok (.invokevirtual 153, 3) := by decide +kernel
theorem d_La_law_1279 : decode Y_La_law.2.2.1 1279 = .ok (.if_icmp .eq 5, 3) := by decide +kernel
theorem d_La_law_1282 : decode Y_La_law.2.2.1 1282 = .ok (.iconst 0, 1) := by decide +kernel
theorem d_La_law_1283 : decode Y_La_law.2.2.1 1283 = .ok (.ireturn, 1) := by decide +kernel
theorem d_La_law_1284 : decode Y_La_law.2.2.1 1284 = .ok (.iinc 4 6, 3) := by decide +kernel
theorem d_La_law_1287 : decode Y_La_law.2.2.1 1287 = .ok (.goto (-1254), 3) := by decide +kernel
theorem d_La_law_1290 : decode Y_La_law.2.2.1 1290 = .ok (.iconst 1, 1) := by decide +kernel
theorem d_La_law_1291 : decode Y_La_law.2.2.1 1291 = .ok (.ireturn, 1) := by decide +kernel
