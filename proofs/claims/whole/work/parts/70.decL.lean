abbrev b_W_law : ByteArray := code
theorem d_W_law_0 : decode b_W_law 0 = .ok (.new 8, 3) := by decide +kernel
theorem d_W_law_3 : decode b_W_law 3 = .ok (.dup, 1) := by decide +kernel
theorem d_W_law_4 : decode b_W_law 4 = .ok (.aload_n 0, 1) := by decide +kernel
theorem d_W_law_5 : decode b_W_law 5 = .ok (.iconst 0, 1) := by decide +kernel
theorem d_W_law_6 : decode b_W_law 6 = .ok (.invokestatic 15, 3) := by decide +kernel
theorem d_W_law_9 : decode b_W_law 9 = .ok (.aload_n 0, 1) := by decide +kernel
theorem d_W_law_10 : decode b_W_law 10 = .ok (.iconst 1, 1) := by decide +kernel
theorem d_W_law_11 : decode b_W_law 11 = .ok (.invokestatic 15, 3) := by decide +kernel
theorem d_W_law_14 : decode b_W_law 14 = .ok (.aload_n 0, 1) := by decide +kernel
theorem d_W_law_15 : decode b_W_law 15 = .ok (.iconst 2, 1) := by decide +kernel
theorem d_W_law_16 : decode b_W_law 16 = .ok (.invokestatic 15, 3) := by decide +kernel
theorem d_W_law_19 : decode b_W_law 19 = .ok (.invokespecial 21, 3) := by decide +kernel
theorem d_W_law_22 : decode b_W_law 22 = .ok (.astore_n 1, 1) := by decide +kernel
theorem d_W_law_23 : decode b_W_law 23 = .ok (.new 24, 3) := by decide +kernel
theorem d_W_law_26 : decode b_W_law 26 = .ok (.dup, 1) := by decide +kernel
theorem d_W_law_27 : decode b_W_law 27 = .ok (.aload_n 0, 1) := by decide +kernel
theorem d_W_law_28 : decode b_W_law 28 = .ok (.iconst 0, 1) := by decide +kernel
theorem d_W_law_29 : decode b_W_law 29 = .ok (.invokestatic 15, 3) := by decide +kernel
theorem d_W_law_32 : decode b_W_law 32 = .ok (.aload_n 0, 1) := by decide +kernel
theorem d_W_law_33 : decode b_W_law 33 = .ok (.iconst 1, 1) := by decide +kernel
theorem d_W_law_34 : decode b_W_law 34 = .ok (.invokestatic 15, 3) := by decide +kernel
theorem d_W_law_37 : decode b_W_law 37 = .ok (.aload_n 0, 1) := by decide +kernel
theorem d_W_law_38 : decode b_W_law 38 = .ok (.iconst 2, 1) := by decide +kernel
theorem d_W_law_39 : decode b_W_law 39 = .ok (.invokestatic 15, 3) := by decide +kernel
theorem d_W_law_42 : decode b_W_law 42 = .ok (.invokespecial 26, 3) := by decide +kernel
theorem d_W_law_45 : decode b_W_law 45 = .ok (.astore_n 2, 1) := by decide +kernel
theorem d_W_law_46 : decode b_W_law 46 = .ok (.iconst 1, 1) := by decide +kernel
theorem d_W_law_47 : decode b_W_law 47 = .ok (.newarray .long, 2) := by decide +kernel
theorem d_W_law_49 : decode b_W_law 49 = .ok (.astore_n 3, 1) := by decide +kernel
theorem d_W_law_50 : decode b_W_law 50 = .ok (.iconst 3, 1) := by decide +kernel
theorem d_W_law_51 : decode b_W_law 51 = .ok (.istore 4, 2) := by decide +kernel
theorem d_W_law_53 : decode b_W_law 53 = .ok (.iload 4, 2) := by decide +kernel
theorem d_W_law_55 : decode b_W_law 55 = .ok (.aload_n 0, 1) := by decide +kernel
theorem d_W_law_56 : decode b_W_law 56 = .ok (.arraylength, 1) := by decide +kernel
theorem d_W_law_57 : decode b_W_law 57 = .ok (.bipush 7, 2) := by decide +kernel
theorem d_W_law_59 : decode b_W_law 59 = .ok (.isub, 1) := by decide +kernel
theorem d_W_law_60 : decode b_W_law 60 = .ok (.if_icmp .gt 595, 3) := by decide +kernel
theorem d_W_law_63 : decode b_W_law 63 = .ok (.aload_n 0, 1) := by decide +kernel
theorem d_W_law_64 : decode b_W_law 64 = .ok (.iload 4, 2) := by decide +kernel
theorem d_W_law_66 : decode b_W_law 66 = .ok (.iaload, 1) := by decide +kernel
theorem d_W_law_67 : decode b_W_law 67 = .ok (.bipush 15, 2) := by decide +kernel
theorem d_W_law_69 : decode b_W_law 69 = .ok (.iand, 1) := by decide +kernel
theorem d_W_law_70 : decode b_W_law 70 = .ok (.tableswitch 579 0 11 #[62, 99, 136, 173, 226, 313, 362, 387, 467, 504, 529, 542], 62) := by decide +kernel
theorem d_W_law_132 : decode b_W_law 132 = .ok (.aload_n 1, 1) := by decide +kernel
theorem d_W_law_133 : decode b_W_law 133 = .ok (.aload_n 0, 1) := by decide +kernel
theorem d_W_law_134 : decode b_W_law 134 = .ok (.iload 4, 2) := by decide +kernel
theorem d_W_law_136 : decode b_W_law 136 = .ok (.iconst 1, 1) := by decide +kernel
theorem d_W_law_137 : decode b_W_law 137 = .ok (.iadd, 1) := by decide +kernel
theorem d_W_law_138 : decode b_W_law 138 = .ok (.iaload, 1) := by decide +kernel
theorem d_W_law_139 : decode b_W_law 139 = .ok (.aload_n 0, 1) := by decide +kernel
theorem d_W_law_140 : decode b_W_law 140 = .ok (.iload 4, 2) := by decide +kernel
theorem d_W_law_142 : decode b_W_law 142 = .ok (.iconst 2, 1) := by decide +kernel
theorem d_W_law_143 : decode b_W_law 143 = .ok (.iadd, 1) := by decide +kernel
theorem d_W_law_144 : decode b_W_law 144 = .ok (.iaload, 1) := by decide +kernel
theorem d_W_law_145 : decode b_W_law 145 = .ok (.invokevirtual 27, 3) := by decide +kernel
theorem d_W_law_148 : decode b_W_law 148 = .ok (.aload_n 2, 1) := by decide +kernel
theorem d_W_law_149 : decode b_W_law 149 = .ok (.aload_n 0, 1) := by decide +kernel
theorem d_W_law_150 : decode b_W_law 150 = .ok (.iload 4, 2) := by decide +kernel
theorem d_W_law_152 : decode b_W_law 152 = .ok (.iconst 1, 1) := by decide +kernel
theorem d_W_law_153 : decode b_W_law 153 = .ok (.iadd, 1) := by decide +kernel
theorem d_W_law_154 : decode b_W_law 154 = .ok (.iaload, 1) := by decide +kernel
theorem d_W_law_155 : decode b_W_law 155 = .ok (.aload_n 0, 1) := by decide +kernel
theorem d_W_law_156 : decode b_W_law 156 = .ok (.iload 4, 2) := by decide +kernel
theorem d_W_law_158 : decode b_W_law 158 = .ok (.iconst 2, 1) := by decide +kernel
theorem d_W_law_159 : decode b_W_law 159 = .ok (.iadd, 1) := by decide +kernel
theorem d_W_law_160 : decode b_W_law 160 = .ok (.iaload, 1) := by decide +kernel
theorem d_W_law_161 : decode b_W_law 161 = .ok (.invokevirtual 31, 3) := by decide +kernel
theorem d_W_law_164 : decode b_W_law 164 = .ok (.if_icmp .eq 485, 3) := by decide +kernel
theorem d_W_law_167 : decode b_W_law 167 = .ok (.iconst 0, 1) := by decide +kernel
theorem d_W_law_168 : decode b_W_law 168 = .ok (.ireturn, 1) := by decide +kernel
theorem d_W_law_169 : decode b_W_law 169 = .ok (.aload_n 1, 1) := by decide +kernel
theorem d_W_law_170 : decode b_W_law 170 = .ok (.aload_n 0, 1) := by decide +kernel
theorem d_W_law_171 : decode b_W_law 171 = .ok (.iload 4, 2) := by decide +kernel
theorem d_W_law_173 : decode b_W_law 173 = .ok (.iconst 1, 1) := by decide +kernel
theorem d_W_law_174 : decode b_W_law 174 = .ok (.iadd, 1) := by decide +kernel
theorem d_W_law_175 : decode b_W_law 175 = .ok (.iaload, 1) := by decide +kernel
theorem d_W_law_176 : decode b_W_law 176 = .ok (.aload_n 0, 1) := by decide +kernel
theorem d_W_law_177 : decode b_W_law 177 = .ok (.iload 4, 2) := by decide +kernel
theorem d_W_law_179 : decode b_W_law 179 = .ok (.iconst 2, 1) := by decide +kernel
theorem d_W_law_180 : decode b_W_law 180 = .ok (.iadd, 1) := by decide +kernel
theorem d_W_law_181 : decode b_W_law 181 = .ok (.iaload, 1) := by decide +kernel
theorem d_W_law_182 : decode b_W_law 182 = .ok (.invokevirtual 32, 3) := by decide +kernel
theorem d_W_law_185 : decode b_W_law 185 = .ok (.aload_n 2, 1) := by decide +kernel
theorem d_W_law_186 : decode b_W_law 186 = .ok (.aload_n 0, 1) := by decide +kernel
theorem d_W_law_187 : decode b_W_law 187 = .ok (.iload 4, 2) := by decide +kernel
theorem d_W_law_189 : decode b_W_law 189 = .ok (.iconst 1, 1) := by decide +kernel
theorem d_W_law_190 : decode b_W_law 190 = .ok (.iadd, 1) := by decide +kernel
theorem d_W_law_191 : decode b_W_law 191 = .ok (.iaload, 1) := by decide +kernel
theorem d_W_law_192 : decode b_W_law 192 = .ok (.aload_n 0, 1) := by decide +kernel
theorem d_W_law_193 : decode b_W_law 193 = .ok (.iload 4, 2) := by decide +kernel
theorem d_W_law_195 : decode b_W_law 195 = .ok (.iconst 2, 1) := by decide +kernel
theorem d_W_law_196 : decode b_W_law 196 = .ok (.iadd, 1) := by decide +kernel
theorem d_W_law_197 : decode b_W_law 197 = .ok (.iaload, 1) := by decide +kernel
theorem d_W_law_198 : decode b_W_law 198 = .ok (.invokevirtual 35, 3) := by decide +kernel
theorem d_W_law_201 : decode b_W_law 201 = .ok (.if_icmp .eq 448, 3) := by decide +kernel
theorem d_W_law_204 : decode b_W_law 204 = .ok (.iconst 0, 1) := by decide +kernel
theorem d_W_law_205 : decode b_W_law 205 = .ok (.ireturn, 1) := by decide +kernel
theorem d_W_law_206 : decode b_W_law 206 = .ok (.aload_n 1, 1) := by decide +kernel
theorem d_W_law_207 : decode b_W_law 207 = .ok (.aload_n 0, 1) := by decide +kernel
theorem d_W_law_208 : decode b_W_law 208 = .ok (.iload 4, 2) := by decide +kernel
theorem d_W_law_210 : decode b_W_law 210 = .ok (.iconst 1, 1) := by decide +kernel
theorem d_W_law_211 : decode b_W_law 211 = .ok (.iadd, 1) := by decide +kernel
theorem d_W_law_212 : decode b_W_law 212 = .ok (.iaload, 1) := by decide +kernel
theorem d_W_law_213 : decode b_W_law 213 = .ok (.aload_n 0, 1) := by decide +kernel
theorem d_W_law_214 : decode b_W_law 214 = .ok (.iload 4, 2) := by decide +kernel
theorem d_W_law_216 : decode b_W_law 216 = .ok (.iconst 2, 1) := by decide +kernel
theorem d_W_law_217 : decode b_W_law 217 = .ok (.iadd, 1) := by decide +kernel
theorem d_W_law_218 : decode b_W_law 218 = .ok (.iaload, 1) := by decide +kernel
theorem d_W_law_219 : decode b_W_law 219 = .ok (.invokevirtual 36, 3) := by decide +kernel
theorem d_W_law_222 : decode b_W_law 222 = .ok (.aload_n 2, 1) := by decide +kernel
theorem d_W_law_223 : decode b_W_law 223 = .ok (.aload_n 0, 1) := by decide +kernel
theorem d_W_law_224 : decode b_W_law 224 = .ok (.iload 4, 2) := by decide +kernel
theorem d_W_law_226 : decode b_W_law 226 = .ok (.iconst 1, 1) := by decide +kernel
theorem d_W_law_227 : decode b_W_law 227 = .ok (.iadd, 1) := by decide +kernel
theorem d_W_law_228 : decode b_W_law 228 = .ok (.iaload, 1) := by decide +kernel
theorem d_W_law_229 : decode b_W_law 229 = .ok (.aload_n 0, 1) := by decide +kernel
theorem d_W_law_230 : decode b_W_law 230 = .ok (.iload 4, 2) := by decide +kernel
theorem d_W_law_232 : decode b_W_law 232 = .ok (.iconst 2, 1) := by decide +kernel
theorem d_W_law_233 : decode b_W_law 233 = .ok (.iadd, 1) := by decide +kernel
theorem d_W_law_234 : decode b_W_law 234 = .ok (.iaload, 1) := by decide +kernel
theorem d_W_law_235 : decode b_W_law 235 = .ok (.invokevirtual 39, 3) := by decide +kernel
theorem d_W_law_238 : decode b_W_law 238 = .ok (.if_icmp .eq 411, 3) := by decide +kernel
theorem d_W_law_241 : decode b_W_law 241 = .ok (.iconst 0, 1) := by decide +kernel
theorem d_W_law_242 : decode b_W_law 242 = .ok (.ireturn, 1) := by decide +kernel
theorem d_W_law_243 : decode b_W_law 243 = .ok (.aload_n 1, 1) := by decide +kernel
theorem d_W_law_244 : decode b_W_law 244 = .ok (.aload_n 0, 1) := by decide +kernel
theorem d_W_law_245 : decode b_W_law 245 = .ok (.iload 4, 2) := by decide +kernel
theorem d_W_law_247 : decode b_W_law 247 = .ok (.iconst 1, 1) := by decide +kernel
theorem d_W_law_248 : decode b_W_law 248 = .ok (.iadd, 1) := by decide +kernel
theorem d_W_law_249 : decode b_W_law 249 = .ok (.iaload, 1) := by decide +kernel
theorem d_W_law_250 : decode b_W_law 250 = .ok (.aload_n 0, 1) := by decide +kernel
theorem d_W_law_251 : decode b_W_law 251 = .ok (.iload 4, 2) := by decide +kernel
theorem d_W_law_253 : decode b_W_law 253 = .ok (.iconst 2, 1) := by decide +kernel
theorem d_W_law_254 : decode b_W_law 254 = .ok (.iadd, 1) := by decide +kernel
theorem d_W_law_255 : decode b_W_law 255 = .ok (.iaload, 1) := by decide +kernel
theorem d_W_law_256 : decode b_W_law 256 = .ok (.ifCond .eq 7, 3) := by decide +kernel
theorem d_W_law_259 : decode b_W_law 259 = .ok (.iconst 1, 1) := by decide +kernel
theorem d_W_law_260 : decode b_W_law 260 = .ok (.goto 4, 3) := by decide +kernel
theorem d_W_law_263 : decode b_W_law 263 = .ok (.iconst 0, 1) := by decide +kernel
theorem d_W_law_264 : decode b_W_law 264 = .ok (.invokevirtual 40, 3) := by decide +kernel
theorem d_W_law_267 : decode b_W_law 267 = .ok (.aload_n 2, 1) := by decide +kernel
theorem d_W_law_268 : decode b_W_law 268 = .ok (.aload_n 0, 1) := by decide +kernel
theorem d_W_law_269 : decode b_W_law 269 = .ok (.iload 4, 2) := by decide +kernel
theorem d_W_law_271 : decode b_W_law 271 = .ok (.iconst 1, 1) := by decide +kernel
theorem d_W_law_272 : decode b_W_law 272 = .ok (.iadd, 1) := by decide +kernel
theorem d_W_law_273 : decode b_W_law 273 = .ok (.iaload, 1) := by decide +kernel
theorem d_W_law_274 : decode b_W_law 274 = .ok (.aload_n 0, 1) := by decide +kernel
theorem d_W_law_275 : decode b_W_law 275 = .ok (.iload 4, 2) := by decide +kernel
theorem d_W_law_277 : decode b_W_law 277 = .ok (.iconst 2, 1) := by decide +kernel
theorem d_W_law_278 : decode b_W_law 278 = .ok (.iadd, 1) := by decide +kernel
theorem d_W_law_279 : decode b_W_law 279 = .ok (.iaload, 1) := by decide +kernel
theorem d_W_law_280 : decode b_W_law 280 = .ok (.ifCond .eq 7, 3) := by decide +kernel
theorem d_W_law_283 : decode b_W_law 283 = .ok (.iconst 1, 1) := by decide +kernel
theorem d_W_law_284 : decode b_W_law 284 = .ok (.goto 4, 3) := by decide +kernel
theorem d_W_law_287 : decode b_W_law 287 = .ok (.iconst 0, 1) := by decide +kernel
theorem d_W_law_288 : decode b_W_law 288 = .ok (.invokevirtual 44, 3) := by decide +kernel
theorem d_W_law_291 : decode b_W_law 291 = .ok (.if_icmp .eq 358, 3) := by decide +kernel
theorem d_W_law_294 : decode b_W_law 294 = .ok (.iconst 0, 1) := by decide +kernel
theorem d_W_law_295 : decode b_W_law 295 = .ok (.ireturn, 1) := by decide +kernel
theorem d_W_law_296 : decode b_W_law 296 = .ok (.aload_n 1, 1) := by decide +kernel
theorem d_W_law_297 : decode b_W_law 297 = .ok (.aload_n 0, 1) := by decide +kernel
theorem d_W_law_298 : decode b_W_law 298 = .ok (.iload 4, 2) := by decide +kernel
theorem d_W_law_300 : decode b_W_law 300 = .ok (.iconst 1, 1) := by decide +kernel
theorem d_W_law_301 : decode b_W_law 301 = .ok (.iadd, 1) := by decide +kernel
theorem d_W_law_302 : decode b_W_law 302 = .ok (.iaload, 1) := by decide +kernel
theorem d_W_law_303 : decode b_W_law 303 = .ok (.aload_n 0, 1) := by decide +kernel
theorem d_W_law_304 : decode b_W_law 304 = .ok (.iload 4, 2) := by decide +kernel
theorem d_W_law_306 : decode b_W_law 306 = .ok (.iconst 2, 1) := by decide +kernel
theorem d_W_law_307 : decode b_W_law 307 = .ok (.iadd, 1) := by decide +kernel
theorem d_W_law_308 : decode b_W_law 308 = .ok (.iaload, 1) := by decide +kernel
theorem d_W_law_309 : decode b_W_law 309 = .ok (.aload_n 0, 1) := by decide +kernel
theorem d_W_law_310 : decode b_W_law 310 = .ok (.iload 4, 2) := by decide +kernel
theorem d_W_law_312 : decode b_W_law 312 = .ok (.iconst 3, 1) := by decide +kernel
theorem d_W_law_313 : decode b_W_law 313 = .ok (.iadd, 1) := by decide +kernel
theorem d_W_law_314 : decode b_W_law 314 = .ok (.iaload, 1) := by decide +kernel
theorem d_W_law_315 : decode b_W_law 315 = .ok (.aload_n 0, 1) := by decide +kernel
theorem d_W_law_316 : decode b_W_law 316 = .ok (.iload 4, 2) := by decide +kernel
theorem d_W_law_318 : decode b_W_law 318 = .ok (.iconst 4, 1) := by decide +kernel
theorem d_W_law_319 : decode b_W_law 319 = .ok (.iadd, 1) := by decide +kernel
theorem d_W_law_320 : decode b_W_law 320 = .ok (.iaload, 1) := by decide +kernel
theorem d_W_law_321 : decode b_W_law 321 = .ok (.aload_n 0, 1) := by decide +kernel
theorem d_W_law_322 : decode b_W_law 322 = .ok (.iload 4, 2) := by decide +kernel
theorem d_W_law_324 : decode b_W_law 324 = .ok (.iconst 5, 1) := by decide +kernel
theorem d_W_law_325 : decode b_W_law 325 = .ok (.iadd, 1) := by decide +kernel
theorem d_W_law_326 : decode b_W_law 326 = .ok (.iaload, 1) := by decide +kernel
theorem d_W_law_327 : decode b_W_law 327 = .ok (.aload_n 0, 1) := by decide +kernel
theorem d_W_law_328 : decode b_W_law 328 = .ok (.iload 4, 2) := by decide +kernel
theorem d_W_law_330 : decode b_W_law 330 = .ok (.bipush 6, 2) := by decide +kernel
theorem d_W_law_332 : decode b_W_law 332 = .ok (.iadd, 1) := by decide +kernel
theorem d_W_law_333 : decode b_W_law 333 = .ok (.iaload, 1) := by decide +kernel
theorem d_W_law_334 : decode b_W_law 334 = .ok (.invokevirtual 45, 3) := by decide +kernel
theorem d_W_law_337 : decode b_W_law 337 = .ok (.aload_n 2, 1) := by decide +kernel
theorem d_W_law_338 : decode b_W_law 338 = .ok (.aload_n 0, 1) := by decide +kernel
theorem d_W_law_339 : decode b_W_law 339 = .ok (.iload 4, 2) := by decide +kernel
theorem d_W_law_341 : decode b_W_law 341 = .ok (.iconst 1, 1) := by decide +kernel
theorem d_W_law_342 : decode b_W_law 342 = .ok (.iadd, 1) := by decide +kernel
theorem d_W_law_343 : decode b_W_law 343 = .ok (.iaload, 1) := by decide +kernel
theorem d_W_law_344 : decode b_W_law 344 = .ok (.aload_n 0, 1) := by decide +kernel
theorem d_W_law_345 : decode b_W_law 345 = .ok (.iload 4, 2) := by decide +kernel
theorem d_W_law_347 : decode b_W_law 347 = .ok (.iconst 2, 1) := by decide +kernel
theorem d_W_law_348 : decode b_W_law 348 = .ok (.iadd, 1) := by decide +kernel
theorem d_W_law_349 : decode b_W_law 349 = .ok (.iaload, 1) := by decide +kernel
theorem d_W_law_350 : decode b_W_law 350 = .ok (.aload_n 0, 1) := by decide +kernel
theorem d_W_law_351 : decode b_W_law 351 = .ok (.iload 4, 2) := by decide +kernel
theorem d_W_law_353 : decode b_W_law 353 = .ok (.iconst 3, 1) := by decide +kernel
theorem d_W_law_354 : decode b_W_law 354 = .ok (.iadd, 1) := by decide +kernel
theorem d_W_law_355 : decode b_W_law 355 = .ok (.iaload, 1) := by decide +kernel
theorem d_W_law_356 : decode b_W_law 356 = .ok (.aload_n 0, 1) := by decide +kernel
theorem d_W_law_357 : decode b_W_law 357 = .ok (.iload 4, 2) := by decide +kernel
theorem d_W_law_359 : decode b_W_law 359 = .ok (.iconst 4, 1) := by decide +kernel
theorem d_W_law_360 : decode b_W_law 360 = .ok (.iadd, 1) := by decide +kernel
theorem d_W_law_361 : decode b_W_law 361 = .ok (.iaload, 1) := by decide +kernel
theorem d_W_law_362 : decode b_W_law 362 = .ok (.aload_n 0, 1) := by decide +kernel
theorem d_W_law_363 : decode b_W_law 363 = .ok (.iload 4, 2) := by decide +kernel
theorem d_W_law_365 : decode b_W_law 365 = .ok (.iconst 5, 1) := by decide +kernel
theorem d_W_law_366 : decode b_W_law 366 = .ok (.iadd, 1) := by decide +kernel
theorem d_W_law_367 : decode b_W_law 367 = .ok (.iaload, 1) := by decide +kernel
theorem d_W_law_368 : decode b_W_law 368 = .ok (.aload_n 0, 1) := by decide +kernel
theorem d_W_law_369 : decode b_W_law 369 = .ok (.iload 4, 2) := by decide +kernel
theorem d_W_law_371 : decode b_W_law 371 = .ok (.bipush 6, 2) := by decide +kernel
theorem d_W_law_373 : decode b_W_law 373 = .ok (.iadd, 1) := by decide +kernel
theorem d_W_law_374 : decode b_W_law 374 = .ok (.iaload, 1) := by decide +kernel
theorem d_W_law_375 : decode b_W_law 375 = .ok (.invokevirtual 49, 3) := by decide +kernel
theorem d_W_law_378 : decode b_W_law 378 = .ok (.if_icmp .eq 271, 3) := by decide +kernel
theorem d_W_law_381 : decode b_W_law 381 = .ok (.iconst 0, 1) := by decide +kernel
theorem d_W_law_382 : decode b_W_law 382 = .ok (.ireturn, 1) := by decide +kernel
theorem d_W_law_383 : decode b_W_law 383 = .ok (.aload_n 1, 1) := by decide +kernel
theorem d_W_law_384 : decode b_W_law 384 = .ok (.aload_n 0, 1) := by decide +kernel
theorem d_W_law_385 : decode b_W_law 385 = .ok (.iload 4, 2) := by decide +kernel
theorem d_W_law_387 : decode b_W_law 387 = .ok (.iconst 1, 1) := by decide +kernel
theorem d_W_law_388 : decode b_W_law 388 = .ok (.iadd, 1) := by decide +kernel
theorem d_W_law_389 : decode b_W_law 389 = .ok (.iaload, 1) := by decide +kernel
theorem d_W_law_390 : decode b_W_law 390 = .ok (.aload_n 0, 1) := by decide +kernel
theorem d_W_law_391 : decode b_W_law 391 = .ok (.iload 4, 2) := by decide +kernel
theorem d_W_law_393 : decode b_W_law 393 = .ok (.iconst 2, 1) := by decide +kernel
theorem d_W_law_394 : decode b_W_law 394 = .ok (.iadd, 1) := by decide +kernel
theorem d_W_law_395 : decode b_W_law 395 = .ok (.iaload, 1) := by decide +kernel
theorem d_W_law_396 : decode b_W_law 396 = .ok (.aload_n 0, 1) := by decide +kernel
theorem d_W_law_397 : decode b_W_law 397 = .ok (.iload 4, 2) := by decide +kernel
theorem d_W_law_399 : decode b_W_law 399 = .ok (.iconst 3, 1) := by decide +kernel
theorem d_W_law_400 : decode b_W_law 400 = .ok (.iadd, 1) := by decide +kernel
theorem d_W_law_401 : decode b_W_law 401 = .ok (.iaload, 1) := by decide +kernel
theorem d_W_law_402 : decode b_W_law 402 = .ok (.invokevirtual 50, 3) := by decide +kernel
theorem d_W_law_405 : decode b_W_law 405 = .ok (.aload_n 2, 1) := by decide +kernel
theorem d_W_law_406 : decode b_W_law 406 = .ok (.aload_n 0, 1) := by decide +kernel
theorem d_W_law_407 : decode b_W_law 407 = .ok (.iload 4, 2) := by decide +kernel
theorem d_W_law_409 : decode b_W_law 409 = .ok (.iconst 1, 1) := by decide +kernel
theorem d_W_law_410 : decode b_W_law 410 = .ok (.iadd, 1) := by decide +kernel
theorem d_W_law_411 : decode b_W_law 411 = .ok (.iaload, 1) := by decide +kernel
theorem d_W_law_412 : decode b_W_law 412 = .ok (.aload_n 0, 1) := by decide +kernel
theorem d_W_law_413 : decode b_W_law 413 = .ok (.iload 4, 2) := by decide +kernel
theorem d_W_law_415 : decode b_W_law 415 = .ok (.iconst 2, 1) := by decide +kernel
theorem d_W_law_416 : decode b_W_law 416 = .ok (.iadd, 1) := by decide +kernel
theorem d_W_law_417 : decode b_W_law 417 = .ok (.iaload, 1) := by decide +kernel
theorem d_W_law_418 : decode b_W_law 418 = .ok (.aload_n 0, 1) := by decide +kernel
theorem d_W_law_419 : decode b_W_law 419 = .ok (.iload 4, 2) := by decide +kernel
theorem d_W_law_421 : decode b_W_law 421 = .ok (.iconst 3, 1) := by decide +kernel
theorem d_W_law_422 : decode b_W_law 422 = .ok (.iadd, 1) := by decide +kernel
theorem d_W_law_423 : decode b_W_law 423 = .ok (.iaload, 1) := by decide +kernel
theorem d_W_law_424 : decode b_W_law 424 = .ok (.invokevirtual 53, 3) := by decide +kernel
theorem d_W_law_427 : decode b_W_law 427 = .ok (.if_icmp .eq 222, 3) := by decide +kernel
theorem d_W_law_430 : decode b_W_law 430 = .ok (.iconst 0, 1) := by decide +kernel
theorem d_W_law_431 : decode b_W_law 431 = .ok (.ireturn, 1) := by decide +kernel
theorem d_W_law_432 : decode b_W_law 432 = .ok (.aload_n 1, 1) := by decide +kernel
theorem d_W_law_433 : decode b_W_law 433 = .ok (.aload_n 0, 1) := by decide +kernel
theorem d_W_law_434 : decode b_W_law 434 = .ok (.iload 4, 2) := by decide +kernel
theorem d_W_law_436 : decode b_W_law 436 = .ok (.iconst 1, 1) := by decide +kernel
theorem d_W_law_437 : decode b_W_law 437 = .ok (.iadd, 1) := by decide +kernel
theorem d_W_law_438 : decode b_W_law 438 = .ok (.iaload, 1) := by decide +kernel
theorem d_W_law_439 : decode b_W_law 439 = .ok (.invokevirtual 54, 3) := by decide +kernel
theorem d_W_law_442 : decode b_W_law 442 = .ok (.aload_n 2, 1) := by decide +kernel
theorem d_W_law_443 : decode b_W_law 443 = .ok (.aload_n 0, 1) := by decide +kernel
theorem d_W_law_444 : decode b_W_law 444 = .ok (.iload 4, 2) := by decide +kernel
theorem d_W_law_446 : decode b_W_law 446 = .ok (.iconst 1, 1) := by decide +kernel
theorem d_W_law_447 : decode b_W_law 447 = .ok (.iadd, 1) := by decide +kernel
theorem d_W_law_448 : decode b_W_law 448 = .ok (.iaload, 1) := by decide +kernel
theorem d_W_law_449 : decode b_W_law 449 = .ok (.invokevirtual 58, 3) := by decide +kernel
theorem d_W_law_452 : decode b_W_law 452 = .ok (.if_icmp .eq 197, 3) := by decide +kernel
theorem d_W_law_455 : decode b_W_law 455 = .ok (.iconst 0, 1) := by decide +kernel
theorem d_W_law_456 : decode b_W_law 456 = .ok (.ireturn, 1) := by decide +kernel
theorem d_W_law_457 : decode b_W_law 457 = .ok (.aload_n 1, 1) := by decide +kernel
theorem d_W_law_458 : decode b_W_law 458 = .ok (.aload_n 0, 1) := by decide +kernel
theorem d_W_law_459 : decode b_W_law 459 = .ok (.iload 4, 2) := by decide +kernel
theorem d_W_law_461 : decode b_W_law 461 = .ok (.iconst 1, 1) := by decide +kernel
theorem d_W_law_462 : decode b_W_law 462 = .ok (.iadd, 1) := by decide +kernel
theorem d_W_law_463 : decode b_W_law 463 = .ok (.iaload, 1) := by decide +kernel
theorem d_W_law_464 : decode b_W_law 464 = .ok (.aload_n 0, 1) := by decide +kernel
theorem d_W_law_465 : decode b_W_law 465 = .ok (.iload 4, 2) := by decide +kernel
theorem d_W_law_467 : decode b_W_law 467 = .ok (.iconst 2, 1) := by decide +kernel
theorem d_W_law_468 : decode b_W_law 468 = .ok (.iadd, 1) := by decide +kernel
theorem d_W_law_469 : decode b_W_law 469 = .ok (.iaload, 1) := by decide +kernel
theorem d_W_law_470 : decode b_W_law 470 = .ok (.aload_n 0, 1) := by decide +kernel
theorem d_W_law_471 : decode b_W_law 471 = .ok (.iload 4, 2) := by decide +kernel
theorem d_W_law_473 : decode b_W_law 473 = .ok (.iconst 3, 1) := by decide +kernel
theorem d_W_law_474 : decode b_W_law 474 = .ok (.iadd, 1) := by decide +kernel
theorem d_W_law_475 : decode b_W_law 475 = .ok (.iaload, 1) := by decide +kernel
theorem d_W_law_476 : decode b_W_law 476 = .ok (.aload_n 3, 1) := by decide +kernel
theorem d_W_law_477 : decode b_W_law 477 = .ok (.invokestatic 59, 3) := by decide +kernel
theorem d_W_law_480 : decode b_W_law 480 = .ok (.istore 5, 2) := by decide +kernel
theorem d_W_law_482 : decode b_W_law 482 = .ok (.aload_n 2, 1) := by decide +kernel
theorem d_W_law_483 : decode b_W_law 483 = .ok (.aload_n 0, 1) := by decide +kernel
theorem d_W_law_484 : decode b_W_law 484 = .ok (.iload 4, 2) := by decide +kernel
theorem d_W_law_486 : decode b_W_law 486 = .ok (.iconst 1, 1) := by decide +kernel
theorem d_W_law_487 : decode b_W_law 487 = .ok (.iadd, 1) := by decide +kernel
theorem d_W_law_488 : decode b_W_law 488 = .ok (.iaload, 1) := by decide +kernel
theorem d_W_law_489 : decode b_W_law 489 = .ok (.aload_n 0, 1) := by decide +kernel
theorem d_W_law_490 : decode b_W_law 490 = .ok (.iload 4, 2) := by decide +kernel
theorem d_W_law_492 : decode b_W_law 492 = .ok (.iconst 2, 1) := by decide +kernel
theorem d_W_law_493 : decode b_W_law 493 = .ok (.iadd, 1) := by decide +kernel
theorem d_W_law_494 : decode b_W_law 494 = .ok (.iaload, 1) := by decide +kernel
theorem d_W_law_495 : decode b_W_law 495 = .ok (.aload_n 0, 1) := by decide +kernel
theorem d_W_law_496 : decode b_W_law 496 = .ok (.iload 4, 2) := by decide +kernel
theorem d_W_law_498 : decode b_W_law 498 = .ok (.iconst 3, 1) := by decide +kernel
theorem d_W_law_499 : decode b_W_law 499 = .ok (.iadd, 1) := by decide +kernel
theorem d_W_law_500 : decode b_W_law 500 = .ok (.iaload, 1) := by decide +kernel
theorem d_W_law_501 : decode b_W_law 501 = .ok (.invokevirtual 62, 3) := by decide +kernel
theorem d_W_law_504 : decode b_W_law 504 = .ok (.istore 6, 2) := by decide +kernel
theorem d_W_law_506 : decode b_W_law 506 = .ok (.aload_n 2, 1) := by decide +kernel
theorem d_W_law_507 : decode b_W_law 507 = .ok (.invokevirtual 63, 3) := by decide +kernel
theorem d_W_law_510 : decode b_W_law 510 = .ok (.iload 5, 2) := by decide +kernel
theorem d_W_law_512 : decode b_W_law 512 = .ok (.if_icmp .eq 5, 3) := by decide +kernel
theorem d_W_law_515 : decode b_W_law 515 = .ok (.iconst 0, 1) := by decide +kernel
theorem d_W_law_516 : decode b_W_law 516 = .ok (.ireturn, 1) := by decide +kernel
theorem d_W_law_517 : decode b_W_law 517 = .ok (.iload 5, 2) := by decide +kernel
theorem d_W_law_519 : decode b_W_law 519 = .ok (.ifCond .ne 15, 3) := by decide +kernel
theorem d_W_law_522 : decode b_W_law 522 = .ok (.aload_n 3, 1) := by decide +kernel
theorem d_W_law_523 : decode b_W_law 523 = .ok (.iconst 0, 1) := by decide +kernel
theorem d_W_law_524 : decode b_W_law 524 = .ok (.laload, 1) := by decide +kernel
theorem d_W_law_525 : decode b_W_law 525 = .ok (.iload 6, 2) := by decide +kernel
theorem d_W_law_527 : decode b_W_law 527 = .ok (.i2l, 1) := by decide +kernel
theorem d_W_law_528 : decode b_W_law 528 = .ok (.lcmp, 1) := by decide +kernel
theorem d_W_law_529 : decode b_W_law 529 = .ok (.ifCond .eq 5, 3) := by decide +kernel
theorem d_W_law_532 : decode b_W_law 532 = .ok (.iconst 0, 1) := by decide +kernel
theorem d_W_law_533 : decode b_W_law 533 = .ok (.ireturn, 1) := by decide +kernel
theorem d_W_law_534 : decode b_W_law 534 = .ok (.goto 115, 3) := by decide +kernel
theorem d_W_law_537 : decode b_W_law 537 = .ok (.aload_n 1, 1) := by decide +kernel
theorem d_W_law_538 : decode b_W_law 538 = .ok (.aload_n 0, 1) := by decide +kernel
theorem d_W_law_539 : decode b_W_law 539 = .ok (.iload 4, 2) := by decide +kernel
theorem d_W_law_541 : decode b_W_law 541 = .ok (.iconst 1, 1) := by decide +kernel
theorem d_W_law_542 : decode b_W_law 542 = .ok (.iadd, 1) := by decide +kernel
theorem d_W_law_543 : decode b_W_law 543 = .ok (.iaload, 1) := by decide +kernel
theorem d_W_law_544 : decode b_W_law 544 = .ok (.aload_n 0, 1) := by decide +kernel
theorem d_W_law_545 : decode b_W_law 545 = .ok (.iload 4, 2) := by decide +kernel
theorem d_W_law_547 : decode b_W_law 547 = .ok (.iconst 2, 1) := by decide +kernel
theorem d_W_law_548 : decode b_W_law 548 = .ok (.iadd, 1) := by decide +kernel
theorem d_W_law_549 : decode b_W_law 549 = .ok (.iaload, 1) := by decide +kernel
theorem d_W_law_550 : decode b_W_law 550 = .ok (.invokevirtual 67, 3) := by decide +kernel
theorem d_W_law_553 : decode b_W_law 553 = .ok (.aload_n 2, 1) := by decide +kernel
theorem d_W_law_554 : decode b_W_law 554 = .ok (.aload_n 0, 1) := by decide +kernel
theorem d_W_law_555 : decode b_W_law 555 = .ok (.iload 4, 2) := by decide +kernel
theorem d_W_law_557 : decode b_W_law 557 = .ok (.iconst 1, 1) := by decide +kernel
theorem d_W_law_558 : decode b_W_law 558 = .ok (.iadd, 1) := by decide +kernel
theorem d_W_law_559 : decode b_W_law 559 = .ok (.iaload, 1) := by decide +kernel
theorem d_W_law_560 : decode b_W_law 560 = .ok (.aload_n 0, 1) := by decide +kernel
theorem d_W_law_561 : decode b_W_law 561 = .ok (.iload 4, 2) := by decide +kernel
theorem d_W_law_563 : decode b_W_law 563 = .ok (.iconst 2, 1) := by decide +kernel
theorem d_W_law_564 : decode b_W_law 564 = .ok (.iadd, 1) := by decide +kernel
theorem d_W_law_565 : decode b_W_law 565 = .ok (.iaload, 1) := by decide +kernel
theorem d_W_law_566 : decode b_W_law 566 = .ok (.invokevirtual 70, 3) := by decide +kernel
theorem d_W_law_569 : decode b_W_law 569 = .ok (.if_icmp .eq 80, 3) := by decide +kernel
theorem d_W_law_572 : decode b_W_law 572 = .ok (.iconst 0, 1) := by decide +kernel
theorem d_W_law_573 : decode b_W_law 573 = .ok (.ireturn, 1) := by decide +kernel
theorem d_W_law_574 : decode b_W_law 574 = .ok (.aload_n 1, 1) := by decide +kernel
theorem d_W_law_575 : decode b_W_law 575 = .ok (.aload_n 0, 1) := by decide +kernel
theorem d_W_law_576 : decode b_W_law 576 = .ok (.iload 4, 2) := by decide +kernel
theorem d_W_law_578 : decode b_W_law 578 = .ok (.iconst 1, 1) := by decide +kernel
theorem d_W_law_579 : decode b_W_law 579 = .ok (.iadd, 1) := by decide +kernel
theorem d_W_law_580 : decode b_W_law 580 = .ok (.iaload, 1) := by decide +kernel
theorem d_W_law_581 : decode b_W_law 581 = .ok (.invokevirtual 71, 3) := by decide +kernel
theorem d_W_law_584 : decode b_W_law 584 = .ok (.aload_n 2, 1) := by decide +kernel
theorem d_W_law_585 : decode b_W_law 585 = .ok (.aload_n 0, 1) := by decide +kernel
theorem d_W_law_586 : decode b_W_law 586 = .ok (.iload 4, 2) := by decide +kernel
theorem d_W_law_588 : decode b_W_law 588 = .ok (.iconst 1, 1) := by decide +kernel
theorem d_W_law_589 : decode b_W_law 589 = .ok (.iadd, 1) := by decide +kernel
theorem d_W_law_590 : decode b_W_law 590 = .ok (.iaload, 1) := by decide +kernel
theorem d_W_law_591 : decode b_W_law 591 = .ok (.invokevirtual 74, 3) := by decide +kernel
theorem d_W_law_594 : decode b_W_law 594 = .ok (.if_icmp .eq 55, 3) := by decide +kernel
theorem d_W_law_597 : decode b_W_law 597 = .ok (.iconst 0, 1) := by decide +kernel
theorem d_W_law_598 : decode b_W_law 598 = .ok (.ireturn, 1) := by decide +kernel
theorem d_W_law_599 : decode b_W_law 599 = .ok (.aload_n 1, 1) := by decide +kernel
theorem d_W_law_600 : decode b_W_law 600 = .ok (.invokevirtual 75, 3) := by decide +kernel
theorem d_W_law_603 : decode b_W_law 603 = .ok (.aload_n 2, 1) := by decide +kernel
theorem d_W_law_604 : decode b_W_law 604 = .ok (.invokevirtual 78, 3) := by decide +kernel
theorem d_W_law_607 : decode b_W_law 607 = .ok (.if_icmp .eq 42, 3) := by decide +kernel
theorem d_W_law_610 : decode b_W_law 610 = .ok (.iconst 0, 1) := by decide +kernel
theorem d_W_law_611 : decode b_W_law 611 = .ok (.ireturn, 1) := by decide +kernel
theorem d_W_law_612 : decode b_W_law 612 = .ok (.aload_n 1, 1) := by decide +kernel
theorem d_W_law_613 : decode b_W_law 613 = .ok (.aload_n 0, 1) := by decide +kernel
theorem d_W_law_614 : decode b_W_law 614 = .ok (.iload 4, 2) := by decide +kernel
theorem d_W_law_616 : decode b_W_law 616 = .ok (.iconst 1, 1) := by decide +kernel
theorem d_W_law_617 : decode b_W_law 617 = .ok (.iadd, 1) := by decide +kernel
theorem d_W_law_618 : decode b_W_law 618 = .ok (.iaload, 1) := by decide +kernel
theorem d_W_law_619 : decode b_W_law 619 = .ok (.aload_n 0, 1) := by decide +kernel
theorem d_W_law_620 : decode b_W_law 620 = .ok (.iload 4, 2) := by decide +kernel
theorem d_W_law_622 : decode b_W_law 622 = .ok (.iconst 2, 1) := by decide +kernel
theorem d_W_law_623 : decode b_W_law 623 = .ok (.iadd, 1) := by decide +kernel
theorem d_W_law_624 : decode b_W_law 624 = .ok (.iaload, 1) := by decide +kernel
theorem d_W_law_625 : decode b_W_law 625 = .ok (.invokevirtual 79, 3) := by decide +kernel
theorem d_W_law_628 : decode b_W_law 628 = .ok (.aload_n 2, 1) := by decide +kernel
theorem d_W_law_629 : decode b_W_law 629 = .ok (.aload_n 0, 1) := by decide +kernel
theorem d_W_law_630 : decode b_W_law 630 = .ok (.iload 4, 2) := by decide +kernel
theorem d_W_law_632 : decode b_W_law 632 = .ok (.iconst 1, 1) := by decide +kernel
theorem d_W_law_633 : decode b_W_law 633 = .ok (.iadd, 1) := by decide +kernel
theorem d_W_law_634 : decode b_W_law 634 = .ok (.iaload, 1) := by decide +kernel
theorem d_W_law_635 : decode b_W_law 635 = .ok (.aload_n 0, 1) := by decide +kernel
theorem d_W_law_636 : decode b_W_law 636 = .ok (.iload 4, 2) := by decide +kernel
theorem d_W_law_638 : decode b_W_law 638 = .ok (.iconst 2, 1) := by decide +kernel
theorem d_W_law_639 : decode b_W_law 639 = .ok (.iadd, 1) := by decide +kernel
theorem d_W_law_640 : decode b_W_law 640 = .ok (.iaload, 1) := by decide +kernel
theorem d_W_law_641 : decode b_W_law 641 = .ok (.invokevirtual 82, 3) := by decide +kernel
theorem d_W_law_644 : decode b_W_law 644 = .ok (.if_icmp .eq 5, 3) := by decide +kernel
theorem d_W_law_647 : decode b_W_law 647 = .ok (.iconst 0, 1) := by decide +kernel
theorem d_W_law_648 : decode b_W_law 648 = .ok (.ireturn, 1) := by decide +kernel
theorem d_W_law_649 : decode b_W_law 649 = .ok (.iinc 4 7, 3) := by decide +kernel
theorem d_W_law_652 : decode b_W_law 652 = .ok (.goto (-599), 3) := by decide +kernel
theorem d_W_law_655 : decode b_W_law 655 = .ok (.iconst 1, 1) := by decide +kernel
theorem d_W_law_656 : decode b_W_law 656 = .ok (.ireturn, 1) := by decide +kernel
