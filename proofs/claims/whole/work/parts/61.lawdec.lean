theorem d_Z_cell_0 : decode b_Z_cell 0 = .ok (.iload_n 1, 1) := by decide +kernel
theorem d_Z_cell_1 : decode b_Z_cell 1 = .ok (.aload_n 0, 1) := by decide +kernel
theorem d_Z_cell_2 : decode b_Z_cell 2 = .ok (.arraylength, 1) := by decide +kernel
theorem d_Z_cell_3 : decode b_Z_cell 3 = .ok (.if_icmp .ge 9, 3) := by decide +kernel
theorem d_Z_cell_6 : decode b_Z_cell 6 = .ok (.aload_n 0, 1) := by decide +kernel
theorem d_Z_cell_7 : decode b_Z_cell 7 = .ok (.iload_n 1, 1) := by decide +kernel
theorem d_Z_cell_8 : decode b_Z_cell 8 = .ok (.iaload, 1) := by decide +kernel
theorem d_Z_cell_9 : decode b_Z_cell 9 = .ok (.goto 4, 3) := by decide +kernel
theorem d_Z_cell_12 : decode b_Z_cell 12 = .ok (.iconst 0, 1) := by decide +kernel
theorem d_Z_cell_13 : decode b_Z_cell 13 = .ok (.ireturn, 1) := by decide +kernel
theorem d_Z_law_0 : decode b_Z_law 0 = .ok (.new 7, 3) := by decide +kernel
theorem d_Z_law_3 : decode b_Z_law 3 = .ok (.dup, 1) := by decide +kernel
theorem d_Z_law_4 : decode b_Z_law 4 = .ok (.aload_n 0, 1) := by decide +kernel
theorem d_Z_law_5 : decode b_Z_law 5 = .ok (.iconst 0, 1) := by decide +kernel
theorem d_Z_law_6 : decode b_Z_law 6 = .ok (.invokestatic 9, 3) := by decide +kernel
theorem d_Z_law_9 : decode b_Z_law 9 = .ok (.aload_n 0, 1) := by decide +kernel
theorem d_Z_law_10 : decode b_Z_law 10 = .ok (.iconst 1, 1) := by decide +kernel
theorem d_Z_law_11 : decode b_Z_law 11 = .ok (.invokestatic 9, 3) := by decide +kernel
theorem d_Z_law_14 : decode b_Z_law 14 = .ok (.aload_n 0, 1) := by decide +kernel
theorem d_Z_law_15 : decode b_Z_law 15 = .ok (.iconst 2, 1) := by decide +kernel
theorem d_Z_law_16 : decode b_Z_law 16 = .ok (.invokestatic 9, 3) := by decide +kernel
theorem d_Z_law_19 : decode b_Z_law 19 = .ok (.invokespecial 15, 3) := by decide +kernel
theorem d_Z_law_22 : decode b_Z_law 22 = .ok (.astore_n 1, 1) := by decide +kernel
theorem d_Z_law_23 : decode b_Z_law 23 = .ok (.new 18, 3) := by decide +kernel
theorem d_Z_law_26 : decode b_Z_law 26 = .ok (.dup, 1) := by decide +kernel
theorem d_Z_law_27 : decode b_Z_law 27 = .ok (.aload_n 0, 1) := by decide +kernel
theorem d_Z_law_28 : decode b_Z_law 28 = .ok (.iconst 0, 1) := by decide +kernel
theorem d_Z_law_29 : decode b_Z_law 29 = .ok (.invokestatic 9, 3) := by decide +kernel
theorem d_Z_law_32 : decode b_Z_law 32 = .ok (.aload_n 0, 1) := by decide +kernel
theorem d_Z_law_33 : decode b_Z_law 33 = .ok (.iconst 1, 1) := by decide +kernel
theorem d_Z_law_34 : decode b_Z_law 34 = .ok (.invokestatic 9, 3) := by decide +kernel
theorem d_Z_law_37 : decode b_Z_law 37 = .ok (.aload_n 0, 1) := by decide +kernel
theorem d_Z_law_38 : decode b_Z_law 38 = .ok (.iconst 2, 1) := by decide +kernel
theorem d_Z_law_39 : decode b_Z_law 39 = .ok (.invokestatic 9, 3) := by decide +kernel
theorem d_Z_law_42 : decode b_Z_law 42 = .ok (.invokespecial 20, 3) := by decide +kernel
theorem d_Z_law_45 : decode b_Z_law 45 = .ok (.astore_n 2, 1) := by decide +kernel
theorem d_Z_law_46 : decode b_Z_law 46 = .ok (.iconst 3, 1) := by decide +kernel
theorem d_Z_law_47 : decode b_Z_law 47 = .ok (.istore_n 3, 1) := by decide +kernel
theorem d_Z_law_48 : decode b_Z_law 48 = .ok (.iload_n 3, 1) := by decide +kernel
theorem d_Z_law_49 : decode b_Z_law 49 = .ok (.aload_n 0, 1) := by decide +kernel
theorem d_Z_law_50 : decode b_Z_law 50 = .ok (.arraylength, 1) := by decide +kernel
theorem d_Z_law_51 : decode b_Z_law 51 = .ok (.iconst 4, 1) := by decide +kernel
theorem d_Z_law_52 : decode b_Z_law 52 = .ok (.isub, 1) := by decide +kernel
theorem d_Z_law_53 : decode b_Z_law 53 = .ok (.if_icmp .gt 541, 3) := by decide +kernel
theorem d_Z_law_56 : decode b_Z_law 56 = .ok (.aload_n 0, 1) := by decide +kernel
theorem d_Z_law_57 : decode b_Z_law 57 = .ok (.iload_n 3, 1) := by decide +kernel
theorem d_Z_law_58 : decode b_Z_law 58 = .ok (.iaload, 1) := by decide +kernel
theorem d_Z_law_59 : decode b_Z_law 59 = .ok (.bipush 31, 2) := by decide +kernel
theorem d_Z_law_61 : decode b_Z_law 61 = .ok (.iand, 1) := by decide +kernel
theorem d_Z_law_156 : decode b_Z_law 156 = .ok (.aload_n 1, 1) := by decide +kernel
theorem d_Z_law_157 : decode b_Z_law 157 = .ok (.aload_n 0, 1) := by decide +kernel
theorem d_Z_law_158 : decode b_Z_law 158 = .ok (.iload_n 3, 1) := by decide +kernel
theorem d_Z_law_159 : decode b_Z_law 159 = .ok (.iconst 1, 1) := by decide +kernel
theorem d_Z_law_160 : decode b_Z_law 160 = .ok (.iadd, 1) := by decide +kernel
theorem d_Z_law_161 : decode b_Z_law 161 = .ok (.iaload, 1) := by decide +kernel
theorem d_Z_law_162 : decode b_Z_law 162 = .ok (.invokevirtual 21, 3) := by decide +kernel
theorem d_Z_law_165 : decode b_Z_law 165 = .ok (.aload_n 2, 1) := by decide +kernel
theorem d_Z_law_166 : decode b_Z_law 166 = .ok (.aload_n 0, 1) := by decide +kernel
theorem d_Z_law_167 : decode b_Z_law 167 = .ok (.iload_n 3, 1) := by decide +kernel
theorem d_Z_law_168 : decode b_Z_law 168 = .ok (.iconst 1, 1) := by decide +kernel
theorem d_Z_law_169 : decode b_Z_law 169 = .ok (.iadd, 1) := by decide +kernel
theorem d_Z_law_170 : decode b_Z_law 170 = .ok (.iaload, 1) := by decide +kernel
theorem d_Z_law_171 : decode b_Z_law 171 = .ok (.invokevirtual 25, 3) := by decide +kernel
theorem d_Z_law_174 : decode b_Z_law 174 = .ok (.lcmp, 1) := by decide +kernel
theorem d_Z_law_175 : decode b_Z_law 175 = .ok (.ifCond .eq 413, 3) := by decide +kernel
theorem d_Z_law_178 : decode b_Z_law 178 = .ok (.iconst 0, 1) := by decide +kernel
theorem d_Z_law_179 : decode b_Z_law 179 = .ok (.ireturn, 1) := by decide +kernel
theorem d_Z_law_180 : decode b_Z_law 180 = .ok (.aload_n 1, 1) := by decide +kernel
theorem d_Z_law_181 : decode b_Z_law 181 = .ok (.aload_n 0, 1) := by decide +kernel
theorem d_Z_law_182 : decode b_Z_law 182 = .ok (.iload_n 3, 1) := by decide +kernel
theorem d_Z_law_183 : decode b_Z_law 183 = .ok (.iconst 1, 1) := by decide +kernel
theorem d_Z_law_184 : decode b_Z_law 184 = .ok (.iadd, 1) := by decide +kernel
theorem d_Z_law_185 : decode b_Z_law 185 = .ok (.iaload, 1) := by decide +kernel
theorem d_Z_law_186 : decode b_Z_law 186 = .ok (.aload_n 0, 1) := by decide +kernel
theorem d_Z_law_187 : decode b_Z_law 187 = .ok (.iload_n 3, 1) := by decide +kernel
theorem d_Z_law_188 : decode b_Z_law 188 = .ok (.iconst 2, 1) := by decide +kernel
theorem d_Z_law_189 : decode b_Z_law 189 = .ok (.iadd, 1) := by decide +kernel
theorem d_Z_law_190 : decode b_Z_law 190 = .ok (.iaload, 1) := by decide +kernel
theorem d_Z_law_191 : decode b_Z_law 191 = .ok (.invokevirtual 26, 3) := by decide +kernel
theorem d_Z_law_194 : decode b_Z_law 194 = .ok (.aload_n 2, 1) := by decide +kernel
theorem d_Z_law_195 : decode b_Z_law 195 = .ok (.aload_n 0, 1) := by decide +kernel
theorem d_Z_law_196 : decode b_Z_law 196 = .ok (.iload_n 3, 1) := by decide +kernel
theorem d_Z_law_197 : decode b_Z_law 197 = .ok (.iconst 1, 1) := by decide +kernel
theorem d_Z_law_198 : decode b_Z_law 198 = .ok (.iadd, 1) := by decide +kernel
theorem d_Z_law_199 : decode b_Z_law 199 = .ok (.iaload, 1) := by decide +kernel
theorem d_Z_law_200 : decode b_Z_law 200 = .ok (.aload_n 0, 1) := by decide +kernel
theorem d_Z_law_201 : decode b_Z_law 201 = .ok (.iload_n 3, 1) := by decide +kernel
theorem d_Z_law_202 : decode b_Z_law 202 = .ok (.iconst 2, 1) := by decide +kernel
theorem d_Z_law_203 : decode b_Z_law 203 = .ok (.iadd, 1) := by decide +kernel
theorem d_Z_law_204 : decode b_Z_law 204 = .ok (.iaload, 1) := by decide +kernel
theorem d_Z_law_205 : decode b_Z_law 205 = .ok (.invokevirtual 30, 3) := by decide +kernel
theorem d_Z_law_208 : decode b_Z_law 208 = .ok (.if_icmp .eq 380, 3) := by decide +kernel
theorem d_Z_law_211 : decode b_Z_law 211 = .ok (.iconst 0, 1) := by decide +kernel
theorem d_Z_law_212 : decode b_Z_law 212 = .ok (.ireturn, 1) := by decide +kernel
theorem d_Z_law_213 : decode b_Z_law 213 = .ok (.aload_n 1, 1) := by decide +kernel
theorem d_Z_law_214 : decode b_Z_law 214 = .ok (.aload_n 0, 1) := by decide +kernel
theorem d_Z_law_215 : decode b_Z_law 215 = .ok (.iload_n 3, 1) := by decide +kernel
theorem d_Z_law_216 : decode b_Z_law 216 = .ok (.iconst 1, 1) := by decide +kernel
theorem d_Z_law_217 : decode b_Z_law 217 = .ok (.iadd, 1) := by decide +kernel
theorem d_Z_law_218 : decode b_Z_law 218 = .ok (.iaload, 1) := by decide +kernel
theorem d_Z_law_219 : decode b_Z_law 219 = .ok (.aload_n 0, 1) := by decide +kernel
theorem d_Z_law_220 : decode b_Z_law 220 = .ok (.iload_n 3, 1) := by decide +kernel
theorem d_Z_law_221 : decode b_Z_law 221 = .ok (.iconst 2, 1) := by decide +kernel
theorem d_Z_law_222 : decode b_Z_law 222 = .ok (.iadd, 1) := by decide +kernel
theorem d_Z_law_223 : decode b_Z_law 223 = .ok (.iaload, 1) := by decide +kernel
theorem d_Z_law_224 : decode b_Z_law 224 = .ok (.aload_n 0, 1) := by decide +kernel
theorem d_Z_law_225 : decode b_Z_law 225 = .ok (.iload_n 3, 1) := by decide +kernel
theorem d_Z_law_226 : decode b_Z_law 226 = .ok (.iconst 3, 1) := by decide +kernel
theorem d_Z_law_227 : decode b_Z_law 227 = .ok (.iadd, 1) := by decide +kernel
theorem d_Z_law_228 : decode b_Z_law 228 = .ok (.iaload, 1) := by decide +kernel
theorem d_Z_law_229 : decode b_Z_law 229 = .ok (.invokevirtual 31, 3) := by decide +kernel
theorem d_Z_law_232 : decode b_Z_law 232 = .ok (.aload_n 2, 1) := by decide +kernel
theorem d_Z_law_233 : decode b_Z_law 233 = .ok (.aload_n 0, 1) := by decide +kernel
theorem d_Z_law_234 : decode b_Z_law 234 = .ok (.iload_n 3, 1) := by decide +kernel
theorem d_Z_law_235 : decode b_Z_law 235 = .ok (.iconst 1, 1) := by decide +kernel
theorem d_Z_law_236 : decode b_Z_law 236 = .ok (.iadd, 1) := by decide +kernel
theorem d_Z_law_237 : decode b_Z_law 237 = .ok (.iaload, 1) := by decide +kernel
theorem d_Z_law_238 : decode b_Z_law 238 = .ok (.aload_n 0, 1) := by decide +kernel
theorem d_Z_law_239 : decode b_Z_law 239 = .ok (.iload_n 3, 1) := by decide +kernel
theorem d_Z_law_240 : decode b_Z_law 240 = .ok (.iconst 2, 1) := by decide +kernel
theorem d_Z_law_241 : decode b_Z_law 241 = .ok (.iadd, 1) := by decide +kernel
theorem d_Z_law_242 : decode b_Z_law 242 = .ok (.iaload, 1) := by decide +kernel
theorem d_Z_law_243 : decode b_Z_law 243 = .ok (.aload_n 0, 1) := by decide +kernel
theorem d_Z_law_244 : decode b_Z_law 244 = .ok (.iload_n 3, 1) := by decide +kernel
theorem d_Z_law_245 : decode b_Z_law 245 = .ok (.iconst 3, 1) := by decide +kernel
theorem d_Z_law_246 : decode b_Z_law 246 = .ok (.iadd, 1) := by decide +kernel
theorem d_Z_law_247 : decode b_Z_law 247 = .ok (.iaload, 1) := by decide +kernel
theorem d_Z_law_248 : decode b_Z_law 248 = .ok (.invokevirtual 35, 3) := by decide +kernel
theorem d_Z_law_251 : decode b_Z_law 251 = .ok (.if_icmp .eq 337, 3) := by decide +kernel
theorem d_Z_law_254 : decode b_Z_law 254 = .ok (.iconst 0, 1) := by decide +kernel
theorem d_Z_law_255 : decode b_Z_law 255 = .ok (.ireturn, 1) := by decide +kernel
theorem d_Z_law_256 : decode b_Z_law 256 = .ok (.aload_n 1, 1) := by decide +kernel
theorem d_Z_law_257 : decode b_Z_law 257 = .ok (.aload_n 0, 1) := by decide +kernel
theorem d_Z_law_258 : decode b_Z_law 258 = .ok (.iload_n 3, 1) := by decide +kernel
theorem d_Z_law_259 : decode b_Z_law 259 = .ok (.iconst 1, 1) := by decide +kernel
theorem d_Z_law_260 : decode b_Z_law 260 = .ok (.iadd, 1) := by decide +kernel
theorem d_Z_law_261 : decode b_Z_law 261 = .ok (.iaload, 1) := by decide +kernel
theorem d_Z_law_262 : decode b_Z_law 262 = .ok (.invokevirtual 36, 3) := by decide +kernel
theorem d_Z_law_265 : decode b_Z_law 265 = .ok (.aload_n 2, 1) := by decide +kernel
theorem d_Z_law_266 : decode b_Z_law 266 = .ok (.aload_n 0, 1) := by decide +kernel
theorem d_Z_law_267 : decode b_Z_law 267 = .ok (.iload_n 3, 1) := by decide +kernel
theorem d_Z_law_268 : decode b_Z_law 268 = .ok (.iconst 1, 1) := by decide +kernel
theorem d_Z_law_269 : decode b_Z_law 269 = .ok (.iadd, 1) := by decide +kernel
theorem d_Z_law_270 : decode b_Z_law 270 = .ok (.iaload, 1) := by decide +kernel
theorem d_Z_law_271 : decode b_Z_law 271 = .ok (.invokevirtual 40, 3) := by decide +kernel
theorem d_Z_law_274 : decode b_Z_law 274 = .ok (.if_icmp .eq 314, 3) := by decide +kernel
theorem d_Z_law_277 : decode b_Z_law 277 = .ok (.iconst 0, 1) := by decide +kernel
theorem d_Z_law_278 : decode b_Z_law 278 = .ok (.ireturn, 1) := by decide +kernel
theorem d_Z_law_279 : decode b_Z_law 279 = .ok (.aload_n 1, 1) := by decide +kernel
theorem d_Z_law_280 : decode b_Z_law 280 = .ok (.aload_n 0, 1) := by decide +kernel
theorem d_Z_law_281 : decode b_Z_law 281 = .ok (.iload_n 3, 1) := by decide +kernel
theorem d_Z_law_282 : decode b_Z_law 282 = .ok (.iconst 1, 1) := by decide +kernel
theorem d_Z_law_283 : decode b_Z_law 283 = .ok (.iadd, 1) := by decide +kernel
theorem d_Z_law_284 : decode b_Z_law 284 = .ok (.iaload, 1) := by decide +kernel
theorem d_Z_law_285 : decode b_Z_law 285 = .ok (.invokevirtual 41, 3) := by decide +kernel
theorem d_Z_law_288 : decode b_Z_law 288 = .ok (.aload_n 2, 1) := by decide +kernel
theorem d_Z_law_289 : decode b_Z_law 289 = .ok (.aload_n 0, 1) := by decide +kernel
theorem d_Z_law_290 : decode b_Z_law 290 = .ok (.iload_n 3, 1) := by decide +kernel
theorem d_Z_law_291 : decode b_Z_law 291 = .ok (.iconst 1, 1) := by decide +kernel
theorem d_Z_law_292 : decode b_Z_law 292 = .ok (.iadd, 1) := by decide +kernel
theorem d_Z_law_293 : decode b_Z_law 293 = .ok (.iaload, 1) := by decide +kernel
theorem d_Z_law_294 : decode b_Z_law 294 = .ok (.invokevirtual 44, 3) := by decide +kernel
theorem d_Z_law_297 : decode b_Z_law 297 = .ok (.if_icmp .eq 291, 3) := by decide +kernel
theorem d_Z_law_300 : decode b_Z_law 300 = .ok (.iconst 0, 1) := by decide +kernel
theorem d_Z_law_301 : decode b_Z_law 301 = .ok (.ireturn, 1) := by decide +kernel
theorem d_Z_law_302 : decode b_Z_law 302 = .ok (.aload_n 1, 1) := by decide +kernel
theorem d_Z_law_303 : decode b_Z_law 303 = .ok (.invokevirtual 45, 3) := by decide +kernel
theorem d_Z_law_306 : decode b_Z_law 306 = .ok (.aload_n 2, 1) := by decide +kernel
theorem d_Z_law_307 : decode b_Z_law 307 = .ok (.invokevirtual 49, 3) := by decide +kernel
theorem d_Z_law_310 : decode b_Z_law 310 = .ok (.if_icmp .eq 278, 3) := by decide +kernel
theorem d_Z_law_313 : decode b_Z_law 313 = .ok (.iconst 0, 1) := by decide +kernel
theorem d_Z_law_314 : decode b_Z_law 314 = .ok (.ireturn, 1) := by decide +kernel
theorem d_Z_law_315 : decode b_Z_law 315 = .ok (.aload_n 1, 1) := by decide +kernel
theorem d_Z_law_316 : decode b_Z_law 316 = .ok (.aload_n 0, 1) := by decide +kernel
theorem d_Z_law_317 : decode b_Z_law 317 = .ok (.iload_n 3, 1) := by decide +kernel
theorem d_Z_law_318 : decode b_Z_law 318 = .ok (.iconst 1, 1) := by decide +kernel
theorem d_Z_law_319 : decode b_Z_law 319 = .ok (.iadd, 1) := by decide +kernel
theorem d_Z_law_320 : decode b_Z_law 320 = .ok (.iaload, 1) := by decide +kernel
theorem d_Z_law_321 : decode b_Z_law 321 = .ok (.invokevirtual 50, 3) := by decide +kernel
theorem d_Z_law_324 : decode b_Z_law 324 = .ok (.aload_n 2, 1) := by decide +kernel
theorem d_Z_law_325 : decode b_Z_law 325 = .ok (.aload_n 0, 1) := by decide +kernel
theorem d_Z_law_326 : decode b_Z_law 326 = .ok (.iload_n 3, 1) := by decide +kernel
theorem d_Z_law_327 : decode b_Z_law 327 = .ok (.iconst 1, 1) := by decide +kernel
theorem d_Z_law_328 : decode b_Z_law 328 = .ok (.iadd, 1) := by decide +kernel
theorem d_Z_law_329 : decode b_Z_law 329 = .ok (.iaload, 1) := by decide +kernel
theorem d_Z_law_330 : decode b_Z_law 330 = .ok (.invokevirtual 54, 3) := by decide +kernel
theorem d_Z_law_333 : decode b_Z_law 333 = .ok (.if_icmp .eq 255, 3) := by decide +kernel
theorem d_Z_law_336 : decode b_Z_law 336 = .ok (.iconst 0, 1) := by decide +kernel
theorem d_Z_law_337 : decode b_Z_law 337 = .ok (.ireturn, 1) := by decide +kernel
theorem d_Z_law_338 : decode b_Z_law 338 = .ok (.aload_n 1, 1) := by decide +kernel
theorem d_Z_law_339 : decode b_Z_law 339 = .ok (.aload_n 0, 1) := by decide +kernel
theorem d_Z_law_340 : decode b_Z_law 340 = .ok (.iload_n 3, 1) := by decide +kernel
theorem d_Z_law_341 : decode b_Z_law 341 = .ok (.iconst 1, 1) := by decide +kernel
theorem d_Z_law_342 : decode b_Z_law 342 = .ok (.iadd, 1) := by decide +kernel
theorem d_Z_law_343 : decode b_Z_law 343 = .ok (.iaload, 1) := by decide +kernel
theorem d_Z_law_344 : decode b_Z_law 344 = .ok (.aload_n 0, 1) := by decide +kernel
theorem d_Z_law_345 : decode b_Z_law 345 = .ok (.iload_n 3, 1) := by decide +kernel
theorem d_Z_law_346 : decode b_Z_law 346 = .ok (.iconst 2, 1) := by decide +kernel
theorem d_Z_law_347 : decode b_Z_law 347 = .ok (.iadd, 1) := by decide +kernel
theorem d_Z_law_348 : decode b_Z_law 348 = .ok (.iaload, 1) := by decide +kernel
theorem d_Z_law_349 : decode b_Z_law 349 = .ok (.aload_n 0, 1) := by decide +kernel
theorem d_Z_law_350 : decode b_Z_law 350 = .ok (.iload_n 3, 1) := by decide +kernel
theorem d_Z_law_351 : decode b_Z_law 351 = .ok (.iconst 3, 1) := by decide +kernel
theorem d_Z_law_352 : decode b_Z_law 352 = .ok (.iadd, 1) := by decide +kernel
theorem d_Z_law_353 : decode b_Z_law 353 = .ok (.iaload, 1) := by decide +kernel
theorem d_Z_law_354 : decode b_Z_law 354 = .ok (.invokevirtual 55, 3) := by decide +kernel
theorem d_Z_law_357 : decode b_Z_law 357 = .ok (.aload_n 2, 1) := by decide +kernel
theorem d_Z_law_358 : decode b_Z_law 358 = .ok (.aload_n 0, 1) := by decide +kernel
theorem d_Z_law_359 : decode b_Z_law 359 = .ok (.iload_n 3, 1) := by decide +kernel
theorem d_Z_law_360 : decode b_Z_law 360 = .ok (.iconst 1, 1) := by decide +kernel
theorem d_Z_law_361 : decode b_Z_law 361 = .ok (.iadd, 1) := by decide +kernel
theorem d_Z_law_362 : decode b_Z_law 362 = .ok (.iaload, 1) := by decide +kernel
theorem d_Z_law_363 : decode b_Z_law 363 = .ok (.aload_n 0, 1) := by decide +kernel
theorem d_Z_law_364 : decode b_Z_law 364 = .ok (.iload_n 3, 1) := by decide +kernel
theorem d_Z_law_365 : decode b_Z_law 365 = .ok (.iconst 2, 1) := by decide +kernel
theorem d_Z_law_366 : decode b_Z_law 366 = .ok (.iadd, 1) := by decide +kernel
theorem d_Z_law_367 : decode b_Z_law 367 = .ok (.iaload, 1) := by decide +kernel
theorem d_Z_law_368 : decode b_Z_law 368 = .ok (.aload_n 0, 1) := by decide +kernel
theorem d_Z_law_369 : decode b_Z_law 369 = .ok (.iload_n 3, 1) := by decide +kernel
theorem d_Z_law_370 : decode b_Z_law 370 = .ok (.iconst 3, 1) := by decide +kernel
theorem d_Z_law_371 : decode b_Z_law 371 = .ok (.iadd, 1) := by decide +kernel
theorem d_Z_law_372 : decode b_Z_law 372 = .ok (.iaload, 1) := by decide +kernel
theorem d_Z_law_373 : decode b_Z_law 373 = .ok (.invokevirtual 59, 3) := by decide +kernel
theorem d_Z_law_376 : decode b_Z_law 376 = .ok (.if_icmp .eq 212, 3) := by decide +kernel
theorem d_Z_law_379 : decode b_Z_law 379 = .ok (.iconst 0, 1) := by decide +kernel
theorem d_Z_law_380 : decode b_Z_law 380 = .ok (.ireturn, 1) := by decide +kernel
theorem d_Z_law_381 : decode b_Z_law 381 = .ok (.aload_n 1, 1) := by decide +kernel
theorem d_Z_law_382 : decode b_Z_law 382 = .ok (.aload_n 0, 1) := by decide +kernel
theorem d_Z_law_383 : decode b_Z_law 383 = .ok (.iload_n 3, 1) := by decide +kernel
theorem d_Z_law_384 : decode b_Z_law 384 = .ok (.iconst 1, 1) := by decide +kernel
theorem d_Z_law_385 : decode b_Z_law 385 = .ok (.iadd, 1) := by decide +kernel
theorem d_Z_law_386 : decode b_Z_law 386 = .ok (.iaload, 1) := by decide +kernel
theorem d_Z_law_387 : decode b_Z_law 387 = .ok (.invokevirtual 60, 3) := by decide +kernel
theorem d_Z_law_390 : decode b_Z_law 390 = .ok (.aload_n 2, 1) := by decide +kernel
theorem d_Z_law_391 : decode b_Z_law 391 = .ok (.aload_n 0, 1) := by decide +kernel
theorem d_Z_law_392 : decode b_Z_law 392 = .ok (.iload_n 3, 1) := by decide +kernel
theorem d_Z_law_393 : decode b_Z_law 393 = .ok (.iconst 1, 1) := by decide +kernel
theorem d_Z_law_394 : decode b_Z_law 394 = .ok (.iadd, 1) := by decide +kernel
theorem d_Z_law_395 : decode b_Z_law 395 = .ok (.iaload, 1) := by decide +kernel
theorem d_Z_law_396 : decode b_Z_law 396 = .ok (.invokevirtual 63, 3) := by decide +kernel
theorem d_Z_law_399 : decode b_Z_law 399 = .ok (.if_icmp .eq 189, 3) := by decide +kernel
theorem d_Z_law_402 : decode b_Z_law 402 = .ok (.iconst 0, 1) := by decide +kernel
theorem d_Z_law_403 : decode b_Z_law 403 = .ok (.ireturn, 1) := by decide +kernel
theorem d_Z_law_404 : decode b_Z_law 404 = .ok (.aload_n 1, 1) := by decide +kernel
theorem d_Z_law_405 : decode b_Z_law 405 = .ok (.invokevirtual 64, 3) := by decide +kernel
theorem d_Z_law_408 : decode b_Z_law 408 = .ok (.aload_n 2, 1) := by decide +kernel
theorem d_Z_law_409 : decode b_Z_law 409 = .ok (.invokevirtual 68, 3) := by decide +kernel
theorem d_Z_law_412 : decode b_Z_law 412 = .ok (.if_icmp .eq 176, 3) := by decide +kernel
theorem d_Z_law_415 : decode b_Z_law 415 = .ok (.iconst 0, 1) := by decide +kernel
theorem d_Z_law_416 : decode b_Z_law 416 = .ok (.ireturn, 1) := by decide +kernel
theorem d_Z_law_417 : decode b_Z_law 417 = .ok (.aload_n 1, 1) := by decide +kernel
theorem d_Z_law_418 : decode b_Z_law 418 = .ok (.invokevirtual 69, 3) := by decide +kernel
theorem d_Z_law_421 : decode b_Z_law 421 = .ok (.aload_n 2, 1) := by decide +kernel
theorem d_Z_law_422 : decode b_Z_law 422 = .ok (.invokevirtual 72, 3) := by decide +kernel
theorem d_Z_law_425 : decode b_Z_law 425 = .ok (.if_icmp .eq 163, 3) := by decide +kernel
theorem d_Z_law_428 : decode b_Z_law 428 = .ok (.iconst 0, 1) := by decide +kernel
theorem d_Z_law_429 : decode b_Z_law 429 = .ok (.ireturn, 1) := by decide +kernel
theorem d_Z_law_430 : decode b_Z_law 430 = .ok (.aload_n 1, 1) := by decide +kernel
theorem d_Z_law_431 : decode b_Z_law 431 = .ok (.invokevirtual 73, 3) := by decide +kernel
theorem d_Z_law_434 : decode b_Z_law 434 = .ok (.aload_n 2, 1) := by decide +kernel
theorem d_Z_law_435 : decode b_Z_law 435 = .ok (.invokevirtual 76, 3) := by decide +kernel
theorem d_Z_law_438 : decode b_Z_law 438 = .ok (.if_icmp .eq 150, 3) := by decide +kernel
theorem d_Z_law_441 : decode b_Z_law 441 = .ok (.iconst 0, 1) := by decide +kernel
theorem d_Z_law_442 : decode b_Z_law 442 = .ok (.ireturn, 1) := by decide +kernel
theorem d_Z_law_443 : decode b_Z_law 443 = .ok (.aload_n 1, 1) := by decide +kernel
theorem d_Z_law_444 : decode b_Z_law 444 = .ok (.aload_n 0, 1) := by decide +kernel
theorem d_Z_law_445 : decode b_Z_law 445 = .ok (.iload_n 3, 1) := by decide +kernel
theorem d_Z_law_446 : decode b_Z_law 446 = .ok (.iconst 1, 1) := by decide +kernel
theorem d_Z_law_447 : decode b_Z_law 447 = .ok (.iadd, 1) := by decide +kernel
theorem d_Z_law_448 : decode b_Z_law 448 = .ok (.iaload, 1) := by decide +kernel
theorem d_Z_law_449 : decode b_Z_law 449 = .ok (.aload_n 0, 1) := by decide +kernel
theorem d_Z_law_450 : decode b_Z_law 450 = .ok (.iload_n 3, 1) := by decide +kernel
theorem d_Z_law_451 : decode b_Z_law 451 = .ok (.iconst 2, 1) := by decide +kernel
theorem d_Z_law_452 : decode b_Z_law 452 = .ok (.iadd, 1) := by decide +kernel
theorem d_Z_law_453 : decode b_Z_law 453 = .ok (.iaload, 1) := by decide +kernel
theorem d_Z_law_454 : decode b_Z_law 454 = .ok (.invokevirtual 77, 3) := by decide +kernel
theorem d_Z_law_457 : decode b_Z_law 457 = .ok (.aload_n 2, 1) := by decide +kernel
theorem d_Z_law_458 : decode b_Z_law 458 = .ok (.aload_n 0, 1) := by decide +kernel
theorem d_Z_law_459 : decode b_Z_law 459 = .ok (.iload_n 3, 1) := by decide +kernel
theorem d_Z_law_460 : decode b_Z_law 460 = .ok (.iconst 1, 1) := by decide +kernel
theorem d_Z_law_461 : decode b_Z_law 461 = .ok (.iadd, 1) := by decide +kernel
theorem d_Z_law_462 : decode b_Z_law 462 = .ok (.iaload, 1) := by decide +kernel
theorem d_Z_law_463 : decode b_Z_law 463 = .ok (.aload_n 0, 1) := by decide +kernel
theorem d_Z_law_464 : decode b_Z_law 464 = .ok (.iload_n 3, 1) := by decide +kernel
theorem d_Z_law_465 : decode b_Z_law 465 = .ok (.iconst 2, 1) := by decide +kernel
theorem d_Z_law_466 : decode b_Z_law 466 = .ok (.iadd, 1) := by decide +kernel
theorem d_Z_law_467 : decode b_Z_law 467 = .ok (.iaload, 1) := by decide +kernel
theorem d_Z_law_468 : decode b_Z_law 468 = .ok (.invokevirtual 81, 3) := by decide +kernel
theorem d_Z_law_471 : decode b_Z_law 471 = .ok (.lcmp, 1) := by decide +kernel
theorem d_Z_law_472 : decode b_Z_law 472 = .ok (.ifCond .eq 116, 3) := by decide +kernel
theorem d_Z_law_475 : decode b_Z_law 475 = .ok (.iconst 0, 1) := by decide +kernel
theorem d_Z_law_476 : decode b_Z_law 476 = .ok (.ireturn, 1) := by decide +kernel
theorem d_Z_law_477 : decode b_Z_law 477 = .ok (.aload_n 1, 1) := by decide +kernel
theorem d_Z_law_478 : decode b_Z_law 478 = .ok (.aload_n 0, 1) := by decide +kernel
theorem d_Z_law_479 : decode b_Z_law 479 = .ok (.iload_n 3, 1) := by decide +kernel
theorem d_Z_law_480 : decode b_Z_law 480 = .ok (.iconst 1, 1) := by decide +kernel
theorem d_Z_law_481 : decode b_Z_law 481 = .ok (.iadd, 1) := by decide +kernel
theorem d_Z_law_482 : decode b_Z_law 482 = .ok (.iaload, 1) := by decide +kernel
theorem d_Z_law_483 : decode b_Z_law 483 = .ok (.invokevirtual 82, 3) := by decide +kernel
theorem d_Z_law_486 : decode b_Z_law 486 = .ok (.aload_n 2, 1) := by decide +kernel
theorem d_Z_law_487 : decode b_Z_law 487 = .ok (.aload_n 0, 1) := by decide +kernel
theorem d_Z_law_488 : decode b_Z_law 488 = .ok (.iload_n 3, 1) := by decide +kernel
theorem d_Z_law_489 : decode b_Z_law 489 = .ok (.iconst 1, 1) := by decide +kernel
theorem d_Z_law_490 : decode b_Z_law 490 = .ok (.iadd, 1) := by decide +kernel
theorem d_Z_law_491 : decode b_Z_law 491 = .ok (.iaload, 1) := by decide +kernel
theorem d_Z_law_492 : decode b_Z_law 492 = .ok (.invokevirtual 85, 3) := by decide +kernel
theorem d_Z_law_495 : decode b_Z_law 495 = .ok (.if_icmp .eq 93, 3) := by decide +kernel
theorem d_Z_law_498 : decode b_Z_law 498 = .ok (.iconst 0, 1) := by decide +kernel
theorem d_Z_law_499 : decode b_Z_law 499 = .ok (.ireturn, 1) := by decide +kernel
theorem d_Z_law_500 : decode b_Z_law 500 = .ok (.aload_n 1, 1) := by decide +kernel
theorem d_Z_law_501 : decode b_Z_law 501 = .ok (.aload_n 0, 1) := by decide +kernel
theorem d_Z_law_502 : decode b_Z_law 502 = .ok (.iload_n 3, 1) := by decide +kernel
theorem d_Z_law_503 : decode b_Z_law 503 = .ok (.iconst 1, 1) := by decide +kernel
theorem d_Z_law_504 : decode b_Z_law 504 = .ok (.iadd, 1) := by decide +kernel
theorem d_Z_law_505 : decode b_Z_law 505 = .ok (.iaload, 1) := by decide +kernel
theorem d_Z_law_506 : decode b_Z_law 506 = .ok (.invokevirtual 86, 3) := by decide +kernel
theorem d_Z_law_509 : decode b_Z_law 509 = .ok (.aload_n 2, 1) := by decide +kernel
theorem d_Z_law_510 : decode b_Z_law 510 = .ok (.aload_n 0, 1) := by decide +kernel
theorem d_Z_law_511 : decode b_Z_law 511 = .ok (.iload_n 3, 1) := by decide +kernel
theorem d_Z_law_512 : decode b_Z_law 512 = .ok (.iconst 1, 1) := by decide +kernel
theorem d_Z_law_513 : decode b_Z_law 513 = .ok (.iadd, 1) := by decide +kernel
theorem d_Z_law_514 : decode b_Z_law 514 = .ok (.iaload, 1) := by decide +kernel
theorem d_Z_law_515 : decode b_Z_law 515 = .ok (.invokevirtual 89, 3) := by decide +kernel
theorem d_Z_law_518 : decode b_Z_law 518 = .ok (.if_icmp .eq 70, 3) := by decide +kernel
theorem d_Z_law_521 : decode b_Z_law 521 = .ok (.iconst 0, 1) := by decide +kernel
theorem d_Z_law_522 : decode b_Z_law 522 = .ok (.ireturn, 1) := by decide +kernel
theorem d_Z_law_523 : decode b_Z_law 523 = .ok (.aload_n 1, 1) := by decide +kernel
theorem d_Z_law_524 : decode b_Z_law 524 = .ok (.invokevirtual 90, 3) := by decide +kernel
theorem d_Z_law_527 : decode b_Z_law 527 = .ok (.aload_n 2, 1) := by decide +kernel
theorem d_Z_law_528 : decode b_Z_law 528 = .ok (.invokevirtual 93, 3) := by decide +kernel
theorem d_Z_law_531 : decode b_Z_law 531 = .ok (.if_icmp .eq 57, 3) := by decide +kernel
theorem d_Z_law_534 : decode b_Z_law 534 = .ok (.iconst 0, 1) := by decide +kernel
theorem d_Z_law_535 : decode b_Z_law 535 = .ok (.ireturn, 1) := by decide +kernel
theorem d_Z_law_536 : decode b_Z_law 536 = .ok (.aload_n 1, 1) := by decide +kernel
theorem d_Z_law_537 : decode b_Z_law 537 = .ok (.invokevirtual 94, 3) := by decide +kernel
theorem d_Z_law_540 : decode b_Z_law 540 = .ok (.aload_n 2, 1) := by decide +kernel
theorem d_Z_law_541 : decode b_Z_law 541 = .ok (.invokevirtual 97, 3) := by decide +kernel
theorem d_Z_law_544 : decode b_Z_law 544 = .ok (.if_icmp .eq 44, 3) := by decide +kernel
theorem d_Z_law_547 : decode b_Z_law 547 = .ok (.iconst 0, 1) := by decide +kernel
theorem d_Z_law_548 : decode b_Z_law 548 = .ok (.ireturn, 1) := by decide +kernel
theorem d_Z_law_549 : decode b_Z_law 549 = .ok (.aload_n 1, 1) := by decide +kernel
theorem d_Z_law_550 : decode b_Z_law 550 = .ok (.invokevirtual 98, 3) := by decide +kernel
theorem d_Z_law_553 : decode b_Z_law 553 = .ok (.aload_n 2, 1) := by decide +kernel
theorem d_Z_law_554 : decode b_Z_law 554 = .ok (.invokevirtual 101, 3) := by decide +kernel
theorem d_Z_law_557 : decode b_Z_law 557 = .ok (.if_icmp .eq 31, 3) := by decide +kernel
theorem d_Z_law_560 : decode b_Z_law 560 = .ok (.iconst 0, 1) := by decide +kernel
theorem d_Z_law_561 : decode b_Z_law 561 = .ok (.ireturn, 1) := by decide +kernel
theorem d_Z_law_562 : decode b_Z_law 562 = .ok (.aload_n 1, 1) := by decide +kernel
theorem d_Z_law_563 : decode b_Z_law 563 = .ok (.invokevirtual 102, 3) := by decide +kernel
theorem d_Z_law_566 : decode b_Z_law 566 = .ok (.aload_n 2, 1) := by decide +kernel
theorem d_Z_law_567 : decode b_Z_law 567 = .ok (.invokevirtual 105, 3) := by decide +kernel
theorem d_Z_law_570 : decode b_Z_law 570 = .ok (.if_icmp .eq 18, 3) := by decide +kernel
theorem d_Z_law_573 : decode b_Z_law 573 = .ok (.iconst 0, 1) := by decide +kernel
theorem d_Z_law_574 : decode b_Z_law 574 = .ok (.ireturn, 1) := by decide +kernel
theorem d_Z_law_575 : decode b_Z_law 575 = .ok (.aload_n 1, 1) := by decide +kernel
theorem d_Z_law_576 : decode b_Z_law 576 = .ok (.invokevirtual 106, 3) := by decide +kernel
theorem d_Z_law_579 : decode b_Z_law 579 = .ok (.aload_n 2, 1) := by decide +kernel
theorem d_Z_law_580 : decode b_Z_law 580 = .ok (.invokevirtual 109, 3) := by decide +kernel
theorem d_Z_law_583 : decode b_Z_law 583 = .ok (.if_icmp .eq 5, 3) := by decide +kernel
theorem d_Z_law_586 : decode b_Z_law 586 = .ok (.iconst 0, 1) := by decide +kernel
theorem d_Z_law_587 : decode b_Z_law 587 = .ok (.ireturn, 1) := by decide +kernel
theorem d_Z_law_588 : decode b_Z_law 588 = .ok (.iinc 3 4, 3) := by decide +kernel
theorem d_Z_law_591 : decode b_Z_law 591 = .ok (.goto (-543), 3) := by decide +kernel
theorem d_Z_law_594 : decode b_Z_law 594 = .ok (.iconst 1, 1) := by decide +kernel
theorem d_Z_law_595 : decode b_Z_law 595 = .ok (.ireturn, 1) := by decide +kernel
