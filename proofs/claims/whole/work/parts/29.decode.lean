theorem si {r L : Nat} (i : Nat) (hi : i < 6) (h : 6 * r + 6 ≤ L) (hL : L ≤ 3072) : vp_in (nI (6 * r) + nI i) L := by
  rw [nI_add]
  exact vp_in_nI (by omega) (by omega)
theorem rg_01 (k e : Int32) : sp_rg k e = 0 ∨ sp_rg k e = 1 := by
  unfold sp_rg
  split
  · exact Or.inl rfl
  split
  · exact Or.inl rfl
  · exact Or.inr rfl
theorem mk_01 (k : Int32) : sp_mk k = 0 ∨ sp_mk k = 1 := by
  unfold sp_mk
  split
  · exact Or.inl rfl
  split
  · exact Or.inl rfl
  · exact Or.inr rfl
theorem lf_g {ma : Nat → Int32} (h : sp_lf ma < 0) : sp_lf ma = -1 := lf_m1 h
theorem d_lw_law_0 : decode b_lw_law 0 = .ok (.new 8, 3) := by decide +kernel
theorem d_lw_law_3 : decode b_lw_law 3 = .ok (.dup, 1) := by decide +kernel
theorem d_lw_law_4 : decode b_lw_law 4 = .ok (.invokespecial 59, 3) := by decide +kernel
theorem d_lw_law_7 : decode b_lw_law 7 = .ok (.astore_n 1, 1) := by decide +kernel
theorem d_lw_law_8 : decode b_lw_law 8 = .ok (.new 60, 3) := by decide +kernel
theorem d_lw_law_11 : decode b_lw_law 11 = .ok (.dup, 1) := by decide +kernel
theorem d_lw_law_12 : decode b_lw_law 12 = .ok (.invokespecial 62, 3) := by decide +kernel
theorem d_lw_law_15 : decode b_lw_law 15 = .ok (.astore_n 2, 1) := by decide +kernel
theorem d_lw_law_16 : decode b_lw_law 16 = .ok (.iconst 1, 1) := by decide +kernel
theorem d_lw_law_17 : decode b_lw_law 17 = .ok (.newarray .long, 2) := by decide +kernel
theorem d_lw_law_19 : decode b_lw_law 19 = .ok (.astore_n 3, 1) := by decide +kernel
theorem d_lw_law_20 : decode b_lw_law 20 = .ok (.iconst 0, 1) := by decide +kernel
theorem d_lw_law_21 : decode b_lw_law 21 = .ok (.istore 4, 2) := by decide +kernel
theorem d_lw_law_23 : decode b_lw_law 23 = .ok (.iload 4, 2) := by decide +kernel
theorem d_lw_law_25 : decode b_lw_law 25 = .ok (.aload_n 0, 1) := by decide +kernel
theorem d_lw_law_26 : decode b_lw_law 26 = .ok (.arraylength, 1) := by decide +kernel
theorem d_lw_law_27 : decode b_lw_law 27 = .ok (.bipush 6, 2) := by decide +kernel
theorem d_lw_law_29 : decode b_lw_law 29 = .ok (.isub, 1) := by decide +kernel
theorem d_lw_law_30 : decode b_lw_law 30 = .ok (.if_icmp .gt 1015, 3) := by decide +kernel
theorem d_lw_law_33 : decode b_lw_law 33 = .ok (.aload_n 0, 1) := by decide +kernel
theorem d_lw_law_34 : decode b_lw_law 34 = .ok (.iload 4, 2) := by decide +kernel
theorem d_lw_law_36 : decode b_lw_law 36 = .ok (.iaload, 1) := by decide +kernel
theorem d_lw_law_37 : decode b_lw_law 37 = .ok (.bipush 31, 2) := by decide +kernel
theorem d_lw_law_39 : decode b_lw_law 39 = .ok (.iand, 1) := by decide +kernel
theorem d_lw_law_40 : decode b_lw_law 40 = .ok (.tableswitch 999 0 17 #[88, 168, 204, 260, 273, 286, 299, 313, 368, 448, 461, 517, 572, 652, 665, 765, 820, 856], 88) := by decide +kernel
theorem d_lw_law_128 : decode b_lw_law 128 = .ok (.aload_n 1, 1) := by decide +kernel
theorem d_lw_law_129 : decode b_lw_law 129 = .ok (.aload_n 0, 1) := by decide +kernel
theorem d_lw_law_130 : decode b_lw_law 130 = .ok (.iload 4, 2) := by decide +kernel
theorem d_lw_law_132 : decode b_lw_law 132 = .ok (.iconst 1, 1) := by decide +kernel
theorem d_lw_law_133 : decode b_lw_law 133 = .ok (.iadd, 1) := by decide +kernel
theorem d_lw_law_134 : decode b_lw_law 134 = .ok (.iaload, 1) := by decide +kernel
theorem d_lw_law_135 : decode b_lw_law 135 = .ok (.aload_n 0, 1) := by decide +kernel
theorem d_lw_law_136 : decode b_lw_law 136 = .ok (.iload 4, 2) := by decide +kernel
theorem d_lw_law_138 : decode b_lw_law 138 = .ok (.iconst 2, 1) := by decide +kernel
theorem d_lw_law_139 : decode b_lw_law 139 = .ok (.iadd, 1) := by decide +kernel
theorem d_lw_law_140 : decode b_lw_law 140 = .ok (.iaload, 1) := by decide +kernel
theorem d_lw_law_141 : decode b_lw_law 141 = .ok (.i2l, 1) := by decide +kernel
theorem d_lw_law_142 : decode b_lw_law 142 = .ok (.bipush 32, 2) := by decide +kernel
theorem d_lw_law_144 : decode b_lw_law 144 = .ok (.lshl, 1) := by decide +kernel
theorem d_lw_law_145 : decode b_lw_law 145 = .ok (.aload_n 0, 1) := by decide +kernel
theorem d_lw_law_146 : decode b_lw_law 146 = .ok (.iload 4, 2) := by decide +kernel
theorem d_lw_law_148 : decode b_lw_law 148 = .ok (.iconst 3, 1) := by decide +kernel
theorem d_lw_law_149 : decode b_lw_law 149 = .ok (.iadd, 1) := by decide +kernel
theorem d_lw_law_150 : decode b_lw_law 150 = .ok (.iaload, 1) := by decide +kernel
theorem d_lw_law_151 : decode b_lw_law 151 = .ok (.i2l, 1) := by decide +kernel
theorem d_lw_law_152 : decode b_lw_law 152 = .ok (.ldc2_w 63, 3) := by decide +kernel
theorem d_lw_law_155 : decode b_lw_law 155 = .ok (.land, 1) := by decide +kernel
theorem d_lw_law_156 : decode b_lw_law 156 = .ok (.lor, 1) := by decide +kernel
theorem d_lw_law_157 : decode b_lw_law 157 = .ok (.invokestatic 65, 3) := by decide +kernel
theorem d_lw_law_160 : decode b_lw_law 160 = .ok (.istore 5, 2) := by decide +kernel
theorem d_lw_law_162 : decode b_lw_law 162 = .ok (.aload_n 2, 1) := by decide +kernel
theorem d_lw_law_163 : decode b_lw_law 163 = .ok (.aload_n 0, 1) := by decide +kernel
theorem d_lw_law_164 : decode b_lw_law 164 = .ok (.iload 4, 2) := by decide +kernel
theorem d_lw_law_166 : decode b_lw_law 166 = .ok (.iconst 1, 1) := by decide +kernel
theorem d_lw_law_167 : decode b_lw_law 167 = .ok (.iadd, 1) := by decide +kernel
theorem d_lw_law_168 : decode b_lw_law 168 = .ok (.iaload, 1) := by decide +kernel
theorem d_lw_law_169 : decode b_lw_law 169 = .ok (.aload_n 0, 1) := by decide +kernel
theorem d_lw_law_170 : decode b_lw_law 170 = .ok (.iload 4, 2) := by decide +kernel
theorem d_lw_law_172 : decode b_lw_law 172 = .ok (.iconst 2, 1) := by decide +kernel
theorem d_lw_law_173 : decode b_lw_law 173 = .ok (.iadd, 1) := by decide +kernel
theorem d_lw_law_174 : decode b_lw_law 174 = .ok (.iaload, 1) := by decide +kernel
theorem d_lw_law_175 : decode b_lw_law 175 = .ok (.i2l, 1) := by decide +kernel
theorem d_lw_law_176 : decode b_lw_law 176 = .ok (.bipush 32, 2) := by decide +kernel
theorem d_lw_law_178 : decode b_lw_law 178 = .ok (.lshl, 1) := by decide +kernel
theorem d_lw_law_179 : decode b_lw_law 179 = .ok (.aload_n 0, 1) := by decide +kernel
theorem d_lw_law_180 : decode b_lw_law 180 = .ok (.iload 4, 2) := by decide +kernel
theorem d_lw_law_182 : decode b_lw_law 182 = .ok (.iconst 3, 1) := by decide +kernel
theorem d_lw_law_183 : decode b_lw_law 183 = .ok (.iadd, 1) := by decide +kernel
theorem d_lw_law_184 : decode b_lw_law 184 = .ok (.iaload, 1) := by decide +kernel
theorem d_lw_law_185 : decode b_lw_law 185 = .ok (.i2l, 1) := by decide +kernel
theorem d_lw_law_186 : decode b_lw_law 186 = .ok (.ldc2_w 63, 3) := by decide +kernel
theorem d_lw_law_189 : decode b_lw_law 189 = .ok (.land, 1) := by decide +kernel
theorem d_lw_law_190 : decode b_lw_law 190 = .ok (.lor, 1) := by decide +kernel
theorem d_lw_law_191 : decode b_lw_law 191 = .ok (.invokevirtual 70, 3) := by decide +kernel
theorem d_lw_law_194 : decode b_lw_law 194 = .ok (.aload_n 2, 1) := by decide +kernel
theorem d_lw_law_195 : decode b_lw_law 195 = .ok (.invokevirtual 71, 3) := by decide +kernel
theorem d_lw_law_198 : decode b_lw_law 198 = .ok (.iload 5, 2) := by decide +kernel
theorem d_lw_law_200 : decode b_lw_law 200 = .ok (.if_icmp .eq 5, 3) := by decide +kernel
theorem d_lw_law_203 : decode b_lw_law 203 = .ok (.iconst 0, 1) := by decide +kernel
theorem d_lw_law_204 : decode b_lw_law 204 = .ok (.ireturn, 1) := by decide +kernel
theorem d_lw_law_205 : decode b_lw_law 205 = .ok (.goto 834, 3) := by decide +kernel
theorem d_lw_law_208 : decode b_lw_law 208 = .ok (.aload_n 1, 1) := by decide +kernel
theorem d_lw_law_209 : decode b_lw_law 209 = .ok (.aload_n 0, 1) := by decide +kernel
theorem d_lw_law_210 : decode b_lw_law 210 = .ok (.iload 4, 2) := by decide +kernel
theorem d_lw_law_212 : decode b_lw_law 212 = .ok (.iconst 1, 1) := by decide +kernel
theorem d_lw_law_213 : decode b_lw_law 213 = .ok (.iadd, 1) := by decide +kernel
theorem d_lw_law_214 : decode b_lw_law 214 = .ok (.iaload, 1) := by decide +kernel
theorem d_lw_law_215 : decode b_lw_law 215 = .ok (.invokestatic 75, 3) := by decide +kernel
theorem d_lw_law_218 : decode b_lw_law 218 = .ok (.istore 5, 2) := by decide +kernel
theorem d_lw_law_220 : decode b_lw_law 220 = .ok (.aload_n 2, 1) := by decide +kernel
theorem d_lw_law_221 : decode b_lw_law 221 = .ok (.aload_n 0, 1) := by decide +kernel
theorem d_lw_law_222 : decode b_lw_law 222 = .ok (.iload 4, 2) := by decide +kernel
theorem d_lw_law_224 : decode b_lw_law 224 = .ok (.iconst 1, 1) := by decide +kernel
theorem d_lw_law_225 : decode b_lw_law 225 = .ok (.iadd, 1) := by decide +kernel
theorem d_lw_law_226 : decode b_lw_law 226 = .ok (.iaload, 1) := by decide +kernel
theorem d_lw_law_227 : decode b_lw_law 227 = .ok (.invokevirtual 78, 3) := by decide +kernel
theorem d_lw_law_230 : decode b_lw_law 230 = .ok (.aload_n 2, 1) := by decide +kernel
theorem d_lw_law_231 : decode b_lw_law 231 = .ok (.invokevirtual 71, 3) := by decide +kernel
theorem d_lw_law_234 : decode b_lw_law 234 = .ok (.iload 5, 2) := by decide +kernel
theorem d_lw_law_236 : decode b_lw_law 236 = .ok (.if_icmp .eq 5, 3) := by decide +kernel
theorem d_lw_law_239 : decode b_lw_law 239 = .ok (.iconst 0, 1) := by decide +kernel
theorem d_lw_law_240 : decode b_lw_law 240 = .ok (.ireturn, 1) := by decide +kernel
theorem d_lw_law_241 : decode b_lw_law 241 = .ok (.goto 798, 3) := by decide +kernel
theorem d_lw_law_244 : decode b_lw_law 244 = .ok (.aload_n 1, 1) := by decide +kernel
theorem d_lw_law_245 : decode b_lw_law 245 = .ok (.aload_n 0, 1) := by decide +kernel
theorem d_lw_law_246 : decode b_lw_law 246 = .ok (.iload 4, 2) := by decide +kernel
theorem d_lw_law_248 : decode b_lw_law 248 = .ok (.iconst 1, 1) := by decide +kernel
theorem d_lw_law_249 : decode b_lw_law 249 = .ok (.iadd, 1) := by decide +kernel
theorem d_lw_law_250 : decode b_lw_law 250 = .ok (.iaload, 1) := by decide +kernel
theorem d_lw_law_251 : decode b_lw_law 251 = .ok (.aload_n 3, 1) := by decide +kernel
theorem d_lw_law_252 : decode b_lw_law 252 = .ok (.invokestatic 79, 3) := by decide +kernel
theorem d_lw_law_255 : decode b_lw_law 255 = .ok (.istore 5, 2) := by decide +kernel
theorem d_lw_law_257 : decode b_lw_law 257 = .ok (.aload_n 2, 1) := by decide +kernel
theorem d_lw_law_258 : decode b_lw_law 258 = .ok (.aload_n 0, 1) := by decide +kernel
theorem d_lw_law_259 : decode b_lw_law 259 = .ok (.iload 4, 2) := by decide +kernel
theorem d_lw_law_261 : decode b_lw_law 261 = .ok (.iconst 1, 1) := by decide +kernel
theorem d_lw_law_262 : decode b_lw_law 262 = .ok (.iadd, 1) := by decide +kernel
theorem d_lw_law_263 : decode b_lw_law 263 = .ok (.iaload, 1) := by decide +kernel
theorem d_lw_law_264 : decode b_lw_law 264 = .ok (.invokevirtual 82, 3) := by decide +kernel
theorem d_lw_law_267 : decode b_lw_law 267 = .ok (.istore 6, 2) := by decide +kernel
theorem d_lw_law_269 : decode b_lw_law 269 = .ok (.aload_n 2, 1) := by decide +kernel
theorem d_lw_law_270 : decode b_lw_law 270 = .ok (.invokevirtual 71, 3) := by decide +kernel
theorem d_lw_law_273 : decode b_lw_law 273 = .ok (.iload 5, 2) := by decide +kernel
theorem d_lw_law_275 : decode b_lw_law 275 = .ok (.if_icmp .eq 5, 3) := by decide +kernel
theorem d_lw_law_278 : decode b_lw_law 278 = .ok (.iconst 0, 1) := by decide +kernel
theorem d_lw_law_279 : decode b_lw_law 279 = .ok (.ireturn, 1) := by decide +kernel
theorem d_lw_law_280 : decode b_lw_law 280 = .ok (.iload 5, 2) := by decide +kernel
theorem d_lw_law_282 : decode b_lw_law 282 = .ok (.ifCond .ne 15, 3) := by decide +kernel
theorem d_lw_law_285 : decode b_lw_law 285 = .ok (.aload_n 3, 1) := by decide +kernel
theorem d_lw_law_286 : decode b_lw_law 286 = .ok (.iconst 0, 1) := by decide +kernel
theorem d_lw_law_287 : decode b_lw_law 287 = .ok (.laload, 1) := by decide +kernel
theorem d_lw_law_288 : decode b_lw_law 288 = .ok (.iload 6, 2) := by decide +kernel
theorem d_lw_law_290 : decode b_lw_law 290 = .ok (.i2l, 1) := by decide +kernel
theorem d_lw_law_291 : decode b_lw_law 291 = .ok (.lcmp, 1) := by decide +kernel
theorem d_lw_law_292 : decode b_lw_law 292 = .ok (.ifCond .eq 5, 3) := by decide +kernel
theorem d_lw_law_295 : decode b_lw_law 295 = .ok (.iconst 0, 1) := by decide +kernel
theorem d_lw_law_296 : decode b_lw_law 296 = .ok (.ireturn, 1) := by decide +kernel
theorem d_lw_law_297 : decode b_lw_law 297 = .ok (.goto 742, 3) := by decide +kernel
theorem d_lw_law_300 : decode b_lw_law 300 = .ok (.aload_n 1, 1) := by decide +kernel
theorem d_lw_law_301 : decode b_lw_law 301 = .ok (.invokevirtual 83, 3) := by decide +kernel
theorem d_lw_law_304 : decode b_lw_law 304 = .ok (.aload_n 2, 1) := by decide +kernel
theorem d_lw_law_305 : decode b_lw_law 305 = .ok (.invokevirtual 86, 3) := by decide +kernel
theorem d_lw_law_308 : decode b_lw_law 308 = .ok (.if_icmp .eq 731, 3) := by decide +kernel
theorem d_lw_law_311 : decode b_lw_law 311 = .ok (.iconst 0, 1) := by decide +kernel
theorem d_lw_law_312 : decode b_lw_law 312 = .ok (.ireturn, 1) := by decide +kernel
theorem d_lw_law_313 : decode b_lw_law 313 = .ok (.aload_n 1, 1) := by decide +kernel
theorem d_lw_law_314 : decode b_lw_law 314 = .ok (.invokevirtual 87, 3) := by decide +kernel
theorem d_lw_law_317 : decode b_lw_law 317 = .ok (.aload_n 2, 1) := by decide +kernel
theorem d_lw_law_318 : decode b_lw_law 318 = .ok (.invokevirtual 90, 3) := by decide +kernel
theorem d_lw_law_321 : decode b_lw_law 321 = .ok (.if_icmp .eq 718, 3) := by decide +kernel
theorem d_lw_law_324 : decode b_lw_law 324 = .ok (.iconst 0, 1) := by decide +kernel
theorem d_lw_law_325 : decode b_lw_law 325 = .ok (.ireturn, 1) := by decide +kernel
theorem d_lw_law_326 : decode b_lw_law 326 = .ok (.aload_n 1, 1) := by decide +kernel
theorem d_lw_law_327 : decode b_lw_law 327 = .ok (.invokevirtual 91, 3) := by decide +kernel
theorem d_lw_law_330 : decode b_lw_law 330 = .ok (.aload_n 2, 1) := by decide +kernel
theorem d_lw_law_331 : decode b_lw_law 331 = .ok (.invokevirtual 94, 3) := by decide +kernel
theorem d_lw_law_334 : decode b_lw_law 334 = .ok (.if_icmp .eq 705, 3) := by decide +kernel
theorem d_lw_law_337 : decode b_lw_law 337 = .ok (.iconst 0, 1) := by decide +kernel
theorem d_lw_law_338 : decode b_lw_law 338 = .ok (.ireturn, 1) := by decide +kernel
theorem d_lw_law_339 : decode b_lw_law 339 = .ok (.aload_n 1, 1) := by decide +kernel
theorem d_lw_law_340 : decode b_lw_law 340 = .ok (.invokevirtual 95, 3) := by decide +kernel
theorem d_lw_law_343 : decode b_lw_law 343 = .ok (.aload_n 2, 1) := by decide +kernel
theorem d_lw_law_344 : decode b_lw_law 344 = .ok (.invokevirtual 99, 3) := by decide +kernel
theorem d_lw_law_347 : decode b_lw_law 347 = .ok (.lcmp, 1) := by decide +kernel
theorem d_lw_law_348 : decode b_lw_law 348 = .ok (.ifCond .eq 691, 3) := by decide +kernel
theorem d_lw_law_351 : decode b_lw_law 351 = .ok (.iconst 0, 1) := by decide +kernel
theorem d_lw_law_352 : decode b_lw_law 352 = .ok (.ireturn, 1) := by decide +kernel
theorem d_lw_law_353 : decode b_lw_law 353 = .ok (.aload_n 1, 1) := by decide +kernel
theorem d_lw_law_354 : decode b_lw_law 354 = .ok (.aload_n 0, 1) := by decide +kernel
theorem d_lw_law_355 : decode b_lw_law 355 = .ok (.iload 4, 2) := by decide +kernel
theorem d_lw_law_357 : decode b_lw_law 357 = .ok (.iconst 1, 1) := by decide +kernel
theorem d_lw_law_358 : decode b_lw_law 358 = .ok (.iadd, 1) := by decide +kernel
theorem d_lw_law_359 : decode b_lw_law 359 = .ok (.iaload, 1) := by decide +kernel
theorem d_lw_law_360 : decode b_lw_law 360 = .ok (.aload_n 3, 1) := by decide +kernel
theorem d_lw_law_361 : decode b_lw_law 361 = .ok (.invokestatic 100, 3) := by decide +kernel
theorem d_lw_law_364 : decode b_lw_law 364 = .ok (.istore 5, 2) := by decide +kernel
theorem d_lw_law_366 : decode b_lw_law 366 = .ok (.aload_n 2, 1) := by decide +kernel
theorem d_lw_law_367 : decode b_lw_law 367 = .ok (.aload_n 0, 1) := by decide +kernel
theorem d_lw_law_368 : decode b_lw_law 368 = .ok (.iload 4, 2) := by decide +kernel
theorem d_lw_law_370 : decode b_lw_law 370 = .ok (.iconst 1, 1) := by decide +kernel
theorem d_lw_law_371 : decode b_lw_law 371 = .ok (.iadd, 1) := by decide +kernel
theorem d_lw_law_372 : decode b_lw_law 372 = .ok (.iaload, 1) := by decide +kernel
theorem d_lw_law_373 : decode b_lw_law 373 = .ok (.invokevirtual 102, 3) := by decide +kernel
theorem d_lw_law_376 : decode b_lw_law 376 = .ok (.lstore 6, 2) := by decide +kernel
theorem d_lw_law_378 : decode b_lw_law 378 = .ok (.aload_n 2, 1) := by decide +kernel
theorem d_lw_law_379 : decode b_lw_law 379 = .ok (.invokevirtual 71, 3) := by decide +kernel
theorem d_lw_law_382 : decode b_lw_law 382 = .ok (.iload 5, 2) := by decide +kernel
theorem d_lw_law_384 : decode b_lw_law 384 = .ok (.if_icmp .eq 5, 3) := by decide +kernel
theorem d_lw_law_387 : decode b_lw_law 387 = .ok (.iconst 0, 1) := by decide +kernel
theorem d_lw_law_388 : decode b_lw_law 388 = .ok (.ireturn, 1) := by decide +kernel
theorem d_lw_law_389 : decode b_lw_law 389 = .ok (.iload 5, 2) := by decide +kernel
theorem d_lw_law_391 : decode b_lw_law 391 = .ok (.ifCond .ne 14, 3) := by decide +kernel
theorem d_lw_law_394 : decode b_lw_law 394 = .ok (.aload_n 3, 1) := by decide +kernel
theorem d_lw_law_395 : decode b_lw_law 395 = .ok (.iconst 0, 1) := by decide +kernel
theorem d_lw_law_396 : decode b_lw_law 396 = .ok (.laload, 1) := by decide +kernel
theorem d_lw_law_397 : decode b_lw_law 397 = .ok (.lload 6, 2) := by decide +kernel
theorem d_lw_law_399 : decode b_lw_law 399 = .ok (.lcmp, 1) := by decide +kernel
theorem d_lw_law_400 : decode b_lw_law 400 = .ok (.ifCond .eq 5, 3) := by decide +kernel
theorem d_lw_law_403 : decode b_lw_law 403 = .ok (.iconst 0, 1) := by decide +kernel
theorem d_lw_law_404 : decode b_lw_law 404 = .ok (.ireturn, 1) := by decide +kernel
theorem d_lw_law_405 : decode b_lw_law 405 = .ok (.goto 634, 3) := by decide +kernel
theorem d_lw_law_408 : decode b_lw_law 408 = .ok (.aload_n 1, 1) := by decide +kernel
theorem d_lw_law_409 : decode b_lw_law 409 = .ok (.aload_n 0, 1) := by decide +kernel
theorem d_lw_law_410 : decode b_lw_law 410 = .ok (.iload 4, 2) := by decide +kernel
theorem d_lw_law_412 : decode b_lw_law 412 = .ok (.iconst 1, 1) := by decide +kernel
theorem d_lw_law_413 : decode b_lw_law 413 = .ok (.iadd, 1) := by decide +kernel
theorem d_lw_law_414 : decode b_lw_law 414 = .ok (.iaload, 1) := by decide +kernel
theorem d_lw_law_415 : decode b_lw_law 415 = .ok (.aload_n 0, 1) := by decide +kernel
theorem d_lw_law_416 : decode b_lw_law 416 = .ok (.iload 4, 2) := by decide +kernel
theorem d_lw_law_418 : decode b_lw_law 418 = .ok (.iconst 2, 1) := by decide +kernel
theorem d_lw_law_419 : decode b_lw_law 419 = .ok (.iadd, 1) := by decide +kernel
theorem d_lw_law_420 : decode b_lw_law 420 = .ok (.iaload, 1) := by decide +kernel
theorem d_lw_law_421 : decode b_lw_law 421 = .ok (.i2l, 1) := by decide +kernel
theorem d_lw_law_422 : decode b_lw_law 422 = .ok (.bipush 32, 2) := by decide +kernel
theorem d_lw_law_424 : decode b_lw_law 424 = .ok (.lshl, 1) := by decide +kernel
theorem d_lw_law_425 : decode b_lw_law 425 = .ok (.aload_n 0, 1) := by decide +kernel
theorem d_lw_law_426 : decode b_lw_law 426 = .ok (.iload 4, 2) := by decide +kernel
theorem d_lw_law_428 : decode b_lw_law 428 = .ok (.iconst 3, 1) := by decide +kernel
theorem d_lw_law_429 : decode b_lw_law 429 = .ok (.iadd, 1) := by decide +kernel
theorem d_lw_law_430 : decode b_lw_law 430 = .ok (.iaload, 1) := by decide +kernel
theorem d_lw_law_431 : decode b_lw_law 431 = .ok (.i2l, 1) := by decide +kernel
theorem d_lw_law_432 : decode b_lw_law 432 = .ok (.ldc2_w 63, 3) := by decide +kernel
theorem d_lw_law_435 : decode b_lw_law 435 = .ok (.land, 1) := by decide +kernel
theorem d_lw_law_436 : decode b_lw_law 436 = .ok (.lor, 1) := by decide +kernel
theorem d_lw_law_437 : decode b_lw_law 437 = .ok (.invokestatic 103, 3) := by decide +kernel
theorem d_lw_law_440 : decode b_lw_law 440 = .ok (.istore 5, 2) := by decide +kernel
theorem d_lw_law_442 : decode b_lw_law 442 = .ok (.aload_n 2, 1) := by decide +kernel
theorem d_lw_law_443 : decode b_lw_law 443 = .ok (.aload_n 0, 1) := by decide +kernel
theorem d_lw_law_444 : decode b_lw_law 444 = .ok (.iload 4, 2) := by decide +kernel
theorem d_lw_law_446 : decode b_lw_law 446 = .ok (.iconst 1, 1) := by decide +kernel
theorem d_lw_law_447 : decode b_lw_law 447 = .ok (.iadd, 1) := by decide +kernel
theorem d_lw_law_448 : decode b_lw_law 448 = .ok (.iaload, 1) := by decide +kernel
theorem d_lw_law_449 : decode b_lw_law 449 = .ok (.aload_n 0, 1) := by decide +kernel
theorem d_lw_law_450 : decode b_lw_law 450 = .ok (.iload 4, 2) := by decide +kernel
theorem d_lw_law_452 : decode b_lw_law 452 = .ok (.iconst 2, 1) := by decide +kernel
theorem d_lw_law_453 : decode b_lw_law 453 = .ok (.iadd, 1) := by decide +kernel
theorem d_lw_law_454 : decode b_lw_law 454 = .ok (.iaload, 1) := by decide +kernel
theorem d_lw_law_455 : decode b_lw_law 455 = .ok (.i2l, 1) := by decide +kernel
theorem d_lw_law_456 : decode b_lw_law 456 = .ok (.bipush 32, 2) := by decide +kernel
theorem d_lw_law_458 : decode b_lw_law 458 = .ok (.lshl, 1) := by decide +kernel
theorem d_lw_law_459 : decode b_lw_law 459 = .ok (.aload_n 0, 1) := by decide +kernel
theorem d_lw_law_460 : decode b_lw_law 460 = .ok (.iload 4, 2) := by decide +kernel
theorem d_lw_law_462 : decode b_lw_law 462 = .ok (.iconst 3, 1) := by decide +kernel
theorem d_lw_law_463 : decode b_lw_law 463 = .ok (.iadd, 1) := by decide +kernel
theorem d_lw_law_464 : decode b_lw_law 464 = .ok (.iaload, 1) := by decide +kernel
theorem d_lw_law_465 : decode b_lw_law 465 = .ok (.i2l, 1) := by decide +kernel
theorem d_lw_law_466 : decode b_lw_law 466 = .ok (.ldc2_w 63, 3) := by decide +kernel
theorem d_lw_law_469 : decode b_lw_law 469 = .ok (.land, 1) := by decide +kernel
theorem d_lw_law_470 : decode b_lw_law 470 = .ok (.lor, 1) := by decide +kernel
theorem d_lw_law_471 : decode b_lw_law 471 = .ok (.invokevirtual 105, 3) := by decide +kernel
theorem d_lw_law_474 : decode b_lw_law 474 = .ok (.aload_n 2, 1) := by decide +kernel
theorem d_lw_law_475 : decode b_lw_law 475 = .ok (.invokevirtual 71, 3) := by decide +kernel
theorem d_lw_law_478 : decode b_lw_law 478 = .ok (.iload 5, 2) := by decide +kernel
theorem d_lw_law_480 : decode b_lw_law 480 = .ok (.if_icmp .eq 5, 3) := by decide +kernel
theorem d_lw_law_483 : decode b_lw_law 483 = .ok (.iconst 0, 1) := by decide +kernel
theorem d_lw_law_484 : decode b_lw_law 484 = .ok (.ireturn, 1) := by decide +kernel
theorem d_lw_law_485 : decode b_lw_law 485 = .ok (.goto 554, 3) := by decide +kernel
theorem d_lw_law_488 : decode b_lw_law 488 = .ok (.aload_n 1, 1) := by decide +kernel
theorem d_lw_law_489 : decode b_lw_law 489 = .ok (.invokevirtual 106, 3) := by decide +kernel
theorem d_lw_law_492 : decode b_lw_law 492 = .ok (.aload_n 2, 1) := by decide +kernel
theorem d_lw_law_493 : decode b_lw_law 493 = .ok (.invokevirtual 109, 3) := by decide +kernel
theorem d_lw_law_496 : decode b_lw_law 496 = .ok (.if_icmp .eq 543, 3) := by decide +kernel
theorem d_lw_law_499 : decode b_lw_law 499 = .ok (.iconst 0, 1) := by decide +kernel
theorem d_lw_law_500 : decode b_lw_law 500 = .ok (.ireturn, 1) := by decide +kernel
theorem d_lw_law_501 : decode b_lw_law 501 = .ok (.aload_n 1, 1) := by decide +kernel
theorem d_lw_law_502 : decode b_lw_law 502 = .ok (.aload_n 0, 1) := by decide +kernel
theorem d_lw_law_503 : decode b_lw_law 503 = .ok (.iload 4, 2) := by decide +kernel
theorem d_lw_law_505 : decode b_lw_law 505 = .ok (.iconst 1, 1) := by decide +kernel
theorem d_lw_law_506 : decode b_lw_law 506 = .ok (.iadd, 1) := by decide +kernel
theorem d_lw_law_507 : decode b_lw_law 507 = .ok (.iaload, 1) := by decide +kernel
theorem d_lw_law_508 : decode b_lw_law 508 = .ok (.aload_n 3, 1) := by decide +kernel
theorem d_lw_law_509 : decode b_lw_law 509 = .ok (.invokestatic 110, 3) := by decide +kernel
theorem d_lw_law_512 : decode b_lw_law 512 = .ok (.istore 5, 2) := by decide +kernel
theorem d_lw_law_514 : decode b_lw_law 514 = .ok (.aload_n 2, 1) := by decide +kernel
theorem d_lw_law_515 : decode b_lw_law 515 = .ok (.aload_n 0, 1) := by decide +kernel
theorem d_lw_law_516 : decode b_lw_law 516 = .ok (.iload 4, 2) := by decide +kernel
theorem d_lw_law_518 : decode b_lw_law 518 = .ok (.iconst 1, 1) := by decide +kernel
theorem d_lw_law_519 : decode b_lw_law 519 = .ok (.iadd, 1) := by decide +kernel
theorem d_lw_law_520 : decode b_lw_law 520 = .ok (.iaload, 1) := by decide +kernel
theorem d_lw_law_521 : decode b_lw_law 521 = .ok (.invokevirtual 112, 3) := by decide +kernel
theorem d_lw_law_524 : decode b_lw_law 524 = .ok (.istore 6, 2) := by decide +kernel
theorem d_lw_law_526 : decode b_lw_law 526 = .ok (.aload_n 2, 1) := by decide +kernel
theorem d_lw_law_527 : decode b_lw_law 527 = .ok (.invokevirtual 71, 3) := by decide +kernel
theorem d_lw_law_530 : decode b_lw_law 530 = .ok (.iload 5, 2) := by decide +kernel
theorem d_lw_law_532 : decode b_lw_law 532 = .ok (.if_icmp .eq 5, 3) := by decide +kernel
theorem d_lw_law_535 : decode b_lw_law 535 = .ok (.iconst 0, 1) := by decide +kernel
theorem d_lw_law_536 : decode b_lw_law 536 = .ok (.ireturn, 1) := by decide +kernel
theorem d_lw_law_537 : decode b_lw_law 537 = .ok (.iload 5, 2) := by decide +kernel
theorem d_lw_law_539 : decode b_lw_law 539 = .ok (.ifCond .ne 15, 3) := by decide +kernel
theorem d_lw_law_542 : decode b_lw_law 542 = .ok (.aload_n 3, 1) := by decide +kernel
theorem d_lw_law_543 : decode b_lw_law 543 = .ok (.iconst 0, 1) := by decide +kernel
theorem d_lw_law_544 : decode b_lw_law 544 = .ok (.laload, 1) := by decide +kernel
theorem d_lw_law_545 : decode b_lw_law 545 = .ok (.iload 6, 2) := by decide +kernel
theorem d_lw_law_547 : decode b_lw_law 547 = .ok (.i2l, 1) := by decide +kernel
theorem d_lw_law_548 : decode b_lw_law 548 = .ok (.lcmp, 1) := by decide +kernel
theorem d_lw_law_549 : decode b_lw_law 549 = .ok (.ifCond .eq 5, 3) := by decide +kernel
theorem d_lw_law_552 : decode b_lw_law 552 = .ok (.iconst 0, 1) := by decide +kernel
theorem d_lw_law_553 : decode b_lw_law 553 = .ok (.ireturn, 1) := by decide +kernel
theorem d_lw_law_554 : decode b_lw_law 554 = .ok (.goto 485, 3) := by decide +kernel
theorem d_lw_law_557 : decode b_lw_law 557 = .ok (.aload_n 1, 1) := by decide +kernel
theorem d_lw_law_558 : decode b_lw_law 558 = .ok (.aload_n 0, 1) := by decide +kernel
theorem d_lw_law_559 : decode b_lw_law 559 = .ok (.iload 4, 2) := by decide +kernel
theorem d_lw_law_561 : decode b_lw_law 561 = .ok (.iconst 1, 1) := by decide +kernel
theorem d_lw_law_562 : decode b_lw_law 562 = .ok (.iadd, 1) := by decide +kernel
theorem d_lw_law_563 : decode b_lw_law 563 = .ok (.iaload, 1) := by decide +kernel
theorem d_lw_law_564 : decode b_lw_law 564 = .ok (.aload_n 3, 1) := by decide +kernel
theorem d_lw_law_565 : decode b_lw_law 565 = .ok (.invokestatic 113, 3) := by decide +kernel
theorem d_lw_law_568 : decode b_lw_law 568 = .ok (.istore 5, 2) := by decide +kernel
theorem d_lw_law_570 : decode b_lw_law 570 = .ok (.aload_n 2, 1) := by decide +kernel
theorem d_lw_law_571 : decode b_lw_law 571 = .ok (.aload_n 0, 1) := by decide +kernel
theorem d_lw_law_572 : decode b_lw_law 572 = .ok (.iload 4, 2) := by decide +kernel
theorem d_lw_law_574 : decode b_lw_law 574 = .ok (.iconst 1, 1) := by decide +kernel
theorem d_lw_law_575 : decode b_lw_law 575 = .ok (.iadd, 1) := by decide +kernel
theorem d_lw_law_576 : decode b_lw_law 576 = .ok (.iaload, 1) := by decide +kernel
theorem d_lw_law_577 : decode b_lw_law 577 = .ok (.invokevirtual 115, 3) := by decide +kernel
theorem d_lw_law_580 : decode b_lw_law 580 = .ok (.lstore 6, 2) := by decide +kernel
theorem d_lw_law_582 : decode b_lw_law 582 = .ok (.aload_n 2, 1) := by decide +kernel
theorem d_lw_law_583 : decode b_lw_law 583 = .ok (.invokevirtual 71, 3) := by decide +kernel
theorem d_lw_law_586 : decode b_lw_law 586 = .ok (.iload 5, 2) := by decide +kernel
theorem d_lw_law_588 : decode b_lw_law 588 = .ok (.if_icmp .eq 5, 3) := by decide +kernel
theorem d_lw_law_591 : decode b_lw_law 591 = .ok (.iconst 0, 1) := by decide +kernel
theorem d_lw_law_592 : decode b_lw_law 592 = .ok (.ireturn, 1) := by decide +kernel
theorem d_lw_law_593 : decode b_lw_law 593 = .ok (.iload 5, 2) := by decide +kernel
theorem d_lw_law_595 : decode b_lw_law 595 = .ok (.ifCond .ne 14, 3) := by decide +kernel
theorem d_lw_law_598 : decode b_lw_law 598 = .ok (.aload_n 3, 1) := by decide +kernel
theorem d_lw_law_599 : decode b_lw_law 599 = .ok (.iconst 0, 1) := by decide +kernel
theorem d_lw_law_600 : decode b_lw_law 600 = .ok (.laload, 1) := by decide +kernel
theorem d_lw_law_601 : decode b_lw_law 601 = .ok (.lload 6, 2) := by decide +kernel
theorem d_lw_law_603 : decode b_lw_law 603 = .ok (.lcmp, 1) := by decide +kernel
theorem d_lw_law_604 : decode b_lw_law 604 = .ok (.ifCond .eq 5, 3) := by decide +kernel
theorem d_lw_law_607 : decode b_lw_law 607 = .ok (.iconst 0, 1) := by decide +kernel
theorem d_lw_law_608 : decode b_lw_law 608 = .ok (.ireturn, 1) := by decide +kernel
theorem d_lw_law_609 : decode b_lw_law 609 = .ok (.goto 430, 3) := by decide +kernel
theorem d_lw_law_612 : decode b_lw_law 612 = .ok (.aload_n 1, 1) := by decide +kernel
theorem d_lw_law_613 : decode b_lw_law 613 = .ok (.aload_n 0, 1) := by decide +kernel
theorem d_lw_law_614 : decode b_lw_law 614 = .ok (.iload 4, 2) := by decide +kernel
theorem d_lw_law_616 : decode b_lw_law 616 = .ok (.iconst 1, 1) := by decide +kernel
theorem d_lw_law_617 : decode b_lw_law 617 = .ok (.iadd, 1) := by decide +kernel
theorem d_lw_law_618 : decode b_lw_law 618 = .ok (.iaload, 1) := by decide +kernel
theorem d_lw_law_619 : decode b_lw_law 619 = .ok (.aload_n 0, 1) := by decide +kernel
theorem d_lw_law_620 : decode b_lw_law 620 = .ok (.iload 4, 2) := by decide +kernel
theorem d_lw_law_622 : decode b_lw_law 622 = .ok (.iconst 2, 1) := by decide +kernel
theorem d_lw_law_623 : decode b_lw_law 623 = .ok (.iadd, 1) := by decide +kernel
theorem d_lw_law_624 : decode b_lw_law 624 = .ok (.iaload, 1) := by decide +kernel
theorem d_lw_law_625 : decode b_lw_law 625 = .ok (.i2l, 1) := by decide +kernel
theorem d_lw_law_626 : decode b_lw_law 626 = .ok (.bipush 32, 2) := by decide +kernel
theorem d_lw_law_628 : decode b_lw_law 628 = .ok (.lshl, 1) := by decide +kernel
theorem d_lw_law_629 : decode b_lw_law 629 = .ok (.aload_n 0, 1) := by decide +kernel
theorem d_lw_law_630 : decode b_lw_law 630 = .ok (.iload 4, 2) := by decide +kernel
theorem d_lw_law_632 : decode b_lw_law 632 = .ok (.iconst 3, 1) := by decide +kernel
theorem d_lw_law_633 : decode b_lw_law 633 = .ok (.iadd, 1) := by decide +kernel
theorem d_lw_law_634 : decode b_lw_law 634 = .ok (.iaload, 1) := by decide +kernel
theorem d_lw_law_635 : decode b_lw_law 635 = .ok (.i2l, 1) := by decide +kernel
theorem d_lw_law_636 : decode b_lw_law 636 = .ok (.ldc2_w 63, 3) := by decide +kernel
theorem d_lw_law_639 : decode b_lw_law 639 = .ok (.land, 1) := by decide +kernel
theorem d_lw_law_640 : decode b_lw_law 640 = .ok (.lor, 1) := by decide +kernel
theorem d_lw_law_641 : decode b_lw_law 641 = .ok (.invokestatic 116, 3) := by decide +kernel
theorem d_lw_law_644 : decode b_lw_law 644 = .ok (.istore 5, 2) := by decide +kernel
theorem d_lw_law_646 : decode b_lw_law 646 = .ok (.aload_n 2, 1) := by decide +kernel
theorem d_lw_law_647 : decode b_lw_law 647 = .ok (.aload_n 0, 1) := by decide +kernel
theorem d_lw_law_648 : decode b_lw_law 648 = .ok (.iload 4, 2) := by decide +kernel
theorem d_lw_law_650 : decode b_lw_law 650 = .ok (.iconst 1, 1) := by decide +kernel
theorem d_lw_law_651 : decode b_lw_law 651 = .ok (.iadd, 1) := by decide +kernel
theorem d_lw_law_652 : decode b_lw_law 652 = .ok (.iaload, 1) := by decide +kernel
theorem d_lw_law_653 : decode b_lw_law 653 = .ok (.aload_n 0, 1) := by decide +kernel
theorem d_lw_law_654 : decode b_lw_law 654 = .ok (.iload 4, 2) := by decide +kernel
theorem d_lw_law_656 : decode b_lw_law 656 = .ok (.iconst 2, 1) := by decide +kernel
theorem d_lw_law_657 : decode b_lw_law 657 = .ok (.iadd, 1) := by decide +kernel
theorem d_lw_law_658 : decode b_lw_law 658 = .ok (.iaload, 1) := by decide +kernel
theorem d_lw_law_659 : decode b_lw_law 659 = .ok (.i2l, 1) := by decide +kernel
theorem d_lw_law_660 : decode b_lw_law 660 = .ok (.bipush 32, 2) := by decide +kernel
theorem d_lw_law_662 : decode b_lw_law 662 = .ok (.lshl, 1) := by decide +kernel
theorem d_lw_law_663 : decode b_lw_law 663 = .ok (.aload_n 0, 1) := by decide +kernel
theorem d_lw_law_664 : decode b_lw_law 664 = .ok (.iload 4, 2) := by decide +kernel
theorem d_lw_law_666 : decode b_lw_law 666 = .ok (.iconst 3, 1) := by decide +kernel
theorem d_lw_law_667 : decode b_lw_law 667 = .ok (.iadd, 1) := by decide +kernel
theorem d_lw_law_668 : decode b_lw_law 668 = .ok (.iaload, 1) := by decide +kernel
theorem d_lw_law_669 : decode b_lw_law 669 = .ok (.i2l, 1) := by decide +kernel
theorem d_lw_law_670 : decode b_lw_law 670 = .ok (.ldc2_w 63, 3) := by decide +kernel
theorem d_lw_law_673 : decode b_lw_law 673 = .ok (.land, 1) := by decide +kernel
theorem d_lw_law_674 : decode b_lw_law 674 = .ok (.lor, 1) := by decide +kernel
theorem d_lw_law_675 : decode b_lw_law 675 = .ok (.invokevirtual 118, 3) := by decide +kernel
theorem d_lw_law_678 : decode b_lw_law 678 = .ok (.aload_n 2, 1) := by decide +kernel
theorem d_lw_law_679 : decode b_lw_law 679 = .ok (.invokevirtual 71, 3) := by decide +kernel
theorem d_lw_law_682 : decode b_lw_law 682 = .ok (.iload 5, 2) := by decide +kernel
theorem d_lw_law_684 : decode b_lw_law 684 = .ok (.if_icmp .eq 5, 3) := by decide +kernel
theorem d_lw_law_687 : decode b_lw_law 687 = .ok (.iconst 0, 1) := by decide +kernel
theorem d_lw_law_688 : decode b_lw_law 688 = .ok (.ireturn, 1) := by decide +kernel
theorem d_lw_law_689 : decode b_lw_law 689 = .ok (.goto 350, 3) := by decide +kernel
theorem d_lw_law_692 : decode b_lw_law 692 = .ok (.aload_n 1, 1) := by decide +kernel
theorem d_lw_law_693 : decode b_lw_law 693 = .ok (.invokevirtual 119, 3) := by decide +kernel
theorem d_lw_law_696 : decode b_lw_law 696 = .ok (.aload_n 2, 1) := by decide +kernel
theorem d_lw_law_697 : decode b_lw_law 697 = .ok (.invokevirtual 123, 3) := by decide +kernel
theorem d_lw_law_700 : decode b_lw_law 700 = .ok (.if_icmp .eq 339, 3) := by decide +kernel
theorem d_lw_law_703 : decode b_lw_law 703 = .ok (.iconst 0, 1) := by decide +kernel
theorem d_lw_law_704 : decode b_lw_law 704 = .ok (.ireturn, 1) := by decide +kernel
theorem d_lw_law_705 : decode b_lw_law 705 = .ok (.aload_n 1, 1) := by decide +kernel
theorem d_lw_law_706 : decode b_lw_law 706 = .ok (.aload_n 0, 1) := by decide +kernel
theorem d_lw_law_707 : decode b_lw_law 707 = .ok (.iload 4, 2) := by decide +kernel
theorem d_lw_law_709 : decode b_lw_law 709 = .ok (.iconst 1, 1) := by decide +kernel
theorem d_lw_law_710 : decode b_lw_law 710 = .ok (.iadd, 1) := by decide +kernel
theorem d_lw_law_711 : decode b_lw_law 711 = .ok (.iaload, 1) := by decide +kernel
theorem d_lw_law_712 : decode b_lw_law 712 = .ok (.aload_n 0, 1) := by decide +kernel
theorem d_lw_law_713 : decode b_lw_law 713 = .ok (.iload 4, 2) := by decide +kernel
theorem d_lw_law_715 : decode b_lw_law 715 = .ok (.iconst 2, 1) := by decide +kernel
theorem d_lw_law_716 : decode b_lw_law 716 = .ok (.iadd, 1) := by decide +kernel
theorem d_lw_law_717 : decode b_lw_law 717 = .ok (.iaload, 1) := by decide +kernel
theorem d_lw_law_718 : decode b_lw_law 718 = .ok (.i2l, 1) := by decide +kernel
theorem d_lw_law_719 : decode b_lw_law 719 = .ok (.bipush 32, 2) := by decide +kernel
theorem d_lw_law_721 : decode b_lw_law 721 = .ok (.lshl, 1) := by decide +kernel
theorem d_lw_law_722 : decode b_lw_law 722 = .ok (.aload_n 0, 1) := by decide +kernel
theorem d_lw_law_723 : decode b_lw_law 723 = .ok (.iload 4, 2) := by decide +kernel
theorem d_lw_law_725 : decode b_lw_law 725 = .ok (.iconst 3, 1) := by decide +kernel
theorem d_lw_law_726 : decode b_lw_law 726 = .ok (.iadd, 1) := by decide +kernel
theorem d_lw_law_727 : decode b_lw_law 727 = .ok (.iaload, 1) := by decide +kernel
theorem d_lw_law_728 : decode b_lw_law 728 = .ok (.i2l, 1) := by decide +kernel
theorem d_lw_law_729 : decode b_lw_law 729 = .ok (.ldc2_w 63, 3) := by decide +kernel
theorem d_lw_law_732 : decode b_lw_law 732 = .ok (.land, 1) := by decide +kernel
theorem d_lw_law_733 : decode b_lw_law 733 = .ok (.lor, 1) := by decide +kernel
theorem d_lw_law_734 : decode b_lw_law 734 = .ok (.aload_n 3, 1) := by decide +kernel
theorem d_lw_law_735 : decode b_lw_law 735 = .ok (.invokestatic 124, 3) := by decide +kernel
theorem d_lw_law_738 : decode b_lw_law 738 = .ok (.istore 5, 2) := by decide +kernel
theorem d_lw_law_740 : decode b_lw_law 740 = .ok (.aload_n 2, 1) := by decide +kernel
theorem d_lw_law_741 : decode b_lw_law 741 = .ok (.aload_n 0, 1) := by decide +kernel
theorem d_lw_law_742 : decode b_lw_law 742 = .ok (.iload 4, 2) := by decide +kernel
theorem d_lw_law_744 : decode b_lw_law 744 = .ok (.iconst 1, 1) := by decide +kernel
theorem d_lw_law_745 : decode b_lw_law 745 = .ok (.iadd, 1) := by decide +kernel
theorem d_lw_law_746 : decode b_lw_law 746 = .ok (.iaload, 1) := by decide +kernel
theorem d_lw_law_747 : decode b_lw_law 747 = .ok (.aload_n 0, 1) := by decide +kernel
theorem d_lw_law_748 : decode b_lw_law 748 = .ok (.iload 4, 2) := by decide +kernel
theorem d_lw_law_750 : decode b_lw_law 750 = .ok (.iconst 2, 1) := by decide +kernel
theorem d_lw_law_751 : decode b_lw_law 751 = .ok (.iadd, 1) := by decide +kernel
theorem d_lw_law_752 : decode b_lw_law 752 = .ok (.iaload, 1) := by decide +kernel
theorem d_lw_law_753 : decode b_lw_law 753 = .ok (.i2l, 1) := by decide +kernel
theorem d_lw_law_754 : decode b_lw_law 754 = .ok (.bipush 32, 2) := by decide +kernel
theorem d_lw_law_756 : decode b_lw_law 756 = .ok (.lshl, 1) := by decide +kernel
theorem d_lw_law_757 : decode b_lw_law 757 = .ok (.aload_n 0, 1) := by decide +kernel
theorem d_lw_law_758 : decode b_lw_law 758 = .ok (.iload 4, 2) := by decide +kernel
theorem d_lw_law_760 : decode b_lw_law 760 = .ok (.iconst 3, 1) := by decide +kernel
theorem d_lw_law_761 : decode b_lw_law 761 = .ok (.iadd, 1) := by decide +kernel
theorem d_lw_law_762 : decode b_lw_law 762 = .ok (.iaload, 1) := by decide +kernel
theorem d_lw_law_763 : decode b_lw_law 763 = .ok (.i2l, 1) := by decide +kernel
theorem d_lw_law_764 : decode b_lw_law 764 = .ok (.ldc2_w 63, 3) := by decide +kernel
theorem d_lw_law_767 : decode b_lw_law 767 = .ok (.land, 1) := by decide +kernel
theorem d_lw_law_768 : decode b_lw_law 768 = .ok (.lor, 1) := by decide +kernel
theorem d_lw_law_769 : decode b_lw_law 769 = .ok (.invokevirtual 127, 3) := by decide +kernel
theorem d_lw_law_772 : decode b_lw_law 772 = .ok (.istore 6, 2) := by decide +kernel
theorem d_lw_law_774 : decode b_lw_law 774 = .ok (.aload_n 2, 1) := by decide +kernel
theorem d_lw_law_775 : decode b_lw_law 775 = .ok (.invokevirtual 71, 3) := by decide +kernel
theorem d_lw_law_778 : decode b_lw_law 778 = .ok (.iload 5, 2) := by decide +kernel
theorem d_lw_law_780 : decode b_lw_law 780 = .ok (.if_icmp .eq 5, 3) := by decide +kernel
theorem d_lw_law_783 : decode b_lw_law 783 = .ok (.iconst 0, 1) := by decide +kernel
theorem d_lw_law_784 : decode b_lw_law 784 = .ok (.ireturn, 1) := by decide +kernel
theorem d_lw_law_785 : decode b_lw_law 785 = .ok (.iload 5, 2) := by decide +kernel
theorem d_lw_law_787 : decode b_lw_law 787 = .ok (.ifCond .ne 15, 3) := by decide +kernel
theorem d_lw_law_790 : decode b_lw_law 790 = .ok (.aload_n 3, 1) := by decide +kernel
theorem d_lw_law_791 : decode b_lw_law 791 = .ok (.iconst 0, 1) := by decide +kernel
theorem d_lw_law_792 : decode b_lw_law 792 = .ok (.laload, 1) := by decide +kernel
theorem d_lw_law_793 : decode b_lw_law 793 = .ok (.iload 6, 2) := by decide +kernel
theorem d_lw_law_795 : decode b_lw_law 795 = .ok (.i2l, 1) := by decide +kernel
theorem d_lw_law_796 : decode b_lw_law 796 = .ok (.lcmp, 1) := by decide +kernel
theorem d_lw_law_797 : decode b_lw_law 797 = .ok (.ifCond .eq 5, 3) := by decide +kernel
theorem d_lw_law_800 : decode b_lw_law 800 = .ok (.iconst 0, 1) := by decide +kernel
theorem d_lw_law_801 : decode b_lw_law 801 = .ok (.ireturn, 1) := by decide +kernel
theorem d_lw_law_802 : decode b_lw_law 802 = .ok (.goto 237, 3) := by decide +kernel
theorem d_lw_law_805 : decode b_lw_law 805 = .ok (.aload_n 1, 1) := by decide +kernel
theorem d_lw_law_806 : decode b_lw_law 806 = .ok (.aload_n 0, 1) := by decide +kernel
theorem d_lw_law_807 : decode b_lw_law 807 = .ok (.iload 4, 2) := by decide +kernel
theorem d_lw_law_809 : decode b_lw_law 809 = .ok (.iconst 1, 1) := by decide +kernel
theorem d_lw_law_810 : decode b_lw_law 810 = .ok (.iadd, 1) := by decide +kernel
theorem d_lw_law_811 : decode b_lw_law 811 = .ok (.iaload, 1) := by decide +kernel
theorem d_lw_law_812 : decode b_lw_law 812 = .ok (.aload_n 3, 1) := by decide +kernel
theorem d_lw_law_813 : decode b_lw_law 813 = .ok (.invokestatic 128, 3) := by decide +kernel
theorem d_lw_law_816 : decode b_lw_law 816 = .ok (.istore 5, 2) := by decide +kernel
theorem d_lw_law_818 : decode b_lw_law 818 = .ok (.aload_n 2, 1) := by decide +kernel
theorem d_lw_law_819 : decode b_lw_law 819 = .ok (.aload_n 0, 1) := by decide +kernel
theorem d_lw_law_820 : decode b_lw_law 820 = .ok (.iload 4, 2) := by decide +kernel
theorem d_lw_law_822 : decode b_lw_law 822 = .ok (.iconst 1, 1) := by decide +kernel
theorem d_lw_law_823 : decode b_lw_law 823 = .ok (.iadd, 1) := by decide +kernel
theorem d_lw_law_824 : decode b_lw_law 824 = .ok (.iaload, 1) := by decide +kernel
theorem d_lw_law_825 : decode b_lw_law 825 = .ok (.invokevirtual 130, 3) := by decide +kernel
theorem d_lw_law_828 : decode b_lw_law 828 = .ok (.lstore 6, 2) := by decide +kernel
theorem d_lw_law_830 : decode b_lw_law 830 = .ok (.aload_n 2, 1) := by decide +kernel
theorem d_lw_law_831 : decode b_lw_law 831 = .ok (.invokevirtual 71, 3) := by decide +kernel
theorem d_lw_law_834 : decode b_lw_law 834 = .ok (.iload 5, 2) := by decide +kernel
theorem d_lw_law_836 : decode b_lw_law 836 = .ok (.if_icmp .eq 5, 3) := by decide +kernel
theorem d_lw_law_839 : decode b_lw_law 839 = .ok (.iconst 0, 1) := by decide +kernel
theorem d_lw_law_840 : decode b_lw_law 840 = .ok (.ireturn, 1) := by decide +kernel
theorem d_lw_law_841 : decode b_lw_law 841 = .ok (.iload 5, 2) := by decide +kernel
theorem d_lw_law_843 : decode b_lw_law 843 = .ok (.ifCond .ne 14, 3) := by decide +kernel
theorem d_lw_law_846 : decode b_lw_law 846 = .ok (.aload_n 3, 1) := by decide +kernel
theorem d_lw_law_847 : decode b_lw_law 847 = .ok (.iconst 0, 1) := by decide +kernel
theorem d_lw_law_848 : decode b_lw_law 848 = .ok (.laload, 1) := by decide +kernel
theorem d_lw_law_849 : decode b_lw_law 849 = .ok (.lload 6, 2) := by decide +kernel
theorem d_lw_law_851 : decode b_lw_law 851 = .ok (.lcmp, 1) := by decide +kernel
theorem d_lw_law_852 : decode b_lw_law 852 = .ok (.ifCond .eq 5, 3) := by decide +kernel
theorem d_lw_law_855 : decode b_lw_law 855 = .ok (.iconst 0, 1) := by decide +kernel
theorem d_lw_law_856 : decode b_lw_law 856 = .ok (.ireturn, 1) := by decide +kernel
theorem d_lw_law_857 : decode b_lw_law 857 = .ok (.goto 182, 3) := by decide +kernel
theorem d_lw_law_860 : decode b_lw_law 860 = .ok (.aload_n 1, 1) := by decide +kernel
theorem d_lw_law_861 : decode b_lw_law 861 = .ok (.aload_n 0, 1) := by decide +kernel
theorem d_lw_law_862 : decode b_lw_law 862 = .ok (.iload 4, 2) := by decide +kernel
theorem d_lw_law_864 : decode b_lw_law 864 = .ok (.iconst 1, 1) := by decide +kernel
theorem d_lw_law_865 : decode b_lw_law 865 = .ok (.iadd, 1) := by decide +kernel
theorem d_lw_law_866 : decode b_lw_law 866 = .ok (.iaload, 1) := by decide +kernel
theorem d_lw_law_867 : decode b_lw_law 867 = .ok (.invokestatic 131, 3) := by decide +kernel
theorem d_lw_law_870 : decode b_lw_law 870 = .ok (.istore 5, 2) := by decide +kernel
theorem d_lw_law_872 : decode b_lw_law 872 = .ok (.aload_n 2, 1) := by decide +kernel
theorem d_lw_law_873 : decode b_lw_law 873 = .ok (.aload_n 0, 1) := by decide +kernel
theorem d_lw_law_874 : decode b_lw_law 874 = .ok (.iload 4, 2) := by decide +kernel
theorem d_lw_law_876 : decode b_lw_law 876 = .ok (.iconst 1, 1) := by decide +kernel
theorem d_lw_law_877 : decode b_lw_law 877 = .ok (.iadd, 1) := by decide +kernel
theorem d_lw_law_878 : decode b_lw_law 878 = .ok (.iaload, 1) := by decide +kernel
theorem d_lw_law_879 : decode b_lw_law 879 = .ok (.invokevirtual 133, 3) := by decide +kernel
theorem d_lw_law_882 : decode b_lw_law 882 = .ok (.aload_n 2, 1) := by decide +kernel
theorem d_lw_law_883 : decode b_lw_law 883 = .ok (.invokevirtual 71, 3) := by decide +kernel
theorem d_lw_law_886 : decode b_lw_law 886 = .ok (.iload 5, 2) := by decide +kernel
theorem d_lw_law_888 : decode b_lw_law 888 = .ok (.if_icmp .eq 5, 3) := by decide +kernel
theorem d_lw_law_891 : decode b_lw_law 891 = .ok (.iconst 0, 1) := by decide +kernel
theorem d_lw_law_892 : decode b_lw_law 892 = .ok (.ireturn, 1) := by decide +kernel
theorem d_lw_law_893 : decode b_lw_law 893 = .ok (.goto 146, 3) := by decide +kernel
theorem d_lw_law_896 : decode b_lw_law 896 = .ok (.aload_n 1, 1) := by decide +kernel
theorem d_lw_law_897 : decode b_lw_law 897 = .ok (.aload_n 0, 1) := by decide +kernel
theorem d_lw_law_898 : decode b_lw_law 898 = .ok (.iload 4, 2) := by decide +kernel
theorem d_lw_law_900 : decode b_lw_law 900 = .ok (.iconst 1, 1) := by decide +kernel
theorem d_lw_law_901 : decode b_lw_law 901 = .ok (.iadd, 1) := by decide +kernel
theorem d_lw_law_902 : decode b_lw_law 902 = .ok (.iaload, 1) := by decide +kernel
theorem d_lw_law_903 : decode b_lw_law 903 = .ok (.i2l, 1) := by decide +kernel
theorem d_lw_law_904 : decode b_lw_law 904 = .ok (.bipush 32, 2) := by decide +kernel
theorem d_lw_law_906 : decode b_lw_law 906 = .ok (.lshl, 1) := by decide +kernel
theorem d_lw_law_907 : decode b_lw_law 907 = .ok (.aload_n 0, 1) := by decide +kernel
theorem d_lw_law_908 : decode b_lw_law 908 = .ok (.iload 4, 2) := by decide +kernel
theorem d_lw_law_910 : decode b_lw_law 910 = .ok (.iconst 2, 1) := by decide +kernel
theorem d_lw_law_911 : decode b_lw_law 911 = .ok (.iadd, 1) := by decide +kernel
theorem d_lw_law_912 : decode b_lw_law 912 = .ok (.iaload, 1) := by decide +kernel
theorem d_lw_law_913 : decode b_lw_law 913 = .ok (.i2l, 1) := by decide +kernel
theorem d_lw_law_914 : decode b_lw_law 914 = .ok (.ldc2_w 63, 3) := by decide +kernel
theorem d_lw_law_917 : decode b_lw_law 917 = .ok (.land, 1) := by decide +kernel
theorem d_lw_law_918 : decode b_lw_law 918 = .ok (.lor, 1) := by decide +kernel
theorem d_lw_law_919 : decode b_lw_law 919 = .ok (.aload_n 0, 1) := by decide +kernel
theorem d_lw_law_920 : decode b_lw_law 920 = .ok (.iload 4, 2) := by decide +kernel
theorem d_lw_law_922 : decode b_lw_law 922 = .ok (.iconst 3, 1) := by decide +kernel
theorem d_lw_law_923 : decode b_lw_law 923 = .ok (.iadd, 1) := by decide +kernel
theorem d_lw_law_924 : decode b_lw_law 924 = .ok (.iaload, 1) := by decide +kernel
theorem d_lw_law_925 : decode b_lw_law 925 = .ok (.i2l, 1) := by decide +kernel
theorem d_lw_law_926 : decode b_lw_law 926 = .ok (.bipush 32, 2) := by decide +kernel
theorem d_lw_law_928 : decode b_lw_law 928 = .ok (.lshl, 1) := by decide +kernel
theorem d_lw_law_929 : decode b_lw_law 929 = .ok (.aload_n 0, 1) := by decide +kernel
theorem d_lw_law_930 : decode b_lw_law 930 = .ok (.iload 4, 2) := by decide +kernel
theorem d_lw_law_932 : decode b_lw_law 932 = .ok (.iconst 4, 1) := by decide +kernel
theorem d_lw_law_933 : decode b_lw_law 933 = .ok (.iadd, 1) := by decide +kernel
theorem d_lw_law_934 : decode b_lw_law 934 = .ok (.iaload, 1) := by decide +kernel
theorem d_lw_law_935 : decode b_lw_law 935 = .ok (.i2l, 1) := by decide +kernel
theorem d_lw_law_936 : decode b_lw_law 936 = .ok (.ldc2_w 63, 3) := by decide +kernel
theorem d_lw_law_939 : decode b_lw_law 939 = .ok (.land, 1) := by decide +kernel
theorem d_lw_law_940 : decode b_lw_law 940 = .ok (.lor, 1) := by decide +kernel
theorem d_lw_law_941 : decode b_lw_law 941 = .ok (.aload_n 0, 1) := by decide +kernel
theorem d_lw_law_942 : decode b_lw_law 942 = .ok (.iload 4, 2) := by decide +kernel
theorem d_lw_law_944 : decode b_lw_law 944 = .ok (.iconst 5, 1) := by decide +kernel
theorem d_lw_law_945 : decode b_lw_law 945 = .ok (.iadd, 1) := by decide +kernel
theorem d_lw_law_946 : decode b_lw_law 946 = .ok (.iaload, 1) := by decide +kernel
theorem d_lw_law_947 : decode b_lw_law 947 = .ok (.aload_n 3, 1) := by decide +kernel
theorem d_lw_law_948 : decode b_lw_law 948 = .ok (.invokestatic 134, 3) := by decide +kernel
theorem d_lw_law_951 : decode b_lw_law 951 = .ok (.istore 5, 2) := by decide +kernel
theorem d_lw_law_953 : decode b_lw_law 953 = .ok (.aload_n 2, 1) := by decide +kernel
theorem d_lw_law_954 : decode b_lw_law 954 = .ok (.aload_n 0, 1) := by decide +kernel
theorem d_lw_law_955 : decode b_lw_law 955 = .ok (.iload 4, 2) := by decide +kernel
theorem d_lw_law_957 : decode b_lw_law 957 = .ok (.iconst 1, 1) := by decide +kernel
theorem d_lw_law_958 : decode b_lw_law 958 = .ok (.iadd, 1) := by decide +kernel
theorem d_lw_law_959 : decode b_lw_law 959 = .ok (.iaload, 1) := by decide +kernel
theorem d_lw_law_960 : decode b_lw_law 960 = .ok (.i2l, 1) := by decide +kernel
theorem d_lw_law_961 : decode b_lw_law 961 = .ok (.bipush 32, 2) := by decide +kernel
theorem d_lw_law_963 : decode b_lw_law 963 = .ok (.lshl, 1) := by decide +kernel
theorem d_lw_law_964 : decode b_lw_law 964 = .ok (.aload_n 0, 1) := by decide +kernel
theorem d_lw_law_965 : decode b_lw_law 965 = .ok (.iload 4, 2) := by decide +kernel
theorem d_lw_law_967 : decode b_lw_law 967 = .ok (.iconst 2, 1) := by decide +kernel
theorem d_lw_law_968 : decode b_lw_law 968 = .ok (.iadd, 1) := by decide +kernel
theorem d_lw_law_969 : decode b_lw_law 969 = .ok (.iaload, 1) := by decide +kernel
theorem d_lw_law_970 : decode b_lw_law 970 = .ok (.i2l, 1) := by decide +kernel
theorem d_lw_law_971 : decode b_lw_law 971 = .ok (.ldc2_w 63, 3) := by decide +kernel
theorem d_lw_law_974 : decode b_lw_law 974 = .ok (.land, 1) := by decide +kernel
theorem d_lw_law_975 : decode b_lw_law 975 = .ok (.lor, 1) := by decide +kernel
theorem d_lw_law_976 : decode b_lw_law 976 = .ok (.aload_n 0, 1) := by decide +kernel
theorem d_lw_law_977 : decode b_lw_law 977 = .ok (.iload 4, 2) := by decide +kernel
theorem d_lw_law_979 : decode b_lw_law 979 = .ok (.iconst 3, 1) := by decide +kernel
theorem d_lw_law_980 : decode b_lw_law 980 = .ok (.iadd, 1) := by decide +kernel
theorem d_lw_law_981 : decode b_lw_law 981 = .ok (.iaload, 1) := by decide +kernel
theorem d_lw_law_982 : decode b_lw_law 982 = .ok (.i2l, 1) := by decide +kernel
theorem d_lw_law_983 : decode b_lw_law 983 = .ok (.bipush 32, 2) := by decide +kernel
theorem d_lw_law_985 : decode b_lw_law 985 = .ok (.lshl, 1) := by decide +kernel
theorem d_lw_law_986 : decode b_lw_law 986 = .ok (.aload_n 0, 1) := by decide +kernel
theorem d_lw_law_987 : decode b_lw_law 987 = .ok (.iload 4, 2) := by decide +kernel
theorem d_lw_law_989 : decode b_lw_law 989 = .ok (.iconst 4, 1) := by decide +kernel
theorem d_lw_law_990 : decode b_lw_law 990 = .ok (.iadd, 1) := by decide +kernel
theorem d_lw_law_991 : decode b_lw_law 991 = .ok (.iaload, 1) := by decide +kernel
theorem d_lw_law_992 : decode b_lw_law 992 = .ok (.i2l, 1) := by decide +kernel
theorem d_lw_law_993 : decode b_lw_law 993 = .ok (.ldc2_w 63, 3) := by decide +kernel
theorem d_lw_law_996 : decode b_lw_law 996 = .ok (.land, 1) := by decide +kernel
theorem d_lw_law_997 : decode b_lw_law 997 = .ok (.lor, 1) := by decide +kernel
theorem d_lw_law_998 : decode b_lw_law 998 = .ok (.aload_n 0, 1) := by decide +kernel
theorem d_lw_law_999 : decode b_lw_law 999 = .ok (.iload 4, 2) := by decide +kernel
theorem d_lw_law_1001 : decode b_lw_law 1001 = .ok (.iconst 5, 1) := by decide +kernel
theorem d_lw_law_1002 : decode b_lw_law 1002 = .ok (.iadd, 1) := by decide +kernel
theorem d_lw_law_1003 : decode b_lw_law 1003 = .ok (.iaload, 1) := by decide +kernel
theorem d_lw_law_1004 : decode b_lw_law 1004 = .ok (.invokevirtual 137, 3) := by decide +kernel
theorem d_lw_law_1007 : decode b_lw_law 1007 = .ok (.lstore 6, 2) := by decide +kernel
theorem d_lw_law_1009 : decode b_lw_law 1009 = .ok (.aload_n 2, 1) := by decide +kernel
theorem d_lw_law_1010 : decode b_lw_law 1010 = .ok (.invokevirtual 71, 3) := by decide +kernel
theorem d_lw_law_1013 : decode b_lw_law 1013 = .ok (.iload 5, 2) := by decide +kernel
theorem d_lw_law_1015 : decode b_lw_law 1015 = .ok (.if_icmp .eq 5, 3) := by decide +kernel
theorem d_lw_law_1018 : decode b_lw_law 1018 = .ok (.iconst 0, 1) := by decide +kernel
theorem d_lw_law_1019 : decode b_lw_law 1019 = .ok (.ireturn, 1) := by decide +kernel
theorem d_lw_law_1020 : decode b_lw_law 1020 = .ok (.iload 5, 2) := by decide +kernel
theorem d_lw_law_1022 : decode b_lw_law 1022 = .ok (.ifCond .ne 14, 3) := by decide +kernel
theorem d_lw_law_1025 : decode b_lw_law 1025 = .ok (.aload_n 3, 1) := by decide +kernel
theorem d_lw_law_1026 : decode b_lw_law 1026 = .ok (.iconst 0, 1) := by decide +kernel
theorem d_lw_law_1027 : decode b_lw_law 1027 = .ok (.laload, 1) := by decide +kernel
theorem d_lw_law_1028 : decode b_lw_law 1028 = .ok (.lload 6, 2) := by decide +kernel
theorem d_lw_law_1030 : decode b_lw_law 1030 = .ok (.lcmp, 1) := by decide +kernel
theorem d_lw_law_1031 : decode b_lw_law 1031 = .ok (.ifCond .eq 5, 3) := by decide +kernel
theorem d_lw_law_1034 : decode b_lw_law 1034 = .ok (.iconst 0, 1) := by decide +kernel
theorem d_lw_law_1035 : decode b_lw_law 1035 = .ok (.ireturn, 1) := by decide +kernel
theorem d_lw_law_1036 : decode b_lw_law 1036 = .ok (.goto 3, 3) := by decide +kernel
theorem d_lw_law_1039 : decode b_lw_law 1039 = .ok (.iinc 4 6, 3) := by decide +kernel
theorem d_lw_law_1042 : decode b_lw_law 1042 = .ok (.goto (-1019), 3) := by decide +kernel
theorem d_lw_law_1045 : decode b_lw_law 1045 = .ok (.iconst 1, 1) := by decide +kernel
theorem d_lw_law_1046 : decode b_lw_law 1046 = .ok (.ireturn, 1) := by decide +kernel
