theorem d_Law_law_0 : decode code 0 = .ok (.new 7, 3) := by decide +kernel
theorem d_Law_law_3 : decode code 3 = .ok (.dup, 1) := by decide +kernel
theorem d_Law_law_4 : decode code 4 = .ok (.invokespecial 9, 3) := by decide +kernel
theorem d_Law_law_7 : decode code 7 = .ok (.astore_n 1, 1) := by decide +kernel
theorem d_Law_law_8 : decode code 8 = .ok (.new 10, 3) := by decide +kernel
theorem d_Law_law_11 : decode code 11 = .ok (.dup, 1) := by decide +kernel
theorem d_Law_law_12 : decode code 12 = .ok (.invokespecial 12, 3) := by decide +kernel
theorem d_Law_law_15 : decode code 15 = .ok (.astore_n 2, 1) := by decide +kernel
theorem d_Law_law_16 : decode code 16 = .ok (.iconst 0, 1) := by decide +kernel
theorem d_Law_law_17 : decode code 17 = .ok (.istore_n 3, 1) := by decide +kernel
theorem d_Law_law_18 : decode code 18 = .ok (.iload_n 3, 1) := by decide +kernel
theorem d_Law_law_19 : decode code 19 = .ok (.aload_n 0, 1) := by decide +kernel
theorem d_Law_law_20 : decode code 20 = .ok (.arraylength, 1) := by decide +kernel
theorem d_Law_law_21 : decode code 21 = .ok (.bipush 6, 2) := by decide +kernel
theorem d_Law_law_23 : decode code 23 = .ok (.isub, 1) := by decide +kernel
theorem d_Law_law_24 : decode code 24 = .ok (.if_icmp .gt 796, 3) := by decide +kernel
theorem d_Law_law_27 : decode code 27 = .ok (.aload_n 0, 1) := by decide +kernel
theorem d_Law_law_28 : decode code 28 = .ok (.iload_n 3, 1) := by decide +kernel
theorem d_Law_law_29 : decode code 29 = .ok (.iaload, 1) := by decide +kernel
theorem d_Law_law_30 : decode code 30 = .ok (.bipush 31, 2) := by decide +kernel
theorem d_Law_law_32 : decode code 32 = .ok (.iand, 1) := by decide +kernel
theorem d_Law_law_33 : decode code 33 = .ok (.tableswitch 781 0 19 #[95, 118, 151, 194, 227, 250, 303, 336, 399, 432, 455, 504, 557, 580, 593, 616, 649, 682, 715, 758], 95) := by decide +kernel
theorem d_Law_law_128 : decode code 128 = .ok (.aload_n 1, 1) := by decide +kernel
theorem d_Law_law_129 : decode code 129 = .ok (.aload_n 0, 1) := by decide +kernel
theorem d_Law_law_130 : decode code 130 = .ok (.iload_n 3, 1) := by decide +kernel
theorem d_Law_law_131 : decode code 131 = .ok (.iconst 1, 1) := by decide +kernel
theorem d_Law_law_132 : decode code 132 = .ok (.iadd, 1) := by decide +kernel
theorem d_Law_law_133 : decode code 133 = .ok (.iaload, 1) := by decide +kernel
theorem d_Law_law_134 : decode code 134 = .ok (.invokevirtual 13, 3) := by decide +kernel
theorem d_Law_law_137 : decode code 137 = .ok (.aload_n 2, 1) := by decide +kernel
theorem d_Law_law_138 : decode code 138 = .ok (.aload_n 0, 1) := by decide +kernel
theorem d_Law_law_139 : decode code 139 = .ok (.iload_n 3, 1) := by decide +kernel
theorem d_Law_law_140 : decode code 140 = .ok (.iconst 1, 1) := by decide +kernel
theorem d_Law_law_141 : decode code 141 = .ok (.iadd, 1) := by decide +kernel
theorem d_Law_law_142 : decode code 142 = .ok (.iaload, 1) := by decide +kernel
theorem d_Law_law_143 : decode code 143 = .ok (.invokevirtual 17, 3) := by decide +kernel
theorem d_Law_law_146 : decode code 146 = .ok (.if_icmp .eq 668, 3) := by decide +kernel
theorem d_Law_law_149 : decode code 149 = .ok (.iconst 0, 1) := by decide +kernel
theorem d_Law_law_150 : decode code 150 = .ok (.ireturn, 1) := by decide +kernel
theorem d_Law_law_151 : decode code 151 = .ok (.aload_n 1, 1) := by decide +kernel
theorem d_Law_law_152 : decode code 152 = .ok (.aload_n 0, 1) := by decide +kernel
theorem d_Law_law_153 : decode code 153 = .ok (.iload_n 3, 1) := by decide +kernel
theorem d_Law_law_154 : decode code 154 = .ok (.iconst 1, 1) := by decide +kernel
theorem d_Law_law_155 : decode code 155 = .ok (.iadd, 1) := by decide +kernel
theorem d_Law_law_156 : decode code 156 = .ok (.iaload, 1) := by decide +kernel
theorem d_Law_law_157 : decode code 157 = .ok (.aload_n 0, 1) := by decide +kernel
theorem d_Law_law_158 : decode code 158 = .ok (.iload_n 3, 1) := by decide +kernel
theorem d_Law_law_159 : decode code 159 = .ok (.iconst 2, 1) := by decide +kernel
theorem d_Law_law_160 : decode code 160 = .ok (.iadd, 1) := by decide +kernel
theorem d_Law_law_161 : decode code 161 = .ok (.iaload, 1) := by decide +kernel
theorem d_Law_law_162 : decode code 162 = .ok (.invokevirtual 18, 3) := by decide +kernel
theorem d_Law_law_165 : decode code 165 = .ok (.aload_n 2, 1) := by decide +kernel
theorem d_Law_law_166 : decode code 166 = .ok (.aload_n 0, 1) := by decide +kernel
theorem d_Law_law_167 : decode code 167 = .ok (.iload_n 3, 1) := by decide +kernel
theorem d_Law_law_168 : decode code 168 = .ok (.iconst 1, 1) := by decide +kernel
theorem d_Law_law_169 : decode code 169 = .ok (.iadd, 1) := by decide +kernel
theorem d_Law_law_170 : decode code 170 = .ok (.iaload, 1) := by decide +kernel
theorem d_Law_law_171 : decode code 171 = .ok (.aload_n 0, 1) := by decide +kernel
theorem d_Law_law_172 : decode code 172 = .ok (.iload_n 3, 1) := by decide +kernel
theorem d_Law_law_173 : decode code 173 = .ok (.iconst 2, 1) := by decide +kernel
theorem d_Law_law_174 : decode code 174 = .ok (.iadd, 1) := by decide +kernel
theorem d_Law_law_175 : decode code 175 = .ok (.iaload, 1) := by decide +kernel
theorem d_Law_law_176 : decode code 176 = .ok (.invokevirtual 22, 3) := by decide +kernel
theorem d_Law_law_179 : decode code 179 = .ok (.if_icmp .eq 635, 3) := by decide +kernel
theorem d_Law_law_182 : decode code 182 = .ok (.iconst 0, 1) := by decide +kernel
theorem d_Law_law_183 : decode code 183 = .ok (.ireturn, 1) := by decide +kernel
theorem d_Law_law_184 : decode code 184 = .ok (.aload_n 1, 1) := by decide +kernel
theorem d_Law_law_185 : decode code 185 = .ok (.aload_n 0, 1) := by decide +kernel
theorem d_Law_law_186 : decode code 186 = .ok (.iload_n 3, 1) := by decide +kernel
theorem d_Law_law_187 : decode code 187 = .ok (.iconst 1, 1) := by decide +kernel
theorem d_Law_law_188 : decode code 188 = .ok (.iadd, 1) := by decide +kernel
theorem d_Law_law_189 : decode code 189 = .ok (.iaload, 1) := by decide +kernel
theorem d_Law_law_190 : decode code 190 = .ok (.aload_n 0, 1) := by decide +kernel
theorem d_Law_law_191 : decode code 191 = .ok (.iload_n 3, 1) := by decide +kernel
theorem d_Law_law_192 : decode code 192 = .ok (.iconst 2, 1) := by decide +kernel
theorem d_Law_law_193 : decode code 193 = .ok (.iadd, 1) := by decide +kernel
theorem d_Law_law_194 : decode code 194 = .ok (.iaload, 1) := by decide +kernel
theorem d_Law_law_195 : decode code 195 = .ok (.aload_n 0, 1) := by decide +kernel
theorem d_Law_law_196 : decode code 196 = .ok (.iload_n 3, 1) := by decide +kernel
theorem d_Law_law_197 : decode code 197 = .ok (.iconst 3, 1) := by decide +kernel
theorem d_Law_law_198 : decode code 198 = .ok (.iadd, 1) := by decide +kernel
theorem d_Law_law_199 : decode code 199 = .ok (.iaload, 1) := by decide +kernel
theorem d_Law_law_200 : decode code 200 = .ok (.invokevirtual 23, 3) := by decide +kernel
theorem d_Law_law_203 : decode code 203 = .ok (.aload_n 2, 1) := by decide +kernel
theorem d_Law_law_204 : decode code 204 = .ok (.aload_n 0, 1) := by decide +kernel
theorem d_Law_law_205 : decode code 205 = .ok (.iload_n 3, 1) := by decide +kernel
theorem d_Law_law_206 : decode code 206 = .ok (.iconst 1, 1) := by decide +kernel
theorem d_Law_law_207 : decode code 207 = .ok (.iadd, 1) := by decide +kernel
theorem d_Law_law_208 : decode code 208 = .ok (.iaload, 1) := by decide +kernel
theorem d_Law_law_209 : decode code 209 = .ok (.aload_n 0, 1) := by decide +kernel
theorem d_Law_law_210 : decode code 210 = .ok (.iload_n 3, 1) := by decide +kernel
theorem d_Law_law_211 : decode code 211 = .ok (.iconst 2, 1) := by decide +kernel
theorem d_Law_law_212 : decode code 212 = .ok (.iadd, 1) := by decide +kernel
theorem d_Law_law_213 : decode code 213 = .ok (.iaload, 1) := by decide +kernel
theorem d_Law_law_214 : decode code 214 = .ok (.aload_n 0, 1) := by decide +kernel
theorem d_Law_law_215 : decode code 215 = .ok (.iload_n 3, 1) := by decide +kernel
theorem d_Law_law_216 : decode code 216 = .ok (.iconst 3, 1) := by decide +kernel
theorem d_Law_law_217 : decode code 217 = .ok (.iadd, 1) := by decide +kernel
theorem d_Law_law_218 : decode code 218 = .ok (.iaload, 1) := by decide +kernel
theorem d_Law_law_219 : decode code 219 = .ok (.invokevirtual 27, 3) := by decide +kernel
theorem d_Law_law_222 : decode code 222 = .ok (.if_icmp .eq 592, 3) := by decide +kernel
theorem d_Law_law_225 : decode code 225 = .ok (.iconst 0, 1) := by decide +kernel
theorem d_Law_law_226 : decode code 226 = .ok (.ireturn, 1) := by decide +kernel
theorem d_Law_law_227 : decode code 227 = .ok (.aload_n 1, 1) := by decide +kernel
theorem d_Law_law_228 : decode code 228 = .ok (.aload_n 0, 1) := by decide +kernel
theorem d_Law_law_229 : decode code 229 = .ok (.iload_n 3, 1) := by decide +kernel
theorem d_Law_law_230 : decode code 230 = .ok (.iconst 1, 1) := by decide +kernel
theorem d_Law_law_231 : decode code 231 = .ok (.iadd, 1) := by decide +kernel
theorem d_Law_law_232 : decode code 232 = .ok (.iaload, 1) := by decide +kernel
theorem d_Law_law_233 : decode code 233 = .ok (.aload_n 0, 1) := by decide +kernel
theorem d_Law_law_234 : decode code 234 = .ok (.iload_n 3, 1) := by decide +kernel
theorem d_Law_law_235 : decode code 235 = .ok (.iconst 2, 1) := by decide +kernel
theorem d_Law_law_236 : decode code 236 = .ok (.iadd, 1) := by decide +kernel
theorem d_Law_law_237 : decode code 237 = .ok (.iaload, 1) := by decide +kernel
theorem d_Law_law_238 : decode code 238 = .ok (.invokevirtual 28, 3) := by decide +kernel
theorem d_Law_law_241 : decode code 241 = .ok (.aload_n 2, 1) := by decide +kernel
theorem d_Law_law_242 : decode code 242 = .ok (.aload_n 0, 1) := by decide +kernel
theorem d_Law_law_243 : decode code 243 = .ok (.iload_n 3, 1) := by decide +kernel
theorem d_Law_law_244 : decode code 244 = .ok (.iconst 1, 1) := by decide +kernel
theorem d_Law_law_245 : decode code 245 = .ok (.iadd, 1) := by decide +kernel
theorem d_Law_law_246 : decode code 246 = .ok (.iaload, 1) := by decide +kernel
theorem d_Law_law_247 : decode code 247 = .ok (.aload_n 0, 1) := by decide +kernel
theorem d_Law_law_248 : decode code 248 = .ok (.iload_n 3, 1) := by decide +kernel
theorem d_Law_law_249 : decode code 249 = .ok (.iconst 2, 1) := by decide +kernel
theorem d_Law_law_250 : decode code 250 = .ok (.iadd, 1) := by decide +kernel
theorem d_Law_law_251 : decode code 251 = .ok (.iaload, 1) := by decide +kernel
theorem d_Law_law_252 : decode code 252 = .ok (.invokevirtual 31, 3) := by decide +kernel
theorem d_Law_law_255 : decode code 255 = .ok (.if_icmp .eq 559, 3) := by decide +kernel
theorem d_Law_law_258 : decode code 258 = .ok (.iconst 0, 1) := by decide +kernel
theorem d_Law_law_259 : decode code 259 = .ok (.ireturn, 1) := by decide +kernel
theorem d_Law_law_260 : decode code 260 = .ok (.aload_n 1, 1) := by decide +kernel
theorem d_Law_law_261 : decode code 261 = .ok (.aload_n 0, 1) := by decide +kernel
theorem d_Law_law_262 : decode code 262 = .ok (.iload_n 3, 1) := by decide +kernel
theorem d_Law_law_263 : decode code 263 = .ok (.iconst 1, 1) := by decide +kernel
theorem d_Law_law_264 : decode code 264 = .ok (.iadd, 1) := by decide +kernel
theorem d_Law_law_265 : decode code 265 = .ok (.iaload, 1) := by decide +kernel
theorem d_Law_law_266 : decode code 266 = .ok (.invokevirtual 32, 3) := by decide +kernel
theorem d_Law_law_269 : decode code 269 = .ok (.aload_n 2, 1) := by decide +kernel
theorem d_Law_law_270 : decode code 270 = .ok (.aload_n 0, 1) := by decide +kernel
theorem d_Law_law_271 : decode code 271 = .ok (.iload_n 3, 1) := by decide +kernel
theorem d_Law_law_272 : decode code 272 = .ok (.iconst 1, 1) := by decide +kernel
theorem d_Law_law_273 : decode code 273 = .ok (.iadd, 1) := by decide +kernel
theorem d_Law_law_274 : decode code 274 = .ok (.iaload, 1) := by decide +kernel
theorem d_Law_law_275 : decode code 275 = .ok (.invokevirtual 35, 3) := by decide +kernel
theorem d_Law_law_278 : decode code 278 = .ok (.if_icmp .eq 536, 3) := by decide +kernel
theorem d_Law_law_281 : decode code 281 = .ok (.iconst 0, 1) := by decide +kernel
theorem d_Law_law_282 : decode code 282 = .ok (.ireturn, 1) := by decide +kernel
theorem d_Law_law_283 : decode code 283 = .ok (.aload_n 1, 1) := by decide +kernel
theorem d_Law_law_284 : decode code 284 = .ok (.aload_n 0, 1) := by decide +kernel
theorem d_Law_law_285 : decode code 285 = .ok (.iload_n 3, 1) := by decide +kernel
theorem d_Law_law_286 : decode code 286 = .ok (.iconst 1, 1) := by decide +kernel
theorem d_Law_law_287 : decode code 287 = .ok (.iadd, 1) := by decide +kernel
theorem d_Law_law_288 : decode code 288 = .ok (.iaload, 1) := by decide +kernel
theorem d_Law_law_289 : decode code 289 = .ok (.aload_n 0, 1) := by decide +kernel
theorem d_Law_law_290 : decode code 290 = .ok (.iload_n 3, 1) := by decide +kernel
theorem d_Law_law_291 : decode code 291 = .ok (.iconst 2, 1) := by decide +kernel
theorem d_Law_law_292 : decode code 292 = .ok (.iadd, 1) := by decide +kernel
theorem d_Law_law_293 : decode code 293 = .ok (.iaload, 1) := by decide +kernel
theorem d_Law_law_294 : decode code 294 = .ok (.aload_n 0, 1) := by decide +kernel
theorem d_Law_law_295 : decode code 295 = .ok (.iload_n 3, 1) := by decide +kernel
theorem d_Law_law_296 : decode code 296 = .ok (.iconst 3, 1) := by decide +kernel
theorem d_Law_law_297 : decode code 297 = .ok (.iadd, 1) := by decide +kernel
theorem d_Law_law_298 : decode code 298 = .ok (.iaload, 1) := by decide +kernel
theorem d_Law_law_299 : decode code 299 = .ok (.aload_n 0, 1) := by decide +kernel
theorem d_Law_law_300 : decode code 300 = .ok (.iload_n 3, 1) := by decide +kernel
theorem d_Law_law_301 : decode code 301 = .ok (.iconst 4, 1) := by decide +kernel
theorem d_Law_law_302 : decode code 302 = .ok (.iadd, 1) := by decide +kernel
theorem d_Law_law_303 : decode code 303 = .ok (.iaload, 1) := by decide +kernel
theorem d_Law_law_304 : decode code 304 = .ok (.invokevirtual 36, 3) := by decide +kernel
theorem d_Law_law_307 : decode code 307 = .ok (.aload_n 2, 1) := by decide +kernel
theorem d_Law_law_308 : decode code 308 = .ok (.aload_n 0, 1) := by decide +kernel
theorem d_Law_law_309 : decode code 309 = .ok (.iload_n 3, 1) := by decide +kernel
theorem d_Law_law_310 : decode code 310 = .ok (.iconst 1, 1) := by decide +kernel
theorem d_Law_law_311 : decode code 311 = .ok (.iadd, 1) := by decide +kernel
theorem d_Law_law_312 : decode code 312 = .ok (.iaload, 1) := by decide +kernel
theorem d_Law_law_313 : decode code 313 = .ok (.aload_n 0, 1) := by decide +kernel
theorem d_Law_law_314 : decode code 314 = .ok (.iload_n 3, 1) := by decide +kernel
theorem d_Law_law_315 : decode code 315 = .ok (.iconst 2, 1) := by decide +kernel
theorem d_Law_law_316 : decode code 316 = .ok (.iadd, 1) := by decide +kernel
theorem d_Law_law_317 : decode code 317 = .ok (.iaload, 1) := by decide +kernel
theorem d_Law_law_318 : decode code 318 = .ok (.aload_n 0, 1) := by decide +kernel
theorem d_Law_law_319 : decode code 319 = .ok (.iload_n 3, 1) := by decide +kernel
theorem d_Law_law_320 : decode code 320 = .ok (.iconst 3, 1) := by decide +kernel
theorem d_Law_law_321 : decode code 321 = .ok (.iadd, 1) := by decide +kernel
theorem d_Law_law_322 : decode code 322 = .ok (.iaload, 1) := by decide +kernel
theorem d_Law_law_323 : decode code 323 = .ok (.aload_n 0, 1) := by decide +kernel
theorem d_Law_law_324 : decode code 324 = .ok (.iload_n 3, 1) := by decide +kernel
theorem d_Law_law_325 : decode code 325 = .ok (.iconst 4, 1) := by decide +kernel
theorem d_Law_law_326 : decode code 326 = .ok (.iadd, 1) := by decide +kernel
theorem d_Law_law_327 : decode code 327 = .ok (.iaload, 1) := by decide +kernel
theorem d_Law_law_328 : decode code 328 = .ok (.invokevirtual 40, 3) := by decide +kernel
theorem d_Law_law_331 : decode code 331 = .ok (.if_icmp .eq 483, 3) := by decide +kernel
theorem d_Law_law_334 : decode code 334 = .ok (.iconst 0, 1) := by decide +kernel
theorem d_Law_law_335 : decode code 335 = .ok (.ireturn, 1) := by decide +kernel
theorem d_Law_law_336 : decode code 336 = .ok (.aload_n 1, 1) := by decide +kernel
theorem d_Law_law_337 : decode code 337 = .ok (.aload_n 0, 1) := by decide +kernel
theorem d_Law_law_338 : decode code 338 = .ok (.iload_n 3, 1) := by decide +kernel
theorem d_Law_law_339 : decode code 339 = .ok (.iconst 1, 1) := by decide +kernel
theorem d_Law_law_340 : decode code 340 = .ok (.iadd, 1) := by decide +kernel
theorem d_Law_law_341 : decode code 341 = .ok (.iaload, 1) := by decide +kernel
theorem d_Law_law_342 : decode code 342 = .ok (.aload_n 0, 1) := by decide +kernel
theorem d_Law_law_343 : decode code 343 = .ok (.iload_n 3, 1) := by decide +kernel
theorem d_Law_law_344 : decode code 344 = .ok (.iconst 2, 1) := by decide +kernel
theorem d_Law_law_345 : decode code 345 = .ok (.iadd, 1) := by decide +kernel
theorem d_Law_law_346 : decode code 346 = .ok (.iaload, 1) := by decide +kernel
theorem d_Law_law_347 : decode code 347 = .ok (.invokevirtual 41, 3) := by decide +kernel
theorem d_Law_law_350 : decode code 350 = .ok (.aload_n 2, 1) := by decide +kernel
theorem d_Law_law_351 : decode code 351 = .ok (.aload_n 0, 1) := by decide +kernel
theorem d_Law_law_352 : decode code 352 = .ok (.iload_n 3, 1) := by decide +kernel
theorem d_Law_law_353 : decode code 353 = .ok (.iconst 1, 1) := by decide +kernel
theorem d_Law_law_354 : decode code 354 = .ok (.iadd, 1) := by decide +kernel
theorem d_Law_law_355 : decode code 355 = .ok (.iaload, 1) := by decide +kernel
theorem d_Law_law_356 : decode code 356 = .ok (.aload_n 0, 1) := by decide +kernel
theorem d_Law_law_357 : decode code 357 = .ok (.iload_n 3, 1) := by decide +kernel
theorem d_Law_law_358 : decode code 358 = .ok (.iconst 2, 1) := by decide +kernel
theorem d_Law_law_359 : decode code 359 = .ok (.iadd, 1) := by decide +kernel
theorem d_Law_law_360 : decode code 360 = .ok (.iaload, 1) := by decide +kernel
theorem d_Law_law_361 : decode code 361 = .ok (.invokevirtual 44, 3) := by decide +kernel
theorem d_Law_law_364 : decode code 364 = .ok (.if_icmp .eq 450, 3) := by decide +kernel
theorem d_Law_law_367 : decode code 367 = .ok (.iconst 0, 1) := by decide +kernel
theorem d_Law_law_368 : decode code 368 = .ok (.ireturn, 1) := by decide +kernel
theorem d_Law_law_369 : decode code 369 = .ok (.aload_n 1, 1) := by decide +kernel
theorem d_Law_law_370 : decode code 370 = .ok (.aload_n 0, 1) := by decide +kernel
theorem d_Law_law_371 : decode code 371 = .ok (.iload_n 3, 1) := by decide +kernel
theorem d_Law_law_372 : decode code 372 = .ok (.iconst 1, 1) := by decide +kernel
theorem d_Law_law_373 : decode code 373 = .ok (.iadd, 1) := by decide +kernel
theorem d_Law_law_374 : decode code 374 = .ok (.iaload, 1) := by decide +kernel
theorem d_Law_law_375 : decode code 375 = .ok (.aload_n 0, 1) := by decide +kernel
theorem d_Law_law_376 : decode code 376 = .ok (.iload_n 3, 1) := by decide +kernel
theorem d_Law_law_377 : decode code 377 = .ok (.iconst 2, 1) := by decide +kernel
theorem d_Law_law_378 : decode code 378 = .ok (.iadd, 1) := by decide +kernel
theorem d_Law_law_379 : decode code 379 = .ok (.iaload, 1) := by decide +kernel
theorem d_Law_law_380 : decode code 380 = .ok (.aload_n 0, 1) := by decide +kernel
theorem d_Law_law_381 : decode code 381 = .ok (.iload_n 3, 1) := by decide +kernel
theorem d_Law_law_382 : decode code 382 = .ok (.iconst 3, 1) := by decide +kernel
theorem d_Law_law_383 : decode code 383 = .ok (.iadd, 1) := by decide +kernel
theorem d_Law_law_384 : decode code 384 = .ok (.iaload, 1) := by decide +kernel
theorem d_Law_law_385 : decode code 385 = .ok (.aload_n 0, 1) := by decide +kernel
theorem d_Law_law_386 : decode code 386 = .ok (.iload_n 3, 1) := by decide +kernel
theorem d_Law_law_387 : decode code 387 = .ok (.iconst 4, 1) := by decide +kernel
theorem d_Law_law_388 : decode code 388 = .ok (.iadd, 1) := by decide +kernel
theorem d_Law_law_389 : decode code 389 = .ok (.iaload, 1) := by decide +kernel
theorem d_Law_law_390 : decode code 390 = .ok (.aload_n 0, 1) := by decide +kernel
theorem d_Law_law_391 : decode code 391 = .ok (.iload_n 3, 1) := by decide +kernel
theorem d_Law_law_392 : decode code 392 = .ok (.iconst 5, 1) := by decide +kernel
theorem d_Law_law_393 : decode code 393 = .ok (.iadd, 1) := by decide +kernel
theorem d_Law_law_394 : decode code 394 = .ok (.iaload, 1) := by decide +kernel
theorem d_Law_law_395 : decode code 395 = .ok (.invokevirtual 45, 3) := by decide +kernel
theorem d_Law_law_398 : decode code 398 = .ok (.aload_n 2, 1) := by decide +kernel
theorem d_Law_law_399 : decode code 399 = .ok (.aload_n 0, 1) := by decide +kernel
theorem d_Law_law_400 : decode code 400 = .ok (.iload_n 3, 1) := by decide +kernel
theorem d_Law_law_401 : decode code 401 = .ok (.iconst 1, 1) := by decide +kernel
theorem d_Law_law_402 : decode code 402 = .ok (.iadd, 1) := by decide +kernel
theorem d_Law_law_403 : decode code 403 = .ok (.iaload, 1) := by decide +kernel
theorem d_Law_law_404 : decode code 404 = .ok (.aload_n 0, 1) := by decide +kernel
theorem d_Law_law_405 : decode code 405 = .ok (.iload_n 3, 1) := by decide +kernel
theorem d_Law_law_406 : decode code 406 = .ok (.iconst 2, 1) := by decide +kernel
theorem d_Law_law_407 : decode code 407 = .ok (.iadd, 1) := by decide +kernel
theorem d_Law_law_408 : decode code 408 = .ok (.iaload, 1) := by decide +kernel
theorem d_Law_law_409 : decode code 409 = .ok (.aload_n 0, 1) := by decide +kernel
theorem d_Law_law_410 : decode code 410 = .ok (.iload_n 3, 1) := by decide +kernel
theorem d_Law_law_411 : decode code 411 = .ok (.iconst 3, 1) := by decide +kernel
theorem d_Law_law_412 : decode code 412 = .ok (.iadd, 1) := by decide +kernel
theorem d_Law_law_413 : decode code 413 = .ok (.iaload, 1) := by decide +kernel
theorem d_Law_law_414 : decode code 414 = .ok (.aload_n 0, 1) := by decide +kernel
theorem d_Law_law_415 : decode code 415 = .ok (.iload_n 3, 1) := by decide +kernel
theorem d_Law_law_416 : decode code 416 = .ok (.iconst 4, 1) := by decide +kernel
theorem d_Law_law_417 : decode code 417 = .ok (.iadd, 1) := by decide +kernel
theorem d_Law_law_418 : decode code 418 = .ok (.iaload, 1) := by decide +kernel
theorem d_Law_law_419 : decode code 419 = .ok (.aload_n 0, 1) := by decide +kernel
theorem d_Law_law_420 : decode code 420 = .ok (.iload_n 3, 1) := by decide +kernel
theorem d_Law_law_421 : decode code 421 = .ok (.iconst 5, 1) := by decide +kernel
theorem d_Law_law_422 : decode code 422 = .ok (.iadd, 1) := by decide +kernel
theorem d_Law_law_423 : decode code 423 = .ok (.iaload, 1) := by decide +kernel
theorem d_Law_law_424 : decode code 424 = .ok (.invokevirtual 49, 3) := by decide +kernel
theorem d_Law_law_427 : decode code 427 = .ok (.if_icmp .eq 387, 3) := by decide +kernel
theorem d_Law_law_430 : decode code 430 = .ok (.iconst 0, 1) := by decide +kernel
theorem d_Law_law_431 : decode code 431 = .ok (.ireturn, 1) := by decide +kernel
theorem d_Law_law_432 : decode code 432 = .ok (.aload_n 1, 1) := by decide +kernel
theorem d_Law_law_433 : decode code 433 = .ok (.aload_n 0, 1) := by decide +kernel
theorem d_Law_law_434 : decode code 434 = .ok (.iload_n 3, 1) := by decide +kernel
theorem d_Law_law_435 : decode code 435 = .ok (.iconst 1, 1) := by decide +kernel
theorem d_Law_law_436 : decode code 436 = .ok (.iadd, 1) := by decide +kernel
theorem d_Law_law_437 : decode code 437 = .ok (.iaload, 1) := by decide +kernel
theorem d_Law_law_438 : decode code 438 = .ok (.aload_n 0, 1) := by decide +kernel
theorem d_Law_law_439 : decode code 439 = .ok (.iload_n 3, 1) := by decide +kernel
theorem d_Law_law_440 : decode code 440 = .ok (.iconst 2, 1) := by decide +kernel
theorem d_Law_law_441 : decode code 441 = .ok (.iadd, 1) := by decide +kernel
theorem d_Law_law_442 : decode code 442 = .ok (.iaload, 1) := by decide +kernel
theorem d_Law_law_443 : decode code 443 = .ok (.invokevirtual 50, 3) := by decide +kernel
theorem d_Law_law_446 : decode code 446 = .ok (.aload_n 2, 1) := by decide +kernel
theorem d_Law_law_447 : decode code 447 = .ok (.aload_n 0, 1) := by decide +kernel
theorem d_Law_law_448 : decode code 448 = .ok (.iload_n 3, 1) := by decide +kernel
theorem d_Law_law_449 : decode code 449 = .ok (.iconst 1, 1) := by decide +kernel
theorem d_Law_law_450 : decode code 450 = .ok (.iadd, 1) := by decide +kernel
theorem d_Law_law_451 : decode code 451 = .ok (.iaload, 1) := by decide +kernel
theorem d_Law_law_452 : decode code 452 = .ok (.aload_n 0, 1) := by decide +kernel
theorem d_Law_law_453 : decode code 453 = .ok (.iload_n 3, 1) := by decide +kernel
theorem d_Law_law_454 : decode code 454 = .ok (.iconst 2, 1) := by decide +kernel
theorem d_Law_law_455 : decode code 455 = .ok (.iadd, 1) := by decide +kernel
theorem d_Law_law_456 : decode code 456 = .ok (.iaload, 1) := by decide +kernel
theorem d_Law_law_457 : decode code 457 = .ok (.invokevirtual 53, 3) := by decide +kernel
theorem d_Law_law_460 : decode code 460 = .ok (.if_icmp .eq 354, 3) := by decide +kernel
theorem d_Law_law_463 : decode code 463 = .ok (.iconst 0, 1) := by decide +kernel
theorem d_Law_law_464 : decode code 464 = .ok (.ireturn, 1) := by decide +kernel
theorem d_Law_law_465 : decode code 465 = .ok (.aload_n 1, 1) := by decide +kernel
theorem d_Law_law_466 : decode code 466 = .ok (.aload_n 0, 1) := by decide +kernel
theorem d_Law_law_467 : decode code 467 = .ok (.iload_n 3, 1) := by decide +kernel
theorem d_Law_law_468 : decode code 468 = .ok (.iconst 1, 1) := by decide +kernel
theorem d_Law_law_469 : decode code 469 = .ok (.iadd, 1) := by decide +kernel
theorem d_Law_law_470 : decode code 470 = .ok (.iaload, 1) := by decide +kernel
theorem d_Law_law_471 : decode code 471 = .ok (.invokevirtual 54, 3) := by decide +kernel
theorem d_Law_law_474 : decode code 474 = .ok (.aload_n 2, 1) := by decide +kernel
theorem d_Law_law_475 : decode code 475 = .ok (.aload_n 0, 1) := by decide +kernel
theorem d_Law_law_476 : decode code 476 = .ok (.iload_n 3, 1) := by decide +kernel
theorem d_Law_law_477 : decode code 477 = .ok (.iconst 1, 1) := by decide +kernel
theorem d_Law_law_478 : decode code 478 = .ok (.iadd, 1) := by decide +kernel
theorem d_Law_law_479 : decode code 479 = .ok (.iaload, 1) := by decide +kernel
theorem d_Law_law_480 : decode code 480 = .ok (.invokevirtual 57, 3) := by decide +kernel
theorem d_Law_law_483 : decode code 483 = .ok (.if_icmp .eq 331, 3) := by decide +kernel
theorem d_Law_law_486 : decode code 486 = .ok (.iconst 0, 1) := by decide +kernel
theorem d_Law_law_487 : decode code 487 = .ok (.ireturn, 1) := by decide +kernel
theorem d_Law_law_488 : decode code 488 = .ok (.aload_n 1, 1) := by decide +kernel
theorem d_Law_law_489 : decode code 489 = .ok (.aload_n 0, 1) := by decide +kernel
theorem d_Law_law_490 : decode code 490 = .ok (.iload_n 3, 1) := by decide +kernel
theorem d_Law_law_491 : decode code 491 = .ok (.iconst 1, 1) := by decide +kernel
theorem d_Law_law_492 : decode code 492 = .ok (.iadd, 1) := by decide +kernel
theorem d_Law_law_493 : decode code 493 = .ok (.iaload, 1) := by decide +kernel
theorem d_Law_law_494 : decode code 494 = .ok (.aload_n 0, 1) := by decide +kernel
theorem d_Law_law_495 : decode code 495 = .ok (.iload_n 3, 1) := by decide +kernel
theorem d_Law_law_496 : decode code 496 = .ok (.iconst 2, 1) := by decide +kernel
theorem d_Law_law_497 : decode code 497 = .ok (.iadd, 1) := by decide +kernel
theorem d_Law_law_498 : decode code 498 = .ok (.iaload, 1) := by decide +kernel
theorem d_Law_law_499 : decode code 499 = .ok (.ifCond .eq 7, 3) := by decide +kernel
theorem d_Law_law_502 : decode code 502 = .ok (.iconst 1, 1) := by decide +kernel
theorem d_Law_law_503 : decode code 503 = .ok (.goto 4, 3) := by decide +kernel
theorem d_Law_law_506 : decode code 506 = .ok (.iconst 0, 1) := by decide +kernel
theorem d_Law_law_507 : decode code 507 = .ok (.invokevirtual 58, 3) := by decide +kernel
theorem d_Law_law_510 : decode code 510 = .ok (.aload_n 2, 1) := by decide +kernel
theorem d_Law_law_511 : decode code 511 = .ok (.aload_n 0, 1) := by decide +kernel
theorem d_Law_law_512 : decode code 512 = .ok (.iload_n 3, 1) := by decide +kernel
theorem d_Law_law_513 : decode code 513 = .ok (.iconst 1, 1) := by decide +kernel
theorem d_Law_law_514 : decode code 514 = .ok (.iadd, 1) := by decide +kernel
theorem d_Law_law_515 : decode code 515 = .ok (.iaload, 1) := by decide +kernel
theorem d_Law_law_516 : decode code 516 = .ok (.aload_n 0, 1) := by decide +kernel
theorem d_Law_law_517 : decode code 517 = .ok (.iload_n 3, 1) := by decide +kernel
theorem d_Law_law_518 : decode code 518 = .ok (.iconst 2, 1) := by decide +kernel
theorem d_Law_law_519 : decode code 519 = .ok (.iadd, 1) := by decide +kernel
theorem d_Law_law_520 : decode code 520 = .ok (.iaload, 1) := by decide +kernel
theorem d_Law_law_521 : decode code 521 = .ok (.ifCond .eq 7, 3) := by decide +kernel
theorem d_Law_law_524 : decode code 524 = .ok (.iconst 1, 1) := by decide +kernel
theorem d_Law_law_525 : decode code 525 = .ok (.goto 4, 3) := by decide +kernel
theorem d_Law_law_528 : decode code 528 = .ok (.iconst 0, 1) := by decide +kernel
theorem d_Law_law_529 : decode code 529 = .ok (.invokevirtual 62, 3) := by decide +kernel
theorem d_Law_law_532 : decode code 532 = .ok (.if_icmp .eq 282, 3) := by decide +kernel
theorem d_Law_law_535 : decode code 535 = .ok (.iconst 0, 1) := by decide +kernel
theorem d_Law_law_536 : decode code 536 = .ok (.ireturn, 1) := by decide +kernel
theorem d_Law_law_537 : decode code 537 = .ok (.aload_n 1, 1) := by decide +kernel
theorem d_Law_law_538 : decode code 538 = .ok (.aload_n 0, 1) := by decide +kernel
theorem d_Law_law_539 : decode code 539 = .ok (.iload_n 3, 1) := by decide +kernel
theorem d_Law_law_540 : decode code 540 = .ok (.iconst 1, 1) := by decide +kernel
theorem d_Law_law_541 : decode code 541 = .ok (.iadd, 1) := by decide +kernel
theorem d_Law_law_542 : decode code 542 = .ok (.iaload, 1) := by decide +kernel
theorem d_Law_law_543 : decode code 543 = .ok (.aload_n 0, 1) := by decide +kernel
theorem d_Law_law_544 : decode code 544 = .ok (.iload_n 3, 1) := by decide +kernel
theorem d_Law_law_545 : decode code 545 = .ok (.iconst 2, 1) := by decide +kernel
theorem d_Law_law_546 : decode code 546 = .ok (.iadd, 1) := by decide +kernel
theorem d_Law_law_547 : decode code 547 = .ok (.iaload, 1) := by decide +kernel
theorem d_Law_law_548 : decode code 548 = .ok (.aload_n 0, 1) := by decide +kernel
theorem d_Law_law_549 : decode code 549 = .ok (.iload_n 3, 1) := by decide +kernel
theorem d_Law_law_550 : decode code 550 = .ok (.iconst 3, 1) := by decide +kernel
theorem d_Law_law_551 : decode code 551 = .ok (.iadd, 1) := by decide +kernel
theorem d_Law_law_552 : decode code 552 = .ok (.iaload, 1) := by decide +kernel
theorem d_Law_law_553 : decode code 553 = .ok (.aload_n 0, 1) := by decide +kernel
theorem d_Law_law_554 : decode code 554 = .ok (.iload_n 3, 1) := by decide +kernel
theorem d_Law_law_555 : decode code 555 = .ok (.iconst 4, 1) := by decide +kernel
theorem d_Law_law_556 : decode code 556 = .ok (.iadd, 1) := by decide +kernel
theorem d_Law_law_557 : decode code 557 = .ok (.iaload, 1) := by decide +kernel
theorem d_Law_law_558 : decode code 558 = .ok (.invokevirtual 63, 3) := by decide +kernel
theorem d_Law_law_561 : decode code 561 = .ok (.aload_n 2, 1) := by decide +kernel
theorem d_Law_law_562 : decode code 562 = .ok (.aload_n 0, 1) := by decide +kernel
theorem d_Law_law_563 : decode code 563 = .ok (.iload_n 3, 1) := by decide +kernel
theorem d_Law_law_564 : decode code 564 = .ok (.iconst 1, 1) := by decide +kernel
theorem d_Law_law_565 : decode code 565 = .ok (.iadd, 1) := by decide +kernel
theorem d_Law_law_566 : decode code 566 = .ok (.iaload, 1) := by decide +kernel
theorem d_Law_law_567 : decode code 567 = .ok (.aload_n 0, 1) := by decide +kernel
theorem d_Law_law_568 : decode code 568 = .ok (.iload_n 3, 1) := by decide +kernel
theorem d_Law_law_569 : decode code 569 = .ok (.iconst 2, 1) := by decide +kernel
theorem d_Law_law_570 : decode code 570 = .ok (.iadd, 1) := by decide +kernel
theorem d_Law_law_571 : decode code 571 = .ok (.iaload, 1) := by decide +kernel
theorem d_Law_law_572 : decode code 572 = .ok (.aload_n 0, 1) := by decide +kernel
theorem d_Law_law_573 : decode code 573 = .ok (.iload_n 3, 1) := by decide +kernel
theorem d_Law_law_574 : decode code 574 = .ok (.iconst 3, 1) := by decide +kernel
theorem d_Law_law_575 : decode code 575 = .ok (.iadd, 1) := by decide +kernel
theorem d_Law_law_576 : decode code 576 = .ok (.iaload, 1) := by decide +kernel
theorem d_Law_law_577 : decode code 577 = .ok (.aload_n 0, 1) := by decide +kernel
theorem d_Law_law_578 : decode code 578 = .ok (.iload_n 3, 1) := by decide +kernel
theorem d_Law_law_579 : decode code 579 = .ok (.iconst 4, 1) := by decide +kernel
theorem d_Law_law_580 : decode code 580 = .ok (.iadd, 1) := by decide +kernel
theorem d_Law_law_581 : decode code 581 = .ok (.iaload, 1) := by decide +kernel
theorem d_Law_law_582 : decode code 582 = .ok (.invokevirtual 66, 3) := by decide +kernel
theorem d_Law_law_585 : decode code 585 = .ok (.if_icmp .eq 229, 3) := by decide +kernel
theorem d_Law_law_588 : decode code 588 = .ok (.iconst 0, 1) := by decide +kernel
theorem d_Law_law_589 : decode code 589 = .ok (.ireturn, 1) := by decide +kernel
theorem d_Law_law_590 : decode code 590 = .ok (.aload_n 1, 1) := by decide +kernel
theorem d_Law_law_591 : decode code 591 = .ok (.aload_n 0, 1) := by decide +kernel
theorem d_Law_law_592 : decode code 592 = .ok (.iload_n 3, 1) := by decide +kernel
theorem d_Law_law_593 : decode code 593 = .ok (.iconst 1, 1) := by decide +kernel
theorem d_Law_law_594 : decode code 594 = .ok (.iadd, 1) := by decide +kernel
theorem d_Law_law_595 : decode code 595 = .ok (.iaload, 1) := by decide +kernel
theorem d_Law_law_596 : decode code 596 = .ok (.invokevirtual 67, 3) := by decide +kernel
theorem d_Law_law_599 : decode code 599 = .ok (.aload_n 2, 1) := by decide +kernel
theorem d_Law_law_600 : decode code 600 = .ok (.aload_n 0, 1) := by decide +kernel
theorem d_Law_law_601 : decode code 601 = .ok (.iload_n 3, 1) := by decide +kernel
theorem d_Law_law_602 : decode code 602 = .ok (.iconst 1, 1) := by decide +kernel
theorem d_Law_law_603 : decode code 603 = .ok (.iadd, 1) := by decide +kernel
theorem d_Law_law_604 : decode code 604 = .ok (.iaload, 1) := by decide +kernel
theorem d_Law_law_605 : decode code 605 = .ok (.invokevirtual 70, 3) := by decide +kernel
theorem d_Law_law_608 : decode code 608 = .ok (.if_icmp .eq 206, 3) := by decide +kernel
theorem d_Law_law_611 : decode code 611 = .ok (.iconst 0, 1) := by decide +kernel
theorem d_Law_law_612 : decode code 612 = .ok (.ireturn, 1) := by decide +kernel
theorem d_Law_law_613 : decode code 613 = .ok (.aload_n 1, 1) := by decide +kernel
theorem d_Law_law_614 : decode code 614 = .ok (.invokevirtual 71, 3) := by decide +kernel
theorem d_Law_law_617 : decode code 617 = .ok (.aload_n 2, 1) := by decide +kernel
theorem d_Law_law_618 : decode code 618 = .ok (.invokevirtual 75, 3) := by decide +kernel
theorem d_Law_law_621 : decode code 621 = .ok (.if_icmp .eq 193, 3) := by decide +kernel
theorem d_Law_law_624 : decode code 624 = .ok (.iconst 0, 1) := by decide +kernel
theorem d_Law_law_625 : decode code 625 = .ok (.ireturn, 1) := by decide +kernel
theorem d_Law_law_626 : decode code 626 = .ok (.aload_n 1, 1) := by decide +kernel
theorem d_Law_law_627 : decode code 627 = .ok (.aload_n 0, 1) := by decide +kernel
theorem d_Law_law_628 : decode code 628 = .ok (.iload_n 3, 1) := by decide +kernel
theorem d_Law_law_629 : decode code 629 = .ok (.iconst 1, 1) := by decide +kernel
theorem d_Law_law_630 : decode code 630 = .ok (.iadd, 1) := by decide +kernel
theorem d_Law_law_631 : decode code 631 = .ok (.iaload, 1) := by decide +kernel
theorem d_Law_law_632 : decode code 632 = .ok (.invokevirtual 76, 3) := by decide +kernel
theorem d_Law_law_635 : decode code 635 = .ok (.aload_n 2, 1) := by decide +kernel
theorem d_Law_law_636 : decode code 636 = .ok (.aload_n 0, 1) := by decide +kernel
theorem d_Law_law_637 : decode code 637 = .ok (.iload_n 3, 1) := by decide +kernel
theorem d_Law_law_638 : decode code 638 = .ok (.iconst 1, 1) := by decide +kernel
theorem d_Law_law_639 : decode code 639 = .ok (.iadd, 1) := by decide +kernel
theorem d_Law_law_640 : decode code 640 = .ok (.iaload, 1) := by decide +kernel
theorem d_Law_law_641 : decode code 641 = .ok (.invokevirtual 79, 3) := by decide +kernel
theorem d_Law_law_644 : decode code 644 = .ok (.if_icmp .eq 170, 3) := by decide +kernel
theorem d_Law_law_647 : decode code 647 = .ok (.iconst 0, 1) := by decide +kernel
theorem d_Law_law_648 : decode code 648 = .ok (.ireturn, 1) := by decide +kernel
theorem d_Law_law_649 : decode code 649 = .ok (.aload_n 1, 1) := by decide +kernel
theorem d_Law_law_650 : decode code 650 = .ok (.aload_n 0, 1) := by decide +kernel
theorem d_Law_law_651 : decode code 651 = .ok (.iload_n 3, 1) := by decide +kernel
theorem d_Law_law_652 : decode code 652 = .ok (.iconst 1, 1) := by decide +kernel
theorem d_Law_law_653 : decode code 653 = .ok (.iadd, 1) := by decide +kernel
theorem d_Law_law_654 : decode code 654 = .ok (.iaload, 1) := by decide +kernel
theorem d_Law_law_655 : decode code 655 = .ok (.aload_n 0, 1) := by decide +kernel
theorem d_Law_law_656 : decode code 656 = .ok (.iload_n 3, 1) := by decide +kernel
theorem d_Law_law_657 : decode code 657 = .ok (.iconst 2, 1) := by decide +kernel
theorem d_Law_law_658 : decode code 658 = .ok (.iadd, 1) := by decide +kernel
theorem d_Law_law_659 : decode code 659 = .ok (.iaload, 1) := by decide +kernel
theorem d_Law_law_660 : decode code 660 = .ok (.invokevirtual 80, 3) := by decide +kernel
theorem d_Law_law_663 : decode code 663 = .ok (.aload_n 2, 1) := by decide +kernel
theorem d_Law_law_664 : decode code 664 = .ok (.aload_n 0, 1) := by decide +kernel
theorem d_Law_law_665 : decode code 665 = .ok (.iload_n 3, 1) := by decide +kernel
theorem d_Law_law_666 : decode code 666 = .ok (.iconst 1, 1) := by decide +kernel
theorem d_Law_law_667 : decode code 667 = .ok (.iadd, 1) := by decide +kernel
theorem d_Law_law_668 : decode code 668 = .ok (.iaload, 1) := by decide +kernel
theorem d_Law_law_669 : decode code 669 = .ok (.aload_n 0, 1) := by decide +kernel
theorem d_Law_law_670 : decode code 670 = .ok (.iload_n 3, 1) := by decide +kernel
theorem d_Law_law_671 : decode code 671 = .ok (.iconst 2, 1) := by decide +kernel
theorem d_Law_law_672 : decode code 672 = .ok (.iadd, 1) := by decide +kernel
theorem d_Law_law_673 : decode code 673 = .ok (.iaload, 1) := by decide +kernel
theorem d_Law_law_674 : decode code 674 = .ok (.invokevirtual 83, 3) := by decide +kernel
theorem d_Law_law_677 : decode code 677 = .ok (.if_icmp .eq 137, 3) := by decide +kernel
theorem d_Law_law_680 : decode code 680 = .ok (.iconst 0, 1) := by decide +kernel
theorem d_Law_law_681 : decode code 681 = .ok (.ireturn, 1) := by decide +kernel
theorem d_Law_law_682 : decode code 682 = .ok (.aload_n 1, 1) := by decide +kernel
theorem d_Law_law_683 : decode code 683 = .ok (.aload_n 0, 1) := by decide +kernel
theorem d_Law_law_684 : decode code 684 = .ok (.iload_n 3, 1) := by decide +kernel
theorem d_Law_law_685 : decode code 685 = .ok (.iconst 1, 1) := by decide +kernel
theorem d_Law_law_686 : decode code 686 = .ok (.iadd, 1) := by decide +kernel
theorem d_Law_law_687 : decode code 687 = .ok (.iaload, 1) := by decide +kernel
theorem d_Law_law_688 : decode code 688 = .ok (.aload_n 0, 1) := by decide +kernel
theorem d_Law_law_689 : decode code 689 = .ok (.iload_n 3, 1) := by decide +kernel
theorem d_Law_law_690 : decode code 690 = .ok (.iconst 2, 1) := by decide +kernel
theorem d_Law_law_691 : decode code 691 = .ok (.iadd, 1) := by decide +kernel
theorem d_Law_law_692 : decode code 692 = .ok (.iaload, 1) := by decide +kernel
theorem d_Law_law_693 : decode code 693 = .ok (.invokevirtual 84, 3) := by decide +kernel
theorem d_Law_law_696 : decode code 696 = .ok (.aload_n 2, 1) := by decide +kernel
theorem d_Law_law_697 : decode code 697 = .ok (.aload_n 0, 1) := by decide +kernel
theorem d_Law_law_698 : decode code 698 = .ok (.iload_n 3, 1) := by decide +kernel
theorem d_Law_law_699 : decode code 699 = .ok (.iconst 1, 1) := by decide +kernel
theorem d_Law_law_700 : decode code 700 = .ok (.iadd, 1) := by decide +kernel
theorem d_Law_law_701 : decode code 701 = .ok (.iaload, 1) := by decide +kernel
theorem d_Law_law_702 : decode code 702 = .ok (.aload_n 0, 1) := by decide +kernel
theorem d_Law_law_703 : decode code 703 = .ok (.iload_n 3, 1) := by decide +kernel
theorem d_Law_law_704 : decode code 704 = .ok (.iconst 2, 1) := by decide +kernel
theorem d_Law_law_705 : decode code 705 = .ok (.iadd, 1) := by decide +kernel
theorem d_Law_law_706 : decode code 706 = .ok (.iaload, 1) := by decide +kernel
theorem d_Law_law_707 : decode code 707 = .ok (.invokevirtual 87, 3) := by decide +kernel
theorem d_Law_law_710 : decode code 710 = .ok (.if_icmp .eq 104, 3) := by decide +kernel
theorem d_Law_law_713 : decode code 713 = .ok (.iconst 0, 1) := by decide +kernel
theorem d_Law_law_714 : decode code 714 = .ok (.ireturn, 1) := by decide +kernel
theorem d_Law_law_715 : decode code 715 = .ok (.aload_n 1, 1) := by decide +kernel
theorem d_Law_law_716 : decode code 716 = .ok (.aload_n 0, 1) := by decide +kernel
theorem d_Law_law_717 : decode code 717 = .ok (.iload_n 3, 1) := by decide +kernel
theorem d_Law_law_718 : decode code 718 = .ok (.iconst 1, 1) := by decide +kernel
theorem d_Law_law_719 : decode code 719 = .ok (.iadd, 1) := by decide +kernel
theorem d_Law_law_720 : decode code 720 = .ok (.iaload, 1) := by decide +kernel
theorem d_Law_law_721 : decode code 721 = .ok (.aload_n 0, 1) := by decide +kernel
theorem d_Law_law_722 : decode code 722 = .ok (.iload_n 3, 1) := by decide +kernel
theorem d_Law_law_723 : decode code 723 = .ok (.iconst 2, 1) := by decide +kernel
theorem d_Law_law_724 : decode code 724 = .ok (.iadd, 1) := by decide +kernel
theorem d_Law_law_725 : decode code 725 = .ok (.iaload, 1) := by decide +kernel
theorem d_Law_law_726 : decode code 726 = .ok (.invokevirtual 88, 3) := by decide +kernel
theorem d_Law_law_729 : decode code 729 = .ok (.aload_n 2, 1) := by decide +kernel
theorem d_Law_law_730 : decode code 730 = .ok (.aload_n 0, 1) := by decide +kernel
theorem d_Law_law_731 : decode code 731 = .ok (.iload_n 3, 1) := by decide +kernel
theorem d_Law_law_732 : decode code 732 = .ok (.iconst 1, 1) := by decide +kernel
theorem d_Law_law_733 : decode code 733 = .ok (.iadd, 1) := by decide +kernel
theorem d_Law_law_734 : decode code 734 = .ok (.iaload, 1) := by decide +kernel
theorem d_Law_law_735 : decode code 735 = .ok (.aload_n 0, 1) := by decide +kernel
theorem d_Law_law_736 : decode code 736 = .ok (.iload_n 3, 1) := by decide +kernel
theorem d_Law_law_737 : decode code 737 = .ok (.iconst 2, 1) := by decide +kernel
theorem d_Law_law_738 : decode code 738 = .ok (.iadd, 1) := by decide +kernel
theorem d_Law_law_739 : decode code 739 = .ok (.iaload, 1) := by decide +kernel
theorem d_Law_law_740 : decode code 740 = .ok (.invokevirtual 91, 3) := by decide +kernel
theorem d_Law_law_743 : decode code 743 = .ok (.if_icmp .eq 71, 3) := by decide +kernel
theorem d_Law_law_746 : decode code 746 = .ok (.iconst 0, 1) := by decide +kernel
theorem d_Law_law_747 : decode code 747 = .ok (.ireturn, 1) := by decide +kernel
theorem d_Law_law_748 : decode code 748 = .ok (.aload_n 1, 1) := by decide +kernel
theorem d_Law_law_749 : decode code 749 = .ok (.aload_n 0, 1) := by decide +kernel
theorem d_Law_law_750 : decode code 750 = .ok (.iload_n 3, 1) := by decide +kernel
theorem d_Law_law_751 : decode code 751 = .ok (.iconst 1, 1) := by decide +kernel
theorem d_Law_law_752 : decode code 752 = .ok (.iadd, 1) := by decide +kernel
theorem d_Law_law_753 : decode code 753 = .ok (.iaload, 1) := by decide +kernel
theorem d_Law_law_754 : decode code 754 = .ok (.aload_n 0, 1) := by decide +kernel
theorem d_Law_law_755 : decode code 755 = .ok (.iload_n 3, 1) := by decide +kernel
theorem d_Law_law_756 : decode code 756 = .ok (.iconst 2, 1) := by decide +kernel
theorem d_Law_law_757 : decode code 757 = .ok (.iadd, 1) := by decide +kernel
theorem d_Law_law_758 : decode code 758 = .ok (.iaload, 1) := by decide +kernel
theorem d_Law_law_759 : decode code 759 = .ok (.aload_n 0, 1) := by decide +kernel
theorem d_Law_law_760 : decode code 760 = .ok (.iload_n 3, 1) := by decide +kernel
theorem d_Law_law_761 : decode code 761 = .ok (.iconst 3, 1) := by decide +kernel
theorem d_Law_law_762 : decode code 762 = .ok (.iadd, 1) := by decide +kernel
theorem d_Law_law_763 : decode code 763 = .ok (.iaload, 1) := by decide +kernel
theorem d_Law_law_764 : decode code 764 = .ok (.invokevirtual 92, 3) := by decide +kernel
theorem d_Law_law_767 : decode code 767 = .ok (.aload_n 2, 1) := by decide +kernel
theorem d_Law_law_768 : decode code 768 = .ok (.aload_n 0, 1) := by decide +kernel
theorem d_Law_law_769 : decode code 769 = .ok (.iload_n 3, 1) := by decide +kernel
theorem d_Law_law_770 : decode code 770 = .ok (.iconst 1, 1) := by decide +kernel
theorem d_Law_law_771 : decode code 771 = .ok (.iadd, 1) := by decide +kernel
theorem d_Law_law_772 : decode code 772 = .ok (.iaload, 1) := by decide +kernel
theorem d_Law_law_773 : decode code 773 = .ok (.aload_n 0, 1) := by decide +kernel
theorem d_Law_law_774 : decode code 774 = .ok (.iload_n 3, 1) := by decide +kernel
theorem d_Law_law_775 : decode code 775 = .ok (.iconst 2, 1) := by decide +kernel
theorem d_Law_law_776 : decode code 776 = .ok (.iadd, 1) := by decide +kernel
theorem d_Law_law_777 : decode code 777 = .ok (.iaload, 1) := by decide +kernel
theorem d_Law_law_778 : decode code 778 = .ok (.aload_n 0, 1) := by decide +kernel
theorem d_Law_law_779 : decode code 779 = .ok (.iload_n 3, 1) := by decide +kernel
theorem d_Law_law_780 : decode code 780 = .ok (.iconst 3, 1) := by decide +kernel
theorem d_Law_law_781 : decode code 781 = .ok (.iadd, 1) := by decide +kernel
theorem d_Law_law_782 : decode code 782 = .ok (.iaload, 1) := by decide +kernel
theorem d_Law_law_783 : decode code 783 = .ok (.invokevirtual 95, 3) := by decide +kernel
theorem d_Law_law_786 : decode code 786 = .ok (.if_icmp .eq 28, 3) := by decide +kernel
theorem d_Law_law_789 : decode code 789 = .ok (.iconst 0, 1) := by decide +kernel
theorem d_Law_law_790 : decode code 790 = .ok (.ireturn, 1) := by decide +kernel
theorem d_Law_law_791 : decode code 791 = .ok (.aload_n 1, 1) := by decide +kernel
theorem d_Law_law_792 : decode code 792 = .ok (.aload_n 0, 1) := by decide +kernel
theorem d_Law_law_793 : decode code 793 = .ok (.iload_n 3, 1) := by decide +kernel
theorem d_Law_law_794 : decode code 794 = .ok (.iconst 1, 1) := by decide +kernel
theorem d_Law_law_795 : decode code 795 = .ok (.iadd, 1) := by decide +kernel
theorem d_Law_law_796 : decode code 796 = .ok (.iaload, 1) := by decide +kernel
theorem d_Law_law_797 : decode code 797 = .ok (.invokevirtual 96, 3) := by decide +kernel
theorem d_Law_law_800 : decode code 800 = .ok (.aload_n 2, 1) := by decide +kernel
theorem d_Law_law_801 : decode code 801 = .ok (.aload_n 0, 1) := by decide +kernel
theorem d_Law_law_802 : decode code 802 = .ok (.iload_n 3, 1) := by decide +kernel
theorem d_Law_law_803 : decode code 803 = .ok (.iconst 1, 1) := by decide +kernel
theorem d_Law_law_804 : decode code 804 = .ok (.iadd, 1) := by decide +kernel
theorem d_Law_law_805 : decode code 805 = .ok (.iaload, 1) := by decide +kernel
theorem d_Law_law_806 : decode code 806 = .ok (.invokevirtual 99, 3) := by decide +kernel
theorem d_Law_law_809 : decode code 809 = .ok (.if_icmp .eq 5, 3) := by decide +kernel
theorem d_Law_law_812 : decode code 812 = .ok (.iconst 0, 1) := by decide +kernel
theorem d_Law_law_813 : decode code 813 = .ok (.ireturn, 1) := by decide +kernel
theorem d_Law_law_814 : decode code 814 = .ok (.iinc 3 6, 3) := by decide +kernel
theorem d_Law_law_817 : decode code 817 = .ok (.goto (-799), 3) := by decide +kernel
theorem d_Law_law_820 : decode code 820 = .ok (.iconst 1, 1) := by decide +kernel
theorem d_Law_law_821 : decode code 821 = .ok (.ireturn, 1) := by decide +kernel
theorem L_Law_9 : (Cond.methodLink "ExecutiveDeskLaw" 9 ⟨"ExecutiveDesk", "<init>", "()V"⟩) ∈ ed_tb := ed_in (i := 13) (by decide +kernel) rfl
theorem L_Law_13 : (Cond.methodLink "ExecutiveDeskLaw" 13 ⟨"ExecutiveDesk", "process", "(I)I"⟩) ∈ ed_tb := ed_in (i := 297) (by decide +kernel) rfl
theorem L_Law_18 : (Cond.methodLink "ExecutiveDeskLaw" 18 ⟨"ExecutiveDesk", "thread", "(II)I"⟩) ∈ ed_tb := ed_in (i := 304) (by decide +kernel) rfl
theorem L_Law_23 : (Cond.methodLink "ExecutiveDeskLaw" 23 ⟨"ExecutiveDesk", "create", "(III)I"⟩) ∈ ed_tb := ed_in (i := 344) (by decide +kernel) rfl
theorem L_Law_28 : (Cond.methodLink "ExecutiveDeskLaw" 28 ⟨"ExecutiveDesk", "open", "(II)I"⟩) ∈ ed_tb := ed_in (i := 383) (by decide +kernel) rfl
theorem L_Law_32 : (Cond.methodLink "ExecutiveDeskLaw" 32 ⟨"ExecutiveDesk", "close", "(I)I"⟩) ∈ ed_tb := ed_in (i := 391) (by decide +kernel) rfl
theorem L_Law_36 : (Cond.methodLink "ExecutiveDeskLaw" 36 ⟨"ExecutiveDesk", "rule", "(IIII)I"⟩) ∈ ed_tb := ed_in (i := 404) (by decide +kernel) rfl
theorem L_Law_41 : (Cond.methodLink "ExecutiveDeskLaw" 41 ⟨"ExecutiveDesk", "set", "(II)I"⟩) ∈ ed_tb := ed_in (i := 421) (by decide +kernel) rfl
theorem L_Law_45 : (Cond.methodLink "ExecutiveDeskLaw" 45 ⟨"ExecutiveDesk", "await", "(IIIII)I"⟩) ∈ ed_tb := ed_in (i := 488) (by decide +kernel) rfl
theorem L_Law_50 : (Cond.methodLink "ExecutiveDeskLaw" 50 ⟨"ExecutiveDesk", "call", "(II)I"⟩) ∈ ed_tb := ed_in (i := 514) (by decide +kernel) rfl
theorem L_Law_54 : (Cond.methodLink "ExecutiveDeskLaw" 54 ⟨"ExecutiveDesk", "level", "(I)I"⟩) ∈ ed_tb := ed_in (i := 522) (by decide +kernel) rfl
theorem L_Law_58 : (Cond.methodLink "ExecutiveDeskLaw" 58 ⟨"ExecutiveDesk", "interrupt", "(IZ)I"⟩) ∈ ed_tb := ed_in (i := 543) (by decide +kernel) rfl
theorem L_Law_63 : (Cond.methodLink "ExecutiveDeskLaw" 63 ⟨"ExecutiveDesk", "transfer", "(IIII)I"⟩) ∈ ed_tb := ed_in (i := 551) (by decide +kernel) rfl
theorem L_Law_67 : (Cond.methodLink "ExecutiveDeskLaw" 67 ⟨"ExecutiveDesk", "cancel", "(I)I"⟩) ∈ ed_tb := ed_in (i := 570) (by decide +kernel) rfl
theorem L_Law_71 : (Cond.methodLink "ExecutiveDeskLaw" 71 ⟨"ExecutiveDesk", "exit", "()I"⟩) ∈ ed_tb := ed_in (i := 586) (by decide +kernel) rfl
theorem L_Law_76 : (Cond.methodLink "ExecutiveDeskLaw" 76 ⟨"ExecutiveDesk", "tick", "(I)I"⟩) ∈ ed_tb := ed_in (i := 598) (by decide +kernel) rfl
theorem L_Law_80 : (Cond.methodLink "ExecutiveDeskLaw" 80 ⟨"ExecutiveDesk", "actor", "(II)I"⟩) ∈ ed_tb := ed_in (i := 619) (by decide +kernel) rfl
theorem L_Law_84 : (Cond.methodLink "ExecutiveDeskLaw" 84 ⟨"ExecutiveDesk", "object", "(II)I"⟩) ∈ ed_tb := ed_in (i := 623) (by decide +kernel) rfl
theorem L_Law_88 : (Cond.methodLink "ExecutiveDeskLaw" 88 ⟨"ExecutiveDesk", "io", "(II)I"⟩) ∈ ed_tb := ed_in (i := 631) (by decide +kernel) rfl
theorem L_Law_92 : (Cond.methodLink "ExecutiveDeskLaw" 92 ⟨"ExecutiveDesk", "handle", "(III)I"⟩) ∈ ed_tb := ed_in (i := 635) (by decide +kernel) rfl
theorem L_Law_96 : (Cond.methodLink "ExecutiveDeskLaw" 96 ⟨"ExecutiveDesk", "count", "(I)I"⟩) ∈ ed_tb := ed_in (i := 640) (by decide +kernel) rfl
theorem L_Law_12 : (Cond.methodLink "ExecutiveDeskLaw" 12 ⟨"ExecutiveDeskModel", "<init>", "()V"⟩) ∈ ed_tb := ed_in (i := 650) (by decide +kernel) rfl
theorem L_Law_17 : (Cond.methodLink "ExecutiveDeskLaw" 17 ⟨"ExecutiveDeskModel", "process", "(I)I"⟩) ∈ ed_tb := ed_in (i := 815) (by decide +kernel) rfl
theorem L_Law_22 : (Cond.methodLink "ExecutiveDeskLaw" 22 ⟨"ExecutiveDeskModel", "thread", "(II)I"⟩) ∈ ed_tb := ed_in (i := 822) (by decide +kernel) rfl
theorem L_Law_49 : (Cond.methodLink "ExecutiveDeskLaw" 49 ⟨"ExecutiveDeskModel", "await", "(IIIII)I"⟩) ∈ ed_tb := ed_in (i := 858) (by decide +kernel) rfl
theorem L_Law_27 : (Cond.methodLink "ExecutiveDeskLaw" 27 ⟨"ExecutiveDeskModel", "create", "(III)I"⟩) ∈ ed_tb := ed_in (i := 890) (by decide +kernel) rfl
theorem L_Law_31 : (Cond.methodLink "ExecutiveDeskLaw" 31 ⟨"ExecutiveDeskModel", "open", "(II)I"⟩) ∈ ed_tb := ed_in (i := 906) (by decide +kernel) rfl
theorem L_Law_35 : (Cond.methodLink "ExecutiveDeskLaw" 35 ⟨"ExecutiveDeskModel", "close", "(I)I"⟩) ∈ ed_tb := ed_in (i := 910) (by decide +kernel) rfl
theorem L_Law_40 : (Cond.methodLink "ExecutiveDeskLaw" 40 ⟨"ExecutiveDeskModel", "rule", "(IIII)I"⟩) ∈ ed_tb := ed_in (i := 914) (by decide +kernel) rfl
theorem L_Law_44 : (Cond.methodLink "ExecutiveDeskLaw" 44 ⟨"ExecutiveDeskModel", "set", "(II)I"⟩) ∈ ed_tb := ed_in (i := 918) (by decide +kernel) rfl
theorem L_Law_53 : (Cond.methodLink "ExecutiveDeskLaw" 53 ⟨"ExecutiveDeskModel", "call", "(II)I"⟩) ∈ ed_tb := ed_in (i := 934) (by decide +kernel) rfl
theorem L_Law_57 : (Cond.methodLink "ExecutiveDeskLaw" 57 ⟨"ExecutiveDeskModel", "level", "(I)I"⟩) ∈ ed_tb := ed_in (i := 942) (by decide +kernel) rfl
theorem L_Law_62 : (Cond.methodLink "ExecutiveDeskLaw" 62 ⟨"ExecutiveDeskModel", "interrupt", "(IZ)I"⟩) ∈ ed_tb := ed_in (i := 962) (by decide +kernel) rfl
theorem L_Law_66 : (Cond.methodLink "ExecutiveDeskLaw" 66 ⟨"ExecutiveDeskModel", "transfer", "(IIII)I"⟩) ∈ ed_tb := ed_in (i := 966) (by decide +kernel) rfl
theorem L_Law_70 : (Cond.methodLink "ExecutiveDeskLaw" 70 ⟨"ExecutiveDeskModel", "cancel", "(I)I"⟩) ∈ ed_tb := ed_in (i := 970) (by decide +kernel) rfl
theorem L_Law_75 : (Cond.methodLink "ExecutiveDeskLaw" 75 ⟨"ExecutiveDeskModel", "exit", "()I"⟩) ∈ ed_tb := ed_in (i := 978) (by decide +kernel) rfl
theorem L_Law_79 : (Cond.methodLink "ExecutiveDeskLaw" 79 ⟨"ExecutiveDeskModel", "tick", "(I)I"⟩) ∈ ed_tb := ed_in (i := 982) (by decide +kernel) rfl
theorem L_Law_83 : (Cond.methodLink "ExecutiveDeskLaw" 83 ⟨"ExecutiveDeskModel", "actor", "(II)I"⟩) ∈ ed_tb := ed_in (i := 990) (by decide +kernel) rfl
theorem L_Law_87 : (Cond.methodLink "ExecutiveDeskLaw" 87 ⟨"ExecutiveDeskModel", "object", "(II)I"⟩) ∈ ed_tb := ed_in (i := 994) (by decide +kernel) rfl
theorem L_Law_91 : (Cond.methodLink "ExecutiveDeskLaw" 91 ⟨"ExecutiveDeskModel", "io", "(II)I"⟩) ∈ ed_tb := ed_in (i := 1002) (by decide +kernel) rfl
theorem L_Law_95 : (Cond.methodLink "ExecutiveDeskLaw" 95 ⟨"ExecutiveDeskModel", "handle", "(III)I"⟩) ∈ ed_tb := ed_in (i := 1006) (by decide +kernel) rfl
theorem L_Law_99 : (Cond.methodLink "ExecutiveDeskLaw" 99 ⟨"ExecutiveDeskModel", "count", "(I)I"⟩) ∈ ed_tb := ed_in (i := 1010) (by decide +kernel) rfl
