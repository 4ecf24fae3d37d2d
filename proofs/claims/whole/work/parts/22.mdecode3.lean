theorem d_Mod_transfer_173 : decode prog_10_method_40_code 173 = .ok (.iconst 1, 1) := by decide +kernel
theorem d_Mod_transfer_174 : decode prog_10_method_40_code 174 = .ok (.goto 4, 3) := by decide +kernel
theorem d_Mod_transfer_177 : decode prog_10_method_40_code 177 = .ok (.iconst 0, 1) := by decide +kernel
theorem d_Mod_transfer_178 : decode prog_10_method_40_code 178 = .ok (.istore 8, 2) := by decide +kernel
theorem d_Mod_transfer_180 : decode prog_10_method_40_code 180 = .ok (.aload_n 0, 1) := by decide +kernel
theorem d_Mod_transfer_181 : decode prog_10_method_40_code 181 = .ok (.getfield 104, 3) := by decide +kernel
theorem d_Mod_transfer_184 : decode prog_10_method_40_code 184 = .ok (.iload 5, 2) := by decide +kernel
theorem d_Mod_transfer_186 : decode prog_10_method_40_code 186 = .ok (.iconst 0, 1) := by decide +kernel
theorem d_Mod_transfer_187 : decode prog_10_method_40_code 187 = .ok (.iastore, 1) := by decide +kernel
theorem d_Mod_transfer_188 : decode prog_10_method_40_code 188 = .ok (.aload_n 0, 1) := by decide +kernel
theorem d_Mod_transfer_189 : decode prog_10_method_40_code 189 = .ok (.getfield 107, 3) := by decide +kernel
theorem d_Mod_transfer_192 : decode prog_10_method_40_code 192 = .ok (.iload 5, 2) := by decide +kernel
theorem d_Mod_transfer_194 : decode prog_10_method_40_code 194 = .ok (.iconst 0, 1) := by decide +kernel
theorem d_Mod_transfer_195 : decode prog_10_method_40_code 195 = .ok (.iastore, 1) := by decide +kernel
theorem d_Mod_transfer_196 : decode prog_10_method_40_code 196 = .ok (.aload_n 0, 1) := by decide +kernel
theorem d_Mod_transfer_197 : decode prog_10_method_40_code 197 = .ok (.getfield 110, 3) := by decide +kernel
theorem d_Mod_transfer_200 : decode prog_10_method_40_code 200 = .ok (.iload 5, 2) := by decide +kernel
theorem d_Mod_transfer_202 : decode prog_10_method_40_code 202 = .ok (.aload_n 0, 1) := by decide +kernel
theorem d_Mod_transfer_203 : decode prog_10_method_40_code 203 = .ok (.getfield 137, 3) := by decide +kernel
theorem d_Mod_transfer_206 : decode prog_10_method_40_code 206 = .ok (.iastore, 1) := by decide +kernel
theorem d_Mod_transfer_207 : decode prog_10_method_40_code 207 = .ok (.aload_n 0, 1) := by decide +kernel
theorem d_Mod_transfer_208 : decode prog_10_method_40_code 208 = .ok (.getfield 113, 3) := by decide +kernel
theorem d_Mod_transfer_211 : decode prog_10_method_40_code 211 = .ok (.iload 5, 2) := by decide +kernel
theorem d_Mod_transfer_213 : decode prog_10_method_40_code 213 = .ok (.iload 6, 2) := by decide +kernel
theorem d_Mod_transfer_215 : decode prog_10_method_40_code 215 = .ok (.iastore, 1) := by decide +kernel
theorem d_Mod_transfer_216 : decode prog_10_method_40_code 216 = .ok (.aload_n 0, 1) := by decide +kernel
theorem d_Mod_transfer_217 : decode prog_10_method_40_code 217 = .ok (.getfield 116, 3) := by decide +kernel
theorem d_Mod_transfer_220 : decode prog_10_method_40_code 220 = .ok (.iload 5, 2) := by decide +kernel
theorem d_Mod_transfer_222 : decode prog_10_method_40_code 222 = .ok (.iload_n 3, 1) := by decide +kernel
theorem d_Mod_transfer_223 : decode prog_10_method_40_code 223 = .ok (.iastore, 1) := by decide +kernel
theorem d_Mod_transfer_224 : decode prog_10_method_40_code 224 = .ok (.aload_n 0, 1) := by decide +kernel
theorem d_Mod_transfer_225 : decode prog_10_method_40_code 225 = .ok (.getfield 119, 3) := by decide +kernel
theorem d_Mod_transfer_228 : decode prog_10_method_40_code 228 = .ok (.iload 5, 2) := by decide +kernel
theorem d_Mod_transfer_230 : decode prog_10_method_40_code 230 = .ok (.iload 4, 2) := by decide +kernel
theorem d_Mod_transfer_232 : decode prog_10_method_40_code 232 = .ok (.iconst (-1), 1) := by decide +kernel
theorem d_Mod_transfer_233 : decode prog_10_method_40_code 233 = .ok (.if_icmp .ne 7, 3) := by decide +kernel
theorem d_Mod_transfer_236 : decode prog_10_method_40_code 236 = .ok (.iconst (-1), 1) := by decide +kernel
theorem d_Mod_transfer_237 : decode prog_10_method_40_code 237 = .ok (.goto 9, 3) := by decide +kernel
theorem d_Mod_transfer_240 : decode prog_10_method_40_code 240 = .ok (.aload_n 0, 1) := by decide +kernel
theorem d_Mod_transfer_241 : decode prog_10_method_40_code 241 = .ok (.iload 4, 2) := by decide +kernel
theorem d_Mod_transfer_243 : decode prog_10_method_40_code 243 = .ok (.invokevirtual 224, 3) := by decide +kernel
theorem d_Mod_transfer_246 : decode prog_10_method_40_code 246 = .ok (.iastore, 1) := by decide +kernel
theorem d_Mod_transfer_247 : decode prog_10_method_40_code 247 = .ok (.aload_n 0, 1) := by decide +kernel
theorem d_Mod_transfer_248 : decode prog_10_method_40_code 248 = .ok (.getfield 122, 3) := by decide +kernel
theorem d_Mod_transfer_251 : decode prog_10_method_40_code 251 = .ok (.iload 5, 2) := by decide +kernel
theorem d_Mod_transfer_253 : decode prog_10_method_40_code 253 = .ok (.aload_n 0, 1) := by decide +kernel
theorem d_Mod_transfer_254 : decode prog_10_method_40_code 254 = .ok (.dup, 1) := by decide +kernel
theorem d_Mod_transfer_255 : decode prog_10_method_40_code 255 = .ok (.getfield 171, 3) := by decide +kernel
theorem d_Mod_transfer_258 : decode prog_10_method_40_code 258 = .ok (.iconst 1, 1) := by decide +kernel
theorem d_Mod_transfer_259 : decode prog_10_method_40_code 259 = .ok (.iadd, 1) := by decide +kernel
theorem d_Mod_transfer_260 : decode prog_10_method_40_code 260 = .ok (.dup_x1, 1) := by decide +kernel
theorem d_Mod_transfer_261 : decode prog_10_method_40_code 261 = .ok (.putfield 171, 3) := by decide +kernel
theorem d_Mod_transfer_264 : decode prog_10_method_40_code 264 = .ok (.iastore, 1) := by decide +kernel
theorem d_Mod_transfer_265 : decode prog_10_method_40_code 265 = .ok (.aload_n 0, 1) := by decide +kernel
theorem d_Mod_transfer_266 : decode prog_10_method_40_code 266 = .ok (.getfield 125, 3) := by decide +kernel
theorem d_Mod_transfer_269 : decode prog_10_method_40_code 269 = .ok (.iload 5, 2) := by decide +kernel
theorem d_Mod_transfer_271 : decode prog_10_method_40_code 271 = .ok (.iconst 0, 1) := by decide +kernel
theorem d_Mod_transfer_272 : decode prog_10_method_40_code 272 = .ok (.bastore, 1) := by decide +kernel
theorem d_Mod_transfer_273 : decode prog_10_method_40_code 273 = .ok (.aload_n 0, 1) := by decide +kernel
theorem d_Mod_transfer_274 : decode prog_10_method_40_code 274 = .ok (.getfield 128, 3) := by decide +kernel
theorem d_Mod_transfer_277 : decode prog_10_method_40_code 277 = .ok (.iload 5, 2) := by decide +kernel
theorem d_Mod_transfer_279 : decode prog_10_method_40_code 279 = .ok (.iconst 0, 1) := by decide +kernel
theorem d_Mod_transfer_280 : decode prog_10_method_40_code 280 = .ok (.bastore, 1) := by decide +kernel
theorem d_Mod_transfer_281 : decode prog_10_method_40_code 281 = .ok (.iload 7, 2) := by decide +kernel
theorem d_Mod_transfer_283 : decode prog_10_method_40_code 283 = .ok (.iconst 1, 1) := by decide +kernel
theorem d_Mod_transfer_284 : decode prog_10_method_40_code 284 = .ok (.iand, 1) := by decide +kernel
theorem d_Mod_transfer_285 : decode prog_10_method_40_code 285 = .ok (.iconst 1, 1) := by decide +kernel
theorem d_Mod_transfer_286 : decode prog_10_method_40_code 286 = .ok (.if_icmp .ne 20, 3) := by decide +kernel
theorem d_Mod_transfer_289 : decode prog_10_method_40_code 289 = .ok (.iload_n 3, 1) := by decide +kernel
theorem d_Mod_transfer_290 : decode prog_10_method_40_code 290 = .ok (.bipush 64, 2) := by decide +kernel
theorem d_Mod_transfer_292 : decode prog_10_method_40_code 292 = .ok (.if_icmp .le 14, 3) := by decide +kernel
theorem d_Mod_transfer_295 : decode prog_10_method_40_code 295 = .ok (.aload_n 0, 1) := by decide +kernel
theorem d_Mod_transfer_296 : decode prog_10_method_40_code 296 = .ok (.iload 5, 2) := by decide +kernel
theorem d_Mod_transfer_298 : decode prog_10_method_40_code 298 = .ok (.iconst 2, 1) := by decide +kernel
theorem d_Mod_transfer_299 : decode prog_10_method_40_code 299 = .ok (.iconst 0, 1) := by decide +kernel
theorem d_Mod_transfer_300 : decode prog_10_method_40_code 300 = .ok (.invokevirtual 259, 3) := by decide +kernel
theorem d_Mod_transfer_303 : decode prog_10_method_40_code 303 = .ok (.goto 52, 3) := by decide +kernel
theorem d_Mod_transfer_306 : decode prog_10_method_40_code 306 = .ok (.iload 8, 2) := by decide +kernel
theorem d_Mod_transfer_308 : decode prog_10_method_40_code 308 = .ok (.ifCond .eq 21, 3) := by decide +kernel
theorem d_Mod_transfer_311 : decode prog_10_method_40_code 311 = .ok (.iload_n 2, 1) := by decide +kernel
theorem d_Mod_transfer_312 : decode prog_10_method_40_code 312 = .ok (.sipush 128, 3) := by decide +kernel
theorem d_Mod_transfer_315 : decode prog_10_method_40_code 315 = .ok (.if_icmp .lt 14, 3) := by decide +kernel
theorem d_Mod_transfer_318 : decode prog_10_method_40_code 318 = .ok (.aload_n 0, 1) := by decide +kernel
theorem d_Mod_transfer_319 : decode prog_10_method_40_code 319 = .ok (.iload 5, 2) := by decide +kernel
theorem d_Mod_transfer_321 : decode prog_10_method_40_code 321 = .ok (.iconst 3, 1) := by decide +kernel
theorem d_Mod_transfer_322 : decode prog_10_method_40_code 322 = .ok (.iconst 0, 1) := by decide +kernel
theorem d_Mod_transfer_323 : decode prog_10_method_40_code 323 = .ok (.invokevirtual 259, 3) := by decide +kernel
theorem d_Mod_transfer_326 : decode prog_10_method_40_code 326 = .ok (.goto 29, 3) := by decide +kernel
theorem d_Mod_transfer_329 : decode prog_10_method_40_code 329 = .ok (.iload 8, 2) := by decide +kernel
theorem d_Mod_transfer_331 : decode prog_10_method_40_code 331 = .ok (.ifCond .eq 24, 3) := by decide +kernel
theorem d_Mod_transfer_334 : decode prog_10_method_40_code 334 = .ok (.iload_n 3, 1) := by decide +kernel
theorem d_Mod_transfer_335 : decode prog_10_method_40_code 335 = .ok (.sipush 128, 3) := by decide +kernel
theorem d_Mod_transfer_338 : decode prog_10_method_40_code 338 = .ok (.iload_n 2, 1) := by decide +kernel
theorem d_Mod_transfer_339 : decode prog_10_method_40_code 339 = .ok (.isub, 1) := by decide +kernel
theorem d_Mod_transfer_340 : decode prog_10_method_40_code 340 = .ok (.if_icmp .le 15, 3) := by decide +kernel
theorem d_Mod_transfer_343 : decode prog_10_method_40_code 343 = .ok (.aload_n 0, 1) := by decide +kernel
theorem d_Mod_transfer_344 : decode prog_10_method_40_code 344 = .ok (.getfield 116, 3) := by decide +kernel
theorem d_Mod_transfer_347 : decode prog_10_method_40_code 347 = .ok (.iload 5, 2) := by decide +kernel
theorem d_Mod_transfer_349 : decode prog_10_method_40_code 349 = .ok (.sipush 128, 3) := by decide +kernel
theorem d_Mod_transfer_352 : decode prog_10_method_40_code 352 = .ok (.iload_n 2, 1) := by decide +kernel
theorem d_Mod_transfer_353 : decode prog_10_method_40_code 353 = .ok (.isub, 1) := by decide +kernel
theorem d_Mod_transfer_354 : decode prog_10_method_40_code 354 = .ok (.iastore, 1) := by decide +kernel
theorem d_Mod_transfer_355 : decode prog_10_method_40_code 355 = .ok (.aload_n 0, 1) := by decide +kernel
theorem d_Mod_transfer_356 : decode prog_10_method_40_code 356 = .ok (.iload 5, 2) := by decide +kernel
theorem d_Mod_transfer_358 : decode prog_10_method_40_code 358 = .ok (.invokevirtual 168, 3) := by decide +kernel
theorem d_Mod_transfer_361 : decode prog_10_method_40_code 361 = .ok (.ireturn, 1) := by decide +kernel
theorem d_Mod_drop_0 : decode prog_10_method_41_code 0 = .ok (.aload_n 0, 1) := by decide +kernel
theorem d_Mod_drop_1 : decode prog_10_method_41_code 1 = .ok (.aload_n 0, 1) := by decide +kernel
theorem d_Mod_drop_2 : decode prog_10_method_41_code 2 = .ok (.getfield 113, 3) := by decide +kernel
theorem d_Mod_drop_5 : decode prog_10_method_41_code 5 = .ok (.iload_n 1, 1) := by decide +kernel
theorem d_Mod_drop_6 : decode prog_10_method_41_code 6 = .ok (.iaload, 1) := by decide +kernel
theorem d_Mod_drop_7 : decode prog_10_method_41_code 7 = .ok (.invokevirtual 256, 3) := by decide +kernel
theorem d_Mod_drop_10 : decode prog_10_method_41_code 10 = .ok (.iload_n 1, 1) := by decide +kernel
theorem d_Mod_drop_11 : decode prog_10_method_41_code 11 = .ok (.if_icmp .ne 12, 3) := by decide +kernel
theorem d_Mod_drop_14 : decode prog_10_method_41_code 14 = .ok (.aload_n 0, 1) := by decide +kernel
theorem d_Mod_drop_15 : decode prog_10_method_41_code 15 = .ok (.getfield 125, 3) := by decide +kernel
theorem d_Mod_drop_18 : decode prog_10_method_41_code 18 = .ok (.iload_n 1, 1) := by decide +kernel
theorem d_Mod_drop_19 : decode prog_10_method_41_code 19 = .ok (.iconst 1, 1) := by decide +kernel
theorem d_Mod_drop_20 : decode prog_10_method_41_code 20 = .ok (.bastore, 1) := by decide +kernel
theorem d_Mod_drop_21 : decode prog_10_method_41_code 21 = .ok (.iconst 0, 1) := by decide +kernel
theorem d_Mod_drop_22 : decode prog_10_method_41_code 22 = .ok (.ireturn, 1) := by decide +kernel
theorem d_Mod_drop_23 : decode prog_10_method_41_code 23 = .ok (.aload_n 0, 1) := by decide +kernel
theorem d_Mod_drop_24 : decode prog_10_method_41_code 24 = .ok (.iload_n 1, 1) := by decide +kernel
theorem d_Mod_drop_25 : decode prog_10_method_41_code 25 = .ok (.iconst 5, 1) := by decide +kernel
theorem d_Mod_drop_26 : decode prog_10_method_41_code 26 = .ok (.iconst 0, 1) := by decide +kernel
theorem d_Mod_drop_27 : decode prog_10_method_41_code 27 = .ok (.invokevirtual 259, 3) := by decide +kernel
theorem d_Mod_drop_30 : decode prog_10_method_41_code 30 = .ok (.iconst 1, 1) := by decide +kernel
theorem d_Mod_drop_31 : decode prog_10_method_41_code 31 = .ok (.ireturn, 1) := by decide +kernel
theorem d_Mod_cancel_0 : decode prog_10_method_42_code 0 = .ok (.aload_n 0, 1) := by decide +kernel
theorem d_Mod_cancel_1 : decode prog_10_method_42_code 1 = .ok (.getfield 137, 3) := by decide +kernel
theorem d_Mod_cancel_4 : decode prog_10_method_42_code 4 = .ok (.ifCond .ge 6, 3) := by decide +kernel
theorem d_Mod_cancel_7 : decode prog_10_method_42_code 7 = .ok (.bipush (-3), 2) := by decide +kernel
theorem d_Mod_cancel_9 : decode prog_10_method_42_code 9 = .ok (.ireturn, 1) := by decide +kernel
theorem d_Mod_cancel_10 : decode prog_10_method_42_code 10 = .ok (.iload_n 1, 1) := by decide +kernel
theorem d_Mod_cancel_11 : decode prog_10_method_42_code 11 = .ok (.iconst 0, 1) := by decide +kernel
theorem d_Mod_cancel_12 : decode prog_10_method_42_code 12 = .ok (.bipush 7, 2) := by decide +kernel
theorem d_Mod_cancel_14 : decode prog_10_method_42_code 14 = .ok (.invokestatic 157, 3) := by decide +kernel
theorem d_Mod_cancel_17 : decode prog_10_method_42_code 17 = .ok (.ifCond .eq 12, 3) := by decide +kernel
theorem d_Mod_cancel_20 : decode prog_10_method_42_code 20 = .ok (.aload_n 0, 1) := by decide +kernel
theorem d_Mod_cancel_21 : decode prog_10_method_42_code 21 = .ok (.getfield 104, 3) := by decide +kernel
theorem d_Mod_cancel_24 : decode prog_10_method_42_code 24 = .ok (.iload_n 1, 1) := by decide +kernel
theorem d_Mod_cancel_25 : decode prog_10_method_42_code 25 = .ok (.iaload, 1) := by decide +kernel
theorem d_Mod_cancel_26 : decode prog_10_method_42_code 26 = .ok (.ifCond .eq 5, 3) := by decide +kernel
theorem d_Mod_cancel_29 : decode prog_10_method_42_code 29 = .ok (.iconst (-1), 1) := by decide +kernel
theorem d_Mod_cancel_30 : decode prog_10_method_42_code 30 = .ok (.ireturn, 1) := by decide +kernel
theorem d_Mod_cancel_31 : decode prog_10_method_42_code 31 = .ok (.aload_n 0, 1) := by decide +kernel
theorem d_Mod_cancel_32 : decode prog_10_method_42_code 32 = .ok (.iload_n 1, 1) := by decide +kernel
theorem d_Mod_cancel_33 : decode prog_10_method_42_code 33 = .ok (.invokevirtual 263, 3) := by decide +kernel
theorem d_Mod_cancel_36 : decode prog_10_method_42_code 36 = .ok (.istore_n 2, 1) := by decide +kernel
theorem d_Mod_cancel_37 : decode prog_10_method_42_code 37 = .ok (.aload_n 0, 1) := by decide +kernel
theorem d_Mod_cancel_38 : decode prog_10_method_42_code 38 = .ok (.iload_n 2, 1) := by decide +kernel
theorem d_Mod_cancel_39 : decode prog_10_method_42_code 39 = .ok (.invokevirtual 168, 3) := by decide +kernel
theorem d_Mod_cancel_42 : decode prog_10_method_42_code 42 = .ok (.ireturn, 1) := by decide +kernel
theorem d_Mod_exit_0 : decode prog_10_method_43_code 0 = .ok (.aload_n 0, 1) := by decide +kernel
theorem d_Mod_exit_1 : decode prog_10_method_43_code 1 = .ok (.getfield 137, 3) := by decide +kernel
theorem d_Mod_exit_4 : decode prog_10_method_43_code 4 = .ok (.ifCond .ge 6, 3) := by decide +kernel
theorem d_Mod_exit_7 : decode prog_10_method_43_code 7 = .ok (.bipush (-3), 2) := by decide +kernel
theorem d_Mod_exit_9 : decode prog_10_method_43_code 9 = .ok (.ireturn, 1) := by decide +kernel
theorem d_Mod_exit_10 : decode prog_10_method_43_code 10 = .ok (.aload_n 0, 1) := by decide +kernel
theorem d_Mod_exit_11 : decode prog_10_method_43_code 11 = .ok (.getfield 177, 3) := by decide +kernel
theorem d_Mod_exit_14 : decode prog_10_method_43_code 14 = .ok (.iconst 1, 1) := by decide +kernel
theorem d_Mod_exit_15 : decode prog_10_method_43_code 15 = .ok (.if_icmp .ne 6, 3) := by decide +kernel
theorem d_Mod_exit_18 : decode prog_10_method_43_code 18 = .ok (.bipush (-4), 2) := by decide +kernel
theorem d_Mod_exit_20 : decode prog_10_method_43_code 20 = .ok (.ireturn, 1) := by decide +kernel
theorem d_Mod_exit_21 : decode prog_10_method_43_code 21 = .ok (.aload_n 0, 1) := by decide +kernel
theorem d_Mod_exit_22 : decode prog_10_method_43_code 22 = .ok (.getfield 137, 3) := by decide +kernel
theorem d_Mod_exit_25 : decode prog_10_method_43_code 25 = .ok (.istore_n 1, 1) := by decide +kernel
theorem d_Mod_exit_26 : decode prog_10_method_43_code 26 = .ok (.aload_n 0, 1) := by decide +kernel
theorem d_Mod_exit_27 : decode prog_10_method_43_code 27 = .ok (.getfield 25, 3) := by decide +kernel
theorem d_Mod_exit_30 : decode prog_10_method_43_code 30 = .ok (.iload_n 1, 1) := by decide +kernel
theorem d_Mod_exit_31 : decode prog_10_method_43_code 31 = .ok (.iaload, 1) := by decide +kernel
theorem d_Mod_exit_32 : decode prog_10_method_43_code 32 = .ok (.istore_n 2, 1) := by decide +kernel
theorem d_Mod_exit_33 : decode prog_10_method_43_code 33 = .ok (.aload_n 0, 1) := by decide +kernel
theorem d_Mod_exit_34 : decode prog_10_method_43_code 34 = .ok (.getfield 31, 3) := by decide +kernel
theorem d_Mod_exit_37 : decode prog_10_method_43_code 37 = .ok (.iload_n 1, 1) := by decide +kernel
theorem d_Mod_exit_38 : decode prog_10_method_43_code 38 = .ok (.iconst 3, 1) := by decide +kernel
theorem d_Mod_exit_39 : decode prog_10_method_43_code 39 = .ok (.iastore, 1) := by decide +kernel
theorem d_Mod_exit_40 : decode prog_10_method_43_code 40 = .ok (.aload_n 0, 1) := by decide +kernel
theorem d_Mod_exit_41 : decode prog_10_method_43_code 41 = .ok (.iconst (-1), 1) := by decide +kernel
theorem d_Mod_exit_42 : decode prog_10_method_43_code 42 = .ok (.putfield 137, 3) := by decide +kernel
theorem d_Mod_exit_45 : decode prog_10_method_43_code 45 = .ok (.aload_n 0, 1) := by decide +kernel
theorem d_Mod_exit_46 : decode prog_10_method_43_code 46 = .ok (.getfield 37, 3) := by decide +kernel
theorem d_Mod_exit_49 : decode prog_10_method_43_code 49 = .ok (.iload_n 1, 1) := by decide +kernel
theorem d_Mod_exit_50 : decode prog_10_method_43_code 50 = .ok (.iconst 0, 1) := by decide +kernel
theorem d_Mod_exit_51 : decode prog_10_method_43_code 51 = .ok (.iastore, 1) := by decide +kernel
theorem d_Mod_exit_52 : decode prog_10_method_43_code 52 = .ok (.iconst 0, 1) := by decide +kernel
theorem d_Mod_exit_53 : decode prog_10_method_43_code 53 = .ok (.istore_n 3, 1) := by decide +kernel
theorem d_Mod_exit_54 : decode prog_10_method_43_code 54 = .ok (.iload_n 3, 1) := by decide +kernel
theorem d_Mod_exit_55 : decode prog_10_method_43_code 55 = .ok (.bipush 16, 2) := by decide +kernel
theorem d_Mod_exit_57 : decode prog_10_method_43_code 57 = .ok (.if_icmp .ge 66, 3) := by decide +kernel
theorem d_Mod_exit_60 : decode prog_10_method_43_code 60 = .ok (.aload_n 0, 1) := by decide +kernel
theorem d_Mod_exit_61 : decode prog_10_method_43_code 61 = .ok (.getfield 67, 3) := by decide +kernel
theorem d_Mod_exit_64 : decode prog_10_method_43_code 64 = .ok (.iload_n 3, 1) := by decide +kernel
theorem d_Mod_exit_65 : decode prog_10_method_43_code 65 = .ok (.baload, 1) := by decide +kernel
theorem d_Mod_exit_66 : decode prog_10_method_43_code 66 = .ok (.ifCond .eq 51, 3) := by decide +kernel
theorem d_Mod_exit_69 : decode prog_10_method_43_code 69 = .ok (.aload_n 0, 1) := by decide +kernel
theorem d_Mod_exit_70 : decode prog_10_method_43_code 70 = .ok (.getfield 77, 3) := by decide +kernel
theorem d_Mod_exit_73 : decode prog_10_method_43_code 73 = .ok (.iload_n 3, 1) := by decide +kernel
theorem d_Mod_exit_74 : decode prog_10_method_43_code 74 = .ok (.iaload, 1) := by decide +kernel
theorem d_Mod_exit_75 : decode prog_10_method_43_code 75 = .ok (.iconst 2, 1) := by decide +kernel
theorem d_Mod_exit_76 : decode prog_10_method_43_code 76 = .ok (.if_icmp .ne 41, 3) := by decide +kernel
theorem d_Mod_exit_79 : decode prog_10_method_43_code 79 = .ok (.aload_n 0, 1) := by decide +kernel
theorem d_Mod_exit_80 : decode prog_10_method_43_code 80 = .ok (.getfield 86, 3) := by decide +kernel
theorem d_Mod_exit_83 : decode prog_10_method_43_code 83 = .ok (.iload_n 3, 1) := by decide +kernel
theorem d_Mod_exit_84 : decode prog_10_method_43_code 84 = .ok (.iaload, 1) := by decide +kernel
theorem d_Mod_exit_85 : decode prog_10_method_43_code 85 = .ok (.iload_n 1, 1) := by decide +kernel
theorem d_Mod_exit_86 : decode prog_10_method_43_code 86 = .ok (.if_icmp .eq 6, 3) := by decide +kernel
theorem d_Mod_exit_89 : decode prog_10_method_43_code 89 = .ok (.goto 28, 3) := by decide +kernel
theorem d_Mod_exit_92 : decode prog_10_method_43_code 92 = .ok (.aload_n 0, 1) := by decide +kernel
theorem d_Mod_exit_93 : decode prog_10_method_43_code 93 = .ok (.getfield 86, 3) := by decide +kernel
theorem d_Mod_exit_96 : decode prog_10_method_43_code 96 = .ok (.iload_n 3, 1) := by decide +kernel
theorem d_Mod_exit_97 : decode prog_10_method_43_code 97 = .ok (.iconst (-1), 1) := by decide +kernel
theorem d_Mod_exit_98 : decode prog_10_method_43_code 98 = .ok (.iastore, 1) := by decide +kernel
theorem d_Mod_exit_99 : decode prog_10_method_43_code 99 = .ok (.aload_n 0, 1) := by decide +kernel
theorem d_Mod_exit_100 : decode prog_10_method_43_code 100 = .ok (.getfield 83, 3) := by decide +kernel
theorem d_Mod_exit_103 : decode prog_10_method_43_code 103 = .ok (.iload_n 3, 1) := by decide +kernel
theorem d_Mod_exit_104 : decode prog_10_method_43_code 104 = .ok (.iconst 0, 1) := by decide +kernel
theorem d_Mod_exit_105 : decode prog_10_method_43_code 105 = .ok (.iastore, 1) := by decide +kernel
theorem d_Mod_exit_106 : decode prog_10_method_43_code 106 = .ok (.aload_n 0, 1) := by decide +kernel
theorem d_Mod_exit_107 : decode prog_10_method_43_code 107 = .ok (.getfield 74, 3) := by decide +kernel
theorem d_Mod_exit_110 : decode prog_10_method_43_code 110 = .ok (.iload_n 3, 1) := by decide +kernel
theorem d_Mod_exit_111 : decode prog_10_method_43_code 111 = .ok (.iconst 1, 1) := by decide +kernel
theorem d_Mod_exit_112 : decode prog_10_method_43_code 112 = .ok (.bastore, 1) := by decide +kernel
theorem d_Mod_exit_113 : decode prog_10_method_43_code 113 = .ok (.aload_n 0, 1) := by decide +kernel
theorem d_Mod_exit_114 : decode prog_10_method_43_code 114 = .ok (.invokevirtual 214, 3) := by decide +kernel
theorem d_Mod_exit_117 : decode prog_10_method_43_code 117 = .ok (.iinc 3 1, 3) := by decide +kernel
theorem d_Mod_exit_120 : decode prog_10_method_43_code 120 = .ok (.goto (-66), 3) := by decide +kernel
theorem d_Mod_exit_123 : decode prog_10_method_43_code 123 = .ok (.iconst 0, 1) := by decide +kernel
theorem d_Mod_exit_124 : decode prog_10_method_43_code 124 = .ok (.istore_n 3, 1) := by decide +kernel
theorem d_Mod_exit_125 : decode prog_10_method_43_code 125 = .ok (.iload_n 3, 1) := by decide +kernel
theorem d_Mod_exit_126 : decode prog_10_method_43_code 126 = .ok (.bipush 8, 2) := by decide +kernel
theorem d_Mod_exit_128 : decode prog_10_method_43_code 128 = .ok (.if_icmp .ge 34, 3) := by decide +kernel
theorem d_Mod_exit_131 : decode prog_10_method_43_code 131 = .ok (.aload_n 0, 1) := by decide +kernel
theorem d_Mod_exit_132 : decode prog_10_method_43_code 132 = .ok (.getfield 104, 3) := by decide +kernel
theorem d_Mod_exit_135 : decode prog_10_method_43_code 135 = .ok (.iload_n 3, 1) := by decide +kernel
theorem d_Mod_exit_136 : decode prog_10_method_43_code 136 = .ok (.iaload, 1) := by decide +kernel
theorem d_Mod_exit_137 : decode prog_10_method_43_code 137 = .ok (.ifCond .ne 19, 3) := by decide +kernel
theorem d_Mod_exit_140 : decode prog_10_method_43_code 140 = .ok (.aload_n 0, 1) := by decide +kernel
theorem d_Mod_exit_141 : decode prog_10_method_43_code 141 = .ok (.getfield 110, 3) := by decide +kernel
theorem d_Mod_exit_144 : decode prog_10_method_43_code 144 = .ok (.iload_n 3, 1) := by decide +kernel
theorem d_Mod_exit_145 : decode prog_10_method_43_code 145 = .ok (.iaload, 1) := by decide +kernel
theorem d_Mod_exit_146 : decode prog_10_method_43_code 146 = .ok (.iload_n 1, 1) := by decide +kernel
theorem d_Mod_exit_147 : decode prog_10_method_43_code 147 = .ok (.if_icmp .ne 9, 3) := by decide +kernel
theorem d_Mod_exit_150 : decode prog_10_method_43_code 150 = .ok (.aload_n 0, 1) := by decide +kernel
theorem d_Mod_exit_151 : decode prog_10_method_43_code 151 = .ok (.iload_n 3, 1) := by decide +kernel
theorem d_Mod_exit_152 : decode prog_10_method_43_code 152 = .ok (.invokevirtual 263, 3) := by decide +kernel
theorem d_Mod_exit_155 : decode prog_10_method_43_code 155 = .ok (.pop, 1) := by decide +kernel
theorem d_Mod_exit_156 : decode prog_10_method_43_code 156 = .ok (.iinc 3 1, 3) := by decide +kernel
theorem d_Mod_exit_159 : decode prog_10_method_43_code 159 = .ok (.goto (-34), 3) := by decide +kernel
theorem d_Mod_exit_162 : decode prog_10_method_43_code 162 = .ok (.aload_n 0, 1) := by decide +kernel
theorem d_Mod_exit_163 : decode prog_10_method_43_code 163 = .ok (.getfield 13, 3) := by decide +kernel
theorem d_Mod_exit_166 : decode prog_10_method_43_code 166 = .ok (.iload_n 2, 1) := by decide +kernel
theorem d_Mod_exit_167 : decode prog_10_method_43_code 167 = .ok (.dup2, 1) := by decide +kernel
theorem d_Mod_exit_168 : decode prog_10_method_43_code 168 = .ok (.iaload, 1) := by decide +kernel
theorem d_Mod_exit_169 : decode prog_10_method_43_code 169 = .ok (.iconst 1, 1) := by decide +kernel
theorem d_Mod_exit_170 : decode prog_10_method_43_code 170 = .ok (.isub, 1) := by decide +kernel
theorem d_Mod_exit_171 : decode prog_10_method_43_code 171 = .ok (.iastore, 1) := by decide +kernel
theorem d_Mod_exit_172 : decode prog_10_method_43_code 172 = .ok (.bipush 8, 2) := by decide +kernel
theorem d_Mod_exit_174 : decode prog_10_method_43_code 174 = .ok (.iload_n 2, 1) := by decide +kernel
theorem d_Mod_exit_175 : decode prog_10_method_43_code 175 = .ok (.imul, 1) := by decide +kernel
theorem d_Mod_exit_176 : decode prog_10_method_43_code 176 = .ok (.istore_n 3, 1) := by decide +kernel
theorem d_Mod_exit_177 : decode prog_10_method_43_code 177 = .ok (.iload_n 3, 1) := by decide +kernel
theorem d_Mod_exit_178 : decode prog_10_method_43_code 178 = .ok (.bipush 8, 2) := by decide +kernel
theorem d_Mod_exit_180 : decode prog_10_method_43_code 180 = .ok (.iload_n 2, 1) := by decide +kernel
theorem d_Mod_exit_181 : decode prog_10_method_43_code 181 = .ok (.imul, 1) := by decide +kernel
theorem d_Mod_exit_182 : decode prog_10_method_43_code 182 = .ok (.bipush 8, 2) := by decide +kernel
theorem d_Mod_exit_184 : decode prog_10_method_43_code 184 = .ok (.iadd, 1) := by decide +kernel
theorem d_Mod_exit_185 : decode prog_10_method_43_code 185 = .ok (.if_icmp .ge 25, 3) := by decide +kernel
theorem d_Mod_exit_188 : decode prog_10_method_43_code 188 = .ok (.aload_n 0, 1) := by decide +kernel
theorem d_Mod_exit_189 : decode prog_10_method_43_code 189 = .ok (.getfield 13, 3) := by decide +kernel
theorem d_Mod_exit_192 : decode prog_10_method_43_code 192 = .ok (.iload_n 2, 1) := by decide +kernel
theorem d_Mod_exit_193 : decode prog_10_method_43_code 193 = .ok (.iaload, 1) := by decide +kernel
theorem d_Mod_exit_194 : decode prog_10_method_43_code 194 = .ok (.ifCond .ne 16, 3) := by decide +kernel
theorem d_Mod_exit_197 : decode prog_10_method_43_code 197 = .ok (.aload_n 0, 1) := by decide +kernel
theorem d_Mod_exit_198 : decode prog_10_method_43_code 198 = .ok (.getfield 19, 3) := by decide +kernel
theorem d_Mod_exit_201 : decode prog_10_method_43_code 201 = .ok (.iload_n 3, 1) := by decide +kernel
theorem d_Mod_exit_202 : decode prog_10_method_43_code 202 = .ok (.iconst (-1), 1) := by decide +kernel
theorem d_Mod_exit_203 : decode prog_10_method_43_code 203 = .ok (.iastore, 1) := by decide +kernel
theorem d_Mod_exit_204 : decode prog_10_method_43_code 204 = .ok (.iinc 3 1, 3) := by decide +kernel
theorem d_Mod_exit_207 : decode prog_10_method_43_code 207 = .ok (.goto (-30), 3) := by decide +kernel
theorem d_Mod_exit_210 : decode prog_10_method_43_code 210 = .ok (.aload_n 0, 1) := by decide +kernel
theorem d_Mod_exit_211 : decode prog_10_method_43_code 211 = .ok (.iload_n 1, 1) := by decide +kernel
theorem d_Mod_exit_212 : decode prog_10_method_43_code 212 = .ok (.invokevirtual 168, 3) := by decide +kernel
theorem d_Mod_exit_215 : decode prog_10_method_43_code 215 = .ok (.ireturn, 1) := by decide +kernel
theorem d_Mod_once_0 : decode prog_10_method_45_code 0 = .ok (.aload_n 0, 1) := by decide +kernel
theorem d_Mod_once_1 : decode prog_10_method_45_code 1 = .ok (.getfield 137, 3) := by decide +kernel
theorem d_Mod_once_4 : decode prog_10_method_45_code 4 = .ok (.istore_n 1, 1) := by decide +kernel
theorem d_Mod_once_5 : decode prog_10_method_45_code 5 = .ok (.aload_n 0, 1) := by decide +kernel
theorem d_Mod_once_6 : decode prog_10_method_45_code 6 = .ok (.dup, 1) := by decide +kernel
theorem d_Mod_once_7 : decode prog_10_method_45_code 7 = .ok (.getfield 230, 3) := by decide +kernel
theorem d_Mod_once_10 : decode prog_10_method_45_code 10 = .ok (.iconst 1, 1) := by decide +kernel
theorem d_Mod_once_11 : decode prog_10_method_45_code 11 = .ok (.iadd, 1) := by decide +kernel
theorem d_Mod_once_12 : decode prog_10_method_45_code 12 = .ok (.putfield 230, 3) := by decide +kernel
theorem d_Mod_once_15 : decode prog_10_method_45_code 15 = .ok (.iconst 0, 1) := by decide +kernel
theorem d_Mod_once_16 : decode prog_10_method_45_code 16 = .ok (.istore_n 2, 1) := by decide +kernel
theorem d_Mod_once_17 : decode prog_10_method_45_code 17 = .ok (.iload_n 2, 1) := by decide +kernel
theorem d_Mod_once_18 : decode prog_10_method_45_code 18 = .ok (.bipush 16, 2) := by decide +kernel
theorem d_Mod_once_20 : decode prog_10_method_45_code 20 = .ok (.if_icmp .ge 56, 3) := by decide +kernel
theorem d_Mod_once_23 : decode prog_10_method_45_code 23 = .ok (.aload_n 0, 1) := by decide +kernel
theorem d_Mod_once_24 : decode prog_10_method_45_code 24 = .ok (.getfield 67, 3) := by decide +kernel
theorem d_Mod_once_27 : decode prog_10_method_45_code 27 = .ok (.iload_n 2, 1) := by decide +kernel
theorem d_Mod_once_28 : decode prog_10_method_45_code 28 = .ok (.baload, 1) := by decide +kernel
theorem d_Mod_once_29 : decode prog_10_method_45_code 29 = .ok (.ifCond .eq 41, 3) := by decide +kernel
theorem d_Mod_once_32 : decode prog_10_method_45_code 32 = .ok (.aload_n 0, 1) := by decide +kernel
theorem d_Mod_once_33 : decode prog_10_method_45_code 33 = .ok (.getfield 77, 3) := by decide +kernel
theorem d_Mod_once_36 : decode prog_10_method_45_code 36 = .ok (.iload_n 2, 1) := by decide +kernel
theorem d_Mod_once_37 : decode prog_10_method_45_code 37 = .ok (.iaload, 1) := by decide +kernel
theorem d_Mod_once_38 : decode prog_10_method_45_code 38 = .ok (.iconst 4, 1) := by decide +kernel
theorem d_Mod_once_39 : decode prog_10_method_45_code 39 = .ok (.if_icmp .ne 31, 3) := by decide +kernel
theorem d_Mod_once_42 : decode prog_10_method_45_code 42 = .ok (.aload_n 0, 1) := by decide +kernel
theorem d_Mod_once_43 : decode prog_10_method_45_code 43 = .ok (.getfield 89, 3) := by decide +kernel
theorem d_Mod_once_46 : decode prog_10_method_45_code 46 = .ok (.iload_n 2, 1) := by decide +kernel
theorem d_Mod_once_47 : decode prog_10_method_45_code 47 = .ok (.iaload, 1) := by decide +kernel
theorem d_Mod_once_48 : decode prog_10_method_45_code 48 = .ok (.aload_n 0, 1) := by decide +kernel
theorem d_Mod_once_49 : decode prog_10_method_45_code 49 = .ok (.getfield 230, 3) := by decide +kernel
theorem d_Mod_once_52 : decode prog_10_method_45_code 52 = .ok (.if_icmp .eq 6, 3) := by decide +kernel
theorem d_Mod_once_55 : decode prog_10_method_45_code 55 = .ok (.goto 15, 3) := by decide +kernel
theorem d_Mod_once_58 : decode prog_10_method_45_code 58 = .ok (.aload_n 0, 1) := by decide +kernel
theorem d_Mod_once_59 : decode prog_10_method_45_code 59 = .ok (.getfield 89, 3) := by decide +kernel
theorem d_Mod_once_62 : decode prog_10_method_45_code 62 = .ok (.iload_n 2, 1) := by decide +kernel
theorem d_Mod_once_63 : decode prog_10_method_45_code 63 = .ok (.iconst 0, 1) := by decide +kernel
theorem d_Mod_once_64 : decode prog_10_method_45_code 64 = .ok (.iastore, 1) := by decide +kernel
theorem d_Mod_once_65 : decode prog_10_method_45_code 65 = .ok (.aload_n 0, 1) := by decide +kernel
theorem d_Mod_once_66 : decode prog_10_method_45_code 66 = .ok (.iload_n 2, 1) := by decide +kernel
theorem d_Mod_once_67 : decode prog_10_method_45_code 67 = .ok (.invokevirtual 253, 3) := by decide +kernel
theorem d_Mod_once_70 : decode prog_10_method_45_code 70 = .ok (.iinc 2 1, 3) := by decide +kernel
theorem d_Mod_once_73 : decode prog_10_method_45_code 73 = .ok (.goto (-56), 3) := by decide +kernel
theorem d_Mod_once_76 : decode prog_10_method_45_code 76 = .ok (.iconst 0, 1) := by decide +kernel
theorem d_Mod_once_77 : decode prog_10_method_45_code 77 = .ok (.istore_n 2, 1) := by decide +kernel
theorem d_Mod_once_78 : decode prog_10_method_45_code 78 = .ok (.iload_n 2, 1) := by decide +kernel
theorem d_Mod_once_79 : decode prog_10_method_45_code 79 = .ok (.aload_n 0, 1) := by decide +kernel
theorem d_Mod_once_80 : decode prog_10_method_45_code 80 = .ok (.getfield 144, 3) := by decide +kernel
theorem d_Mod_once_83 : decode prog_10_method_45_code 83 = .ok (.if_icmp .ge 39, 3) := by decide +kernel
theorem d_Mod_once_86 : decode prog_10_method_45_code 86 = .ok (.aload_n 0, 1) := by decide +kernel
theorem d_Mod_once_87 : decode prog_10_method_45_code 87 = .ok (.getfield 31, 3) := by decide +kernel
theorem d_Mod_once_90 : decode prog_10_method_45_code 90 = .ok (.iload_n 2, 1) := by decide +kernel
theorem d_Mod_once_91 : decode prog_10_method_45_code 91 = .ok (.iaload, 1) := by decide +kernel
theorem d_Mod_once_92 : decode prog_10_method_45_code 92 = .ok (.iconst 2, 1) := by decide +kernel
theorem d_Mod_once_93 : decode prog_10_method_45_code 93 = .ok (.if_icmp .ne 23, 3) := by decide +kernel
theorem d_Mod_once_96 : decode prog_10_method_45_code 96 = .ok (.aload_n 0, 1) := by decide +kernel
theorem d_Mod_once_97 : decode prog_10_method_45_code 97 = .ok (.getfield 49, 3) := by decide +kernel
theorem d_Mod_once_100 : decode prog_10_method_45_code 100 = .ok (.iload_n 2, 1) := by decide +kernel
theorem d_Mod_once_101 : decode prog_10_method_45_code 101 = .ok (.iaload, 1) := by decide +kernel
theorem d_Mod_once_102 : decode prog_10_method_45_code 102 = .ok (.aload_n 0, 1) := by decide +kernel
theorem d_Mod_once_103 : decode prog_10_method_45_code 103 = .ok (.getfield 230, 3) := by decide +kernel
theorem d_Mod_once_106 : decode prog_10_method_45_code 106 = .ok (.if_icmp .ne 10, 3) := by decide +kernel
theorem d_Mod_once_109 : decode prog_10_method_45_code 109 = .ok (.aload_n 0, 1) := by decide +kernel
theorem d_Mod_once_110 : decode prog_10_method_45_code 110 = .ok (.iload_n 2, 1) := by decide +kernel
theorem d_Mod_once_111 : decode prog_10_method_45_code 111 = .ok (.bipush (-11), 2) := by decide +kernel
theorem d_Mod_once_113 : decode prog_10_method_45_code 113 = .ok (.invokevirtual 210, 3) := by decide +kernel
theorem d_Mod_once_116 : decode prog_10_method_45_code 116 = .ok (.iinc 2 1, 3) := by decide +kernel
theorem d_Mod_once_119 : decode prog_10_method_45_code 119 = .ok (.goto (-41), 3) := by decide +kernel
theorem d_Mod_once_122 : decode prog_10_method_45_code 122 = .ok (.aload_n 0, 1) := by decide +kernel
theorem d_Mod_once_123 : decode prog_10_method_45_code 123 = .ok (.invokevirtual 190, 3) := by decide +kernel
theorem d_Mod_once_126 : decode prog_10_method_45_code 126 = .ok (.aload_n 0, 1) := by decide +kernel
theorem d_Mod_once_127 : decode prog_10_method_45_code 127 = .ok (.invokevirtual 193, 3) := by decide +kernel
theorem d_Mod_once_130 : decode prog_10_method_45_code 130 = .ok (.aload_n 0, 1) := by decide +kernel
theorem d_Mod_once_131 : decode prog_10_method_45_code 131 = .ok (.getfield 177, 3) := by decide +kernel
theorem d_Mod_once_134 : decode prog_10_method_45_code 134 = .ok (.iconst 1, 1) := by decide +kernel
theorem d_Mod_once_135 : decode prog_10_method_45_code 135 = .ok (.if_icmp .eq 15, 3) := by decide +kernel
theorem d_Mod_once_138 : decode prog_10_method_45_code 138 = .ok (.iload_n 1, 1) := by decide +kernel
theorem d_Mod_once_139 : decode prog_10_method_45_code 139 = .ok (.ifCond .lt 11, 3) := by decide +kernel
theorem d_Mod_once_142 : decode prog_10_method_45_code 142 = .ok (.aload_n 0, 1) := by decide +kernel
theorem d_Mod_once_143 : decode prog_10_method_45_code 143 = .ok (.getfield 137, 3) := by decide +kernel
theorem d_Mod_once_146 : decode prog_10_method_45_code 146 = .ok (.iload_n 1, 1) := by decide +kernel
theorem d_Mod_once_147 : decode prog_10_method_45_code 147 = .ok (.if_icmp .eq 4, 3) := by decide +kernel
theorem d_Mod_once_150 : decode prog_10_method_45_code 150 = .ok (.return_, 1) := by decide +kernel
theorem d_Mod_once_151 : decode prog_10_method_45_code 151 = .ok (.aload_n 0, 1) := by decide +kernel
theorem d_Mod_once_152 : decode prog_10_method_45_code 152 = .ok (.getfield 46, 3) := by decide +kernel
theorem d_Mod_once_155 : decode prog_10_method_45_code 155 = .ok (.iload_n 1, 1) := by decide +kernel
theorem d_Mod_once_156 : decode prog_10_method_45_code 156 = .ok (.dup2, 1) := by decide +kernel
theorem d_Mod_once_157 : decode prog_10_method_45_code 157 = .ok (.iaload, 1) := by decide +kernel
theorem d_Mod_once_158 : decode prog_10_method_45_code 158 = .ok (.iconst 1, 1) := by decide +kernel
theorem d_Mod_once_159 : decode prog_10_method_45_code 159 = .ok (.iadd, 1) := by decide +kernel
theorem d_Mod_once_160 : decode prog_10_method_45_code 160 = .ok (.iastore, 1) := by decide +kernel
theorem d_Mod_once_161 : decode prog_10_method_45_code 161 = .ok (.aload_n 0, 1) := by decide +kernel
theorem d_Mod_once_162 : decode prog_10_method_45_code 162 = .ok (.getfield 46, 3) := by decide +kernel
theorem d_Mod_once_165 : decode prog_10_method_45_code 165 = .ok (.iload_n 1, 1) := by decide +kernel
theorem d_Mod_once_166 : decode prog_10_method_45_code 166 = .ok (.iaload, 1) := by decide +kernel
theorem d_Mod_once_167 : decode prog_10_method_45_code 167 = .ok (.iconst 3, 1) := by decide +kernel
theorem d_Mod_once_168 : decode prog_10_method_45_code 168 = .ok (.if_icmp .ge 4, 3) := by decide +kernel
theorem d_Mod_once_171 : decode prog_10_method_45_code 171 = .ok (.return_, 1) := by decide +kernel
theorem d_Mod_once_172 : decode prog_10_method_45_code 172 = .ok (.aload_n 0, 1) := by decide +kernel
theorem d_Mod_once_173 : decode prog_10_method_45_code 173 = .ok (.getfield 46, 3) := by decide +kernel
theorem d_Mod_once_176 : decode prog_10_method_45_code 176 = .ok (.iload_n 1, 1) := by decide +kernel
theorem d_Mod_once_177 : decode prog_10_method_45_code 177 = .ok (.iconst 0, 1) := by decide +kernel
theorem d_Mod_once_178 : decode prog_10_method_45_code 178 = .ok (.iastore, 1) := by decide +kernel
theorem d_Mod_once_179 : decode prog_10_method_45_code 179 = .ok (.aload_n 0, 1) := by decide +kernel
theorem d_Mod_once_180 : decode prog_10_method_45_code 180 = .ok (.invokevirtual 180, 3) := by decide +kernel
theorem d_Mod_once_183 : decode prog_10_method_45_code 183 = .ok (.istore_n 2, 1) := by decide +kernel
theorem d_Mod_once_184 : decode prog_10_method_45_code 184 = .ok (.iload_n 2, 1) := by decide +kernel
theorem d_Mod_once_185 : decode prog_10_method_45_code 185 = .ok (.ifCond .lt 18, 3) := by decide +kernel
theorem d_Mod_once_188 : decode prog_10_method_45_code 188 = .ok (.aload_n 0, 1) := by decide +kernel
theorem d_Mod_once_189 : decode prog_10_method_45_code 189 = .ok (.getfield 28, 3) := by decide +kernel
theorem d_Mod_once_192 : decode prog_10_method_45_code 192 = .ok (.iload_n 2, 1) := by decide +kernel
theorem d_Mod_once_193 : decode prog_10_method_45_code 193 = .ok (.iaload, 1) := by decide +kernel
theorem d_Mod_once_194 : decode prog_10_method_45_code 194 = .ok (.aload_n 0, 1) := by decide +kernel
theorem d_Mod_once_195 : decode prog_10_method_45_code 195 = .ok (.getfield 28, 3) := by decide +kernel
theorem d_Mod_once_198 : decode prog_10_method_45_code 198 = .ok (.iload_n 1, 1) := by decide +kernel
theorem d_Mod_once_199 : decode prog_10_method_45_code 199 = .ok (.iaload, 1) := by decide +kernel
theorem d_Mod_once_200 : decode prog_10_method_45_code 200 = .ok (.if_icmp .eq 4, 3) := by decide +kernel
theorem d_Mod_once_203 : decode prog_10_method_45_code 203 = .ok (.return_, 1) := by decide +kernel
theorem d_Mod_once_204 : decode prog_10_method_45_code 204 = .ok (.aload_n 0, 1) := by decide +kernel
theorem d_Mod_once_205 : decode prog_10_method_45_code 205 = .ok (.iload_n 1, 1) := by decide +kernel
theorem d_Mod_once_206 : decode prog_10_method_45_code 206 = .ok (.invokevirtual 164, 3) := by decide +kernel
theorem d_Mod_once_209 : decode prog_10_method_45_code 209 = .ok (.aload_n 0, 1) := by decide +kernel
theorem d_Mod_once_210 : decode prog_10_method_45_code 210 = .ok (.iload_n 2, 1) := by decide +kernel
theorem d_Mod_once_211 : decode prog_10_method_45_code 211 = .ok (.invokevirtual 187, 3) := by decide +kernel
theorem d_Mod_once_214 : decode prog_10_method_45_code 214 = .ok (.return_, 1) := by decide +kernel
theorem d_Mod_tick_0 : decode prog_10_method_44_code 0 = .ok (.iload_n 1, 1) := by decide +kernel
theorem d_Mod_tick_1 : decode prog_10_method_44_code 1 = .ok (.iconst 1, 1) := by decide +kernel
theorem d_Mod_tick_2 : decode prog_10_method_44_code 2 = .ok (.bipush 9, 2) := by decide +kernel
theorem d_Mod_tick_4 : decode prog_10_method_44_code 4 = .ok (.invokestatic 157, 3) := by decide +kernel
theorem d_Mod_tick_7 : decode prog_10_method_44_code 7 = .ok (.ifCond .ne 5, 3) := by decide +kernel
theorem d_Mod_tick_10 : decode prog_10_method_44_code 10 = .ok (.iconst (-1), 1) := by decide +kernel
theorem d_Mod_tick_11 : decode prog_10_method_44_code 11 = .ok (.ireturn, 1) := by decide +kernel
theorem d_Mod_tick_12 : decode prog_10_method_44_code 12 = .ok (.iconst 0, 1) := by decide +kernel
theorem d_Mod_tick_13 : decode prog_10_method_44_code 13 = .ok (.istore_n 2, 1) := by decide +kernel
theorem d_Mod_tick_14 : decode prog_10_method_44_code 14 = .ok (.iload_n 2, 1) := by decide +kernel
theorem d_Mod_tick_15 : decode prog_10_method_44_code 15 = .ok (.iload_n 1, 1) := by decide +kernel
theorem d_Mod_tick_16 : decode prog_10_method_44_code 16 = .ok (.if_icmp .ge 13, 3) := by decide +kernel
theorem d_Mod_tick_19 : decode prog_10_method_44_code 19 = .ok (.aload_n 0, 1) := by decide +kernel
theorem d_Mod_tick_20 : decode prog_10_method_44_code 20 = .ok (.invokevirtual 266, 3) := by decide +kernel
theorem d_Mod_tick_23 : decode prog_10_method_44_code 23 = .ok (.iinc 2 1, 3) := by decide +kernel
theorem d_Mod_tick_26 : decode prog_10_method_44_code 26 = .ok (.goto (-12), 3) := by decide +kernel
theorem d_Mod_tick_29 : decode prog_10_method_44_code 29 = .ok (.aload_n 0, 1) := by decide +kernel
theorem d_Mod_tick_30 : decode prog_10_method_44_code 30 = .ok (.getfield 230, 3) := by decide +kernel
theorem d_Mod_tick_33 : decode prog_10_method_44_code 33 = .ok (.ireturn, 1) := by decide +kernel
theorem d_Mod_actor_0 : decode prog_10_method_46_code 0 = .ok (.iload_n 1, 1) := by decide +kernel
theorem d_Mod_actor_1 : decode prog_10_method_46_code 1 = .ok (.iconst 0, 1) := by decide +kernel
theorem d_Mod_actor_2 : decode prog_10_method_46_code 2 = .ok (.aload_n 0, 1) := by decide +kernel
theorem d_Mod_actor_3 : decode prog_10_method_46_code 3 = .ok (.getfield 144, 3) := by decide +kernel
theorem d_Mod_actor_6 : decode prog_10_method_46_code 6 = .ok (.iconst 1, 1) := by decide +kernel
theorem d_Mod_actor_7 : decode prog_10_method_46_code 7 = .ok (.isub, 1) := by decide +kernel
theorem d_Mod_actor_8 : decode prog_10_method_46_code 8 = .ok (.invokestatic 157, 3) := by decide +kernel
theorem d_Mod_actor_11 : decode prog_10_method_46_code 11 = .ok (.ifCond .ne 5, 3) := by decide +kernel
theorem d_Mod_actor_14 : decode prog_10_method_46_code 14 = .ok (.iconst (-1), 1) := by decide +kernel
theorem d_Mod_actor_15 : decode prog_10_method_46_code 15 = .ok (.ireturn, 1) := by decide +kernel
theorem d_Mod_actor_16 : decode prog_10_method_46_code 16 = .ok (.iload_n 2, 1) := by decide +kernel
theorem d_Mod_actor_17 : decode prog_10_method_46_code 17 = .ok (.tableswitch 132 0 8 #[51, 58, 65, 72, 79, 86, 93, 100, 107], 51) := by decide +kernel
theorem d_Mod_actor_68 : decode prog_10_method_46_code 68 = .ok (.aload_n 0, 1) := by decide +kernel
theorem d_Mod_actor_69 : decode prog_10_method_46_code 69 = .ok (.getfield 31, 3) := by decide +kernel
theorem d_Mod_actor_72 : decode prog_10_method_46_code 72 = .ok (.iload_n 1, 1) := by decide +kernel
theorem d_Mod_actor_73 : decode prog_10_method_46_code 73 = .ok (.iaload, 1) := by decide +kernel
theorem d_Mod_actor_74 : decode prog_10_method_46_code 74 = .ok (.ireturn, 1) := by decide +kernel
theorem d_Mod_actor_75 : decode prog_10_method_46_code 75 = .ok (.aload_n 0, 1) := by decide +kernel
theorem d_Mod_actor_76 : decode prog_10_method_46_code 76 = .ok (.getfield 25, 3) := by decide +kernel
theorem d_Mod_actor_79 : decode prog_10_method_46_code 79 = .ok (.iload_n 1, 1) := by decide +kernel
theorem d_Mod_actor_80 : decode prog_10_method_46_code 80 = .ok (.iaload, 1) := by decide +kernel
theorem d_Mod_actor_81 : decode prog_10_method_46_code 81 = .ok (.ireturn, 1) := by decide +kernel
theorem d_Mod_actor_82 : decode prog_10_method_46_code 82 = .ok (.aload_n 0, 1) := by decide +kernel
theorem d_Mod_actor_83 : decode prog_10_method_46_code 83 = .ok (.getfield 28, 3) := by decide +kernel
theorem d_Mod_actor_86 : decode prog_10_method_46_code 86 = .ok (.iload_n 1, 1) := by decide +kernel
theorem d_Mod_actor_87 : decode prog_10_method_46_code 87 = .ok (.iaload, 1) := by decide +kernel
theorem d_Mod_actor_88 : decode prog_10_method_46_code 88 = .ok (.ireturn, 1) := by decide +kernel
theorem d_Mod_actor_89 : decode prog_10_method_46_code 89 = .ok (.aload_n 0, 1) := by decide +kernel
theorem d_Mod_actor_90 : decode prog_10_method_46_code 90 = .ok (.getfield 34, 3) := by decide +kernel
theorem d_Mod_actor_93 : decode prog_10_method_46_code 93 = .ok (.iload_n 1, 1) := by decide +kernel
theorem d_Mod_actor_94 : decode prog_10_method_46_code 94 = .ok (.iaload, 1) := by decide +kernel
theorem d_Mod_actor_95 : decode prog_10_method_46_code 95 = .ok (.ireturn, 1) := by decide +kernel
theorem d_Mod_actor_96 : decode prog_10_method_46_code 96 = .ok (.aload_n 0, 1) := by decide +kernel
theorem d_Mod_actor_97 : decode prog_10_method_46_code 97 = .ok (.getfield 37, 3) := by decide +kernel
theorem d_Mod_actor_100 : decode prog_10_method_46_code 100 = .ok (.iload_n 1, 1) := by decide +kernel
theorem d_Mod_actor_101 : decode prog_10_method_46_code 101 = .ok (.iaload, 1) := by decide +kernel
theorem d_Mod_actor_102 : decode prog_10_method_46_code 102 = .ok (.ireturn, 1) := by decide +kernel
theorem d_Mod_actor_103 : decode prog_10_method_46_code 103 = .ok (.aload_n 0, 1) := by decide +kernel
theorem d_Mod_actor_104 : decode prog_10_method_46_code 104 = .ok (.getfield 40, 3) := by decide +kernel
theorem d_Mod_actor_107 : decode prog_10_method_46_code 107 = .ok (.iload_n 1, 1) := by decide +kernel
theorem d_Mod_actor_108 : decode prog_10_method_46_code 108 = .ok (.iaload, 1) := by decide +kernel
theorem d_Mod_actor_109 : decode prog_10_method_46_code 109 = .ok (.ireturn, 1) := by decide +kernel
theorem d_Mod_actor_110 : decode prog_10_method_46_code 110 = .ok (.aload_n 0, 1) := by decide +kernel
theorem d_Mod_actor_111 : decode prog_10_method_46_code 111 = .ok (.getfield 43, 3) := by decide +kernel
theorem d_Mod_actor_114 : decode prog_10_method_46_code 114 = .ok (.iload_n 1, 1) := by decide +kernel
theorem d_Mod_actor_115 : decode prog_10_method_46_code 115 = .ok (.iaload, 1) := by decide +kernel
theorem d_Mod_actor_116 : decode prog_10_method_46_code 116 = .ok (.ireturn, 1) := by decide +kernel
theorem d_Mod_actor_117 : decode prog_10_method_46_code 117 = .ok (.aload_n 0, 1) := by decide +kernel
theorem d_Mod_actor_118 : decode prog_10_method_46_code 118 = .ok (.getfield 46, 3) := by decide +kernel
theorem d_Mod_actor_121 : decode prog_10_method_46_code 121 = .ok (.iload_n 1, 1) := by decide +kernel
theorem d_Mod_actor_122 : decode prog_10_method_46_code 122 = .ok (.iaload, 1) := by decide +kernel
theorem d_Mod_actor_123 : decode prog_10_method_46_code 123 = .ok (.ireturn, 1) := by decide +kernel
theorem d_Mod_actor_124 : decode prog_10_method_46_code 124 = .ok (.aload_n 0, 1) := by decide +kernel
theorem d_Mod_actor_125 : decode prog_10_method_46_code 125 = .ok (.getfield 49, 3) := by decide +kernel
theorem d_Mod_actor_128 : decode prog_10_method_46_code 128 = .ok (.iload_n 1, 1) := by decide +kernel
theorem d_Mod_actor_129 : decode prog_10_method_46_code 129 = .ok (.iaload, 1) := by decide +kernel
theorem d_Mod_actor_130 : decode prog_10_method_46_code 130 = .ok (.ifCond .ge 7, 3) := by decide +kernel
theorem d_Mod_actor_133 : decode prog_10_method_46_code 133 = .ok (.iconst (-1), 1) := by decide +kernel
theorem d_Mod_actor_134 : decode prog_10_method_46_code 134 = .ok (.goto 14, 3) := by decide +kernel
theorem d_Mod_actor_137 : decode prog_10_method_46_code 137 = .ok (.aload_n 0, 1) := by decide +kernel
theorem d_Mod_actor_138 : decode prog_10_method_46_code 138 = .ok (.getfield 49, 3) := by decide +kernel
theorem d_Mod_actor_141 : decode prog_10_method_46_code 141 = .ok (.iload_n 1, 1) := by decide +kernel
theorem d_Mod_actor_142 : decode prog_10_method_46_code 142 = .ok (.iaload, 1) := by decide +kernel
theorem d_Mod_actor_143 : decode prog_10_method_46_code 143 = .ok (.aload_n 0, 1) := by decide +kernel
theorem d_Mod_actor_144 : decode prog_10_method_46_code 144 = .ok (.getfield 230, 3) := by decide +kernel
theorem d_Mod_actor_147 : decode prog_10_method_46_code 147 = .ok (.isub, 1) := by decide +kernel
theorem d_Mod_actor_148 : decode prog_10_method_46_code 148 = .ok (.ireturn, 1) := by decide +kernel
theorem d_Mod_actor_149 : decode prog_10_method_46_code 149 = .ok (.iconst (-1), 1) := by decide +kernel
theorem d_Mod_actor_150 : decode prog_10_method_46_code 150 = .ok (.ireturn, 1) := by decide +kernel
theorem d_Mod_rowOf_0 : decode prog_10_method_47_code 0 = .ok (.iconst 0, 1) := by decide +kernel
theorem d_Mod_rowOf_1 : decode prog_10_method_47_code 1 = .ok (.istore_n 2, 1) := by decide +kernel
theorem d_Mod_rowOf_2 : decode prog_10_method_47_code 2 = .ok (.iconst 0, 1) := by decide +kernel
theorem d_Mod_rowOf_3 : decode prog_10_method_47_code 3 = .ok (.istore_n 3, 1) := by decide +kernel
theorem d_Mod_rowOf_4 : decode prog_10_method_47_code 4 = .ok (.iload_n 3, 1) := by decide +kernel
theorem d_Mod_rowOf_5 : decode prog_10_method_47_code 5 = .ok (.bipush 8, 2) := by decide +kernel
theorem d_Mod_rowOf_7 : decode prog_10_method_47_code 7 = .ok (.if_icmp .ge 31, 3) := by decide +kernel
theorem d_Mod_rowOf_10 : decode prog_10_method_47_code 10 = .ok (.aload_n 0, 1) := by decide +kernel
theorem d_Mod_rowOf_11 : decode prog_10_method_47_code 11 = .ok (.getfield 104, 3) := by decide +kernel
theorem d_Mod_rowOf_14 : decode prog_10_method_47_code 14 = .ok (.iload_n 3, 1) := by decide +kernel
theorem d_Mod_rowOf_15 : decode prog_10_method_47_code 15 = .ok (.iaload, 1) := by decide +kernel
theorem d_Mod_rowOf_16 : decode prog_10_method_47_code 16 = .ok (.ifCond .ne 16, 3) := by decide +kernel
theorem d_Mod_rowOf_19 : decode prog_10_method_47_code 19 = .ok (.aload_n 0, 1) := by decide +kernel
theorem d_Mod_rowOf_20 : decode prog_10_method_47_code 20 = .ok (.getfield 113, 3) := by decide +kernel
theorem d_Mod_rowOf_23 : decode prog_10_method_47_code 23 = .ok (.iload_n 3, 1) := by decide +kernel
theorem d_Mod_rowOf_24 : decode prog_10_method_47_code 24 = .ok (.iaload, 1) := by decide +kernel
theorem d_Mod_rowOf_25 : decode prog_10_method_47_code 25 = .ok (.iload_n 1, 1) := by decide +kernel
theorem d_Mod_rowOf_26 : decode prog_10_method_47_code 26 = .ok (.if_icmp .ne 6, 3) := by decide +kernel
theorem d_Mod_rowOf_29 : decode prog_10_method_47_code 29 = .ok (.iinc 2 1, 3) := by decide +kernel
theorem d_Mod_rowOf_32 : decode prog_10_method_47_code 32 = .ok (.iinc 3 1, 3) := by decide +kernel
theorem d_Mod_rowOf_35 : decode prog_10_method_47_code 35 = .ok (.goto (-31), 3) := by decide +kernel
theorem d_Mod_rowOf_38 : decode prog_10_method_47_code 38 = .ok (.iload_n 2, 1) := by decide +kernel
theorem d_Mod_rowOf_39 : decode prog_10_method_47_code 39 = .ok (.ireturn, 1) := by decide +kernel
theorem d_Mod_object_0 : decode prog_10_method_48_code 0 = .ok (.iload_n 1, 1) := by decide +kernel
theorem d_Mod_object_1 : decode prog_10_method_48_code 1 = .ok (.iconst 0, 1) := by decide +kernel
theorem d_Mod_object_2 : decode prog_10_method_48_code 2 = .ok (.bipush 15, 2) := by decide +kernel
theorem d_Mod_object_4 : decode prog_10_method_48_code 4 = .ok (.invokestatic 157, 3) := by decide +kernel
theorem d_Mod_object_7 : decode prog_10_method_48_code 7 = .ok (.ifCond .eq 22, 3) := by decide +kernel
theorem d_Mod_object_10 : decode prog_10_method_48_code 10 = .ok (.aload_n 0, 1) := by decide +kernel
theorem d_Mod_object_11 : decode prog_10_method_48_code 11 = .ok (.getfield 67, 3) := by decide +kernel
theorem d_Mod_object_14 : decode prog_10_method_48_code 14 = .ok (.iload_n 1, 1) := by decide +kernel
theorem d_Mod_object_15 : decode prog_10_method_48_code 15 = .ok (.baload, 1) := by decide +kernel
theorem d_Mod_object_16 : decode prog_10_method_48_code 16 = .ok (.ifCond .eq 13, 3) := by decide +kernel
theorem d_Mod_object_19 : decode prog_10_method_48_code 19 = .ok (.iload_n 2, 1) := by decide +kernel
theorem d_Mod_object_20 : decode prog_10_method_48_code 20 = .ok (.iconst 0, 1) := by decide +kernel
theorem d_Mod_object_21 : decode prog_10_method_48_code 21 = .ok (.bipush 7, 2) := by decide +kernel
theorem d_Mod_object_23 : decode prog_10_method_48_code 23 = .ok (.invokestatic 157, 3) := by decide +kernel
theorem d_Mod_object_26 : decode prog_10_method_48_code 26 = .ok (.ifCond .ne 5, 3) := by decide +kernel
theorem d_Mod_object_29 : decode prog_10_method_48_code 29 = .ok (.iconst (-1), 1) := by decide +kernel
theorem d_Mod_object_30 : decode prog_10_method_48_code 30 = .ok (.ireturn, 1) := by decide +kernel
theorem d_Mod_object_31 : decode prog_10_method_48_code 31 = .ok (.aload_n 0, 1) := by decide +kernel
theorem d_Mod_object_32 : decode prog_10_method_48_code 32 = .ok (.getfield 77, 3) := by decide +kernel
theorem d_Mod_object_35 : decode prog_10_method_48_code 35 = .ok (.iload_n 1, 1) := by decide +kernel
theorem d_Mod_object_36 : decode prog_10_method_48_code 36 = .ok (.iaload, 1) := by decide +kernel
theorem d_Mod_object_37 : decode prog_10_method_48_code 37 = .ok (.istore_n 3, 1) := by decide +kernel
theorem d_Mod_object_38 : decode prog_10_method_48_code 38 = .ok (.iload_n 2, 1) := by decide +kernel
theorem d_Mod_object_39 : decode prog_10_method_48_code 39 = .ok (.tableswitch 185 0 6 #[41, 43, 50, 56, 62, 109, 170], 41) := by decide +kernel
theorem d_Mod_object_80 : decode prog_10_method_48_code 80 = .ok (.iload_n 3, 1) := by decide +kernel
theorem d_Mod_object_81 : decode prog_10_method_48_code 81 = .ok (.ireturn, 1) := by decide +kernel
theorem d_Mod_object_82 : decode prog_10_method_48_code 82 = .ok (.aload_n 0, 1) := by decide +kernel
theorem d_Mod_object_83 : decode prog_10_method_48_code 83 = .ok (.getfield 80, 3) := by decide +kernel
theorem d_Mod_object_86 : decode prog_10_method_48_code 86 = .ok (.iload_n 1, 1) := by decide +kernel
theorem d_Mod_object_87 : decode prog_10_method_48_code 87 = .ok (.iaload, 1) := by decide +kernel
theorem d_Mod_object_88 : decode prog_10_method_48_code 88 = .ok (.ireturn, 1) := by decide +kernel
theorem d_Mod_object_89 : decode prog_10_method_48_code 89 = .ok (.aload_n 0, 1) := by decide +kernel
theorem d_Mod_object_90 : decode prog_10_method_48_code 90 = .ok (.iload_n 1, 1) := by decide +kernel
theorem d_Mod_object_91 : decode prog_10_method_48_code 91 = .ok (.invokevirtual 150, 3) := by decide +kernel
theorem d_Mod_object_94 : decode prog_10_method_48_code 94 = .ok (.ireturn, 1) := by decide +kernel
theorem d_Mod_object_95 : decode prog_10_method_48_code 95 = .ok (.aload_n 0, 1) := by decide +kernel
theorem d_Mod_object_96 : decode prog_10_method_48_code 96 = .ok (.iload_n 1, 1) := by decide +kernel
theorem d_Mod_object_97 : decode prog_10_method_48_code 97 = .ok (.invokevirtual 154, 3) := by decide +kernel
theorem d_Mod_object_100 : decode prog_10_method_48_code 100 = .ok (.ireturn, 1) := by decide +kernel
theorem d_Mod_object_101 : decode prog_10_method_48_code 101 = .ok (.iload_n 3, 1) := by decide +kernel
theorem d_Mod_object_102 : decode prog_10_method_48_code 102 = .ok (.iconst 5, 1) := by decide +kernel
theorem d_Mod_object_103 : decode prog_10_method_48_code 103 = .ok (.if_icmp .ne 11, 3) := by decide +kernel
theorem d_Mod_object_106 : decode prog_10_method_48_code 106 = .ok (.aload_n 0, 1) := by decide +kernel
theorem d_Mod_object_107 : decode prog_10_method_48_code 107 = .ok (.iload_n 1, 1) := by decide +kernel
theorem d_Mod_object_108 : decode prog_10_method_48_code 108 = .ok (.invokevirtual 269, 3) := by decide +kernel
theorem d_Mod_object_111 : decode prog_10_method_48_code 111 = .ok (.goto 36, 3) := by decide +kernel
theorem d_Mod_object_114 : decode prog_10_method_48_code 114 = .ok (.iload_n 3, 1) := by decide +kernel
theorem d_Mod_object_115 : decode prog_10_method_48_code 115 = .ok (.iconst 2, 1) := by decide +kernel
theorem d_Mod_object_116 : decode prog_10_method_48_code 116 = .ok (.if_icmp .eq 8, 3) := by decide +kernel
theorem d_Mod_object_119 : decode prog_10_method_48_code 119 = .ok (.iload_n 3, 1) := by decide +kernel
theorem d_Mod_object_120 : decode prog_10_method_48_code 120 = .ok (.iconst 3, 1) := by decide +kernel
theorem d_Mod_object_121 : decode prog_10_method_48_code 121 = .ok (.if_icmp .ne 12, 3) := by decide +kernel
theorem d_Mod_object_124 : decode prog_10_method_48_code 124 = .ok (.aload_n 0, 1) := by decide +kernel
theorem d_Mod_object_125 : decode prog_10_method_48_code 125 = .ok (.getfield 83, 3) := by decide +kernel
theorem d_Mod_object_128 : decode prog_10_method_48_code 128 = .ok (.iload_n 1, 1) := by decide +kernel
theorem d_Mod_object_129 : decode prog_10_method_48_code 129 = .ok (.iaload, 1) := by decide +kernel
theorem d_Mod_object_130 : decode prog_10_method_48_code 130 = .ok (.goto 17, 3) := by decide +kernel
theorem d_Mod_object_133 : decode prog_10_method_48_code 133 = .ok (.aload_n 0, 1) := by decide +kernel
theorem d_Mod_object_134 : decode prog_10_method_48_code 134 = .ok (.getfield 71, 3) := by decide +kernel
theorem d_Mod_object_137 : decode prog_10_method_48_code 137 = .ok (.iload_n 1, 1) := by decide +kernel
theorem d_Mod_object_138 : decode prog_10_method_48_code 138 = .ok (.baload, 1) := by decide +kernel
theorem d_Mod_object_139 : decode prog_10_method_48_code 139 = .ok (.ifCond .eq 7, 3) := by decide +kernel
theorem d_Mod_object_142 : decode prog_10_method_48_code 142 = .ok (.iconst 1, 1) := by decide +kernel
theorem d_Mod_object_143 : decode prog_10_method_48_code 143 = .ok (.goto 4, 3) := by decide +kernel
theorem d_Mod_object_146 : decode prog_10_method_48_code 146 = .ok (.iconst 0, 1) := by decide +kernel
theorem d_Mod_object_147 : decode prog_10_method_48_code 147 = .ok (.ireturn, 1) := by decide +kernel
theorem d_Mod_object_148 : decode prog_10_method_48_code 148 = .ok (.iload_n 3, 1) := by decide +kernel
theorem d_Mod_object_149 : decode prog_10_method_48_code 149 = .ok (.iconst 2, 1) := by decide +kernel
theorem d_Mod_object_150 : decode prog_10_method_48_code 150 = .ok (.if_icmp .ne 12, 3) := by decide +kernel
theorem d_Mod_object_153 : decode prog_10_method_48_code 153 = .ok (.aload_n 0, 1) := by decide +kernel
theorem d_Mod_object_154 : decode prog_10_method_48_code 154 = .ok (.getfield 86, 3) := by decide +kernel
theorem d_Mod_object_157 : decode prog_10_method_48_code 157 = .ok (.iload_n 1, 1) := by decide +kernel
theorem d_Mod_object_158 : decode prog_10_method_48_code 158 = .ok (.iaload, 1) := by decide +kernel
theorem d_Mod_object_159 : decode prog_10_method_48_code 159 = .ok (.goto 49, 3) := by decide +kernel
theorem d_Mod_object_162 : decode prog_10_method_48_code 162 = .ok (.iload_n 3, 1) := by decide +kernel
theorem d_Mod_object_163 : decode prog_10_method_48_code 163 = .ok (.iconst 4, 1) := by decide +kernel
theorem d_Mod_object_164 : decode prog_10_method_48_code 164 = .ok (.if_icmp .ne 30, 3) := by decide +kernel
theorem d_Mod_object_167 : decode prog_10_method_48_code 167 = .ok (.aload_n 0, 1) := by decide +kernel
theorem d_Mod_object_168 : decode prog_10_method_48_code 168 = .ok (.getfield 89, 3) := by decide +kernel
theorem d_Mod_object_171 : decode prog_10_method_48_code 171 = .ok (.iload_n 1, 1) := by decide +kernel
theorem d_Mod_object_172 : decode prog_10_method_48_code 172 = .ok (.iaload, 1) := by decide +kernel
theorem d_Mod_object_173 : decode prog_10_method_48_code 173 = .ok (.ifCond .ne 7, 3) := by decide +kernel
theorem d_Mod_object_176 : decode prog_10_method_48_code 176 = .ok (.iconst 0, 1) := by decide +kernel
theorem d_Mod_object_177 : decode prog_10_method_48_code 177 = .ok (.goto 31, 3) := by decide +kernel
theorem d_Mod_object_180 : decode prog_10_method_48_code 180 = .ok (.aload_n 0, 1) := by decide +kernel
theorem d_Mod_object_181 : decode prog_10_method_48_code 181 = .ok (.getfield 89, 3) := by decide +kernel
theorem d_Mod_object_184 : decode prog_10_method_48_code 184 = .ok (.iload_n 1, 1) := by decide +kernel
theorem d_Mod_object_185 : decode prog_10_method_48_code 185 = .ok (.iaload, 1) := by decide +kernel
theorem d_Mod_object_186 : decode prog_10_method_48_code 186 = .ok (.aload_n 0, 1) := by decide +kernel
theorem d_Mod_object_187 : decode prog_10_method_48_code 187 = .ok (.getfield 230, 3) := by decide +kernel
theorem d_Mod_object_190 : decode prog_10_method_48_code 190 = .ok (.isub, 1) := by decide +kernel
theorem d_Mod_object_191 : decode prog_10_method_48_code 191 = .ok (.goto 17, 3) := by decide +kernel
theorem d_Mod_object_194 : decode prog_10_method_48_code 194 = .ok (.iload_n 3, 1) := by decide +kernel
theorem d_Mod_object_195 : decode prog_10_method_48_code 195 = .ok (.iconst 5, 1) := by decide +kernel
theorem d_Mod_object_196 : decode prog_10_method_48_code 196 = .ok (.if_icmp .ne 11, 3) := by decide +kernel
theorem d_Mod_object_199 : decode prog_10_method_48_code 199 = .ok (.aload_n 0, 1) := by decide +kernel
theorem d_Mod_object_200 : decode prog_10_method_48_code 200 = .ok (.iload_n 1, 1) := by decide +kernel
theorem d_Mod_object_201 : decode prog_10_method_48_code 201 = .ok (.invokevirtual 256, 3) := by decide +kernel
theorem d_Mod_object_204 : decode prog_10_method_48_code 204 = .ok (.goto 4, 3) := by decide +kernel
theorem d_Mod_object_207 : decode prog_10_method_48_code 207 = .ok (.iconst 0, 1) := by decide +kernel
theorem d_Mod_object_208 : decode prog_10_method_48_code 208 = .ok (.ireturn, 1) := by decide +kernel
theorem d_Mod_object_209 : decode prog_10_method_48_code 209 = .ok (.aload_n 0, 1) := by decide +kernel
theorem d_Mod_object_210 : decode prog_10_method_48_code 210 = .ok (.getfield 74, 3) := by decide +kernel
theorem d_Mod_object_213 : decode prog_10_method_48_code 213 = .ok (.iload_n 1, 1) := by decide +kernel
theorem d_Mod_object_214 : decode prog_10_method_48_code 214 = .ok (.baload, 1) := by decide +kernel
theorem d_Mod_object_215 : decode prog_10_method_48_code 215 = .ok (.ifCond .eq 7, 3) := by decide +kernel
theorem d_Mod_object_218 : decode prog_10_method_48_code 218 = .ok (.iconst 1, 1) := by decide +kernel
theorem d_Mod_object_219 : decode prog_10_method_48_code 219 = .ok (.goto 4, 3) := by decide +kernel
theorem d_Mod_object_222 : decode prog_10_method_48_code 222 = .ok (.iconst 0, 1) := by decide +kernel
theorem d_Mod_object_223 : decode prog_10_method_48_code 223 = .ok (.ireturn, 1) := by decide +kernel
theorem d_Mod_object_224 : decode prog_10_method_48_code 224 = .ok (.aload_n 0, 1) := by decide +kernel
theorem d_Mod_object_225 : decode prog_10_method_48_code 225 = .ok (.getfield 92, 3) := by decide +kernel
theorem d_Mod_object_228 : decode prog_10_method_48_code 228 = .ok (.iload_n 1, 1) := by decide +kernel
theorem d_Mod_object_229 : decode prog_10_method_48_code 229 = .ok (.iaload, 1) := by decide +kernel
theorem d_Mod_object_230 : decode prog_10_method_48_code 230 = .ok (.ireturn, 1) := by decide +kernel
theorem d_Mod_io_0 : decode prog_10_method_49_code 0 = .ok (.iload_n 1, 1) := by decide +kernel
theorem d_Mod_io_1 : decode prog_10_method_49_code 1 = .ok (.iconst 0, 1) := by decide +kernel
theorem d_Mod_io_2 : decode prog_10_method_49_code 2 = .ok (.bipush 7, 2) := by decide +kernel
theorem d_Mod_io_4 : decode prog_10_method_49_code 4 = .ok (.invokestatic 157, 3) := by decide +kernel
theorem d_Mod_io_7 : decode prog_10_method_49_code 7 = .ok (.ifCond .eq 12, 3) := by decide +kernel
theorem d_Mod_io_10 : decode prog_10_method_49_code 10 = .ok (.aload_n 0, 1) := by decide +kernel
theorem d_Mod_io_11 : decode prog_10_method_49_code 11 = .ok (.getfield 104, 3) := by decide +kernel
theorem d_Mod_io_14 : decode prog_10_method_49_code 14 = .ok (.iload_n 1, 1) := by decide +kernel
theorem d_Mod_io_15 : decode prog_10_method_49_code 15 = .ok (.iaload, 1) := by decide +kernel
theorem d_Mod_io_16 : decode prog_10_method_49_code 16 = .ok (.ifCond .ge 5, 3) := by decide +kernel
theorem d_Mod_io_19 : decode prog_10_method_49_code 19 = .ok (.iconst (-1), 1) := by decide +kernel
theorem d_Mod_io_20 : decode prog_10_method_49_code 20 = .ok (.ireturn, 1) := by decide +kernel
theorem d_Mod_io_21 : decode prog_10_method_49_code 21 = .ok (.iload_n 2, 1) := by decide +kernel
theorem d_Mod_io_22 : decode prog_10_method_49_code 22 = .ok (.tableswitch 116 0 6 #[42, 49, 56, 63, 70, 77, 101], 42) := by decide +kernel
theorem d_Mod_io_64 : decode prog_10_method_49_code 64 = .ok (.aload_n 0, 1) := by decide +kernel
theorem d_Mod_io_65 : decode prog_10_method_49_code 65 = .ok (.getfield 104, 3) := by decide +kernel
theorem d_Mod_io_68 : decode prog_10_method_49_code 68 = .ok (.iload_n 1, 1) := by decide +kernel
theorem d_Mod_io_69 : decode prog_10_method_49_code 69 = .ok (.iaload, 1) := by decide +kernel
theorem d_Mod_io_70 : decode prog_10_method_49_code 70 = .ok (.ireturn, 1) := by decide +kernel
theorem d_Mod_io_71 : decode prog_10_method_49_code 71 = .ok (.aload_n 0, 1) := by decide +kernel
theorem d_Mod_io_72 : decode prog_10_method_49_code 72 = .ok (.getfield 107, 3) := by decide +kernel
theorem d_Mod_io_75 : decode prog_10_method_49_code 75 = .ok (.iload_n 1, 1) := by decide +kernel
theorem d_Mod_io_76 : decode prog_10_method_49_code 76 = .ok (.iaload, 1) := by decide +kernel
theorem d_Mod_io_77 : decode prog_10_method_49_code 77 = .ok (.ireturn, 1) := by decide +kernel
theorem d_Mod_io_78 : decode prog_10_method_49_code 78 = .ok (.aload_n 0, 1) := by decide +kernel
theorem d_Mod_io_79 : decode prog_10_method_49_code 79 = .ok (.getfield 110, 3) := by decide +kernel
theorem d_Mod_io_82 : decode prog_10_method_49_code 82 = .ok (.iload_n 1, 1) := by decide +kernel
theorem d_Mod_io_83 : decode prog_10_method_49_code 83 = .ok (.iaload, 1) := by decide +kernel
theorem d_Mod_io_84 : decode prog_10_method_49_code 84 = .ok (.ireturn, 1) := by decide +kernel
theorem d_Mod_io_85 : decode prog_10_method_49_code 85 = .ok (.aload_n 0, 1) := by decide +kernel
theorem d_Mod_io_86 : decode prog_10_method_49_code 86 = .ok (.getfield 113, 3) := by decide +kernel
theorem d_Mod_io_89 : decode prog_10_method_49_code 89 = .ok (.iload_n 1, 1) := by decide +kernel
theorem d_Mod_io_90 : decode prog_10_method_49_code 90 = .ok (.iaload, 1) := by decide +kernel
theorem d_Mod_io_91 : decode prog_10_method_49_code 91 = .ok (.ireturn, 1) := by decide +kernel
theorem d_Mod_io_92 : decode prog_10_method_49_code 92 = .ok (.aload_n 0, 1) := by decide +kernel
theorem d_Mod_io_93 : decode prog_10_method_49_code 93 = .ok (.getfield 116, 3) := by decide +kernel
theorem d_Mod_io_96 : decode prog_10_method_49_code 96 = .ok (.iload_n 1, 1) := by decide +kernel
theorem d_Mod_io_97 : decode prog_10_method_49_code 97 = .ok (.iaload, 1) := by decide +kernel
theorem d_Mod_io_98 : decode prog_10_method_49_code 98 = .ok (.ireturn, 1) := by decide +kernel
theorem d_Mod_io_99 : decode prog_10_method_49_code 99 = .ok (.aload_n 0, 1) := by decide +kernel
theorem d_Mod_io_100 : decode prog_10_method_49_code 100 = .ok (.getfield 125, 3) := by decide +kernel
theorem d_Mod_io_103 : decode prog_10_method_49_code 103 = .ok (.iload_n 1, 1) := by decide +kernel
theorem d_Mod_io_104 : decode prog_10_method_49_code 104 = .ok (.baload, 1) := by decide +kernel
theorem d_Mod_io_105 : decode prog_10_method_49_code 105 = .ok (.ifCond .eq 16, 3) := by decide +kernel
theorem d_Mod_io_108 : decode prog_10_method_49_code 108 = .ok (.aload_n 0, 1) := by decide +kernel
theorem d_Mod_io_109 : decode prog_10_method_49_code 109 = .ok (.getfield 104, 3) := by decide +kernel
theorem d_Mod_io_112 : decode prog_10_method_49_code 112 = .ok (.iload_n 1, 1) := by decide +kernel
theorem d_Mod_io_113 : decode prog_10_method_49_code 113 = .ok (.iaload, 1) := by decide +kernel
theorem d_Mod_io_114 : decode prog_10_method_49_code 114 = .ok (.ifCond .ne 7, 3) := by decide +kernel
theorem d_Mod_io_117 : decode prog_10_method_49_code 117 = .ok (.iconst 1, 1) := by decide +kernel
theorem d_Mod_io_118 : decode prog_10_method_49_code 118 = .ok (.goto 4, 3) := by decide +kernel
theorem d_Mod_io_121 : decode prog_10_method_49_code 121 = .ok (.iconst 0, 1) := by decide +kernel
theorem d_Mod_io_122 : decode prog_10_method_49_code 122 = .ok (.ireturn, 1) := by decide +kernel
theorem d_Mod_io_123 : decode prog_10_method_49_code 123 = .ok (.aload_n 0, 1) := by decide +kernel
theorem d_Mod_io_124 : decode prog_10_method_49_code 124 = .ok (.getfield 128, 3) := by decide +kernel
theorem d_Mod_io_127 : decode prog_10_method_49_code 127 = .ok (.iload_n 1, 1) := by decide +kernel
theorem d_Mod_io_128 : decode prog_10_method_49_code 128 = .ok (.baload, 1) := by decide +kernel
theorem d_Mod_io_129 : decode prog_10_method_49_code 129 = .ok (.ifCond .eq 7, 3) := by decide +kernel
theorem d_Mod_io_132 : decode prog_10_method_49_code 132 = .ok (.iconst 1, 1) := by decide +kernel
theorem d_Mod_io_133 : decode prog_10_method_49_code 133 = .ok (.goto 4, 3) := by decide +kernel
theorem d_Mod_io_136 : decode prog_10_method_49_code 136 = .ok (.iconst 0, 1) := by decide +kernel
theorem d_Mod_io_137 : decode prog_10_method_49_code 137 = .ok (.ireturn, 1) := by decide +kernel
theorem d_Mod_io_138 : decode prog_10_method_49_code 138 = .ok (.iconst (-1), 1) := by decide +kernel
theorem d_Mod_io_139 : decode prog_10_method_49_code 139 = .ok (.ireturn, 1) := by decide +kernel
theorem d_Mod_handle_0 : decode prog_10_method_50_code 0 = .ok (.iload_n 1, 1) := by decide +kernel
