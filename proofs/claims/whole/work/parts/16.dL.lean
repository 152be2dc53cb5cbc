theorem d_L_law_0 : decode code 0 = .ok (.new 7, 3) := by decide +kernel
theorem d_L_law_3 : decode code 3 = .ok (.dup, 1) := by decide +kernel
theorem d_L_law_4 : decode code 4 = .ok (.invokespecial 9, 3) := by decide +kernel
theorem d_L_law_7 : decode code 7 = .ok (.astore_n 1, 1) := by decide +kernel
theorem d_L_law_8 : decode code 8 = .ok (.new 10, 3) := by decide +kernel
theorem d_L_law_11 : decode code 11 = .ok (.dup, 1) := by decide +kernel
theorem d_L_law_12 : decode code 12 = .ok (.invokespecial 12, 3) := by decide +kernel
theorem d_L_law_15 : decode code 15 = .ok (.astore_n 2, 1) := by decide +kernel
theorem d_L_law_16 : decode code 16 = .ok (.iconst 0, 1) := by decide +kernel
theorem d_L_law_17 : decode code 17 = .ok (.istore_n 3, 1) := by decide +kernel
theorem d_L_law_18 : decode code 18 = .ok (.iload_n 3, 1) := by decide +kernel
theorem d_L_law_19 : decode code 19 = .ok (.aload_n 0, 1) := by decide +kernel
theorem d_L_law_20 : decode code 20 = .ok (.arraylength, 1) := by decide +kernel
theorem d_L_law_21 : decode code 21 = .ok (.iconst 4, 1) := by decide +kernel
theorem d_L_law_22 : decode code 22 = .ok (.isub, 1) := by decide +kernel
theorem d_L_law_23 : decode code 23 = .ok (.if_icmp .gt 476, 3) := by decide +kernel
theorem d_L_law_26 : decode code 26 = .ok (.aload_n 0, 1) := by decide +kernel
theorem d_L_law_27 : decode code 27 = .ok (.iload_n 3, 1) := by decide +kernel
theorem d_L_law_28 : decode code 28 = .ok (.iaload, 1) := by decide +kernel
theorem d_L_law_29 : decode code 29 = .ok (.bipush 15, 2) := by decide +kernel
theorem d_L_law_31 : decode code 31 = .ok (.iand, 1) := by decide +kernel
theorem d_L_law_32 : decode code 32 = .ok (.tableswitch 461 0 12 #[68, 131, 144, 157, 180, 213, 247, 280, 324, 348, 381, 425, 438], 68) := by decide +kernel
theorem d_L_law_100 : decode code 100 = .ok (.aload_n 1, 1) := by decide +kernel
theorem d_L_law_101 : decode code 101 = .ok (.aload_n 0, 1) := by decide +kernel
theorem d_L_law_102 : decode code 102 = .ok (.iload_n 3, 1) := by decide +kernel
theorem d_L_law_103 : decode code 103 = .ok (.iconst 1, 1) := by decide +kernel
theorem d_L_law_104 : decode code 104 = .ok (.iadd, 1) := by decide +kernel
theorem d_L_law_105 : decode code 105 = .ok (.iaload, 1) := by decide +kernel
theorem d_L_law_106 : decode code 106 = .ok (.i2l, 1) := by decide +kernel
theorem d_L_law_107 : decode code 107 = .ok (.bipush 32, 2) := by decide +kernel
theorem d_L_law_109 : decode code 109 = .ok (.lshl, 1) := by decide +kernel
theorem d_L_law_110 : decode code 110 = .ok (.aload_n 0, 1) := by decide +kernel
theorem d_L_law_111 : decode code 111 = .ok (.iload_n 3, 1) := by decide +kernel
theorem d_L_law_112 : decode code 112 = .ok (.iconst 2, 1) := by decide +kernel
theorem d_L_law_113 : decode code 113 = .ok (.iadd, 1) := by decide +kernel
theorem d_L_law_114 : decode code 114 = .ok (.iaload, 1) := by decide +kernel
theorem d_L_law_115 : decode code 115 = .ok (.i2l, 1) := by decide +kernel
theorem d_L_law_116 : decode code 116 = .ok (.ldc2_w 13, 3) := by decide +kernel
theorem d_L_law_119 : decode code 119 = .ok (.land, 1) := by decide +kernel
theorem d_L_law_120 : decode code 120 = .ok (.lor, 1) := by decide +kernel
theorem d_L_law_121 : decode code 121 = .ok (.aload_n 0, 1) := by decide +kernel
theorem d_L_law_122 : decode code 122 = .ok (.iload_n 3, 1) := by decide +kernel
theorem d_L_law_123 : decode code 123 = .ok (.iconst 3, 1) := by decide +kernel
theorem d_L_law_124 : decode code 124 = .ok (.iadd, 1) := by decide +kernel
theorem d_L_law_125 : decode code 125 = .ok (.iaload, 1) := by decide +kernel
theorem d_L_law_126 : decode code 126 = .ok (.invokevirtual 15, 3) := by decide +kernel
theorem d_L_law_129 : decode code 129 = .ok (.aload_n 2, 1) := by decide +kernel
theorem d_L_law_130 : decode code 130 = .ok (.aload_n 0, 1) := by decide +kernel
theorem d_L_law_131 : decode code 131 = .ok (.iload_n 3, 1) := by decide +kernel
theorem d_L_law_132 : decode code 132 = .ok (.iconst 1, 1) := by decide +kernel
theorem d_L_law_133 : decode code 133 = .ok (.iadd, 1) := by decide +kernel
theorem d_L_law_134 : decode code 134 = .ok (.iaload, 1) := by decide +kernel
theorem d_L_law_135 : decode code 135 = .ok (.i2l, 1) := by decide +kernel
theorem d_L_law_136 : decode code 136 = .ok (.bipush 32, 2) := by decide +kernel
theorem d_L_law_138 : decode code 138 = .ok (.lshl, 1) := by decide +kernel
theorem d_L_law_139 : decode code 139 = .ok (.aload_n 0, 1) := by decide +kernel
theorem d_L_law_140 : decode code 140 = .ok (.iload_n 3, 1) := by decide +kernel
theorem d_L_law_141 : decode code 141 = .ok (.iconst 2, 1) := by decide +kernel
theorem d_L_law_142 : decode code 142 = .ok (.iadd, 1) := by decide +kernel
theorem d_L_law_143 : decode code 143 = .ok (.iaload, 1) := by decide +kernel
theorem d_L_law_144 : decode code 144 = .ok (.i2l, 1) := by decide +kernel
theorem d_L_law_145 : decode code 145 = .ok (.ldc2_w 13, 3) := by decide +kernel
theorem d_L_law_148 : decode code 148 = .ok (.land, 1) := by decide +kernel
theorem d_L_law_149 : decode code 149 = .ok (.lor, 1) := by decide +kernel
theorem d_L_law_150 : decode code 150 = .ok (.aload_n 0, 1) := by decide +kernel
theorem d_L_law_151 : decode code 151 = .ok (.iload_n 3, 1) := by decide +kernel
theorem d_L_law_152 : decode code 152 = .ok (.iconst 3, 1) := by decide +kernel
theorem d_L_law_153 : decode code 153 = .ok (.iadd, 1) := by decide +kernel
theorem d_L_law_154 : decode code 154 = .ok (.iaload, 1) := by decide +kernel
theorem d_L_law_155 : decode code 155 = .ok (.invokevirtual 19, 3) := by decide +kernel
theorem d_L_law_158 : decode code 158 = .ok (.if_icmp .eq 335, 3) := by decide +kernel
theorem d_L_law_161 : decode code 161 = .ok (.iconst 0, 1) := by decide +kernel
theorem d_L_law_162 : decode code 162 = .ok (.ireturn, 1) := by decide +kernel
theorem d_L_law_163 : decode code 163 = .ok (.aload_n 1, 1) := by decide +kernel
theorem d_L_law_164 : decode code 164 = .ok (.invokevirtual 20, 3) := by decide +kernel
theorem d_L_law_167 : decode code 167 = .ok (.aload_n 2, 1) := by decide +kernel
theorem d_L_law_168 : decode code 168 = .ok (.invokevirtual 24, 3) := by decide +kernel
theorem d_L_law_171 : decode code 171 = .ok (.if_icmp .eq 322, 3) := by decide +kernel
theorem d_L_law_174 : decode code 174 = .ok (.iconst 0, 1) := by decide +kernel
theorem d_L_law_175 : decode code 175 = .ok (.ireturn, 1) := by decide +kernel
theorem d_L_law_176 : decode code 176 = .ok (.aload_n 1, 1) := by decide +kernel
theorem d_L_law_177 : decode code 177 = .ok (.invokevirtual 25, 3) := by decide +kernel
theorem d_L_law_180 : decode code 180 = .ok (.aload_n 2, 1) := by decide +kernel
theorem d_L_law_181 : decode code 181 = .ok (.invokevirtual 28, 3) := by decide +kernel
theorem d_L_law_184 : decode code 184 = .ok (.if_icmp .eq 309, 3) := by decide +kernel
theorem d_L_law_187 : decode code 187 = .ok (.iconst 0, 1) := by decide +kernel
theorem d_L_law_188 : decode code 188 = .ok (.ireturn, 1) := by decide +kernel
theorem d_L_law_189 : decode code 189 = .ok (.aload_n 1, 1) := by decide +kernel
theorem d_L_law_190 : decode code 190 = .ok (.aload_n 0, 1) := by decide +kernel
theorem d_L_law_191 : decode code 191 = .ok (.iload_n 3, 1) := by decide +kernel
theorem d_L_law_192 : decode code 192 = .ok (.iconst 1, 1) := by decide +kernel
theorem d_L_law_193 : decode code 193 = .ok (.iadd, 1) := by decide +kernel
theorem d_L_law_194 : decode code 194 = .ok (.iaload, 1) := by decide +kernel
theorem d_L_law_195 : decode code 195 = .ok (.invokevirtual 29, 3) := by decide +kernel
theorem d_L_law_198 : decode code 198 = .ok (.aload_n 2, 1) := by decide +kernel
theorem d_L_law_199 : decode code 199 = .ok (.aload_n 0, 1) := by decide +kernel
theorem d_L_law_200 : decode code 200 = .ok (.iload_n 3, 1) := by decide +kernel
theorem d_L_law_201 : decode code 201 = .ok (.iconst 1, 1) := by decide +kernel
theorem d_L_law_202 : decode code 202 = .ok (.iadd, 1) := by decide +kernel
theorem d_L_law_203 : decode code 203 = .ok (.iaload, 1) := by decide +kernel
theorem d_L_law_204 : decode code 204 = .ok (.invokevirtual 33, 3) := by decide +kernel
theorem d_L_law_207 : decode code 207 = .ok (.if_icmp .eq 286, 3) := by decide +kernel
theorem d_L_law_210 : decode code 210 = .ok (.iconst 0, 1) := by decide +kernel
theorem d_L_law_211 : decode code 211 = .ok (.ireturn, 1) := by decide +kernel
theorem d_L_law_212 : decode code 212 = .ok (.aload_n 1, 1) := by decide +kernel
theorem d_L_law_213 : decode code 213 = .ok (.aload_n 0, 1) := by decide +kernel
theorem d_L_law_214 : decode code 214 = .ok (.iload_n 3, 1) := by decide +kernel
theorem d_L_law_215 : decode code 215 = .ok (.iconst 1, 1) := by decide +kernel
theorem d_L_law_216 : decode code 216 = .ok (.iadd, 1) := by decide +kernel
theorem d_L_law_217 : decode code 217 = .ok (.iaload, 1) := by decide +kernel
theorem d_L_law_218 : decode code 218 = .ok (.aload_n 0, 1) := by decide +kernel
theorem d_L_law_219 : decode code 219 = .ok (.iload_n 3, 1) := by decide +kernel
theorem d_L_law_220 : decode code 220 = .ok (.iconst 2, 1) := by decide +kernel
theorem d_L_law_221 : decode code 221 = .ok (.iadd, 1) := by decide +kernel
theorem d_L_law_222 : decode code 222 = .ok (.iaload, 1) := by decide +kernel
theorem d_L_law_223 : decode code 223 = .ok (.invokevirtual 34, 3) := by decide +kernel
theorem d_L_law_226 : decode code 226 = .ok (.aload_n 2, 1) := by decide +kernel
theorem d_L_law_227 : decode code 227 = .ok (.aload_n 0, 1) := by decide +kernel
theorem d_L_law_228 : decode code 228 = .ok (.iload_n 3, 1) := by decide +kernel
theorem d_L_law_229 : decode code 229 = .ok (.iconst 1, 1) := by decide +kernel
theorem d_L_law_230 : decode code 230 = .ok (.iadd, 1) := by decide +kernel
theorem d_L_law_231 : decode code 231 = .ok (.iaload, 1) := by decide +kernel
theorem d_L_law_232 : decode code 232 = .ok (.aload_n 0, 1) := by decide +kernel
theorem d_L_law_233 : decode code 233 = .ok (.iload_n 3, 1) := by decide +kernel
theorem d_L_law_234 : decode code 234 = .ok (.iconst 2, 1) := by decide +kernel
theorem d_L_law_235 : decode code 235 = .ok (.iadd, 1) := by decide +kernel
theorem d_L_law_236 : decode code 236 = .ok (.iaload, 1) := by decide +kernel
theorem d_L_law_237 : decode code 237 = .ok (.invokevirtual 38, 3) := by decide +kernel
theorem d_L_law_240 : decode code 240 = .ok (.if_icmp .eq 253, 3) := by decide +kernel
theorem d_L_law_243 : decode code 243 = .ok (.iconst 0, 1) := by decide +kernel
theorem d_L_law_244 : decode code 244 = .ok (.ireturn, 1) := by decide +kernel
theorem d_L_law_245 : decode code 245 = .ok (.aload_n 1, 1) := by decide +kernel
theorem d_L_law_246 : decode code 246 = .ok (.aload_n 0, 1) := by decide +kernel
theorem d_L_law_247 : decode code 247 = .ok (.iload_n 3, 1) := by decide +kernel
theorem d_L_law_248 : decode code 248 = .ok (.iconst 1, 1) := by decide +kernel
theorem d_L_law_249 : decode code 249 = .ok (.iadd, 1) := by decide +kernel
theorem d_L_law_250 : decode code 250 = .ok (.iaload, 1) := by decide +kernel
theorem d_L_law_251 : decode code 251 = .ok (.aload_n 0, 1) := by decide +kernel
theorem d_L_law_252 : decode code 252 = .ok (.iload_n 3, 1) := by decide +kernel
theorem d_L_law_253 : decode code 253 = .ok (.iconst 2, 1) := by decide +kernel
theorem d_L_law_254 : decode code 254 = .ok (.iadd, 1) := by decide +kernel
theorem d_L_law_255 : decode code 255 = .ok (.iaload, 1) := by decide +kernel
theorem d_L_law_256 : decode code 256 = .ok (.invokevirtual 39, 3) := by decide +kernel
theorem d_L_law_259 : decode code 259 = .ok (.aload_n 2, 1) := by decide +kernel
theorem d_L_law_260 : decode code 260 = .ok (.aload_n 0, 1) := by decide +kernel
theorem d_L_law_261 : decode code 261 = .ok (.iload_n 3, 1) := by decide +kernel
theorem d_L_law_262 : decode code 262 = .ok (.iconst 1, 1) := by decide +kernel
theorem d_L_law_263 : decode code 263 = .ok (.iadd, 1) := by decide +kernel
theorem d_L_law_264 : decode code 264 = .ok (.iaload, 1) := by decide +kernel
theorem d_L_law_265 : decode code 265 = .ok (.aload_n 0, 1) := by decide +kernel
theorem d_L_law_266 : decode code 266 = .ok (.iload_n 3, 1) := by decide +kernel
theorem d_L_law_267 : decode code 267 = .ok (.iconst 2, 1) := by decide +kernel
theorem d_L_law_268 : decode code 268 = .ok (.iadd, 1) := by decide +kernel
theorem d_L_law_269 : decode code 269 = .ok (.iaload, 1) := by decide +kernel
theorem d_L_law_270 : decode code 270 = .ok (.invokevirtual 43, 3) := by decide +kernel
theorem d_L_law_273 : decode code 273 = .ok (.lcmp, 1) := by decide +kernel
theorem d_L_law_274 : decode code 274 = .ok (.ifCond .eq 219, 3) := by decide +kernel
theorem d_L_law_277 : decode code 277 = .ok (.iconst 0, 1) := by decide +kernel
theorem d_L_law_278 : decode code 278 = .ok (.ireturn, 1) := by decide +kernel
theorem d_L_law_279 : decode code 279 = .ok (.aload_n 1, 1) := by decide +kernel
theorem d_L_law_280 : decode code 280 = .ok (.aload_n 0, 1) := by decide +kernel
theorem d_L_law_281 : decode code 281 = .ok (.iload_n 3, 1) := by decide +kernel
theorem d_L_law_282 : decode code 282 = .ok (.iconst 1, 1) := by decide +kernel
theorem d_L_law_283 : decode code 283 = .ok (.iadd, 1) := by decide +kernel
theorem d_L_law_284 : decode code 284 = .ok (.iaload, 1) := by decide +kernel
theorem d_L_law_285 : decode code 285 = .ok (.aload_n 0, 1) := by decide +kernel
theorem d_L_law_286 : decode code 286 = .ok (.iload_n 3, 1) := by decide +kernel
theorem d_L_law_287 : decode code 287 = .ok (.iconst 2, 1) := by decide +kernel
theorem d_L_law_288 : decode code 288 = .ok (.iadd, 1) := by decide +kernel
theorem d_L_law_289 : decode code 289 = .ok (.iaload, 1) := by decide +kernel
theorem d_L_law_290 : decode code 290 = .ok (.invokevirtual 44, 3) := by decide +kernel
theorem d_L_law_293 : decode code 293 = .ok (.aload_n 2, 1) := by decide +kernel
theorem d_L_law_294 : decode code 294 = .ok (.aload_n 0, 1) := by decide +kernel
theorem d_L_law_295 : decode code 295 = .ok (.iload_n 3, 1) := by decide +kernel
theorem d_L_law_296 : decode code 296 = .ok (.iconst 1, 1) := by decide +kernel
theorem d_L_law_297 : decode code 297 = .ok (.iadd, 1) := by decide +kernel
theorem d_L_law_298 : decode code 298 = .ok (.iaload, 1) := by decide +kernel
theorem d_L_law_299 : decode code 299 = .ok (.aload_n 0, 1) := by decide +kernel
theorem d_L_law_300 : decode code 300 = .ok (.iload_n 3, 1) := by decide +kernel
theorem d_L_law_301 : decode code 301 = .ok (.iconst 2, 1) := by decide +kernel
theorem d_L_law_302 : decode code 302 = .ok (.iadd, 1) := by decide +kernel
theorem d_L_law_303 : decode code 303 = .ok (.iaload, 1) := by decide +kernel
theorem d_L_law_304 : decode code 304 = .ok (.invokevirtual 47, 3) := by decide +kernel
theorem d_L_law_307 : decode code 307 = .ok (.if_icmp .eq 186, 3) := by decide +kernel
theorem d_L_law_310 : decode code 310 = .ok (.iconst 0, 1) := by decide +kernel
theorem d_L_law_311 : decode code 311 = .ok (.ireturn, 1) := by decide +kernel
theorem d_L_law_312 : decode code 312 = .ok (.aload_n 1, 1) := by decide +kernel
theorem d_L_law_313 : decode code 313 = .ok (.aload_n 0, 1) := by decide +kernel
theorem d_L_law_314 : decode code 314 = .ok (.iload_n 3, 1) := by decide +kernel
theorem d_L_law_315 : decode code 315 = .ok (.iconst 1, 1) := by decide +kernel
theorem d_L_law_316 : decode code 316 = .ok (.iadd, 1) := by decide +kernel
theorem d_L_law_317 : decode code 317 = .ok (.iaload, 1) := by decide +kernel
theorem d_L_law_318 : decode code 318 = .ok (.aload_n 0, 1) := by decide +kernel
theorem d_L_law_319 : decode code 319 = .ok (.iload_n 3, 1) := by decide +kernel
theorem d_L_law_320 : decode code 320 = .ok (.iconst 2, 1) := by decide +kernel
theorem d_L_law_321 : decode code 321 = .ok (.iadd, 1) := by decide +kernel
theorem d_L_law_322 : decode code 322 = .ok (.iaload, 1) := by decide +kernel
theorem d_L_law_323 : decode code 323 = .ok (.aload_n 0, 1) := by decide +kernel
theorem d_L_law_324 : decode code 324 = .ok (.iload_n 3, 1) := by decide +kernel
theorem d_L_law_325 : decode code 325 = .ok (.iconst 3, 1) := by decide +kernel
theorem d_L_law_326 : decode code 326 = .ok (.iadd, 1) := by decide +kernel
theorem d_L_law_327 : decode code 327 = .ok (.iaload, 1) := by decide +kernel
theorem d_L_law_328 : decode code 328 = .ok (.invokevirtual 48, 3) := by decide +kernel
theorem d_L_law_331 : decode code 331 = .ok (.aload_n 2, 1) := by decide +kernel
theorem d_L_law_332 : decode code 332 = .ok (.aload_n 0, 1) := by decide +kernel
theorem d_L_law_333 : decode code 333 = .ok (.iload_n 3, 1) := by decide +kernel
theorem d_L_law_334 : decode code 334 = .ok (.iconst 1, 1) := by decide +kernel
theorem d_L_law_335 : decode code 335 = .ok (.iadd, 1) := by decide +kernel
theorem d_L_law_336 : decode code 336 = .ok (.iaload, 1) := by decide +kernel
theorem d_L_law_337 : decode code 337 = .ok (.aload_n 0, 1) := by decide +kernel
theorem d_L_law_338 : decode code 338 = .ok (.iload_n 3, 1) := by decide +kernel
theorem d_L_law_339 : decode code 339 = .ok (.iconst 2, 1) := by decide +kernel
theorem d_L_law_340 : decode code 340 = .ok (.iadd, 1) := by decide +kernel
theorem d_L_law_341 : decode code 341 = .ok (.iaload, 1) := by decide +kernel
theorem d_L_law_342 : decode code 342 = .ok (.aload_n 0, 1) := by decide +kernel
theorem d_L_law_343 : decode code 343 = .ok (.iload_n 3, 1) := by decide +kernel
theorem d_L_law_344 : decode code 344 = .ok (.iconst 3, 1) := by decide +kernel
theorem d_L_law_345 : decode code 345 = .ok (.iadd, 1) := by decide +kernel
theorem d_L_law_346 : decode code 346 = .ok (.iaload, 1) := by decide +kernel
theorem d_L_law_347 : decode code 347 = .ok (.invokevirtual 52, 3) := by decide +kernel
theorem d_L_law_350 : decode code 350 = .ok (.lcmp, 1) := by decide +kernel
theorem d_L_law_351 : decode code 351 = .ok (.ifCond .eq 142, 3) := by decide +kernel
theorem d_L_law_354 : decode code 354 = .ok (.iconst 0, 1) := by decide +kernel
theorem d_L_law_355 : decode code 355 = .ok (.ireturn, 1) := by decide +kernel
theorem d_L_law_356 : decode code 356 = .ok (.aload_n 1, 1) := by decide +kernel
theorem d_L_law_357 : decode code 357 = .ok (.aload_n 0, 1) := by decide +kernel
theorem d_L_law_358 : decode code 358 = .ok (.iload_n 3, 1) := by decide +kernel
theorem d_L_law_359 : decode code 359 = .ok (.iconst 1, 1) := by decide +kernel
theorem d_L_law_360 : decode code 360 = .ok (.iadd, 1) := by decide +kernel
theorem d_L_law_361 : decode code 361 = .ok (.iaload, 1) := by decide +kernel
theorem d_L_law_362 : decode code 362 = .ok (.invokevirtual 53, 3) := by decide +kernel
theorem d_L_law_365 : decode code 365 = .ok (.aload_n 2, 1) := by decide +kernel
theorem d_L_law_366 : decode code 366 = .ok (.aload_n 0, 1) := by decide +kernel
theorem d_L_law_367 : decode code 367 = .ok (.iload_n 3, 1) := by decide +kernel
theorem d_L_law_368 : decode code 368 = .ok (.iconst 1, 1) := by decide +kernel
theorem d_L_law_369 : decode code 369 = .ok (.iadd, 1) := by decide +kernel
theorem d_L_law_370 : decode code 370 = .ok (.iaload, 1) := by decide +kernel
theorem d_L_law_371 : decode code 371 = .ok (.invokevirtual 57, 3) := by decide +kernel
theorem d_L_law_374 : decode code 374 = .ok (.lcmp, 1) := by decide +kernel
theorem d_L_law_375 : decode code 375 = .ok (.ifCond .eq 118, 3) := by decide +kernel
theorem d_L_law_378 : decode code 378 = .ok (.iconst 0, 1) := by decide +kernel
theorem d_L_law_379 : decode code 379 = .ok (.ireturn, 1) := by decide +kernel
theorem d_L_law_380 : decode code 380 = .ok (.aload_n 1, 1) := by decide +kernel
theorem d_L_law_381 : decode code 381 = .ok (.aload_n 0, 1) := by decide +kernel
theorem d_L_law_382 : decode code 382 = .ok (.iload_n 3, 1) := by decide +kernel
theorem d_L_law_383 : decode code 383 = .ok (.iconst 1, 1) := by decide +kernel
theorem d_L_law_384 : decode code 384 = .ok (.iadd, 1) := by decide +kernel
theorem d_L_law_385 : decode code 385 = .ok (.iaload, 1) := by decide +kernel
theorem d_L_law_386 : decode code 386 = .ok (.aload_n 0, 1) := by decide +kernel
theorem d_L_law_387 : decode code 387 = .ok (.iload_n 3, 1) := by decide +kernel
theorem d_L_law_388 : decode code 388 = .ok (.iconst 2, 1) := by decide +kernel
theorem d_L_law_389 : decode code 389 = .ok (.iadd, 1) := by decide +kernel
theorem d_L_law_390 : decode code 390 = .ok (.iaload, 1) := by decide +kernel
theorem d_L_law_391 : decode code 391 = .ok (.invokevirtual 58, 3) := by decide +kernel
theorem d_L_law_394 : decode code 394 = .ok (.aload_n 2, 1) := by decide +kernel
theorem d_L_law_395 : decode code 395 = .ok (.aload_n 0, 1) := by decide +kernel
theorem d_L_law_396 : decode code 396 = .ok (.iload_n 3, 1) := by decide +kernel
theorem d_L_law_397 : decode code 397 = .ok (.iconst 1, 1) := by decide +kernel
theorem d_L_law_398 : decode code 398 = .ok (.iadd, 1) := by decide +kernel
theorem d_L_law_399 : decode code 399 = .ok (.iaload, 1) := by decide +kernel
theorem d_L_law_400 : decode code 400 = .ok (.aload_n 0, 1) := by decide +kernel
theorem d_L_law_401 : decode code 401 = .ok (.iload_n 3, 1) := by decide +kernel
theorem d_L_law_402 : decode code 402 = .ok (.iconst 2, 1) := by decide +kernel
theorem d_L_law_403 : decode code 403 = .ok (.iadd, 1) := by decide +kernel
theorem d_L_law_404 : decode code 404 = .ok (.iaload, 1) := by decide +kernel
theorem d_L_law_405 : decode code 405 = .ok (.invokevirtual 61, 3) := by decide +kernel
theorem d_L_law_408 : decode code 408 = .ok (.if_icmp .eq 85, 3) := by decide +kernel
theorem d_L_law_411 : decode code 411 = .ok (.iconst 0, 1) := by decide +kernel
theorem d_L_law_412 : decode code 412 = .ok (.ireturn, 1) := by decide +kernel
theorem d_L_law_413 : decode code 413 = .ok (.aload_n 1, 1) := by decide +kernel
theorem d_L_law_414 : decode code 414 = .ok (.aload_n 0, 1) := by decide +kernel
theorem d_L_law_415 : decode code 415 = .ok (.iload_n 3, 1) := by decide +kernel
theorem d_L_law_416 : decode code 416 = .ok (.iconst 1, 1) := by decide +kernel
theorem d_L_law_417 : decode code 417 = .ok (.iadd, 1) := by decide +kernel
theorem d_L_law_418 : decode code 418 = .ok (.iaload, 1) := by decide +kernel
theorem d_L_law_419 : decode code 419 = .ok (.aload_n 0, 1) := by decide +kernel
theorem d_L_law_420 : decode code 420 = .ok (.iload_n 3, 1) := by decide +kernel
theorem d_L_law_421 : decode code 421 = .ok (.iconst 2, 1) := by decide +kernel
theorem d_L_law_422 : decode code 422 = .ok (.iadd, 1) := by decide +kernel
theorem d_L_law_423 : decode code 423 = .ok (.iaload, 1) := by decide +kernel
theorem d_L_law_424 : decode code 424 = .ok (.aload_n 0, 1) := by decide +kernel
theorem d_L_law_425 : decode code 425 = .ok (.iload_n 3, 1) := by decide +kernel
theorem d_L_law_426 : decode code 426 = .ok (.iconst 3, 1) := by decide +kernel
theorem d_L_law_427 : decode code 427 = .ok (.iadd, 1) := by decide +kernel
theorem d_L_law_428 : decode code 428 = .ok (.iaload, 1) := by decide +kernel
theorem d_L_law_429 : decode code 429 = .ok (.invokevirtual 62, 3) := by decide +kernel
theorem d_L_law_432 : decode code 432 = .ok (.aload_n 2, 1) := by decide +kernel
theorem d_L_law_433 : decode code 433 = .ok (.aload_n 0, 1) := by decide +kernel
theorem d_L_law_434 : decode code 434 = .ok (.iload_n 3, 1) := by decide +kernel
theorem d_L_law_435 : decode code 435 = .ok (.iconst 1, 1) := by decide +kernel
theorem d_L_law_436 : decode code 436 = .ok (.iadd, 1) := by decide +kernel
theorem d_L_law_437 : decode code 437 = .ok (.iaload, 1) := by decide +kernel
theorem d_L_law_438 : decode code 438 = .ok (.aload_n 0, 1) := by decide +kernel
theorem d_L_law_439 : decode code 439 = .ok (.iload_n 3, 1) := by decide +kernel
theorem d_L_law_440 : decode code 440 = .ok (.iconst 2, 1) := by decide +kernel
theorem d_L_law_441 : decode code 441 = .ok (.iadd, 1) := by decide +kernel
theorem d_L_law_442 : decode code 442 = .ok (.iaload, 1) := by decide +kernel
theorem d_L_law_443 : decode code 443 = .ok (.aload_n 0, 1) := by decide +kernel
theorem d_L_law_444 : decode code 444 = .ok (.iload_n 3, 1) := by decide +kernel
theorem d_L_law_445 : decode code 445 = .ok (.iconst 3, 1) := by decide +kernel
theorem d_L_law_446 : decode code 446 = .ok (.iadd, 1) := by decide +kernel
theorem d_L_law_447 : decode code 447 = .ok (.iaload, 1) := by decide +kernel
theorem d_L_law_448 : decode code 448 = .ok (.invokevirtual 65, 3) := by decide +kernel
theorem d_L_law_451 : decode code 451 = .ok (.lcmp, 1) := by decide +kernel
theorem d_L_law_452 : decode code 452 = .ok (.ifCond .eq 41, 3) := by decide +kernel
theorem d_L_law_455 : decode code 455 = .ok (.iconst 0, 1) := by decide +kernel
theorem d_L_law_456 : decode code 456 = .ok (.ireturn, 1) := by decide +kernel
theorem d_L_law_457 : decode code 457 = .ok (.aload_n 1, 1) := by decide +kernel
theorem d_L_law_458 : decode code 458 = .ok (.invokevirtual 66, 3) := by decide +kernel
theorem d_L_law_461 : decode code 461 = .ok (.aload_n 2, 1) := by decide +kernel
theorem d_L_law_462 : decode code 462 = .ok (.invokevirtual 69, 3) := by decide +kernel
theorem d_L_law_465 : decode code 465 = .ok (.if_icmp .eq 28, 3) := by decide +kernel
theorem d_L_law_468 : decode code 468 = .ok (.iconst 0, 1) := by decide +kernel
theorem d_L_law_469 : decode code 469 = .ok (.ireturn, 1) := by decide +kernel
theorem d_L_law_470 : decode code 470 = .ok (.aload_n 1, 1) := by decide +kernel
theorem d_L_law_471 : decode code 471 = .ok (.aload_n 0, 1) := by decide +kernel
theorem d_L_law_472 : decode code 472 = .ok (.iload_n 3, 1) := by decide +kernel
theorem d_L_law_473 : decode code 473 = .ok (.iconst 1, 1) := by decide +kernel
theorem d_L_law_474 : decode code 474 = .ok (.iadd, 1) := by decide +kernel
theorem d_L_law_475 : decode code 475 = .ok (.iaload, 1) := by decide +kernel
theorem d_L_law_476 : decode code 476 = .ok (.invokevirtual 70, 3) := by decide +kernel
theorem d_L_law_479 : decode code 479 = .ok (.aload_n 2, 1) := by decide +kernel
theorem d_L_law_480 : decode code 480 = .ok (.aload_n 0, 1) := by decide +kernel
theorem d_L_law_481 : decode code 481 = .ok (.iload_n 3, 1) := by decide +kernel
theorem d_L_law_482 : decode code 482 = .ok (.iconst 1, 1) := by decide +kernel
theorem d_L_law_483 : decode code 483 = .ok (.iadd, 1) := by decide +kernel
theorem d_L_law_484 : decode code 484 = .ok (.iaload, 1) := by decide +kernel
theorem d_L_law_485 : decode code 485 = .ok (.invokevirtual 73, 3) := by decide +kernel
theorem d_L_law_488 : decode code 488 = .ok (.if_icmp .eq 5, 3) := by decide +kernel
theorem d_L_law_491 : decode code 491 = .ok (.iconst 0, 1) := by decide +kernel
theorem d_L_law_492 : decode code 492 = .ok (.ireturn, 1) := by decide +kernel
theorem d_L_law_493 : decode code 493 = .ok (.iinc 3 4, 3) := by decide +kernel
theorem d_L_law_496 : decode code 496 = .ok (.goto (-478), 3) := by decide +kernel
theorem d_L_law_499 : decode code 499 = .ok (.iconst 1, 1) := by decide +kernel
theorem d_L_law_500 : decode code 500 = .ok (.ireturn, 1) := by decide +kernel
abbrev T_L_law (l : ct_Lx) : List (Nat × ct_PT) := [(0, o_new 0 7), (3, o_dup), (7, o_astore 1 1), (8, o_new 4 24), (11, o_dup), (15, o_astore 2 1), (16, o_push (.int 0) 1), (17, o_istore 3 1), (18, o_iload 3 1), (19, o_aload 0 1), (20, o_slen l.2.1), (21, o_push (.int 4) 1), (22, o_ii fun x y => x - y), (23, o_ic (fun x y => y < x) (fun x y => ¬ y < x) 499), (26, o_aload 0 1), (27, o_iload 3 1), (28, o_sald l.2.1 l.2.2), (29, o_push (.int 15) 2), (31, o_ii fun x y => x &&& y), (32, o_sw [(0, 100), (1, 163), (2, 176), (3, 189), (4, 212), (5, 245), (6, 279), (7, 312), (8, 356), (9, 380), (10, 413), (11, 457), (12, 470)] 493), (100, o_aload 1 1), (101, o_aload 0 1), (102, o_iload 3 1), (103, o_push (.int 1) 1), (104, o_ii fun x y => x + y), (105, o_sald l.2.1 l.2.2), (106, o_i2l), (107, o_push (.int 32) 2), (109, o_li fun x y => x <<< (y.toInt64 &&& 63)), (110, o_aload 0 1), (111, o_iload 3 1), (112, o_push (.int 2) 1), (113, o_ii fun x y => x + y), (114, o_sald l.2.1 l.2.2), (115, o_i2l), (116, o_push (.long 4294967295) 3), (119, o_ll fun x y => x &&& y), (120, o_ll fun x y => x ||| y), (121, o_aload 0 1), (122, o_iload 3 1), (123, o_push (.int 3) 1), (124, o_ii fun x y => x + y), (125, o_sald l.2.1 l.2.2), (129, o_aload 2 1), (130, o_aload 0 1), (131, o_iload 3 1), (132, o_push (.int 1) 1), (133, o_ii fun x y => x + y), (134, o_sald l.2.1 l.2.2), (135, o_i2l), (136, o_push (.int 32) 2), (138, o_li fun x y => x <<< (y.toInt64 &&& 63)), (139, o_aload 0 1), (140, o_iload 3 1), (141, o_push (.int 2) 1), (142, o_ii fun x y => x + y), (143, o_sald l.2.1 l.2.2), (144, o_i2l), (145, o_push (.long 4294967295) 3), (148, o_ll fun x y => x &&& y), (149, o_ll fun x y => x ||| y), (150, o_aload 0 1), (151, o_iload 3 1), (152, o_push (.int 3) 1), (153, o_ii fun x y => x + y), (154, o_sald l.2.1 l.2.2), (158, o_ic (fun x y => x = y) (fun x y => ¬ x = y) 493), (161, o_push (.int 0) 1), (163, o_aload 1 1), (167, o_aload 2 1), (171, o_ic (fun x y => x = y) (fun x y => ¬ x = y) 493), (174, o_push (.int 0) 1), (176, o_aload 1 1), (180, o_aload 2 1), (184, o_ic (fun x y => x = y) (fun x y => ¬ x = y) 493), (187, o_push (.int 0) 1), (189, o_aload 1 1), (190, o_aload 0 1), (191, o_iload 3 1), (192, o_push (.int 1) 1), (193, o_ii fun x y => x + y), (194, o_sald l.2.1 l.2.2), (198, o_aload 2 1), (199, o_aload 0 1), (200, o_iload 3 1), (201, o_push (.int 1) 1), (202, o_ii fun x y => x + y), (203, o_sald l.2.1 l.2.2), (207, o_ic (fun x y => x = y) (fun x y => ¬ x = y) 493), (210, o_push (.int 0) 1), (212, o_aload 1 1), (213, o_aload 0 1), (214, o_iload 3 1), (215, o_push (.int 1) 1), (216, o_ii fun x y => x + y), (217, o_sald l.2.1 l.2.2), (218, o_aload 0 1), (219, o_iload 3 1), (220, o_push (.int 2) 1), (221, o_ii fun x y => x + y), (222, o_sald l.2.1 l.2.2), (226, o_aload 2 1), (227, o_aload 0 1), (228, o_iload 3 1), (229, o_push (.int 1) 1), (230, o_ii fun x y => x + y), (231, o_sald l.2.1 l.2.2), (232, o_aload 0 1), (233, o_iload 3 1), (234, o_push (.int 2) 1), (235, o_ii fun x y => x + y), (236, o_sald l.2.1 l.2.2), (240, o_ic (fun x y => x = y) (fun x y => ¬ x = y) 493), (243, o_push (.int 0) 1), (245, o_aload 1 1), (246, o_aload 0 1), (247, o_iload 3 1), (248, o_push (.int 1) 1), (249, o_ii fun x y => x + y), (250, o_sald l.2.1 l.2.2), (251, o_aload 0 1), (252, o_iload 3 1), (253, o_push (.int 2) 1), (254, o_ii fun x y => x + y), (255, o_sald l.2.1 l.2.2), (259, o_aload 2 1), (260, o_aload 0 1), (261, o_iload 3 1), (262, o_push (.int 1) 1), (263, o_ii fun x y => x + y), (264, o_sald l.2.1 l.2.2), (265, o_aload 0 1), (266, o_iload 3 1), (267, o_push (.int 2) 1), (268, o_ii fun x y => x + y), (269, o_sald l.2.1 l.2.2), (273, o_lcmp), (274, o_if (fun x => x = 0) (fun x => ¬ x = 0) 493), (277, o_push (.int 0) 1), (279, o_aload 1 1), (280, o_aload 0 1), (281, o_iload 3 1), (282, o_push (.int 1) 1), (283, o_ii fun x y => x + y), (284, o_sald l.2.1 l.2.2), (285, o_aload 0 1), (286, o_iload 3 1), (287, o_push (.int 2) 1), (288, o_ii fun x y => x + y), (289, o_sald l.2.1 l.2.2), (293, o_aload 2 1), (294, o_aload 0 1), (295, o_iload 3 1), (296, o_push (.int 1) 1), (297, o_ii fun x y => x + y), (298, o_sald l.2.1 l.2.2), (299, o_aload 0 1), (300, o_iload 3 1), (301, o_push (.int 2) 1), (302, o_ii fun x y => x + y), (303, o_sald l.2.1 l.2.2), (307, o_ic (fun x y => x = y) (fun x y => ¬ x = y) 493), (310, o_push (.int 0) 1), (312, o_aload 1 1), (313, o_aload 0 1), (314, o_iload 3 1), (315, o_push (.int 1) 1), (316, o_ii fun x y => x + y), (317, o_sald l.2.1 l.2.2), (318, o_aload 0 1), (319, o_iload 3 1), (320, o_push (.int 2) 1), (321, o_ii fun x y => x + y), (322, o_sald l.2.1 l.2.2), (323, o_aload 0 1), (324, o_iload 3 1), (325, o_push (.int 3) 1), (326, o_ii fun x y => x + y), (327, o_sald l.2.1 l.2.2), (331, o_aload 2 1), (332, o_aload 0 1), (333, o_iload 3 1), (334, o_push (.int 1) 1), (335, o_ii fun x y => x + y), (336, o_sald l.2.1 l.2.2), (337, o_aload 0 1), (338, o_iload 3 1), (339, o_push (.int 2) 1), (340, o_ii fun x y => x + y), (341, o_sald l.2.1 l.2.2), (342, o_aload 0 1), (343, o_iload 3 1), (344, o_push (.int 3) 1), (345, o_ii fun x y => x + y), (346, o_sald l.2.1 l.2.2), (350, o_lcmp), (351, o_if (fun x => x = 0) (fun x => ¬ x = 0) 493), (354, o_push (.int 0) 1), (356, o_aload 1 1), (357, o_aload 0 1), (358, o_iload 3 1), (359, o_push (.int 1) 1), (360, o_ii fun x y => x + y), (361, o_sald l.2.1 l.2.2), (365, o_aload 2 1), (366, o_aload 0 1), (367, o_iload 3 1), (368, o_push (.int 1) 1), (369, o_ii fun x y => x + y), (370, o_sald l.2.1 l.2.2), (374, o_lcmp), (375, o_if (fun x => x = 0) (fun x => ¬ x = 0) 493), (378, o_push (.int 0) 1), (380, o_aload 1 1), (381, o_aload 0 1), (382, o_iload 3 1), (383, o_push (.int 1) 1), (384, o_ii fun x y => x + y), (385, o_sald l.2.1 l.2.2), (386, o_aload 0 1), (387, o_iload 3 1), (388, o_push (.int 2) 1), (389, o_ii fun x y => x + y), (390, o_sald l.2.1 l.2.2), (394, o_aload 2 1), (395, o_aload 0 1), (396, o_iload 3 1), (397, o_push (.int 1) 1), (398, o_ii fun x y => x + y), (399, o_sald l.2.1 l.2.2), (400, o_aload 0 1), (401, o_iload 3 1), (402, o_push (.int 2) 1), (403, o_ii fun x y => x + y), (404, o_sald l.2.1 l.2.2), (408, o_ic (fun x y => x = y) (fun x y => ¬ x = y) 493), (411, o_push (.int 0) 1), (413, o_aload 1 1), (414, o_aload 0 1), (415, o_iload 3 1), (416, o_push (.int 1) 1), (417, o_ii fun x y => x + y), (418, o_sald l.2.1 l.2.2), (419, o_aload 0 1), (420, o_iload 3 1), (421, o_push (.int 2) 1), (422, o_ii fun x y => x + y), (423, o_sald l.2.1 l.2.2), (424, o_aload 0 1), (425, o_iload 3 1), (426, o_push (.int 3) 1), (427, o_ii fun x y => x + y), (428, o_sald l.2.1 l.2.2), (432, o_aload 2 1), (433, o_aload 0 1), (434, o_iload 3 1), (435, o_push (.int 1) 1), (436, o_ii fun x y => x + y), (437, o_sald l.2.1 l.2.2), (438, o_aload 0 1), (439, o_iload 3 1), (440, o_push (.int 2) 1), (441, o_ii fun x y => x + y), (442, o_sald l.2.1 l.2.2), (443, o_aload 0 1), (444, o_iload 3 1), (445, o_push (.int 3) 1), (446, o_ii fun x y => x + y), (447, o_sald l.2.1 l.2.2), (451, o_lcmp), (452, o_if (fun x => x = 0) (fun x => ¬ x = 0) 493), (455, o_push (.int 0) 1), (457, o_aload 1 1), (461, o_aload 2 1), (465, o_ic (fun x y => x = y) (fun x y => ¬ x = y) 493), (468, o_push (.int 0) 1), (470, o_aload 1 1), (471, o_aload 0 1), (472, o_iload 3 1), (473, o_push (.int 1) 1), (474, o_ii fun x y => x + y), (475, o_sald l.2.1 l.2.2), (479, o_aload 2 1), (480, o_aload 0 1), (481, o_iload 3 1), (482, o_push (.int 1) 1), (483, o_ii fun x y => x + y), (484, o_sald l.2.1 l.2.2), (488, o_ic (fun x y => x = y) (fun x y => ¬ x = y) 493), (491, o_push (.int 0) 1), (493, o_iinc 3 4), (496, o_goto 18), (499, o_push (.int 1) 1)]
set_option maxRecDepth 100000 in
theorem A_L_law (l : ct_Lx) : ct_al l M_L_law (T_L_law l) := by
  refine ct_al.cons (so_new (Cn := "CodeTables") (T := ct_T0) kc_0 wd_520 wd_521 wd_265 (by decide) d_L_law_0) ?_
  refine ct_al.cons (so_dup d_L_law_3) ?_
  refine ct_al.cons (so_astore_n d_L_law_7 rfl (by decide)) ?_
  refine ct_al.cons (so_new (Cn := "CodeTablesModel") (T := ct_T4) kc_4 wd_526 wd_527 wd_355 (by decide) d_L_law_8) ?_
  refine ct_al.cons (so_dup d_L_law_11) ?_
  refine ct_al.cons (so_astore_n d_L_law_15 rfl (by decide)) ?_
  refine ct_al.cons (so_iconst d_L_law_16 (by decide)) ?_
  refine ct_al.cons (so_istore_n d_L_law_17 rfl (by decide)) ?_
  refine ct_al.cons (so_iload_n d_L_law_18 rfl) ?_
  refine ct_al.cons (so_aload_n d_L_law_19 rfl) ?_
  refine ct_al.cons (so_slen d_L_law_20) ?_
  refine ct_al.cons (so_iconst d_L_law_21 (by decide)) ?_
  refine ct_al.cons (so_isub d_L_law_22) ?_
  refine ct_al.cons (so_ic_gt d_L_law_23 (by decide)) ?_
  refine ct_al.cons (so_aload_n d_L_law_26 rfl) ?_
  refine ct_al.cons (so_iload_n d_L_law_27 rfl) ?_
  refine ct_al.cons (so_sald d_L_law_28) ?_
  refine ct_al.cons (so_bipush d_L_law_29 (by decide)) ?_
  refine ct_al.cons (so_iand d_L_law_31) ?_
  refine ct_al.cons (so_tsw d_L_law_32 (by decide) (by decide) (by decide) (by decide)) ?_
  refine ct_al.cons (so_aload_n d_L_law_100 rfl) ?_
  refine ct_al.cons (so_aload_n d_L_law_101 rfl) ?_
  refine ct_al.cons (so_iload_n d_L_law_102 rfl) ?_
  refine ct_al.cons (so_iconst d_L_law_103 (by decide)) ?_
  refine ct_al.cons (so_iadd d_L_law_104) ?_
  refine ct_al.cons (so_sald d_L_law_105) ?_
  refine ct_al.cons (so_i2l d_L_law_106) ?_
  refine ct_al.cons (so_bipush d_L_law_107 (by decide)) ?_
  refine ct_al.cons (so_lshl d_L_law_109) ?_
  refine ct_al.cons (so_aload_n d_L_law_110 rfl) ?_
  refine ct_al.cons (so_iload_n d_L_law_111 rfl) ?_
  refine ct_al.cons (so_iconst d_L_law_112 (by decide)) ?_
  refine ct_al.cons (so_iadd d_L_law_113) ?_
  refine ct_al.cons (so_sald d_L_law_114) ?_
  refine ct_al.cons (so_i2l d_L_law_115) ?_
  refine ct_al.cons (so_ldc2 wd_532 d_L_law_116) ?_
  refine ct_al.cons (so_land d_L_law_119) ?_
  refine ct_al.cons (so_lor d_L_law_120) ?_
  refine ct_al.cons (so_aload_n d_L_law_121 rfl) ?_
  refine ct_al.cons (so_iload_n d_L_law_122 rfl) ?_
  refine ct_al.cons (so_iconst d_L_law_123 (by decide)) ?_
  refine ct_al.cons (so_iadd d_L_law_124) ?_
  refine ct_al.cons (so_sald d_L_law_125) ?_
  refine ct_al.cons (so_aload_n d_L_law_129 rfl) ?_
  refine ct_al.cons (so_aload_n d_L_law_130 rfl) ?_
  refine ct_al.cons (so_iload_n d_L_law_131 rfl) ?_
  refine ct_al.cons (so_iconst d_L_law_132 (by decide)) ?_
  refine ct_al.cons (so_iadd d_L_law_133) ?_
  refine ct_al.cons (so_sald d_L_law_134) ?_
  refine ct_al.cons (so_i2l d_L_law_135) ?_
  refine ct_al.cons (so_bipush d_L_law_136 (by decide)) ?_
  refine ct_al.cons (so_lshl d_L_law_138) ?_
  refine ct_al.cons (so_aload_n d_L_law_139 rfl) ?_
  refine ct_al.cons (so_iload_n d_L_law_140 rfl) ?_
  refine ct_al.cons (so_iconst d_L_law_141 (by decide)) ?_
  refine ct_al.cons (so_iadd d_L_law_142) ?_
  refine ct_al.cons (so_sald d_L_law_143) ?_
  refine ct_al.cons (so_i2l d_L_law_144) ?_
  refine ct_al.cons (so_ldc2 wd_532 d_L_law_145) ?_
  refine ct_al.cons (so_land d_L_law_148) ?_
  refine ct_al.cons (so_lor d_L_law_149) ?_
  refine ct_al.cons (so_aload_n d_L_law_150 rfl) ?_
  refine ct_al.cons (so_iload_n d_L_law_151 rfl) ?_
  refine ct_al.cons (so_iconst d_L_law_152 (by decide)) ?_
  refine ct_al.cons (so_iadd d_L_law_153) ?_
  refine ct_al.cons (so_sald d_L_law_154) ?_
  refine ct_al.cons (so_ic_eq d_L_law_158 (by decide)) ?_
  refine ct_al.cons (so_iconst d_L_law_161 (by decide)) ?_
  refine ct_al.cons (so_aload_n d_L_law_163 rfl) ?_
  refine ct_al.cons (so_aload_n d_L_law_167 rfl) ?_
  refine ct_al.cons (so_ic_eq d_L_law_171 (by decide)) ?_
  refine ct_al.cons (so_iconst d_L_law_174 (by decide)) ?_
  refine ct_al.cons (so_aload_n d_L_law_176 rfl) ?_
  refine ct_al.cons (so_aload_n d_L_law_180 rfl) ?_
  refine ct_al.cons (so_ic_eq d_L_law_184 (by decide)) ?_
  refine ct_al.cons (so_iconst d_L_law_187 (by decide)) ?_
  refine ct_al.cons (so_aload_n d_L_law_189 rfl) ?_
  refine ct_al.cons (so_aload_n d_L_law_190 rfl) ?_
  refine ct_al.cons (so_iload_n d_L_law_191 rfl) ?_
  refine ct_al.cons (so_iconst d_L_law_192 (by decide)) ?_
  refine ct_al.cons (so_iadd d_L_law_193) ?_
  refine ct_al.cons (so_sald d_L_law_194) ?_
  refine ct_al.cons (so_aload_n d_L_law_198 rfl) ?_
  refine ct_al.cons (so_aload_n d_L_law_199 rfl) ?_
  refine ct_al.cons (so_iload_n d_L_law_200 rfl) ?_
  refine ct_al.cons (so_iconst d_L_law_201 (by decide)) ?_
  refine ct_al.cons (so_iadd d_L_law_202) ?_
  refine ct_al.cons (so_sald d_L_law_203) ?_
  refine ct_al.cons (so_ic_eq d_L_law_207 (by decide)) ?_
  refine ct_al.cons (so_iconst d_L_law_210 (by decide)) ?_
  refine ct_al.cons (so_aload_n d_L_law_212 rfl) ?_
  refine ct_al.cons (so_aload_n d_L_law_213 rfl) ?_
  refine ct_al.cons (so_iload_n d_L_law_214 rfl) ?_
  refine ct_al.cons (so_iconst d_L_law_215 (by decide)) ?_
  refine ct_al.cons (so_iadd d_L_law_216) ?_
  refine ct_al.cons (so_sald d_L_law_217) ?_
  refine ct_al.cons (so_aload_n d_L_law_218 rfl) ?_
  refine ct_al.cons (so_iload_n d_L_law_219 rfl) ?_
  refine ct_al.cons (so_iconst d_L_law_220 (by decide)) ?_
  refine ct_al.cons (so_iadd d_L_law_221) ?_
  refine ct_al.cons (so_sald d_L_law_222) ?_
  refine ct_al.cons (so_aload_n d_L_law_226 rfl) ?_
  refine ct_al.cons (so_aload_n d_L_law_227 rfl) ?_
  refine ct_al.cons (so_iload_n d_L_law_228 rfl) ?_
  refine ct_al.cons (so_iconst d_L_law_229 (by decide)) ?_
  refine ct_al.cons (so_iadd d_L_law_230) ?_
  refine ct_al.cons (so_sald d_L_law_231) ?_
  refine ct_al.cons (so_aload_n d_L_law_232 rfl) ?_
  refine ct_al.cons (so_iload_n d_L_law_233 rfl) ?_
  refine ct_al.cons (so_iconst d_L_law_234 (by decide)) ?_
  refine ct_al.cons (so_iadd d_L_law_235) ?_
  refine ct_al.cons (so_sald d_L_law_236) ?_
  refine ct_al.cons (so_ic_eq d_L_law_240 (by decide)) ?_
  refine ct_al.cons (so_iconst d_L_law_243 (by decide)) ?_
  refine ct_al.cons (so_aload_n d_L_law_245 rfl) ?_
  refine ct_al.cons (so_aload_n d_L_law_246 rfl) ?_
  refine ct_al.cons (so_iload_n d_L_law_247 rfl) ?_
  refine ct_al.cons (so_iconst d_L_law_248 (by decide)) ?_
  refine ct_al.cons (so_iadd d_L_law_249) ?_
  refine ct_al.cons (so_sald d_L_law_250) ?_
  refine ct_al.cons (so_aload_n d_L_law_251 rfl) ?_
  refine ct_al.cons (so_iload_n d_L_law_252 rfl) ?_
  refine ct_al.cons (so_iconst d_L_law_253 (by decide)) ?_
  refine ct_al.cons (so_iadd d_L_law_254) ?_
  refine ct_al.cons (so_sald d_L_law_255) ?_
  refine ct_al.cons (so_aload_n d_L_law_259 rfl) ?_
  refine ct_al.cons (so_aload_n d_L_law_260 rfl) ?_
  refine ct_al.cons (so_iload_n d_L_law_261 rfl) ?_
  refine ct_al.cons (so_iconst d_L_law_262 (by decide)) ?_
  refine ct_al.cons (so_iadd d_L_law_263) ?_
  refine ct_al.cons (so_sald d_L_law_264) ?_
  refine ct_al.cons (so_aload_n d_L_law_265 rfl) ?_
  refine ct_al.cons (so_iload_n d_L_law_266 rfl) ?_
  refine ct_al.cons (so_iconst d_L_law_267 (by decide)) ?_
  refine ct_al.cons (so_iadd d_L_law_268) ?_
  refine ct_al.cons (so_sald d_L_law_269) ?_
  refine ct_al.cons (so_lcmp d_L_law_273) ?_
  refine ct_al.cons (so_if_eq d_L_law_274 (by decide)) ?_
  refine ct_al.cons (so_iconst d_L_law_277 (by decide)) ?_
  refine ct_al.cons (so_aload_n d_L_law_279 rfl) ?_
  refine ct_al.cons (so_aload_n d_L_law_280 rfl) ?_
  refine ct_al.cons (so_iload_n d_L_law_281 rfl) ?_
  refine ct_al.cons (so_iconst d_L_law_282 (by decide)) ?_
  refine ct_al.cons (so_iadd d_L_law_283) ?_
  refine ct_al.cons (so_sald d_L_law_284) ?_
  refine ct_al.cons (so_aload_n d_L_law_285 rfl) ?_
  refine ct_al.cons (so_iload_n d_L_law_286 rfl) ?_
  refine ct_al.cons (so_iconst d_L_law_287 (by decide)) ?_
  refine ct_al.cons (so_iadd d_L_law_288) ?_
  refine ct_al.cons (so_sald d_L_law_289) ?_
  refine ct_al.cons (so_aload_n d_L_law_293 rfl) ?_
  refine ct_al.cons (so_aload_n d_L_law_294 rfl) ?_
  refine ct_al.cons (so_iload_n d_L_law_295 rfl) ?_
  refine ct_al.cons (so_iconst d_L_law_296 (by decide)) ?_
  refine ct_al.cons (so_iadd d_L_law_297) ?_
  refine ct_al.cons (so_sald d_L_law_298) ?_
  refine ct_al.cons (so_aload_n d_L_law_299 rfl) ?_
  refine ct_al.cons (so_iload_n d_L_law_300 rfl) ?_
  refine ct_al.cons (so_iconst d_L_law_301 (by decide)) ?_
  refine ct_al.cons (so_iadd d_L_law_302) ?_
  refine ct_al.cons (so_sald d_L_law_303) ?_
  refine ct_al.cons (so_ic_eq d_L_law_307 (by decide)) ?_
  refine ct_al.cons (so_iconst d_L_law_310 (by decide)) ?_
  refine ct_al.cons (so_aload_n d_L_law_312 rfl) ?_
  refine ct_al.cons (so_aload_n d_L_law_313 rfl) ?_
  refine ct_al.cons (so_iload_n d_L_law_314 rfl) ?_
  refine ct_al.cons (so_iconst d_L_law_315 (by decide)) ?_
  refine ct_al.cons (so_iadd d_L_law_316) ?_
  refine ct_al.cons (so_sald d_L_law_317) ?_
  refine ct_al.cons (so_aload_n d_L_law_318 rfl) ?_
  refine ct_al.cons (so_iload_n d_L_law_319 rfl) ?_
  refine ct_al.cons (so_iconst d_L_law_320 (by decide)) ?_
  refine ct_al.cons (so_iadd d_L_law_321) ?_
  refine ct_al.cons (so_sald d_L_law_322) ?_
  refine ct_al.cons (so_aload_n d_L_law_323 rfl) ?_
  refine ct_al.cons (so_iload_n d_L_law_324 rfl) ?_
  refine ct_al.cons (so_iconst d_L_law_325 (by decide)) ?_
  refine ct_al.cons (so_iadd d_L_law_326) ?_
  refine ct_al.cons (so_sald d_L_law_327) ?_
  refine ct_al.cons (so_aload_n d_L_law_331 rfl) ?_
  refine ct_al.cons (so_aload_n d_L_law_332 rfl) ?_
  refine ct_al.cons (so_iload_n d_L_law_333 rfl) ?_
  refine ct_al.cons (so_iconst d_L_law_334 (by decide)) ?_
  refine ct_al.cons (so_iadd d_L_law_335) ?_
  refine ct_al.cons (so_sald d_L_law_336) ?_
  refine ct_al.cons (so_aload_n d_L_law_337 rfl) ?_
  refine ct_al.cons (so_iload_n d_L_law_338 rfl) ?_
  refine ct_al.cons (so_iconst d_L_law_339 (by decide)) ?_
  refine ct_al.cons (so_iadd d_L_law_340) ?_
  refine ct_al.cons (so_sald d_L_law_341) ?_
  refine ct_al.cons (so_aload_n d_L_law_342 rfl) ?_
  refine ct_al.cons (so_iload_n d_L_law_343 rfl) ?_
  refine ct_al.cons (so_iconst d_L_law_344 (by decide)) ?_
  refine ct_al.cons (so_iadd d_L_law_345) ?_
  refine ct_al.cons (so_sald d_L_law_346) ?_
  refine ct_al.cons (so_lcmp d_L_law_350) ?_
  refine ct_al.cons (so_if_eq d_L_law_351 (by decide)) ?_
  refine ct_al.cons (so_iconst d_L_law_354 (by decide)) ?_
  refine ct_al.cons (so_aload_n d_L_law_356 rfl) ?_
  refine ct_al.cons (so_aload_n d_L_law_357 rfl) ?_
  refine ct_al.cons (so_iload_n d_L_law_358 rfl) ?_
  refine ct_al.cons (so_iconst d_L_law_359 (by decide)) ?_
  refine ct_al.cons (so_iadd d_L_law_360) ?_
  refine ct_al.cons (so_sald d_L_law_361) ?_
  refine ct_al.cons (so_aload_n d_L_law_365 rfl) ?_
  refine ct_al.cons (so_aload_n d_L_law_366 rfl) ?_
  refine ct_al.cons (so_iload_n d_L_law_367 rfl) ?_
  refine ct_al.cons (so_iconst d_L_law_368 (by decide)) ?_
  refine ct_al.cons (so_iadd d_L_law_369) ?_
  refine ct_al.cons (so_sald d_L_law_370) ?_
  refine ct_al.cons (so_lcmp d_L_law_374) ?_
  refine ct_al.cons (so_if_eq d_L_law_375 (by decide)) ?_
  refine ct_al.cons (so_iconst d_L_law_378 (by decide)) ?_
  refine ct_al.cons (so_aload_n d_L_law_380 rfl) ?_
  refine ct_al.cons (so_aload_n d_L_law_381 rfl) ?_
  refine ct_al.cons (so_iload_n d_L_law_382 rfl) ?_
  refine ct_al.cons (so_iconst d_L_law_383 (by decide)) ?_
  refine ct_al.cons (so_iadd d_L_law_384) ?_
  refine ct_al.cons (so_sald d_L_law_385) ?_
  refine ct_al.cons (so_aload_n d_L_law_386 rfl) ?_
  refine ct_al.cons (so_iload_n d_L_law_387 rfl) ?_
  refine ct_al.cons (so_iconst d_L_law_388 (by decide)) ?_
  refine ct_al.cons (so_iadd d_L_law_389) ?_
  refine ct_al.cons (so_sald d_L_law_390) ?_
  refine ct_al.cons (so_aload_n d_L_law_394 rfl) ?_
  refine ct_al.cons (so_aload_n d_L_law_395 rfl) ?_
  refine ct_al.cons (so_iload_n d_L_law_396 rfl) ?_
  refine ct_al.cons (so_iconst d_L_law_397 (by decide)) ?_
  refine ct_al.cons (so_iadd d_L_law_398) ?_
  refine ct_al.cons (so_sald d_L_law_399) ?_
  refine ct_al.cons (so_aload_n d_L_law_400 rfl) ?_
  refine ct_al.cons (so_iload_n d_L_law_401 rfl) ?_
  refine ct_al.cons (so_iconst d_L_law_402 (by decide)) ?_
  refine ct_al.cons (so_iadd d_L_law_403) ?_
  refine ct_al.cons (so_sald d_L_law_404) ?_
  refine ct_al.cons (so_ic_eq d_L_law_408 (by decide)) ?_
  refine ct_al.cons (so_iconst d_L_law_411 (by decide)) ?_
  refine ct_al.cons (so_aload_n d_L_law_413 rfl) ?_
  refine ct_al.cons (so_aload_n d_L_law_414 rfl) ?_
  refine ct_al.cons (so_iload_n d_L_law_415 rfl) ?_
  refine ct_al.cons (so_iconst d_L_law_416 (by decide)) ?_
  refine ct_al.cons (so_iadd d_L_law_417) ?_
  refine ct_al.cons (so_sald d_L_law_418) ?_
  refine ct_al.cons (so_aload_n d_L_law_419 rfl) ?_
  refine ct_al.cons (so_iload_n d_L_law_420 rfl) ?_
  refine ct_al.cons (so_iconst d_L_law_421 (by decide)) ?_
  refine ct_al.cons (so_iadd d_L_law_422) ?_
  refine ct_al.cons (so_sald d_L_law_423) ?_
  refine ct_al.cons (so_aload_n d_L_law_424 rfl) ?_
  refine ct_al.cons (so_iload_n d_L_law_425 rfl) ?_
  refine ct_al.cons (so_iconst d_L_law_426 (by decide)) ?_
  refine ct_al.cons (so_iadd d_L_law_427) ?_
  refine ct_al.cons (so_sald d_L_law_428) ?_
  refine ct_al.cons (so_aload_n d_L_law_432 rfl) ?_
  refine ct_al.cons (so_aload_n d_L_law_433 rfl) ?_
  refine ct_al.cons (so_iload_n d_L_law_434 rfl) ?_
  refine ct_al.cons (so_iconst d_L_law_435 (by decide)) ?_
  refine ct_al.cons (so_iadd d_L_law_436) ?_
  refine ct_al.cons (so_sald d_L_law_437) ?_
  refine ct_al.cons (so_aload_n d_L_law_438 rfl) ?_
  refine ct_al.cons (so_iload_n d_L_law_439 rfl) ?_
  refine ct_al.cons (so_iconst d_L_law_440 (by decide)) ?_
  refine ct_al.cons (so_iadd d_L_law_441) ?_
  refine ct_al.cons (so_sald d_L_law_442) ?_
  refine ct_al.cons (so_aload_n d_L_law_443 rfl) ?_
  refine ct_al.cons (so_iload_n d_L_law_444 rfl) ?_
  refine ct_al.cons (so_iconst d_L_law_445 (by decide)) ?_
  refine ct_al.cons (so_iadd d_L_law_446) ?_
  refine ct_al.cons (so_sald d_L_law_447) ?_
  refine ct_al.cons (so_lcmp d_L_law_451) ?_
  refine ct_al.cons (so_if_eq d_L_law_452 (by decide)) ?_
  refine ct_al.cons (so_iconst d_L_law_455 (by decide)) ?_
  refine ct_al.cons (so_aload_n d_L_law_457 rfl) ?_
  refine ct_al.cons (so_aload_n d_L_law_461 rfl) ?_
  refine ct_al.cons (so_ic_eq d_L_law_465 (by decide)) ?_
  refine ct_al.cons (so_iconst d_L_law_468 (by decide)) ?_
  refine ct_al.cons (so_aload_n d_L_law_470 rfl) ?_
  refine ct_al.cons (so_aload_n d_L_law_471 rfl) ?_
  refine ct_al.cons (so_iload_n d_L_law_472 rfl) ?_
  refine ct_al.cons (so_iconst d_L_law_473 (by decide)) ?_
  refine ct_al.cons (so_iadd d_L_law_474) ?_
  refine ct_al.cons (so_sald d_L_law_475) ?_
  refine ct_al.cons (so_aload_n d_L_law_479 rfl) ?_
  refine ct_al.cons (so_aload_n d_L_law_480 rfl) ?_
  refine ct_al.cons (so_iload_n d_L_law_481 rfl) ?_
  refine ct_al.cons (so_iconst d_L_law_482 (by decide)) ?_
  refine ct_al.cons (so_iadd d_L_law_483) ?_
  refine ct_al.cons (so_sald d_L_law_484) ?_
  refine ct_al.cons (so_ic_eq d_L_law_488 (by decide)) ?_
  refine ct_al.cons (so_iconst d_L_law_491 (by decide)) ?_
  refine ct_al.cons (so_iinc d_L_law_493 (by decide) (by decide)) ?_
  refine ct_al.cons (so_goto d_L_law_496 (by decide)) ?_
  refine ct_al.cons (so_iconst d_L_law_499 (by decide)) ?_
  exact ct_al.nil
set_option maxRecDepth 100000 in
theorem e_L_law_0 (l : ct_Lx) : ct_tab (T_L_law l) 0 = some (o_new 0 7) := rfl
set_option maxRecDepth 100000 in
theorem e_L_law_3 (l : ct_Lx) : ct_tab (T_L_law l) 3 = some (o_dup) := rfl
set_option maxRecDepth 100000 in
theorem e_L_law_7 (l : ct_Lx) : ct_tab (T_L_law l) 7 = some (o_astore 1 1) := rfl
set_option maxRecDepth 100000 in
theorem e_L_law_8 (l : ct_Lx) : ct_tab (T_L_law l) 8 = some (o_new 4 24) := rfl
set_option maxRecDepth 100000 in
theorem e_L_law_11 (l : ct_Lx) : ct_tab (T_L_law l) 11 = some (o_dup) := rfl
set_option maxRecDepth 100000 in
theorem e_L_law_15 (l : ct_Lx) : ct_tab (T_L_law l) 15 = some (o_astore 2 1) := rfl
set_option maxRecDepth 100000 in
theorem e_L_law_16 (l : ct_Lx) : ct_tab (T_L_law l) 16 = some (o_push (.int 0) 1) := rfl
set_option maxRecDepth 100000 in
theorem e_L_law_17 (l : ct_Lx) : ct_tab (T_L_law l) 17 = some (o_istore 3 1) := rfl
set_option maxRecDepth 100000 in
theorem e_L_law_18 (l : ct_Lx) : ct_tab (T_L_law l) 18 = some (o_iload 3 1) := rfl
set_option maxRecDepth 100000 in
theorem e_L_law_19 (l : ct_Lx) : ct_tab (T_L_law l) 19 = some (o_aload 0 1) := rfl
set_option maxRecDepth 100000 in
theorem e_L_law_20 (l : ct_Lx) : ct_tab (T_L_law l) 20 = some (o_slen l.2.1) := rfl
set_option maxRecDepth 100000 in
theorem e_L_law_21 (l : ct_Lx) : ct_tab (T_L_law l) 21 = some (o_push (.int 4) 1) := rfl
set_option maxRecDepth 100000 in
theorem e_L_law_22 (l : ct_Lx) : ct_tab (T_L_law l) 22 = some (o_ii fun x y => x - y) := rfl
set_option maxRecDepth 100000 in
theorem e_L_law_23 (l : ct_Lx) : ct_tab (T_L_law l) 23 = some (o_ic (fun x y => y < x) (fun x y => ¬ y < x) 499) := rfl
set_option maxRecDepth 100000 in
theorem e_L_law_26 (l : ct_Lx) : ct_tab (T_L_law l) 26 = some (o_aload 0 1) := rfl
set_option maxRecDepth 100000 in
theorem e_L_law_27 (l : ct_Lx) : ct_tab (T_L_law l) 27 = some (o_iload 3 1) := rfl
set_option maxRecDepth 100000 in
theorem e_L_law_28 (l : ct_Lx) : ct_tab (T_L_law l) 28 = some (o_sald l.2.1 l.2.2) := rfl
set_option maxRecDepth 100000 in
theorem e_L_law_29 (l : ct_Lx) : ct_tab (T_L_law l) 29 = some (o_push (.int 15) 2) := rfl
set_option maxRecDepth 100000 in
theorem e_L_law_31 (l : ct_Lx) : ct_tab (T_L_law l) 31 = some (o_ii fun x y => x &&& y) := rfl
set_option maxRecDepth 100000 in
theorem e_L_law_32 (l : ct_Lx) : ct_tab (T_L_law l) 32 = some (o_sw [(0, 100), (1, 163), (2, 176), (3, 189), (4, 212), (5, 245), (6, 279), (7, 312), (8, 356), (9, 380), (10, 413), (11, 457), (12, 470)] 493) := rfl
set_option maxRecDepth 100000 in
theorem e_L_law_100 (l : ct_Lx) : ct_tab (T_L_law l) 100 = some (o_aload 1 1) := rfl
set_option maxRecDepth 100000 in
theorem e_L_law_101 (l : ct_Lx) : ct_tab (T_L_law l) 101 = some (o_aload 0 1) := rfl
set_option maxRecDepth 100000 in
theorem e_L_law_102 (l : ct_Lx) : ct_tab (T_L_law l) 102 = some (o_iload 3 1) := rfl
set_option maxRecDepth 100000 in
theorem e_L_law_103 (l : ct_Lx) : ct_tab (T_L_law l) 103 = some (o_push (.int 1) 1) := rfl
set_option maxRecDepth 100000 in
theorem e_L_law_104 (l : ct_Lx) : ct_tab (T_L_law l) 104 = some (o_ii fun x y => x + y) := rfl
set_option maxRecDepth 100000 in
theorem e_L_law_105 (l : ct_Lx) : ct_tab (T_L_law l) 105 = some (o_sald l.2.1 l.2.2) := rfl
set_option maxRecDepth 100000 in
theorem e_L_law_106 (l : ct_Lx) : ct_tab (T_L_law l) 106 = some (o_i2l) := rfl
set_option maxRecDepth 100000 in
theorem e_L_law_107 (l : ct_Lx) : ct_tab (T_L_law l) 107 = some (o_push (.int 32) 2) := rfl
set_option maxRecDepth 100000 in
theorem e_L_law_109 (l : ct_Lx) : ct_tab (T_L_law l) 109 = some (o_li fun x y => x <<< (y.toInt64 &&& 63)) := rfl
set_option maxRecDepth 100000 in
theorem e_L_law_110 (l : ct_Lx) : ct_tab (T_L_law l) 110 = some (o_aload 0 1) := rfl
set_option maxRecDepth 100000 in
theorem e_L_law_111 (l : ct_Lx) : ct_tab (T_L_law l) 111 = some (o_iload 3 1) := rfl
set_option maxRecDepth 100000 in
theorem e_L_law_112 (l : ct_Lx) : ct_tab (T_L_law l) 112 = some (o_push (.int 2) 1) := rfl
set_option maxRecDepth 100000 in
theorem e_L_law_113 (l : ct_Lx) : ct_tab (T_L_law l) 113 = some (o_ii fun x y => x + y) := rfl
set_option maxRecDepth 100000 in
theorem e_L_law_114 (l : ct_Lx) : ct_tab (T_L_law l) 114 = some (o_sald l.2.1 l.2.2) := rfl
set_option maxRecDepth 100000 in
theorem e_L_law_115 (l : ct_Lx) : ct_tab (T_L_law l) 115 = some (o_i2l) := rfl
set_option maxRecDepth 100000 in
theorem e_L_law_116 (l : ct_Lx) : ct_tab (T_L_law l) 116 = some (o_push (.long 4294967295) 3) := rfl
set_option maxRecDepth 100000 in
theorem e_L_law_119 (l : ct_Lx) : ct_tab (T_L_law l) 119 = some (o_ll fun x y => x &&& y) := rfl
set_option maxRecDepth 100000 in
theorem e_L_law_120 (l : ct_Lx) : ct_tab (T_L_law l) 120 = some (o_ll fun x y => x ||| y) := rfl
set_option maxRecDepth 100000 in
theorem e_L_law_121 (l : ct_Lx) : ct_tab (T_L_law l) 121 = some (o_aload 0 1) := rfl
set_option maxRecDepth 100000 in
theorem e_L_law_122 (l : ct_Lx) : ct_tab (T_L_law l) 122 = some (o_iload 3 1) := rfl
set_option maxRecDepth 100000 in
theorem e_L_law_123 (l : ct_Lx) : ct_tab (T_L_law l) 123 = some (o_push (.int 3) 1) := rfl
set_option maxRecDepth 100000 in
theorem e_L_law_124 (l : ct_Lx) : ct_tab (T_L_law l) 124 = some (o_ii fun x y => x + y) := rfl
set_option maxRecDepth 100000 in
theorem e_L_law_125 (l : ct_Lx) : ct_tab (T_L_law l) 125 = some (o_sald l.2.1 l.2.2) := rfl
set_option maxRecDepth 100000 in
theorem e_L_law_129 (l : ct_Lx) : ct_tab (T_L_law l) 129 = some (o_aload 2 1) := rfl
set_option maxRecDepth 100000 in
theorem e_L_law_130 (l : ct_Lx) : ct_tab (T_L_law l) 130 = some (o_aload 0 1) := rfl
set_option maxRecDepth 100000 in
theorem e_L_law_131 (l : ct_Lx) : ct_tab (T_L_law l) 131 = some (o_iload 3 1) := rfl
set_option maxRecDepth 100000 in
theorem e_L_law_132 (l : ct_Lx) : ct_tab (T_L_law l) 132 = some (o_push (.int 1) 1) := rfl
set_option maxRecDepth 100000 in
theorem e_L_law_133 (l : ct_Lx) : ct_tab (T_L_law l) 133 = some (o_ii fun x y => x + y) := rfl
set_option maxRecDepth 100000 in
theorem e_L_law_134 (l : ct_Lx) : ct_tab (T_L_law l) 134 = some (o_sald l.2.1 l.2.2) := rfl
set_option maxRecDepth 100000 in
theorem e_L_law_135 (l : ct_Lx) : ct_tab (T_L_law l) 135 = some (o_i2l) := rfl
set_option maxRecDepth 100000 in
theorem e_L_law_136 (l : ct_Lx) : ct_tab (T_L_law l) 136 = some (o_push (.int 32) 2) := rfl
set_option maxRecDepth 100000 in
theorem e_L_law_138 (l : ct_Lx) : ct_tab (T_L_law l) 138 = some (o_li fun x y => x <<< (y.toInt64 &&& 63)) := rfl
set_option maxRecDepth 100000 in
theorem e_L_law_139 (l : ct_Lx) : ct_tab (T_L_law l) 139 = some (o_aload 0 1) := rfl
set_option maxRecDepth 100000 in
theorem e_L_law_140 (l : ct_Lx) : ct_tab (T_L_law l) 140 = some (o_iload 3 1) := rfl
set_option maxRecDepth 100000 in
theorem e_L_law_141 (l : ct_Lx) : ct_tab (T_L_law l) 141 = some (o_push (.int 2) 1) := rfl
set_option maxRecDepth 100000 in
theorem e_L_law_142 (l : ct_Lx) : ct_tab (T_L_law l) 142 = some (o_ii fun x y => x + y) := rfl
set_option maxRecDepth 100000 in
theorem e_L_law_143 (l : ct_Lx) : ct_tab (T_L_law l) 143 = some (o_sald l.2.1 l.2.2) := rfl
set_option maxRecDepth 100000 in
theorem e_L_law_144 (l : ct_Lx) : ct_tab (T_L_law l) 144 = some (o_i2l) := rfl
set_option maxRecDepth 100000 in
theorem e_L_law_145 (l : ct_Lx) : ct_tab (T_L_law l) 145 = some (o_push (.long 4294967295) 3) := rfl
set_option maxRecDepth 100000 in
theorem e_L_law_148 (l : ct_Lx) : ct_tab (T_L_law l) 148 = some (o_ll fun x y => x &&& y) := rfl
set_option maxRecDepth 100000 in
theorem e_L_law_149 (l : ct_Lx) : ct_tab (T_L_law l) 149 = some (o_ll fun x y => x ||| y) := rfl
set_option maxRecDepth 100000 in
theorem e_L_law_150 (l : ct_Lx) : ct_tab (T_L_law l) 150 = some (o_aload 0 1) := rfl
set_option maxRecDepth 100000 in
theorem e_L_law_151 (l : ct_Lx) : ct_tab (T_L_law l) 151 = some (o_iload 3 1) := rfl
set_option maxRecDepth 100000 in
theorem e_L_law_152 (l : ct_Lx) : ct_tab (T_L_law l) 152 = some (o_push (.int 3) 1) := rfl
set_option maxRecDepth 100000 in
theorem e_L_law_153 (l : ct_Lx) : ct_tab (T_L_law l) 153 = some (o_ii fun x y => x + y) := rfl
set_option maxRecDepth 100000 in
theorem e_L_law_154 (l : ct_Lx) : ct_tab (T_L_law l) 154 = some (o_sald l.2.1 l.2.2) := rfl
set_option maxRecDepth 100000 in
theorem e_L_law_158 (l : ct_Lx) : ct_tab (T_L_law l) 158 = some (o_ic (fun x y => x = y) (fun x y => ¬ x = y) 493) := rfl
set_option maxRecDepth 100000 in
theorem e_L_law_161 (l : ct_Lx) : ct_tab (T_L_law l) 161 = some (o_push (.int 0) 1) := rfl
set_option maxRecDepth 100000 in
theorem e_L_law_163 (l : ct_Lx) : ct_tab (T_L_law l) 163 = some (o_aload 1 1) := rfl
set_option maxRecDepth 100000 in
theorem e_L_law_167 (l : ct_Lx) : ct_tab (T_L_law l) 167 = some (o_aload 2 1) := rfl
set_option maxRecDepth 100000 in
theorem e_L_law_171 (l : ct_Lx) : ct_tab (T_L_law l) 171 = some (o_ic (fun x y => x = y) (fun x y => ¬ x = y) 493) := rfl
set_option maxRecDepth 100000 in
theorem e_L_law_174 (l : ct_Lx) : ct_tab (T_L_law l) 174 = some (o_push (.int 0) 1) := rfl
set_option maxRecDepth 100000 in
theorem e_L_law_176 (l : ct_Lx) : ct_tab (T_L_law l) 176 = some (o_aload 1 1) := rfl
set_option maxRecDepth 100000 in
theorem e_L_law_180 (l : ct_Lx) : ct_tab (T_L_law l) 180 = some (o_aload 2 1) := rfl
set_option maxRecDepth 100000 in
theorem e_L_law_184 (l : ct_Lx) : ct_tab (T_L_law l) 184 = some (o_ic (fun x y => x = y) (fun x y => ¬ x = y) 493) := rfl
set_option maxRecDepth 100000 in
theorem e_L_law_187 (l : ct_Lx) : ct_tab (T_L_law l) 187 = some (o_push (.int 0) 1) := rfl
set_option maxRecDepth 100000 in
theorem e_L_law_189 (l : ct_Lx) : ct_tab (T_L_law l) 189 = some (o_aload 1 1) := rfl
set_option maxRecDepth 100000 in
theorem e_L_law_190 (l : ct_Lx) : ct_tab (T_L_law l) 190 = some (o_aload 0 1) := rfl
set_option maxRecDepth 100000 in
theorem e_L_law_191 (l : ct_Lx) : ct_tab (T_L_law l) 191 = some (o_iload 3 1) := rfl
set_option maxRecDepth 100000 in
theorem e_L_law_192 (l : ct_Lx) : ct_tab (T_L_law l) 192 = some (o_push (.int 1) 1) := rfl
set_option maxRecDepth 100000 in
theorem e_L_law_193 (l : ct_Lx) : ct_tab (T_L_law l) 193 = some (o_ii fun x y => x + y) := rfl
set_option maxRecDepth 100000 in
theorem e_L_law_194 (l : ct_Lx) : ct_tab (T_L_law l) 194 = some (o_sald l.2.1 l.2.2) := rfl
set_option maxRecDepth 100000 in
theorem e_L_law_198 (l : ct_Lx) : ct_tab (T_L_law l) 198 = some (o_aload 2 1) := rfl
set_option maxRecDepth 100000 in
theorem e_L_law_199 (l : ct_Lx) : ct_tab (T_L_law l) 199 = some (o_aload 0 1) := rfl
set_option maxRecDepth 100000 in
theorem e_L_law_200 (l : ct_Lx) : ct_tab (T_L_law l) 200 = some (o_iload 3 1) := rfl
set_option maxRecDepth 100000 in
theorem e_L_law_201 (l : ct_Lx) : ct_tab (T_L_law l) 201 = some (o_push (.int 1) 1) := rfl
set_option maxRecDepth 100000 in
theorem e_L_law_202 (l : ct_Lx) : ct_tab (T_L_law l) 202 = some (o_ii fun x y => x + y) := rfl
set_option maxRecDepth 100000 in
theorem e_L_law_203 (l : ct_Lx) : ct_tab (T_L_law l) 203 = some (o_sald l.2.1 l.2.2) := rfl
set_option maxRecDepth 100000 in
theorem e_L_law_207 (l : ct_Lx) : ct_tab (T_L_law l) 207 = some (o_ic (fun x y => x = y) (fun x y => ¬ x = y) 493) := rfl
set_option maxRecDepth 100000 in
theorem e_L_law_210 (l : ct_Lx) : ct_tab (T_L_law l) 210 = some (o_push (.int 0) 1) := rfl
set_option maxRecDepth 100000 in
theorem e_L_law_212 (l : ct_Lx) : ct_tab (T_L_law l) 212 = some (o_aload 1 1) := rfl
set_option maxRecDepth 100000 in
theorem e_L_law_213 (l : ct_Lx) : ct_tab (T_L_law l) 213 = some (o_aload 0 1) := rfl
set_option maxRecDepth 100000 in
theorem e_L_law_214 (l : ct_Lx) : ct_tab (T_L_law l) 214 = some (o_iload 3 1) := rfl
set_option maxRecDepth 100000 in
theorem e_L_law_215 (l : ct_Lx) : ct_tab (T_L_law l) 215 = some (o_push (.int 1) 1) := rfl
set_option maxRecDepth 100000 in
theorem e_L_law_216 (l : ct_Lx) : ct_tab (T_L_law l) 216 = some (o_ii fun x y => x + y) := rfl
set_option maxRecDepth 100000 in
theorem e_L_law_217 (l : ct_Lx) : ct_tab (T_L_law l) 217 = some (o_sald l.2.1 l.2.2) := rfl
set_option maxRecDepth 100000 in
theorem e_L_law_218 (l : ct_Lx) : ct_tab (T_L_law l) 218 = some (o_aload 0 1) := rfl
set_option maxRecDepth 100000 in
theorem e_L_law_219 (l : ct_Lx) : ct_tab (T_L_law l) 219 = some (o_iload 3 1) := rfl
set_option maxRecDepth 100000 in
theorem e_L_law_220 (l : ct_Lx) : ct_tab (T_L_law l) 220 = some (o_push (.int 2) 1) := rfl
set_option maxRecDepth 100000 in
theorem e_L_law_221 (l : ct_Lx) : ct_tab (T_L_law l) 221 = some (o_ii fun x y => x + y) := rfl
set_option maxRecDepth 100000 in
theorem e_L_law_222 (l : ct_Lx) : ct_tab (T_L_law l) 222 = some (o_sald l.2.1 l.2.2) := rfl
set_option maxRecDepth 100000 in
theorem e_L_law_226 (l : ct_Lx) : ct_tab (T_L_law l) 226 = some (o_aload 2 1) := rfl
set_option maxRecDepth 100000 in
theorem e_L_law_227 (l : ct_Lx) : ct_tab (T_L_law l) 227 = some (o_aload 0 1) := rfl
set_option maxRecDepth 100000 in
theorem e_L_law_228 (l : ct_Lx) : ct_tab (T_L_law l) 228 = some (o_iload 3 1) := rfl
set_option maxRecDepth 100000 in
theorem e_L_law_229 (l : ct_Lx) : ct_tab (T_L_law l) 229 = some (o_push (.int 1) 1) := rfl
set_option maxRecDepth 100000 in
theorem e_L_law_230 (l : ct_Lx) : ct_tab (T_L_law l) 230 = some (o_ii fun x y => x + y) := rfl
set_option maxRecDepth 100000 in
theorem e_L_law_231 (l : ct_Lx) : ct_tab (T_L_law l) 231 = some (o_sald l.2.1 l.2.2) := rfl
set_option maxRecDepth 100000 in
theorem e_L_law_232 (l : ct_Lx) : ct_tab (T_L_law l) 232 = some (o_aload 0 1) := rfl
set_option maxRecDepth 100000 in
theorem e_L_law_233 (l : ct_Lx) : ct_tab (T_L_law l) 233 = some (o_iload 3 1) := rfl
set_option maxRecDepth 100000 in
theorem e_L_law_234 (l : ct_Lx) : ct_tab (T_L_law l) 234 = some (o_push (.int 2) 1) := rfl
set_option maxRecDepth 100000 in
theorem e_L_law_235 (l : ct_Lx) : ct_tab (T_L_law l) 235 = some (o_ii fun x y => x + y) := rfl
set_option maxRecDepth 100000 in
theorem e_L_law_236 (l : ct_Lx) : ct_tab (T_L_law l) 236 = some (o_sald l.2.1 l.2.2) := rfl
set_option maxRecDepth 100000 in
theorem e_L_law_240 (l : ct_Lx) : ct_tab (T_L_law l) 240 = some (o_ic (fun x y => x = y) (fun x y => ¬ x = y) 493) := rfl
set_option maxRecDepth 100000 in
theorem e_L_law_243 (l : ct_Lx) : ct_tab (T_L_law l) 243 = some (o_push (.int 0) 1) := rfl
set_option maxRecDepth 100000 in
theorem e_L_law_245 (l : ct_Lx) : ct_tab (T_L_law l) 245 = some (o_aload 1 1) := rfl
set_option maxRecDepth 100000 in
theorem e_L_law_246 (l : ct_Lx) : ct_tab (T_L_law l) 246 = some (o_aload 0 1) := rfl
set_option maxRecDepth 100000 in
theorem e_L_law_247 (l : ct_Lx) : ct_tab (T_L_law l) 247 = some (o_iload 3 1) := rfl
set_option maxRecDepth 100000 in
theorem e_L_law_248 (l : ct_Lx) : ct_tab (T_L_law l) 248 = some (o_push (.int 1) 1) := rfl
set_option maxRecDepth 100000 in
theorem e_L_law_249 (l : ct_Lx) : ct_tab (T_L_law l) 249 = some (o_ii fun x y => x + y) := rfl
set_option maxRecDepth 100000 in
theorem e_L_law_250 (l : ct_Lx) : ct_tab (T_L_law l) 250 = some (o_sald l.2.1 l.2.2) := rfl
set_option maxRecDepth 100000 in
theorem e_L_law_251 (l : ct_Lx) : ct_tab (T_L_law l) 251 = some (o_aload 0 1) := rfl
set_option maxRecDepth 100000 in
theorem e_L_law_252 (l : ct_Lx) : ct_tab (T_L_law l) 252 = some (o_iload 3 1) := rfl
set_option maxRecDepth 100000 in
theorem e_L_law_253 (l : ct_Lx) : ct_tab (T_L_law l) 253 = some (o_push (.int 2) 1) := rfl
set_option maxRecDepth 100000 in
theorem e_L_law_254 (l : ct_Lx) : ct_tab (T_L_law l) 254 = some (o_ii fun x y => x + y) := rfl
set_option maxRecDepth 100000 in
theorem e_L_law_255 (l : ct_Lx) : ct_tab (T_L_law l) 255 = some (o_sald l.2.1 l.2.2) := rfl
set_option maxRecDepth 100000 in
theorem e_L_law_259 (l : ct_Lx) : ct_tab (T_L_law l) 259 = some (o_aload 2 1) := rfl
set_option maxRecDepth 100000 in
theorem e_L_law_260 (l : ct_Lx) : ct_tab (T_L_law l) 260 = some (o_aload 0 1) := rfl
set_option maxRecDepth 100000 in
theorem e_L_law_261 (l : ct_Lx) : ct_tab (T_L_law l) 261 = some (o_iload 3 1) := rfl
set_option maxRecDepth 100000 in
theorem e_L_law_262 (l : ct_Lx) : ct_tab (T_L_law l) 262 = some (o_push (.int 1) 1) := rfl
set_option maxRecDepth 100000 in
theorem e_L_law_263 (l : ct_Lx) : ct_tab (T_L_law l) 263 = some (o_ii fun x y => x + y) := rfl
set_option maxRecDepth 100000 in
theorem e_L_law_264 (l : ct_Lx) : ct_tab (T_L_law l) 264 = some (o_sald l.2.1 l.2.2) := rfl
set_option maxRecDepth 100000 in
theorem e_L_law_265 (l : ct_Lx) : ct_tab (T_L_law l) 265 = some (o_aload 0 1) := rfl
set_option maxRecDepth 100000 in
theorem e_L_law_266 (l : ct_Lx) : ct_tab (T_L_law l) 266 = some (o_iload 3 1) := rfl
set_option maxRecDepth 100000 in
theorem e_L_law_267 (l : ct_Lx) : ct_tab (T_L_law l) 267 = some (o_push (.int 2) 1) := rfl
set_option maxRecDepth 100000 in
theorem e_L_law_268 (l : ct_Lx) : ct_tab (T_L_law l) 268 = some (o_ii fun x y => x + y) := rfl
set_option maxRecDepth 100000 in
theorem e_L_law_269 (l : ct_Lx) : ct_tab (T_L_law l) 269 = some (o_sald l.2.1 l.2.2) := rfl
set_option maxRecDepth 100000 in
theorem e_L_law_273 (l : ct_Lx) : ct_tab (T_L_law l) 273 = some (o_lcmp) := rfl
set_option maxRecDepth 100000 in
theorem e_L_law_274 (l : ct_Lx) : ct_tab (T_L_law l) 274 = some (o_if (fun x => x = 0) (fun x => ¬ x = 0) 493) := rfl
set_option maxRecDepth 100000 in
theorem e_L_law_277 (l : ct_Lx) : ct_tab (T_L_law l) 277 = some (o_push (.int 0) 1) := rfl
set_option maxRecDepth 100000 in
theorem e_L_law_279 (l : ct_Lx) : ct_tab (T_L_law l) 279 = some (o_aload 1 1) := rfl
set_option maxRecDepth 100000 in
theorem e_L_law_280 (l : ct_Lx) : ct_tab (T_L_law l) 280 = some (o_aload 0 1) := rfl
set_option maxRecDepth 100000 in
theorem e_L_law_281 (l : ct_Lx) : ct_tab (T_L_law l) 281 = some (o_iload 3 1) := rfl
set_option maxRecDepth 100000 in
theorem e_L_law_282 (l : ct_Lx) : ct_tab (T_L_law l) 282 = some (o_push (.int 1) 1) := rfl
set_option maxRecDepth 100000 in
theorem e_L_law_283 (l : ct_Lx) : ct_tab (T_L_law l) 283 = some (o_ii fun x y => x + y) := rfl
set_option maxRecDepth 100000 in
theorem e_L_law_284 (l : ct_Lx) : ct_tab (T_L_law l) 284 = some (o_sald l.2.1 l.2.2) := rfl
set_option maxRecDepth 100000 in
theorem e_L_law_285 (l : ct_Lx) : ct_tab (T_L_law l) 285 = some (o_aload 0 1) := rfl
set_option maxRecDepth 100000 in
theorem e_L_law_286 (l : ct_Lx) : ct_tab (T_L_law l) 286 = some (o_iload 3 1) := rfl
set_option maxRecDepth 100000 in
theorem e_L_law_287 (l : ct_Lx) : ct_tab (T_L_law l) 287 = some (o_push (.int 2) 1) := rfl
set_option maxRecDepth 100000 in
theorem e_L_law_288 (l : ct_Lx) : ct_tab (T_L_law l) 288 = some (o_ii fun x y => x + y) := rfl
set_option maxRecDepth 100000 in
theorem e_L_law_289 (l : ct_Lx) : ct_tab (T_L_law l) 289 = some (o_sald l.2.1 l.2.2) := rfl
set_option maxRecDepth 100000 in
theorem e_L_law_293 (l : ct_Lx) : ct_tab (T_L_law l) 293 = some (o_aload 2 1) := rfl
set_option maxRecDepth 100000 in
theorem e_L_law_294 (l : ct_Lx) : ct_tab (T_L_law l) 294 = some (o_aload 0 1) := rfl
set_option maxRecDepth 100000 in
theorem e_L_law_295 (l : ct_Lx) : ct_tab (T_L_law l) 295 = some (o_iload 3 1) := rfl
set_option maxRecDepth 100000 in
theorem e_L_law_296 (l : ct_Lx) : ct_tab (T_L_law l) 296 = some (o_push (.int 1) 1) := rfl
set_option maxRecDepth 100000 in
theorem e_L_law_297 (l : ct_Lx) : ct_tab (T_L_law l) 297 = some (o_ii fun x y => x + y) := rfl
set_option maxRecDepth 100000 in
theorem e_L_law_298 (l : ct_Lx) : ct_tab (T_L_law l) 298 = some (o_sald l.2.1 l.2.2) := rfl
set_option maxRecDepth 100000 in
theorem e_L_law_299 (l : ct_Lx) : ct_tab (T_L_law l) 299 = some (o_aload 0 1) := rfl
set_option maxRecDepth 100000 in
theorem e_L_law_300 (l : ct_Lx) : ct_tab (T_L_law l) 300 = some (o_iload 3 1) := rfl
set_option maxRecDepth 100000 in
theorem e_L_law_301 (l : ct_Lx) : ct_tab (T_L_law l) 301 = some (o_push (.int 2) 1) := rfl
set_option maxRecDepth 100000 in
theorem e_L_law_302 (l : ct_Lx) : ct_tab (T_L_law l) 302 = some (o_ii fun x y => x + y) := rfl
set_option maxRecDepth 100000 in
theorem e_L_law_303 (l : ct_Lx) : ct_tab (T_L_law l) 303 = some (o_sald l.2.1 l.2.2) := rfl
set_option maxRecDepth 100000 in
theorem e_L_law_307 (l : ct_Lx) : ct_tab (T_L_law l) 307 = some (o_ic (fun x y => x = y) (fun x y => ¬ x = y) 493) := rfl
set_option maxRecDepth 100000 in
theorem e_L_law_310 (l : ct_Lx) : ct_tab (T_L_law l) 310 = some (o_push (.int 0) 1) := rfl
set_option maxRecDepth 100000 in
theorem e_L_law_312 (l : ct_Lx) : ct_tab (T_L_law l) 312 = some (o_aload 1 1) := rfl
set_option maxRecDepth 100000 in
theorem e_L_law_313 (l : ct_Lx) : ct_tab (T_L_law l) 313 = some (o_aload 0 1) := rfl
set_option maxRecDepth 100000 in
theorem e_L_law_314 (l : ct_Lx) : ct_tab (T_L_law l) 314 = some (o_iload 3 1) := rfl
set_option maxRecDepth 100000 in
theorem e_L_law_315 (l : ct_Lx) : ct_tab (T_L_law l) 315 = some (o_push (.int 1) 1) := rfl
set_option maxRecDepth 100000 in
theorem e_L_law_316 (l : ct_Lx) : ct_tab (T_L_law l) 316 = some (o_ii fun x y => x + y) := rfl
set_option maxRecDepth 100000 in
theorem e_L_law_317 (l : ct_Lx) : ct_tab (T_L_law l) 317 = some (o_sald l.2.1 l.2.2) := rfl
set_option maxRecDepth 100000 in
theorem e_L_law_318 (l : ct_Lx) : ct_tab (T_L_law l) 318 = some (o_aload 0 1) := rfl
set_option maxRecDepth 100000 in
theorem e_L_law_319 (l : ct_Lx) : ct_tab (T_L_law l) 319 = some (o_iload 3 1) := rfl
set_option maxRecDepth 100000 in
theorem e_L_law_320 (l : ct_Lx) : ct_tab (T_L_law l) 320 = some (o_push (.int 2) 1) := rfl
set_option maxRecDepth 100000 in
theorem e_L_law_321 (l : ct_Lx) : ct_tab (T_L_law l) 321 = some (o_ii fun x y => x + y) := rfl
set_option maxRecDepth 100000 in
theorem e_L_law_322 (l : ct_Lx) : ct_tab (T_L_law l) 322 = some (o_sald l.2.1 l.2.2) := rfl
set_option maxRecDepth 100000 in
theorem e_L_law_323 (l : ct_Lx) : ct_tab (T_L_law l) 323 = some (o_aload 0 1) := rfl
set_option maxRecDepth 100000 in
theorem e_L_law_324 (l : ct_Lx) : ct_tab (T_L_law l) 324 = some (o_iload 3 1) := rfl
set_option maxRecDepth 100000 in
theorem e_L_law_325 (l : ct_Lx) : ct_tab (T_L_law l) 325 = some (o_push (.int 3) 1) := rfl
set_option maxRecDepth 100000 in
theorem e_L_law_326 (l : ct_Lx) : ct_tab (T_L_law l) 326 = some (o_ii fun x y => x + y) := rfl
set_option maxRecDepth 100000 in
theorem e_L_law_327 (l : ct_Lx) : ct_tab (T_L_law l) 327 = some (o_sald l.2.1 l.2.2) := rfl
set_option maxRecDepth 100000 in
theorem e_L_law_331 (l : ct_Lx) : ct_tab (T_L_law l) 331 = some (o_aload 2 1) := rfl
set_option maxRecDepth 100000 in
theorem e_L_law_332 (l : ct_Lx) : ct_tab (T_L_law l) 332 = some (o_aload 0 1) := rfl
set_option maxRecDepth 100000 in
theorem e_L_law_333 (l : ct_Lx) : ct_tab (T_L_law l) 333 = some (o_iload 3 1) := rfl
set_option maxRecDepth 100000 in
theorem e_L_law_334 (l : ct_Lx) : ct_tab (T_L_law l) 334 = some (o_push (.int 1) 1) := rfl
set_option maxRecDepth 100000 in
theorem e_L_law_335 (l : ct_Lx) : ct_tab (T_L_law l) 335 = some (o_ii fun x y => x + y) := rfl
set_option maxRecDepth 100000 in
theorem e_L_law_336 (l : ct_Lx) : ct_tab (T_L_law l) 336 = some (o_sald l.2.1 l.2.2) := rfl
set_option maxRecDepth 100000 in
theorem e_L_law_337 (l : ct_Lx) : ct_tab (T_L_law l) 337 = some (o_aload 0 1) := rfl
set_option maxRecDepth 100000 in
theorem e_L_law_338 (l : ct_Lx) : ct_tab (T_L_law l) 338 = some (o_iload 3 1) := rfl
set_option maxRecDepth 100000 in
theorem e_L_law_339 (l : ct_Lx) : ct_tab (T_L_law l) 339 = some (o_push (.int 2) 1) := rfl
set_option maxRecDepth 100000 in
theorem e_L_law_340 (l : ct_Lx) : ct_tab (T_L_law l) 340 = some (o_ii fun x y => x + y) := rfl
set_option maxRecDepth 100000 in
theorem e_L_law_341 (l : ct_Lx) : ct_tab (T_L_law l) 341 = some (o_sald l.2.1 l.2.2) := rfl
set_option maxRecDepth 100000 in
theorem e_L_law_342 (l : ct_Lx) : ct_tab (T_L_law l) 342 = some (o_aload 0 1) := rfl
set_option maxRecDepth 100000 in
theorem e_L_law_343 (l : ct_Lx) : ct_tab (T_L_law l) 343 = some (o_iload 3 1) := rfl
set_option maxRecDepth 100000 in
theorem e_L_law_344 (l : ct_Lx) : ct_tab (T_L_law l) 344 = some (o_push (.int 3) 1) := rfl
set_option maxRecDepth 100000 in
theorem e_L_law_345 (l : ct_Lx) : ct_tab (T_L_law l) 345 = some (o_ii fun x y => x + y) := rfl
set_option maxRecDepth 100000 in
theorem e_L_law_346 (l : ct_Lx) : ct_tab (T_L_law l) 346 = some (o_sald l.2.1 l.2.2) := rfl
set_option maxRecDepth 100000 in
theorem e_L_law_350 (l : ct_Lx) : ct_tab (T_L_law l) 350 = some (o_lcmp) := rfl
set_option maxRecDepth 100000 in
theorem e_L_law_351 (l : ct_Lx) : ct_tab (T_L_law l) 351 = some (o_if (fun x => x = 0) (fun x => ¬ x = 0) 493) := rfl
set_option maxRecDepth 100000 in
theorem e_L_law_354 (l : ct_Lx) : ct_tab (T_L_law l) 354 = some (o_push (.int 0) 1) := rfl
set_option maxRecDepth 100000 in
theorem e_L_law_356 (l : ct_Lx) : ct_tab (T_L_law l) 356 = some (o_aload 1 1) := rfl
set_option maxRecDepth 100000 in
theorem e_L_law_357 (l : ct_Lx) : ct_tab (T_L_law l) 357 = some (o_aload 0 1) := rfl
set_option maxRecDepth 100000 in
theorem e_L_law_358 (l : ct_Lx) : ct_tab (T_L_law l) 358 = some (o_iload 3 1) := rfl
set_option maxRecDepth 100000 in
theorem e_L_law_359 (l : ct_Lx) : ct_tab (T_L_law l) 359 = some (o_push (.int 1) 1) := rfl
set_option maxRecDepth 100000 in
theorem e_L_law_360 (l : ct_Lx) : ct_tab (T_L_law l) 360 = some (o_ii fun x y => x + y) := rfl
set_option maxRecDepth 100000 in
theorem e_L_law_361 (l : ct_Lx) : ct_tab (T_L_law l) 361 = some (o_sald l.2.1 l.2.2) := rfl
set_option maxRecDepth 100000 in
theorem e_L_law_365 (l : ct_Lx) : ct_tab (T_L_law l) 365 = some (o_aload 2 1) := rfl
set_option maxRecDepth 100000 in
theorem e_L_law_366 (l : ct_Lx) : ct_tab (T_L_law l) 366 = some (o_aload 0 1) := rfl
set_option maxRecDepth 100000 in
theorem e_L_law_367 (l : ct_Lx) : ct_tab (T_L_law l) 367 = some (o_iload 3 1) := rfl
set_option maxRecDepth 100000 in
theorem e_L_law_368 (l : ct_Lx) : ct_tab (T_L_law l) 368 = some (o_push (.int 1) 1) := rfl
set_option maxRecDepth 100000 in
theorem e_L_law_369 (l : ct_Lx) : ct_tab (T_L_law l) 369 = some (o_ii fun x y => x + y) := rfl
set_option maxRecDepth 100000 in
theorem e_L_law_370 (l : ct_Lx) : ct_tab (T_L_law l) 370 = some (o_sald l.2.1 l.2.2) := rfl
set_option maxRecDepth 100000 in
theorem e_L_law_374 (l : ct_Lx) : ct_tab (T_L_law l) 374 = some (o_lcmp) := rfl
set_option maxRecDepth 100000 in
theorem e_L_law_375 (l : ct_Lx) : ct_tab (T_L_law l) 375 = some (o_if (fun x => x = 0) (fun x => ¬ x = 0) 493) := rfl
set_option maxRecDepth 100000 in
theorem e_L_law_378 (l : ct_Lx) : ct_tab (T_L_law l) 378 = some (o_push (.int 0) 1) := rfl
set_option maxRecDepth 100000 in
theorem e_L_law_380 (l : ct_Lx) : ct_tab (T_L_law l) 380 = some (o_aload 1 1) := rfl
set_option maxRecDepth 100000 in
theorem e_L_law_381 (l : ct_Lx) : ct_tab (T_L_law l) 381 = some (o_aload 0 1) := rfl
set_option maxRecDepth 100000 in
theorem e_L_law_382 (l : ct_Lx) : ct_tab (T_L_law l) 382 = some (o_iload 3 1) := rfl
set_option maxRecDepth 100000 in
theorem e_L_law_383 (l : ct_Lx) : ct_tab (T_L_law l) 383 = some (o_push (.int 1) 1) := rfl
set_option maxRecDepth 100000 in
theorem e_L_law_384 (l : ct_Lx) : ct_tab (T_L_law l) 384 = some (o_ii fun x y => x + y) := rfl
set_option maxRecDepth 100000 in
theorem e_L_law_385 (l : ct_Lx) : ct_tab (T_L_law l) 385 = some (o_sald l.2.1 l.2.2) := rfl
set_option maxRecDepth 100000 in
theorem e_L_law_386 (l : ct_Lx) : ct_tab (T_L_law l) 386 = some (o_aload 0 1) := rfl
set_option maxRecDepth 100000 in
theorem e_L_law_387 (l : ct_Lx) : ct_tab (T_L_law l) 387 = some (o_iload 3 1) := rfl
set_option maxRecDepth 100000 in
theorem e_L_law_388 (l : ct_Lx) : ct_tab (T_L_law l) 388 = some (o_push (.int 2) 1) := rfl
set_option maxRecDepth 100000 in
theorem e_L_law_389 (l : ct_Lx) : ct_tab (T_L_law l) 389 = some (o_ii fun x y => x + y) := rfl
set_option maxRecDepth 100000 in
theorem e_L_law_390 (l : ct_Lx) : ct_tab (T_L_law l) 390 = some (o_sald l.2.1 l.2.2) := rfl
set_option maxRecDepth 100000 in
theorem e_L_law_394 (l : ct_Lx) : ct_tab (T_L_law l) 394 = some (o_aload 2 1) := rfl
set_option maxRecDepth 100000 in
theorem e_L_law_395 (l : ct_Lx) : ct_tab (T_L_law l) 395 = some (o_aload 0 1) := rfl
set_option maxRecDepth 100000 in
theorem e_L_law_396 (l : ct_Lx) : ct_tab (T_L_law l) 396 = some (o_iload 3 1) := rfl
set_option maxRecDepth 100000 in
theorem e_L_law_397 (l : ct_Lx) : ct_tab (T_L_law l) 397 = some (o_push (.int 1) 1) := rfl
set_option maxRecDepth 100000 in
theorem e_L_law_398 (l : ct_Lx) : ct_tab (T_L_law l) 398 = some (o_ii fun x y => x + y) := rfl
set_option maxRecDepth 100000 in
theorem e_L_law_399 (l : ct_Lx) : ct_tab (T_L_law l) 399 = some (o_sald l.2.1 l.2.2) := rfl
set_option maxRecDepth 100000 in
theorem e_L_law_400 (l : ct_Lx) : ct_tab (T_L_law l) 400 = some (o_aload 0 1) := rfl
set_option maxRecDepth 100000 in
theorem e_L_law_401 (l : ct_Lx) : ct_tab (T_L_law l) 401 = some (o_iload 3 1) := rfl
set_option maxRecDepth 100000 in
theorem e_L_law_402 (l : ct_Lx) : ct_tab (T_L_law l) 402 = some (o_push (.int 2) 1) := rfl
set_option maxRecDepth 100000 in
theorem e_L_law_403 (l : ct_Lx) : ct_tab (T_L_law l) 403 = some (o_ii fun x y => x + y) := rfl
set_option maxRecDepth 100000 in
theorem e_L_law_404 (l : ct_Lx) : ct_tab (T_L_law l) 404 = some (o_sald l.2.1 l.2.2) := rfl
set_option maxRecDepth 100000 in
theorem e_L_law_408 (l : ct_Lx) : ct_tab (T_L_law l) 408 = some (o_ic (fun x y => x = y) (fun x y => ¬ x = y) 493) := rfl
set_option maxRecDepth 100000 in
theorem e_L_law_411 (l : ct_Lx) : ct_tab (T_L_law l) 411 = some (o_push (.int 0) 1) := rfl
set_option maxRecDepth 100000 in
theorem e_L_law_413 (l : ct_Lx) : ct_tab (T_L_law l) 413 = some (o_aload 1 1) := rfl
set_option maxRecDepth 100000 in
theorem e_L_law_414 (l : ct_Lx) : ct_tab (T_L_law l) 414 = some (o_aload 0 1) := rfl
set_option maxRecDepth 100000 in
theorem e_L_law_415 (l : ct_Lx) : ct_tab (T_L_law l) 415 = some (o_iload 3 1) := rfl
set_option maxRecDepth 100000 in
theorem e_L_law_416 (l : ct_Lx) : ct_tab (T_L_law l) 416 = some (o_push (.int 1) 1) := rfl
set_option maxRecDepth 100000 in
theorem e_L_law_417 (l : ct_Lx) : ct_tab (T_L_law l) 417 = some (o_ii fun x y => x + y) := rfl
set_option maxRecDepth 100000 in
theorem e_L_law_418 (l : ct_Lx) : ct_tab (T_L_law l) 418 = some (o_sald l.2.1 l.2.2) := rfl
set_option maxRecDepth 100000 in
theorem e_L_law_419 (l : ct_Lx) : ct_tab (T_L_law l) 419 = some (o_aload 0 1) := rfl
set_option maxRecDepth 100000 in
theorem e_L_law_420 (l : ct_Lx) : ct_tab (T_L_law l) 420 = some (o_iload 3 1) := rfl
set_option maxRecDepth 100000 in
theorem e_L_law_421 (l : ct_Lx) : ct_tab (T_L_law l) 421 = some (o_push (.int 2) 1) := rfl
set_option maxRecDepth 100000 in
theorem e_L_law_422 (l : ct_Lx) : ct_tab (T_L_law l) 422 = some (o_ii fun x y => x + y) := rfl
set_option maxRecDepth 100000 in
theorem e_L_law_423 (l : ct_Lx) : ct_tab (T_L_law l) 423 = some (o_sald l.2.1 l.2.2) := rfl
set_option maxRecDepth 100000 in
theorem e_L_law_424 (l : ct_Lx) : ct_tab (T_L_law l) 424 = some (o_aload 0 1) := rfl
set_option maxRecDepth 100000 in
theorem e_L_law_425 (l : ct_Lx) : ct_tab (T_L_law l) 425 = some (o_iload 3 1) := rfl
set_option maxRecDepth 100000 in
theorem e_L_law_426 (l : ct_Lx) : ct_tab (T_L_law l) 426 = some (o_push (.int 3) 1) := rfl
set_option maxRecDepth 100000 in
theorem e_L_law_427 (l : ct_Lx) : ct_tab (T_L_law l) 427 = some (o_ii fun x y => x + y) := rfl
set_option maxRecDepth 100000 in
theorem e_L_law_428 (l : ct_Lx) : ct_tab (T_L_law l) 428 = some (o_sald l.2.1 l.2.2) := rfl
set_option maxRecDepth 100000 in
theorem e_L_law_432 (l : ct_Lx) : ct_tab (T_L_law l) 432 = some (o_aload 2 1) := rfl
set_option maxRecDepth 100000 in
theorem e_L_law_433 (l : ct_Lx) : ct_tab (T_L_law l) 433 = some (o_aload 0 1) := rfl
set_option maxRecDepth 100000 in
theorem e_L_law_434 (l : ct_Lx) : ct_tab (T_L_law l) 434 = some (o_iload 3 1) := rfl
set_option maxRecDepth 100000 in
theorem e_L_law_435 (l : ct_Lx) : ct_tab (T_L_law l) 435 = some (o_push (.int 1) 1) := rfl
set_option maxRecDepth 100000 in
theorem e_L_law_436 (l : ct_Lx) : ct_tab (T_L_law l) 436 = some (o_ii fun x y => x + y) := rfl
set_option maxRecDepth 100000 in
theorem e_L_law_437 (l : ct_Lx) : ct_tab (T_L_law l) 437 = some (o_sald l.2.1 l.2.2) := rfl
set_option maxRecDepth 100000 in
theorem e_L_law_438 (l : ct_Lx) : ct_tab (T_L_law l) 438 = some (o_aload 0 1) := rfl
set_option maxRecDepth 100000 in
theorem e_L_law_439 (l : ct_Lx) : ct_tab (T_L_law l) 439 = some (o_iload 3 1) := rfl
set_option maxRecDepth 100000 in
theorem e_L_law_440 (l : ct_Lx) : ct_tab (T_L_law l) 440 = some (o_push (.int 2) 1) := rfl
set_option maxRecDepth 100000 in
theorem e_L_law_441 (l : ct_Lx) : ct_tab (T_L_law l) 441 = some (o_ii fun x y => x + y) := rfl
set_option maxRecDepth 100000 in
theorem e_L_law_442 (l : ct_Lx) : ct_tab (T_L_law l) 442 = some (o_sald l.2.1 l.2.2) := rfl
set_option maxRecDepth 100000 in
theorem e_L_law_443 (l : ct_Lx) : ct_tab (T_L_law l) 443 = some (o_aload 0 1) := rfl
set_option maxRecDepth 100000 in
theorem e_L_law_444 (l : ct_Lx) : ct_tab (T_L_law l) 444 = some (o_iload 3 1) := rfl
set_option maxRecDepth 100000 in
theorem e_L_law_445 (l : ct_Lx) : ct_tab (T_L_law l) 445 = some (o_push (.int 3) 1) := rfl
set_option maxRecDepth 100000 in
theorem e_L_law_446 (l : ct_Lx) : ct_tab (T_L_law l) 446 = some (o_ii fun x y => x + y) := rfl
set_option maxRecDepth 100000 in
theorem e_L_law_447 (l : ct_Lx) : ct_tab (T_L_law l) 447 = some (o_sald l.2.1 l.2.2) := rfl
set_option maxRecDepth 100000 in
theorem e_L_law_451 (l : ct_Lx) : ct_tab (T_L_law l) 451 = some (o_lcmp) := rfl
set_option maxRecDepth 100000 in
theorem e_L_law_452 (l : ct_Lx) : ct_tab (T_L_law l) 452 = some (o_if (fun x => x = 0) (fun x => ¬ x = 0) 493) := rfl
set_option maxRecDepth 100000 in
theorem e_L_law_455 (l : ct_Lx) : ct_tab (T_L_law l) 455 = some (o_push (.int 0) 1) := rfl
set_option maxRecDepth 100000 in
theorem e_L_law_457 (l : ct_Lx) : ct_tab (T_L_law l) 457 = some (o_aload 1 1) := rfl
set_option maxRecDepth 100000 in
theorem e_L_law_461 (l : ct_Lx) : ct_tab (T_L_law l) 461 = some (o_aload 2 1) := rfl
set_option maxRecDepth 100000 in
theorem e_L_law_465 (l : ct_Lx) : ct_tab (T_L_law l) 465 = some (o_ic (fun x y => x = y) (fun x y => ¬ x = y) 493) := rfl
set_option maxRecDepth 100000 in
theorem e_L_law_468 (l : ct_Lx) : ct_tab (T_L_law l) 468 = some (o_push (.int 0) 1) := rfl
set_option maxRecDepth 100000 in
theorem e_L_law_470 (l : ct_Lx) : ct_tab (T_L_law l) 470 = some (o_aload 1 1) := rfl
set_option maxRecDepth 100000 in
theorem e_L_law_471 (l : ct_Lx) : ct_tab (T_L_law l) 471 = some (o_aload 0 1) := rfl
set_option maxRecDepth 100000 in
theorem e_L_law_472 (l : ct_Lx) : ct_tab (T_L_law l) 472 = some (o_iload 3 1) := rfl
set_option maxRecDepth 100000 in
theorem e_L_law_473 (l : ct_Lx) : ct_tab (T_L_law l) 473 = some (o_push (.int 1) 1) := rfl
set_option maxRecDepth 100000 in
theorem e_L_law_474 (l : ct_Lx) : ct_tab (T_L_law l) 474 = some (o_ii fun x y => x + y) := rfl
set_option maxRecDepth 100000 in
theorem e_L_law_475 (l : ct_Lx) : ct_tab (T_L_law l) 475 = some (o_sald l.2.1 l.2.2) := rfl
set_option maxRecDepth 100000 in
theorem e_L_law_479 (l : ct_Lx) : ct_tab (T_L_law l) 479 = some (o_aload 2 1) := rfl
set_option maxRecDepth 100000 in
theorem e_L_law_480 (l : ct_Lx) : ct_tab (T_L_law l) 480 = some (o_aload 0 1) := rfl
set_option maxRecDepth 100000 in
theorem e_L_law_481 (l : ct_Lx) : ct_tab (T_L_law l) 481 = some (o_iload 3 1) := rfl
set_option maxRecDepth 100000 in
theorem e_L_law_482 (l : ct_Lx) : ct_tab (T_L_law l) 482 = some (o_push (.int 1) 1) := rfl
set_option maxRecDepth 100000 in
theorem e_L_law_483 (l : ct_Lx) : ct_tab (T_L_law l) 483 = some (o_ii fun x y => x + y) := rfl
set_option maxRecDepth 100000 in
theorem e_L_law_484 (l : ct_Lx) : ct_tab (T_L_law l) 484 = some (o_sald l.2.1 l.2.2) := rfl
set_option maxRecDepth 100000 in
theorem e_L_law_488 (l : ct_Lx) : ct_tab (T_L_law l) 488 = some (o_ic (fun x y => x = y) (fun x y => ¬ x = y) 493) := rfl
set_option maxRecDepth 100000 in
theorem e_L_law_491 (l : ct_Lx) : ct_tab (T_L_law l) 491 = some (o_push (.int 0) 1) := rfl
set_option maxRecDepth 100000 in
theorem e_L_law_493 (l : ct_Lx) : ct_tab (T_L_law l) 493 = some (o_iinc 3 4) := rfl
set_option maxRecDepth 100000 in
theorem e_L_law_496 (l : ct_Lx) : ct_tab (T_L_law l) 496 = some (o_goto 18) := rfl
set_option maxRecDepth 100000 in
theorem e_L_law_499 (l : ct_Lx) : ct_tab (T_L_law l) 499 = some (o_push (.int 1) 1) := rfl
theorem cl_L_law_4 {l : ct_Lx} {d d1 : Nat} {Post Post1 : Option Value → ct_Sg → Prop} {lv : ct_Lv} {st : List Value} {g : ct_Sg} {bc bs c1 s1 : Nat} {h : Nat} (hM : ct_Me l M_X_init d1 c1 s1 [.ref h] g Post1) (hdd : d1 + 1 ≤ d) (hk : (st.map fun v => v.category).sum ≤ 8) (hcc : c1 ≤ bc) (hss : s1 ≤ bs) (kk : ∀ (v : Option Value) (g' : ct_Sg), Post1 v g' → ct_Wp l M_L_law d Post (7, lv, v.toList ++ st, g', bc - c1, bs - s1)) : ct_Wp l M_L_law d Post (4, lv, .ref h :: st, g, bc, bs) := ct_Wp.callI (As := []) lk_X_init (Or.inl wd_524) rfl rfl wd_525 d_L_law_4 hM rfl hdd hk hcc hss kk
theorem cl_L_law_12 {l : ct_Lx} {d d1 : Nat} {Post Post1 : Option Value → ct_Sg → Prop} {lv : ct_Lv} {st : List Value} {g : ct_Sg} {bc bs c1 s1 : Nat} {h : Nat} (hM : ct_Me l M_M_init d1 c1 s1 [.ref h] g Post1) (hdd : d1 + 1 ≤ d) (hk : (st.map fun v => v.category).sum ≤ 8) (hcc : c1 ≤ bc) (hss : s1 ≤ bs) (kk : ∀ (v : Option Value) (g' : ct_Sg), Post1 v g' → ct_Wp l M_L_law d Post (15, lv, v.toList ++ st, g', bc - c1, bs - s1)) : ct_Wp l M_L_law d Post (12, lv, .ref h :: st, g, bc, bs) := ct_Wp.callI (As := []) lk_M_init (Or.inl wd_530) rfl rfl wd_531 d_L_law_12 hM rfl hdd hk hcc hss kk
theorem cl_L_law_126 {l : ct_Lx} {d d1 : Nat} {Post Post1 : Option Value → ct_Sg → Prop} {lv : ct_Lv} {st : List Value} {g : ct_Sg} {bc bs c1 s1 : Nat} {a1 a2 : Value} {h : Nat} (hsh : g.2.1 h = (10 + 0, 7)) (hM : ct_Me l M_X_type d1 c1 s1 [.ref h, a1, a2] g Post1) (hdd : d1 + 1 ≤ d) (hk : (st.map fun v => v.category).sum ≤ 8) (hcc : c1 ≤ bc) (hss : s1 ≤ bs) (kk : ∀ (v : Option Value) (g' : ct_Sg), Post1 v g' → ct_Wp l M_L_law d Post (129, lv, v.toList ++ st, g', bc - c1, bs - s1)) : ct_Wp l M_L_law d Post (126, lv, a2 :: a1 :: .ref h :: st, g, bc, bs) := ct_Wp.callV (ci := 0) (N := 7) (T := ct_T0) (As := [a1, a2]) lk_X_type (Or.inl wd_535) wd_536 wd_537 rfl d_L_law_126 hsh hM rfl hdd hk hcc hss kk
theorem cl_L_law_155 {l : ct_Lx} {d d1 : Nat} {Post Post1 : Option Value → ct_Sg → Prop} {lv : ct_Lv} {st : List Value} {g : ct_Sg} {bc bs c1 s1 : Nat} {a1 a2 : Value} {h : Nat} (hsh : g.2.1 h = (10 + 4, 24)) (hM : ct_Me l M_M_type d1 c1 s1 [.ref h, a1, a2] g Post1) (hdd : d1 + 1 ≤ d) (hk : (st.map fun v => v.category).sum ≤ 8) (hcc : c1 ≤ bc) (hss : s1 ≤ bs) (kk : ∀ (v : Option Value) (g' : ct_Sg), Post1 v g' → ct_Wp l M_L_law d Post (158, lv, v.toList ++ st, g', bc - c1, bs - s1)) : ct_Wp l M_L_law d Post (155, lv, a2 :: a1 :: .ref h :: st, g, bc, bs) := ct_Wp.callV (ci := 4) (N := 24) (T := ct_T4) (As := [a1, a2]) lk_M_type (Or.inl wd_540) wd_541 wd_542 rfl d_L_law_155 hsh hM rfl hdd hk hcc hss kk
theorem cl_L_law_164 {l : ct_Lx} {d d1 : Nat} {Post Post1 : Option Value → ct_Sg → Prop} {lv : ct_Lv} {st : List Value} {g : ct_Sg} {bc bs c1 s1 : Nat} {h : Nat} (hsh : g.2.1 h = (10 + 0, 7)) (hM : ct_Me l M_X_read d1 c1 s1 [.ref h] g Post1) (hdd : d1 + 1 ≤ d) (hk : (st.map fun v => v.category).sum ≤ 8) (hcc : c1 ≤ bc) (hss : s1 ≤ bs) (kk : ∀ (v : Option Value) (g' : ct_Sg), Post1 v g' → ct_Wp l M_L_law d Post (167, lv, v.toList ++ st, g', bc - c1, bs - s1)) : ct_Wp l M_L_law d Post (164, lv, .ref h :: st, g, bc, bs) := ct_Wp.callV (ci := 0) (N := 7) (T := ct_T0) (As := []) lk_X_read (Or.inl wd_545) wd_546 wd_547 rfl d_L_law_164 hsh hM rfl hdd hk hcc hss kk
theorem cl_L_law_168 {l : ct_Lx} {d d1 : Nat} {Post Post1 : Option Value → ct_Sg → Prop} {lv : ct_Lv} {st : List Value} {g : ct_Sg} {bc bs c1 s1 : Nat} {h : Nat} (hsh : g.2.1 h = (10 + 4, 24)) (hM : ct_Me l M_M_read d1 c1 s1 [.ref h] g Post1) (hdd : d1 + 1 ≤ d) (hk : (st.map fun v => v.category).sum ≤ 8) (hcc : c1 ≤ bc) (hss : s1 ≤ bs) (kk : ∀ (v : Option Value) (g' : ct_Sg), Post1 v g' → ct_Wp l M_L_law d Post (171, lv, v.toList ++ st, g', bc - c1, bs - s1)) : ct_Wp l M_L_law d Post (168, lv, .ref h :: st, g, bc, bs) := ct_Wp.callV (ci := 4) (N := 24) (T := ct_T4) (As := []) lk_M_read (Or.inl wd_550) wd_551 wd_552 rfl d_L_law_168 hsh hM rfl hdd hk hcc hss kk
theorem cl_L_law_177 {l : ct_Lx} {d d1 : Nat} {Post Post1 : Option Value → ct_Sg → Prop} {lv : ct_Lv} {st : List Value} {g : ct_Sg} {bc bs c1 s1 : Nat} {h : Nat} (hsh : g.2.1 h = (10 + 0, 7)) (hM : ct_Me l M_X_place d1 c1 s1 [.ref h] g Post1) (hdd : d1 + 1 ≤ d) (hk : (st.map fun v => v.category).sum ≤ 8) (hcc : c1 ≤ bc) (hss : s1 ≤ bs) (kk : ∀ (v : Option Value) (g' : ct_Sg), Post1 v g' → ct_Wp l M_L_law d Post (180, lv, v.toList ++ st, g', bc - c1, bs - s1)) : ct_Wp l M_L_law d Post (177, lv, .ref h :: st, g, bc, bs) := ct_Wp.callV (ci := 0) (N := 7) (T := ct_T0) (As := []) lk_X_place (Or.inl wd_555) wd_556 wd_557 rfl d_L_law_177 hsh hM rfl hdd hk hcc hss kk
theorem cl_L_law_181 {l : ct_Lx} {d d1 : Nat} {Post Post1 : Option Value → ct_Sg → Prop} {lv : ct_Lv} {st : List Value} {g : ct_Sg} {bc bs c1 s1 : Nat} {h : Nat} (hsh : g.2.1 h = (10 + 4, 24)) (hM : ct_Me l M_M_place d1 c1 s1 [.ref h] g Post1) (hdd : d1 + 1 ≤ d) (hk : (st.map fun v => v.category).sum ≤ 8) (hcc : c1 ≤ bc) (hss : s1 ≤ bs) (kk : ∀ (v : Option Value) (g' : ct_Sg), Post1 v g' → ct_Wp l M_L_law d Post (184, lv, v.toList ++ st, g', bc - c1, bs - s1)) : ct_Wp l M_L_law d Post (181, lv, .ref h :: st, g, bc, bs) := ct_Wp.callV (ci := 4) (N := 24) (T := ct_T4) (As := []) lk_M_place (Or.inl wd_560) wd_561 wd_562 rfl d_L_law_181 hsh hM rfl hdd hk hcc hss kk
theorem cl_L_law_195 {l : ct_Lx} {d d1 : Nat} {Post Post1 : Option Value → ct_Sg → Prop} {lv : ct_Lv} {st : List Value} {g : ct_Sg} {bc bs c1 s1 : Nat} {a1 : Value} {h : Nat} (hsh : g.2.1 h = (10 + 0, 7)) (hM : ct_Me l M_X_told d1 c1 s1 [.ref h, a1] g Post1) (hdd : d1 + 1 ≤ d) (hk : (st.map fun v => v.category).sum ≤ 8) (hcc : c1 ≤ bc) (hss : s1 ≤ bs) (kk : ∀ (v : Option Value) (g' : ct_Sg), Post1 v g' → ct_Wp l M_L_law d Post (198, lv, v.toList ++ st, g', bc - c1, bs - s1)) : ct_Wp l M_L_law d Post (195, lv, a1 :: .ref h :: st, g, bc, bs) := ct_Wp.callV (ci := 0) (N := 7) (T := ct_T0) (As := [a1]) lk_X_told (Or.inl wd_565) wd_566 wd_567 rfl d_L_law_195 hsh hM rfl hdd hk hcc hss kk
theorem cl_L_law_204 {l : ct_Lx} {d d1 : Nat} {Post Post1 : Option Value → ct_Sg → Prop} {lv : ct_Lv} {st : List Value} {g : ct_Sg} {bc bs c1 s1 : Nat} {a1 : Value} {h : Nat} (hsh : g.2.1 h = (10 + 4, 24)) (hM : ct_Me l M_M_told d1 c1 s1 [.ref h, a1] g Post1) (hdd : d1 + 1 ≤ d) (hk : (st.map fun v => v.category).sum ≤ 8) (hcc : c1 ≤ bc) (hss : s1 ≤ bs) (kk : ∀ (v : Option Value) (g' : ct_Sg), Post1 v g' → ct_Wp l M_L_law d Post (207, lv, v.toList ++ st, g', bc - c1, bs - s1)) : ct_Wp l M_L_law d Post (204, lv, a1 :: .ref h :: st, g, bc, bs) := ct_Wp.callV (ci := 4) (N := 24) (T := ct_T4) (As := [a1]) lk_M_told (Or.inl wd_570) wd_571 wd_572 rfl d_L_law_204 hsh hM rfl hdd hk hcc hss kk
theorem cl_L_law_223 {l : ct_Lx} {d d1 : Nat} {Post Post1 : Option Value → ct_Sg → Prop} {lv : ct_Lv} {st : List Value} {g : ct_Sg} {bc bs c1 s1 : Nat} {a1 a2 : Value} {h : Nat} (hsh : g.2.1 h = (10 + 0, 7)) (hM : ct_Me l M_X_structure d1 c1 s1 [.ref h, a1, a2] g Post1) (hdd : d1 + 1 ≤ d) (hk : (st.map fun v => v.category).sum ≤ 8) (hcc : c1 ≤ bc) (hss : s1 ≤ bs) (kk : ∀ (v : Option Value) (g' : ct_Sg), Post1 v g' → ct_Wp l M_L_law d Post (226, lv, v.toList ++ st, g', bc - c1, bs - s1)) : ct_Wp l M_L_law d Post (223, lv, a2 :: a1 :: .ref h :: st, g, bc, bs) := ct_Wp.callV (ci := 0) (N := 7) (T := ct_T0) (As := [a1, a2]) lk_X_structure (Or.inl wd_575) wd_576 wd_577 rfl d_L_law_223 hsh hM rfl hdd hk hcc hss kk
theorem cl_L_law_237 {l : ct_Lx} {d d1 : Nat} {Post Post1 : Option Value → ct_Sg → Prop} {lv : ct_Lv} {st : List Value} {g : ct_Sg} {bc bs c1 s1 : Nat} {a1 a2 : Value} {h : Nat} (hsh : g.2.1 h = (10 + 4, 24)) (hM : ct_Me l M_M_structure d1 c1 s1 [.ref h, a1, a2] g Post1) (hdd : d1 + 1 ≤ d) (hk : (st.map fun v => v.category).sum ≤ 8) (hcc : c1 ≤ bc) (hss : s1 ≤ bs) (kk : ∀ (v : Option Value) (g' : ct_Sg), Post1 v g' → ct_Wp l M_L_law d Post (240, lv, v.toList ++ st, g', bc - c1, bs - s1)) : ct_Wp l M_L_law d Post (237, lv, a2 :: a1 :: .ref h :: st, g, bc, bs) := ct_Wp.callV (ci := 4) (N := 24) (T := ct_T4) (As := [a1, a2]) lk_M_structure (Or.inl wd_580) wd_581 wd_582 rfl d_L_law_237 hsh hM rfl hdd hk hcc hss kk
theorem cl_L_law_256 {l : ct_Lx} {d d1 : Nat} {Post Post1 : Option Value → ct_Sg → Prop} {lv : ct_Lv} {st : List Value} {g : ct_Sg} {bc bs c1 s1 : Nat} {a1 a2 : Value} {h : Nat} (hsh : g.2.1 h = (10 + 0, 7)) (hM : ct_Me l M_X_field d1 c1 s1 [.ref h, a1, a2] g Post1) (hdd : d1 + 1 ≤ d) (hk : (st.map fun v => v.category).sum ≤ 8) (hcc : c1 ≤ bc) (hss : s1 ≤ bs) (kk : ∀ (v : Option Value) (g' : ct_Sg), Post1 v g' → ct_Wp l M_L_law d Post (259, lv, v.toList ++ st, g', bc - c1, bs - s1)) : ct_Wp l M_L_law d Post (256, lv, a2 :: a1 :: .ref h :: st, g, bc, bs) := ct_Wp.callV (ci := 0) (N := 7) (T := ct_T0) (As := [a1, a2]) lk_X_field (Or.inl wd_585) wd_586 wd_587 rfl d_L_law_256 hsh hM rfl hdd hk hcc hss kk
theorem cl_L_law_270 {l : ct_Lx} {d d1 : Nat} {Post Post1 : Option Value → ct_Sg → Prop} {lv : ct_Lv} {st : List Value} {g : ct_Sg} {bc bs c1 s1 : Nat} {a1 a2 : Value} {h : Nat} (hsh : g.2.1 h = (10 + 4, 24)) (hM : ct_Me l M_M_field d1 c1 s1 [.ref h, a1, a2] g Post1) (hdd : d1 + 1 ≤ d) (hk : (st.map fun v => v.category).sum ≤ 8) (hcc : c1 ≤ bc) (hss : s1 ≤ bs) (kk : ∀ (v : Option Value) (g' : ct_Sg), Post1 v g' → ct_Wp l M_L_law d Post (273, lv, v.toList ++ st, g', bc - c1, bs - s1)) : ct_Wp l M_L_law d Post (270, lv, a2 :: a1 :: .ref h :: st, g, bc, bs) := ct_Wp.callV (ci := 4) (N := 24) (T := ct_T4) (As := [a1, a2]) lk_M_field (Or.inl wd_590) wd_591 wd_592 rfl d_L_law_270 hsh hM rfl hdd hk hcc hss kk
theorem cl_L_law_290 {l : ct_Lx} {d d1 : Nat} {Post Post1 : Option Value → ct_Sg → Prop} {lv : ct_Lv} {st : List Value} {g : ct_Sg} {bc bs c1 s1 : Nat} {a1 a2 : Value} {h : Nat} (hsh : g.2.1 h = (10 + 0, 7)) (hM : ct_Me l M_X_function d1 c1 s1 [.ref h, a1, a2] g Post1) (hdd : d1 + 1 ≤ d) (hk : (st.map fun v => v.category).sum ≤ 8) (hcc : c1 ≤ bc) (hss : s1 ≤ bs) (kk : ∀ (v : Option Value) (g' : ct_Sg), Post1 v g' → ct_Wp l M_L_law d Post (293, lv, v.toList ++ st, g', bc - c1, bs - s1)) : ct_Wp l M_L_law d Post (290, lv, a2 :: a1 :: .ref h :: st, g, bc, bs) := ct_Wp.callV (ci := 0) (N := 7) (T := ct_T0) (As := [a1, a2]) lk_X_function (Or.inl wd_595) wd_596 wd_597 rfl d_L_law_290 hsh hM rfl hdd hk hcc hss kk
theorem cl_L_law_304 {l : ct_Lx} {d d1 : Nat} {Post Post1 : Option Value → ct_Sg → Prop} {lv : ct_Lv} {st : List Value} {g : ct_Sg} {bc bs c1 s1 : Nat} {a1 a2 : Value} {h : Nat} (hsh : g.2.1 h = (10 + 4, 24)) (hM : ct_Me l M_M_function d1 c1 s1 [.ref h, a1, a2] g Post1) (hdd : d1 + 1 ≤ d) (hk : (st.map fun v => v.category).sum ≤ 8) (hcc : c1 ≤ bc) (hss : s1 ≤ bs) (kk : ∀ (v : Option Value) (g' : ct_Sg), Post1 v g' → ct_Wp l M_L_law d Post (307, lv, v.toList ++ st, g', bc - c1, bs - s1)) : ct_Wp l M_L_law d Post (304, lv, a2 :: a1 :: .ref h :: st, g, bc, bs) := ct_Wp.callV (ci := 4) (N := 24) (T := ct_T4) (As := [a1, a2]) lk_M_function (Or.inl wd_600) wd_601 wd_602 rfl d_L_law_304 hsh hM rfl hdd hk hcc hss kk
theorem cl_L_law_328 {l : ct_Lx} {d d1 : Nat} {Post Post1 : Option Value → ct_Sg → Prop} {lv : ct_Lv} {st : List Value} {g : ct_Sg} {bc bs c1 s1 : Nat} {a1 a2 a3 : Value} {h : Nat} (hsh : g.2.1 h = (10 + 0, 7)) (hM : ct_Me l M_X_listed d1 c1 s1 [.ref h, a1, a2, a3] g Post1) (hdd : d1 + 1 ≤ d) (hk : (st.map fun v => v.category).sum ≤ 8) (hcc : c1 ≤ bc) (hss : s1 ≤ bs) (kk : ∀ (v : Option Value) (g' : ct_Sg), Post1 v g' → ct_Wp l M_L_law d Post (331, lv, v.toList ++ st, g', bc - c1, bs - s1)) : ct_Wp l M_L_law d Post (328, lv, a3 :: a2 :: a1 :: .ref h :: st, g, bc, bs) := ct_Wp.callV (ci := 0) (N := 7) (T := ct_T0) (As := [a1, a2, a3]) lk_X_listed (Or.inl wd_605) wd_606 wd_607 rfl d_L_law_328 hsh hM rfl hdd hk hcc hss kk
theorem cl_L_law_347 {l : ct_Lx} {d d1 : Nat} {Post Post1 : Option Value → ct_Sg → Prop} {lv : ct_Lv} {st : List Value} {g : ct_Sg} {bc bs c1 s1 : Nat} {a1 a2 a3 : Value} {h : Nat} (hsh : g.2.1 h = (10 + 4, 24)) (hM : ct_Me l M_M_listed d1 c1 s1 [.ref h, a1, a2, a3] g Post1) (hdd : d1 + 1 ≤ d) (hk : (st.map fun v => v.category).sum ≤ 8) (hcc : c1 ≤ bc) (hss : s1 ≤ bs) (kk : ∀ (v : Option Value) (g' : ct_Sg), Post1 v g' → ct_Wp l M_L_law d Post (350, lv, v.toList ++ st, g', bc - c1, bs - s1)) : ct_Wp l M_L_law d Post (347, lv, a3 :: a2 :: a1 :: .ref h :: st, g, bc, bs) := ct_Wp.callV (ci := 4) (N := 24) (T := ct_T4) (As := [a1, a2, a3]) lk_M_listed (Or.inl wd_610) wd_611 wd_612 rfl d_L_law_347 hsh hM rfl hdd hk hcc hss kk
theorem cl_L_law_362 {l : ct_Lx} {d d1 : Nat} {Post Post1 : Option Value → ct_Sg → Prop} {lv : ct_Lv} {st : List Value} {g : ct_Sg} {bc bs c1 s1 : Nat} {a1 : Value} {h : Nat} (hsh : g.2.1 h = (10 + 0, 7)) (hM : ct_Me l M_X_element d1 c1 s1 [.ref h, a1] g Post1) (hdd : d1 + 1 ≤ d) (hk : (st.map fun v => v.category).sum ≤ 8) (hcc : c1 ≤ bc) (hss : s1 ≤ bs) (kk : ∀ (v : Option Value) (g' : ct_Sg), Post1 v g' → ct_Wp l M_L_law d Post (365, lv, v.toList ++ st, g', bc - c1, bs - s1)) : ct_Wp l M_L_law d Post (362, lv, a1 :: .ref h :: st, g, bc, bs) := ct_Wp.callV (ci := 0) (N := 7) (T := ct_T0) (As := [a1]) lk_X_element (Or.inl wd_615) wd_616 wd_617 rfl d_L_law_362 hsh hM rfl hdd hk hcc hss kk
theorem cl_L_law_371 {l : ct_Lx} {d d1 : Nat} {Post Post1 : Option Value → ct_Sg → Prop} {lv : ct_Lv} {st : List Value} {g : ct_Sg} {bc bs c1 s1 : Nat} {a1 : Value} {h : Nat} (hsh : g.2.1 h = (10 + 4, 24)) (hM : ct_Me l M_M_element d1 c1 s1 [.ref h, a1] g Post1) (hdd : d1 + 1 ≤ d) (hk : (st.map fun v => v.category).sum ≤ 8) (hcc : c1 ≤ bc) (hss : s1 ≤ bs) (kk : ∀ (v : Option Value) (g' : ct_Sg), Post1 v g' → ct_Wp l M_L_law d Post (374, lv, v.toList ++ st, g', bc - c1, bs - s1)) : ct_Wp l M_L_law d Post (371, lv, a1 :: .ref h :: st, g, bc, bs) := ct_Wp.callV (ci := 4) (N := 24) (T := ct_T4) (As := [a1]) lk_M_element (Or.inl wd_620) wd_621 wd_622 rfl d_L_law_371 hsh hM rfl hdd hk hcc hss kk
theorem cl_L_law_391 {l : ct_Lx} {d d1 : Nat} {Post Post1 : Option Value → ct_Sg → Prop} {lv : ct_Lv} {st : List Value} {g : ct_Sg} {bc bs c1 s1 : Nat} {a1 a2 : Value} {h : Nat} (hsh : g.2.1 h = (10 + 0, 7)) (hM : ct_Me l M_X_operation d1 c1 s1 [.ref h, a1, a2] g Post1) (hdd : d1 + 1 ≤ d) (hk : (st.map fun v => v.category).sum ≤ 8) (hcc : c1 ≤ bc) (hss : s1 ≤ bs) (kk : ∀ (v : Option Value) (g' : ct_Sg), Post1 v g' → ct_Wp l M_L_law d Post (394, lv, v.toList ++ st, g', bc - c1, bs - s1)) : ct_Wp l M_L_law d Post (391, lv, a2 :: a1 :: .ref h :: st, g, bc, bs) := ct_Wp.callV (ci := 0) (N := 7) (T := ct_T0) (As := [a1, a2]) lk_X_operation (Or.inl wd_625) wd_626 wd_627 rfl d_L_law_391 hsh hM rfl hdd hk hcc hss kk
theorem cl_L_law_405 {l : ct_Lx} {d d1 : Nat} {Post Post1 : Option Value → ct_Sg → Prop} {lv : ct_Lv} {st : List Value} {g : ct_Sg} {bc bs c1 s1 : Nat} {a1 a2 : Value} {h : Nat} (hsh : g.2.1 h = (10 + 4, 24)) (hM : ct_Me l M_M_operation d1 c1 s1 [.ref h, a1, a2] g Post1) (hdd : d1 + 1 ≤ d) (hk : (st.map fun v => v.category).sum ≤ 8) (hcc : c1 ≤ bc) (hss : s1 ≤ bs) (kk : ∀ (v : Option Value) (g' : ct_Sg), Post1 v g' → ct_Wp l M_L_law d Post (408, lv, v.toList ++ st, g', bc - c1, bs - s1)) : ct_Wp l M_L_law d Post (405, lv, a2 :: a1 :: .ref h :: st, g, bc, bs) := ct_Wp.callV (ci := 4) (N := 24) (T := ct_T4) (As := [a1, a2]) lk_M_operation (Or.inl wd_630) wd_631 wd_632 rfl d_L_law_405 hsh hM rfl hdd hk hcc hss kk
theorem cl_L_law_429 {l : ct_Lx} {d d1 : Nat} {Post Post1 : Option Value → ct_Sg → Prop} {lv : ct_Lv} {st : List Value} {g : ct_Sg} {bc bs c1 s1 : Nat} {a1 a2 a3 : Value} {h : Nat} (hsh : g.2.1 h = (10 + 0, 7)) (hM : ct_Me l M_X_operand d1 c1 s1 [.ref h, a1, a2, a3] g Post1) (hdd : d1 + 1 ≤ d) (hk : (st.map fun v => v.category).sum ≤ 8) (hcc : c1 ≤ bc) (hss : s1 ≤ bs) (kk : ∀ (v : Option Value) (g' : ct_Sg), Post1 v g' → ct_Wp l M_L_law d Post (432, lv, v.toList ++ st, g', bc - c1, bs - s1)) : ct_Wp l M_L_law d Post (429, lv, a3 :: a2 :: a1 :: .ref h :: st, g, bc, bs) := ct_Wp.callV (ci := 0) (N := 7) (T := ct_T0) (As := [a1, a2, a3]) lk_X_operand (Or.inl wd_635) wd_636 wd_637 rfl d_L_law_429 hsh hM rfl hdd hk hcc hss kk
theorem cl_L_law_448 {l : ct_Lx} {d d1 : Nat} {Post Post1 : Option Value → ct_Sg → Prop} {lv : ct_Lv} {st : List Value} {g : ct_Sg} {bc bs c1 s1 : Nat} {a1 a2 a3 : Value} {h : Nat} (hsh : g.2.1 h = (10 + 4, 24)) (hM : ct_Me l M_M_operand d1 c1 s1 [.ref h, a1, a2, a3] g Post1) (hdd : d1 + 1 ≤ d) (hk : (st.map fun v => v.category).sum ≤ 8) (hcc : c1 ≤ bc) (hss : s1 ≤ bs) (kk : ∀ (v : Option Value) (g' : ct_Sg), Post1 v g' → ct_Wp l M_L_law d Post (451, lv, v.toList ++ st, g', bc - c1, bs - s1)) : ct_Wp l M_L_law d Post (448, lv, a3 :: a2 :: a1 :: .ref h :: st, g, bc, bs) := ct_Wp.callV (ci := 4) (N := 24) (T := ct_T4) (As := [a1, a2, a3]) lk_M_operand (Or.inl wd_640) wd_641 wd_642 rfl d_L_law_448 hsh hM rfl hdd hk hcc hss kk
theorem cl_L_law_458 {l : ct_Lx} {d d1 : Nat} {Post Post1 : Option Value → ct_Sg → Prop} {lv : ct_Lv} {st : List Value} {g : ct_Sg} {bc bs c1 s1 : Nat} {h : Nat} (hsh : g.2.1 h = (10 + 0, 7)) (hM : ct_Me l M_X_write d1 c1 s1 [.ref h] g Post1) (hdd : d1 + 1 ≤ d) (hk : (st.map fun v => v.category).sum ≤ 8) (hcc : c1 ≤ bc) (hss : s1 ≤ bs) (kk : ∀ (v : Option Value) (g' : ct_Sg), Post1 v g' → ct_Wp l M_L_law d Post (461, lv, v.toList ++ st, g', bc - c1, bs - s1)) : ct_Wp l M_L_law d Post (458, lv, .ref h :: st, g, bc, bs) := ct_Wp.callV (ci := 0) (N := 7) (T := ct_T0) (As := []) lk_X_write (Or.inl wd_645) wd_646 wd_647 rfl d_L_law_458 hsh hM rfl hdd hk hcc hss kk
theorem cl_L_law_462 {l : ct_Lx} {d d1 : Nat} {Post Post1 : Option Value → ct_Sg → Prop} {lv : ct_Lv} {st : List Value} {g : ct_Sg} {bc bs c1 s1 : Nat} {h : Nat} (hsh : g.2.1 h = (10 + 4, 24)) (hM : ct_Me l M_M_write d1 c1 s1 [.ref h] g Post1) (hdd : d1 + 1 ≤ d) (hk : (st.map fun v => v.category).sum ≤ 8) (hcc : c1 ≤ bc) (hss : s1 ≤ bs) (kk : ∀ (v : Option Value) (g' : ct_Sg), Post1 v g' → ct_Wp l M_L_law d Post (465, lv, v.toList ++ st, g', bc - c1, bs - s1)) : ct_Wp l M_L_law d Post (462, lv, .ref h :: st, g, bc, bs) := ct_Wp.callV (ci := 4) (N := 24) (T := ct_T4) (As := []) lk_M_write (Or.inl wd_650) wd_651 wd_652 rfl d_L_law_462 hsh hM rfl hdd hk hcc hss kk
theorem cl_L_law_476 {l : ct_Lx} {d d1 : Nat} {Post Post1 : Option Value → ct_Sg → Prop} {lv : ct_Lv} {st : List Value} {g : ct_Sg} {bc bs c1 s1 : Nat} {a1 : Value} {h : Nat} (hsh : g.2.1 h = (10 + 0, 7)) (hM : ct_Me l M_X_written d1 c1 s1 [.ref h, a1] g Post1) (hdd : d1 + 1 ≤ d) (hk : (st.map fun v => v.category).sum ≤ 8) (hcc : c1 ≤ bc) (hss : s1 ≤ bs) (kk : ∀ (v : Option Value) (g' : ct_Sg), Post1 v g' → ct_Wp l M_L_law d Post (479, lv, v.toList ++ st, g', bc - c1, bs - s1)) : ct_Wp l M_L_law d Post (476, lv, a1 :: .ref h :: st, g, bc, bs) := ct_Wp.callV (ci := 0) (N := 7) (T := ct_T0) (As := [a1]) lk_X_written (Or.inl wd_655) wd_656 wd_657 rfl d_L_law_476 hsh hM rfl hdd hk hcc hss kk
theorem cl_L_law_485 {l : ct_Lx} {d d1 : Nat} {Post Post1 : Option Value → ct_Sg → Prop} {lv : ct_Lv} {st : List Value} {g : ct_Sg} {bc bs c1 s1 : Nat} {a1 : Value} {h : Nat} (hsh : g.2.1 h = (10 + 4, 24)) (hM : ct_Me l M_M_written d1 c1 s1 [.ref h, a1] g Post1) (hdd : d1 + 1 ≤ d) (hk : (st.map fun v => v.category).sum ≤ 8) (hcc : c1 ≤ bc) (hss : s1 ≤ bs) (kk : ∀ (v : Option Value) (g' : ct_Sg), Post1 v g' → ct_Wp l M_L_law d Post (488, lv, v.toList ++ st, g', bc - c1, bs - s1)) : ct_Wp l M_L_law d Post (485, lv, a1 :: .ref h :: st, g, bc, bs) := ct_Wp.callV (ci := 4) (N := 24) (T := ct_T4) (As := [a1]) lk_M_written (Or.inl wd_660) wd_661 wd_662 rfl d_L_law_485 hsh hM rfl hdd hk hcc hss kk
