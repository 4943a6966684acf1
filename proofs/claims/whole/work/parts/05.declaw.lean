theorem dL_law_0 : decode code 0 = .ok (.new 7, 3) := by decide +kernel
theorem dL_law_3 : decode code 3 = .ok (.dup, 1) := by decide +kernel
theorem dL_law_4 : decode code 4 = .ok (.invokespecial 9, 3) := by decide +kernel
theorem dL_law_7 : decode code 7 = .ok (.astore_n 1, 1) := by decide +kernel
theorem dL_law_8 : decode code 8 = .ok (.new 10, 3) := by decide +kernel
theorem dL_law_11 : decode code 11 = .ok (.dup, 1) := by decide +kernel
theorem dL_law_12 : decode code 12 = .ok (.invokespecial 12, 3) := by decide +kernel
theorem dL_law_15 : decode code 15 = .ok (.astore_n 2, 1) := by decide +kernel
theorem dL_law_16 : decode code 16 = .ok (.iconst 0, 1) := by decide +kernel
theorem dL_law_17 : decode code 17 = .ok (.istore_n 3, 1) := by decide +kernel
theorem dL_law_18 : decode code 18 = .ok (.iload_n 3, 1) := by decide +kernel
theorem dL_law_19 : decode code 19 = .ok (.aload_n 0, 1) := by decide +kernel
theorem dL_law_20 : decode code 20 = .ok (.arraylength, 1) := by decide +kernel
theorem dL_law_21 : decode code 21 = .ok (.bipush 6, 2) := by decide +kernel
theorem dL_law_23 : decode code 23 = .ok (.isub, 1) := by decide +kernel
theorem dL_law_24 : decode code 24 = .ok (.if_icmp .gt 618, 3) := by decide +kernel
theorem dL_law_27 : decode code 27 = .ok (.aload_n 0, 1) := by decide +kernel
theorem dL_law_28 : decode code 28 = .ok (.iload_n 3, 1) := by decide +kernel
theorem dL_law_29 : decode code 29 = .ok (.iaload, 1) := by decide +kernel
theorem dL_law_30 : decode code 30 = .ok (.bipush 15, 2) := by decide +kernel
theorem dL_law_32 : decode code 32 = .ok (.iand, 1) := by decide +kernel
theorem dL_law_33 : decode code 33 = .ok (.tableswitch 603 0 15 #[79, 142, 217, 250, 273, 297, 330, 344, 357, 371, 384, 407, 440, 503, 527, 580], 79) := by decide +kernel
theorem dL_law_112 : decode code 112 = .ok (.aload_n 1, 1) := by decide +kernel
theorem dL_law_113 : decode code 113 = .ok (.aload_n 0, 1) := by decide +kernel
theorem dL_law_114 : decode code 114 = .ok (.iload_n 3, 1) := by decide +kernel
theorem dL_law_115 : decode code 115 = .ok (.iconst 1, 1) := by decide +kernel
theorem dL_law_116 : decode code 116 = .ok (.iadd, 1) := by decide +kernel
theorem dL_law_117 : decode code 117 = .ok (.iaload, 1) := by decide +kernel
theorem dL_law_118 : decode code 118 = .ok (.aload_n 0, 1) := by decide +kernel
theorem dL_law_119 : decode code 119 = .ok (.iload_n 3, 1) := by decide +kernel
theorem dL_law_120 : decode code 120 = .ok (.iconst 2, 1) := by decide +kernel
theorem dL_law_121 : decode code 121 = .ok (.iadd, 1) := by decide +kernel
theorem dL_law_122 : decode code 122 = .ok (.iaload, 1) := by decide +kernel
theorem dL_law_123 : decode code 123 = .ok (.aload_n 0, 1) := by decide +kernel
theorem dL_law_124 : decode code 124 = .ok (.iload_n 3, 1) := by decide +kernel
theorem dL_law_125 : decode code 125 = .ok (.iconst 3, 1) := by decide +kernel
theorem dL_law_126 : decode code 126 = .ok (.iadd, 1) := by decide +kernel
theorem dL_law_127 : decode code 127 = .ok (.iaload, 1) := by decide +kernel
theorem dL_law_128 : decode code 128 = .ok (.aload_n 0, 1) := by decide +kernel
theorem dL_law_129 : decode code 129 = .ok (.iload_n 3, 1) := by decide +kernel
theorem dL_law_130 : decode code 130 = .ok (.iconst 4, 1) := by decide +kernel
theorem dL_law_131 : decode code 131 = .ok (.iadd, 1) := by decide +kernel
theorem dL_law_132 : decode code 132 = .ok (.iaload, 1) := by decide +kernel
theorem dL_law_133 : decode code 133 = .ok (.aload_n 0, 1) := by decide +kernel
theorem dL_law_134 : decode code 134 = .ok (.iload_n 3, 1) := by decide +kernel
theorem dL_law_135 : decode code 135 = .ok (.iconst 5, 1) := by decide +kernel
theorem dL_law_136 : decode code 136 = .ok (.iadd, 1) := by decide +kernel
theorem dL_law_137 : decode code 137 = .ok (.iaload, 1) := by decide +kernel
theorem dL_law_138 : decode code 138 = .ok (.invokevirtual 13, 3) := by decide +kernel
theorem dL_law_141 : decode code 141 = .ok (.aload_n 2, 1) := by decide +kernel
theorem dL_law_142 : decode code 142 = .ok (.aload_n 0, 1) := by decide +kernel
theorem dL_law_143 : decode code 143 = .ok (.iload_n 3, 1) := by decide +kernel
theorem dL_law_144 : decode code 144 = .ok (.iconst 1, 1) := by decide +kernel
theorem dL_law_145 : decode code 145 = .ok (.iadd, 1) := by decide +kernel
theorem dL_law_146 : decode code 146 = .ok (.iaload, 1) := by decide +kernel
theorem dL_law_147 : decode code 147 = .ok (.aload_n 0, 1) := by decide +kernel
theorem dL_law_148 : decode code 148 = .ok (.iload_n 3, 1) := by decide +kernel
theorem dL_law_149 : decode code 149 = .ok (.iconst 2, 1) := by decide +kernel
theorem dL_law_150 : decode code 150 = .ok (.iadd, 1) := by decide +kernel
theorem dL_law_151 : decode code 151 = .ok (.iaload, 1) := by decide +kernel
theorem dL_law_152 : decode code 152 = .ok (.aload_n 0, 1) := by decide +kernel
theorem dL_law_153 : decode code 153 = .ok (.iload_n 3, 1) := by decide +kernel
theorem dL_law_154 : decode code 154 = .ok (.iconst 3, 1) := by decide +kernel
theorem dL_law_155 : decode code 155 = .ok (.iadd, 1) := by decide +kernel
theorem dL_law_156 : decode code 156 = .ok (.iaload, 1) := by decide +kernel
theorem dL_law_157 : decode code 157 = .ok (.aload_n 0, 1) := by decide +kernel
theorem dL_law_158 : decode code 158 = .ok (.iload_n 3, 1) := by decide +kernel
theorem dL_law_159 : decode code 159 = .ok (.iconst 4, 1) := by decide +kernel
theorem dL_law_160 : decode code 160 = .ok (.iadd, 1) := by decide +kernel
theorem dL_law_161 : decode code 161 = .ok (.iaload, 1) := by decide +kernel
theorem dL_law_162 : decode code 162 = .ok (.aload_n 0, 1) := by decide +kernel
theorem dL_law_163 : decode code 163 = .ok (.iload_n 3, 1) := by decide +kernel
theorem dL_law_164 : decode code 164 = .ok (.iconst 5, 1) := by decide +kernel
theorem dL_law_165 : decode code 165 = .ok (.iadd, 1) := by decide +kernel
theorem dL_law_166 : decode code 166 = .ok (.iaload, 1) := by decide +kernel
theorem dL_law_167 : decode code 167 = .ok (.invokevirtual 17, 3) := by decide +kernel
theorem dL_law_170 : decode code 170 = .ok (.if_icmp .eq 466, 3) := by decide +kernel
theorem dL_law_173 : decode code 173 = .ok (.iconst 0, 1) := by decide +kernel
theorem dL_law_174 : decode code 174 = .ok (.ireturn, 1) := by decide +kernel
theorem dL_law_175 : decode code 175 = .ok (.aload_n 1, 1) := by decide +kernel
theorem dL_law_176 : decode code 176 = .ok (.aload_n 0, 1) := by decide +kernel
theorem dL_law_177 : decode code 177 = .ok (.iload_n 3, 1) := by decide +kernel
theorem dL_law_178 : decode code 178 = .ok (.iconst 1, 1) := by decide +kernel
theorem dL_law_179 : decode code 179 = .ok (.iadd, 1) := by decide +kernel
theorem dL_law_180 : decode code 180 = .ok (.iaload, 1) := by decide +kernel
theorem dL_law_181 : decode code 181 = .ok (.ifCond .eq 7, 3) := by decide +kernel
theorem dL_law_184 : decode code 184 = .ok (.iconst 1, 1) := by decide +kernel
theorem dL_law_185 : decode code 185 = .ok (.goto 4, 3) := by decide +kernel
theorem dL_law_188 : decode code 188 = .ok (.iconst 0, 1) := by decide +kernel
theorem dL_law_189 : decode code 189 = .ok (.aload_n 0, 1) := by decide +kernel
theorem dL_law_190 : decode code 190 = .ok (.iload_n 3, 1) := by decide +kernel
theorem dL_law_191 : decode code 191 = .ok (.iconst 2, 1) := by decide +kernel
theorem dL_law_192 : decode code 192 = .ok (.iadd, 1) := by decide +kernel
theorem dL_law_193 : decode code 193 = .ok (.iaload, 1) := by decide +kernel
theorem dL_law_194 : decode code 194 = .ok (.ifCond .eq 7, 3) := by decide +kernel
theorem dL_law_197 : decode code 197 = .ok (.iconst 1, 1) := by decide +kernel
theorem dL_law_198 : decode code 198 = .ok (.goto 4, 3) := by decide +kernel
theorem dL_law_201 : decode code 201 = .ok (.iconst 0, 1) := by decide +kernel
theorem dL_law_202 : decode code 202 = .ok (.aload_n 0, 1) := by decide +kernel
theorem dL_law_203 : decode code 203 = .ok (.iload_n 3, 1) := by decide +kernel
theorem dL_law_204 : decode code 204 = .ok (.iconst 3, 1) := by decide +kernel
theorem dL_law_205 : decode code 205 = .ok (.iadd, 1) := by decide +kernel
theorem dL_law_206 : decode code 206 = .ok (.iaload, 1) := by decide +kernel
theorem dL_law_207 : decode code 207 = .ok (.invokevirtual 18, 3) := by decide +kernel
theorem dL_law_210 : decode code 210 = .ok (.aload_n 2, 1) := by decide +kernel
theorem dL_law_211 : decode code 211 = .ok (.aload_n 0, 1) := by decide +kernel
theorem dL_law_212 : decode code 212 = .ok (.iload_n 3, 1) := by decide +kernel
theorem dL_law_213 : decode code 213 = .ok (.iconst 1, 1) := by decide +kernel
theorem dL_law_214 : decode code 214 = .ok (.iadd, 1) := by decide +kernel
theorem dL_law_215 : decode code 215 = .ok (.iaload, 1) := by decide +kernel
theorem dL_law_216 : decode code 216 = .ok (.ifCond .eq 7, 3) := by decide +kernel
theorem dL_law_219 : decode code 219 = .ok (.iconst 1, 1) := by decide +kernel
theorem dL_law_220 : decode code 220 = .ok (.goto 4, 3) := by decide +kernel
theorem dL_law_223 : decode code 223 = .ok (.iconst 0, 1) := by decide +kernel
theorem dL_law_224 : decode code 224 = .ok (.aload_n 0, 1) := by decide +kernel
theorem dL_law_225 : decode code 225 = .ok (.iload_n 3, 1) := by decide +kernel
theorem dL_law_226 : decode code 226 = .ok (.iconst 2, 1) := by decide +kernel
theorem dL_law_227 : decode code 227 = .ok (.iadd, 1) := by decide +kernel
theorem dL_law_228 : decode code 228 = .ok (.iaload, 1) := by decide +kernel
theorem dL_law_229 : decode code 229 = .ok (.ifCond .eq 7, 3) := by decide +kernel
theorem dL_law_232 : decode code 232 = .ok (.iconst 1, 1) := by decide +kernel
theorem dL_law_233 : decode code 233 = .ok (.goto 4, 3) := by decide +kernel
theorem dL_law_236 : decode code 236 = .ok (.iconst 0, 1) := by decide +kernel
theorem dL_law_237 : decode code 237 = .ok (.aload_n 0, 1) := by decide +kernel
theorem dL_law_238 : decode code 238 = .ok (.iload_n 3, 1) := by decide +kernel
theorem dL_law_239 : decode code 239 = .ok (.iconst 3, 1) := by decide +kernel
theorem dL_law_240 : decode code 240 = .ok (.iadd, 1) := by decide +kernel
theorem dL_law_241 : decode code 241 = .ok (.iaload, 1) := by decide +kernel
theorem dL_law_242 : decode code 242 = .ok (.invokevirtual 22, 3) := by decide +kernel
theorem dL_law_245 : decode code 245 = .ok (.if_icmp .eq 391, 3) := by decide +kernel
theorem dL_law_248 : decode code 248 = .ok (.iconst 0, 1) := by decide +kernel
theorem dL_law_249 : decode code 249 = .ok (.ireturn, 1) := by decide +kernel
theorem dL_law_250 : decode code 250 = .ok (.aload_n 1, 1) := by decide +kernel
theorem dL_law_251 : decode code 251 = .ok (.aload_n 0, 1) := by decide +kernel
theorem dL_law_252 : decode code 252 = .ok (.iload_n 3, 1) := by decide +kernel
theorem dL_law_253 : decode code 253 = .ok (.iconst 1, 1) := by decide +kernel
theorem dL_law_254 : decode code 254 = .ok (.iadd, 1) := by decide +kernel
theorem dL_law_255 : decode code 255 = .ok (.iaload, 1) := by decide +kernel
theorem dL_law_256 : decode code 256 = .ok (.aload_n 0, 1) := by decide +kernel
theorem dL_law_257 : decode code 257 = .ok (.iload_n 3, 1) := by decide +kernel
theorem dL_law_258 : decode code 258 = .ok (.iconst 2, 1) := by decide +kernel
theorem dL_law_259 : decode code 259 = .ok (.iadd, 1) := by decide +kernel
theorem dL_law_260 : decode code 260 = .ok (.iaload, 1) := by decide +kernel
theorem dL_law_261 : decode code 261 = .ok (.invokevirtual 23, 3) := by decide +kernel
theorem dL_law_264 : decode code 264 = .ok (.aload_n 2, 1) := by decide +kernel
theorem dL_law_265 : decode code 265 = .ok (.aload_n 0, 1) := by decide +kernel
theorem dL_law_266 : decode code 266 = .ok (.iload_n 3, 1) := by decide +kernel
theorem dL_law_267 : decode code 267 = .ok (.iconst 1, 1) := by decide +kernel
theorem dL_law_268 : decode code 268 = .ok (.iadd, 1) := by decide +kernel
theorem dL_law_269 : decode code 269 = .ok (.iaload, 1) := by decide +kernel
theorem dL_law_270 : decode code 270 = .ok (.aload_n 0, 1) := by decide +kernel
theorem dL_law_271 : decode code 271 = .ok (.iload_n 3, 1) := by decide +kernel
theorem dL_law_272 : decode code 272 = .ok (.iconst 2, 1) := by decide +kernel
theorem dL_law_273 : decode code 273 = .ok (.iadd, 1) := by decide +kernel
theorem dL_law_274 : decode code 274 = .ok (.iaload, 1) := by decide +kernel
theorem dL_law_275 : decode code 275 = .ok (.invokevirtual 27, 3) := by decide +kernel
theorem dL_law_278 : decode code 278 = .ok (.if_icmp .eq 358, 3) := by decide +kernel
theorem dL_law_281 : decode code 281 = .ok (.iconst 0, 1) := by decide +kernel
theorem dL_law_282 : decode code 282 = .ok (.ireturn, 1) := by decide +kernel
theorem dL_law_283 : decode code 283 = .ok (.aload_n 1, 1) := by decide +kernel
theorem dL_law_284 : decode code 284 = .ok (.aload_n 0, 1) := by decide +kernel
theorem dL_law_285 : decode code 285 = .ok (.iload_n 3, 1) := by decide +kernel
theorem dL_law_286 : decode code 286 = .ok (.iconst 1, 1) := by decide +kernel
theorem dL_law_287 : decode code 287 = .ok (.iadd, 1) := by decide +kernel
theorem dL_law_288 : decode code 288 = .ok (.iaload, 1) := by decide +kernel
theorem dL_law_289 : decode code 289 = .ok (.invokevirtual 28, 3) := by decide +kernel
theorem dL_law_292 : decode code 292 = .ok (.aload_n 2, 1) := by decide +kernel
theorem dL_law_293 : decode code 293 = .ok (.aload_n 0, 1) := by decide +kernel
theorem dL_law_294 : decode code 294 = .ok (.iload_n 3, 1) := by decide +kernel
theorem dL_law_295 : decode code 295 = .ok (.iconst 1, 1) := by decide +kernel
theorem dL_law_296 : decode code 296 = .ok (.iadd, 1) := by decide +kernel
theorem dL_law_297 : decode code 297 = .ok (.iaload, 1) := by decide +kernel
theorem dL_law_298 : decode code 298 = .ok (.invokevirtual 32, 3) := by decide +kernel
theorem dL_law_301 : decode code 301 = .ok (.if_icmp .eq 335, 3) := by decide +kernel
theorem dL_law_304 : decode code 304 = .ok (.iconst 0, 1) := by decide +kernel
theorem dL_law_305 : decode code 305 = .ok (.ireturn, 1) := by decide +kernel
theorem dL_law_306 : decode code 306 = .ok (.aload_n 1, 1) := by decide +kernel
theorem dL_law_307 : decode code 307 = .ok (.aload_n 0, 1) := by decide +kernel
theorem dL_law_308 : decode code 308 = .ok (.iload_n 3, 1) := by decide +kernel
theorem dL_law_309 : decode code 309 = .ok (.iconst 1, 1) := by decide +kernel
theorem dL_law_310 : decode code 310 = .ok (.iadd, 1) := by decide +kernel
theorem dL_law_311 : decode code 311 = .ok (.iaload, 1) := by decide +kernel
theorem dL_law_312 : decode code 312 = .ok (.invokevirtual 33, 3) := by decide +kernel
theorem dL_law_315 : decode code 315 = .ok (.aload_n 2, 1) := by decide +kernel
theorem dL_law_316 : decode code 316 = .ok (.aload_n 0, 1) := by decide +kernel
theorem dL_law_317 : decode code 317 = .ok (.iload_n 3, 1) := by decide +kernel
theorem dL_law_318 : decode code 318 = .ok (.iconst 1, 1) := by decide +kernel
theorem dL_law_319 : decode code 319 = .ok (.iadd, 1) := by decide +kernel
theorem dL_law_320 : decode code 320 = .ok (.iaload, 1) := by decide +kernel
theorem dL_law_321 : decode code 321 = .ok (.invokevirtual 37, 3) := by decide +kernel
theorem dL_law_324 : decode code 324 = .ok (.lcmp, 1) := by decide +kernel
theorem dL_law_325 : decode code 325 = .ok (.ifCond .eq 311, 3) := by decide +kernel
theorem dL_law_328 : decode code 328 = .ok (.iconst 0, 1) := by decide +kernel
theorem dL_law_329 : decode code 329 = .ok (.ireturn, 1) := by decide +kernel
theorem dL_law_330 : decode code 330 = .ok (.aload_n 1, 1) := by decide +kernel
theorem dL_law_331 : decode code 331 = .ok (.aload_n 0, 1) := by decide +kernel
theorem dL_law_332 : decode code 332 = .ok (.iload_n 3, 1) := by decide +kernel
theorem dL_law_333 : decode code 333 = .ok (.iconst 1, 1) := by decide +kernel
theorem dL_law_334 : decode code 334 = .ok (.iadd, 1) := by decide +kernel
theorem dL_law_335 : decode code 335 = .ok (.iaload, 1) := by decide +kernel
theorem dL_law_336 : decode code 336 = .ok (.aload_n 0, 1) := by decide +kernel
theorem dL_law_337 : decode code 337 = .ok (.iload_n 3, 1) := by decide +kernel
theorem dL_law_338 : decode code 338 = .ok (.iconst 2, 1) := by decide +kernel
theorem dL_law_339 : decode code 339 = .ok (.iadd, 1) := by decide +kernel
theorem dL_law_340 : decode code 340 = .ok (.iaload, 1) := by decide +kernel
theorem dL_law_341 : decode code 341 = .ok (.invokevirtual 38, 3) := by decide +kernel
theorem dL_law_344 : decode code 344 = .ok (.aload_n 2, 1) := by decide +kernel
theorem dL_law_345 : decode code 345 = .ok (.aload_n 0, 1) := by decide +kernel
theorem dL_law_346 : decode code 346 = .ok (.iload_n 3, 1) := by decide +kernel
theorem dL_law_347 : decode code 347 = .ok (.iconst 1, 1) := by decide +kernel
theorem dL_law_348 : decode code 348 = .ok (.iadd, 1) := by decide +kernel
theorem dL_law_349 : decode code 349 = .ok (.iaload, 1) := by decide +kernel
theorem dL_law_350 : decode code 350 = .ok (.aload_n 0, 1) := by decide +kernel
theorem dL_law_351 : decode code 351 = .ok (.iload_n 3, 1) := by decide +kernel
theorem dL_law_352 : decode code 352 = .ok (.iconst 2, 1) := by decide +kernel
theorem dL_law_353 : decode code 353 = .ok (.iadd, 1) := by decide +kernel
theorem dL_law_354 : decode code 354 = .ok (.iaload, 1) := by decide +kernel
theorem dL_law_355 : decode code 355 = .ok (.invokevirtual 41, 3) := by decide +kernel
theorem dL_law_358 : decode code 358 = .ok (.if_icmp .eq 278, 3) := by decide +kernel
theorem dL_law_361 : decode code 361 = .ok (.iconst 0, 1) := by decide +kernel
theorem dL_law_362 : decode code 362 = .ok (.ireturn, 1) := by decide +kernel
theorem dL_law_363 : decode code 363 = .ok (.aload_n 1, 1) := by decide +kernel
theorem dL_law_364 : decode code 364 = .ok (.invokevirtual 42, 3) := by decide +kernel
theorem dL_law_367 : decode code 367 = .ok (.aload_n 2, 1) := by decide +kernel
theorem dL_law_368 : decode code 368 = .ok (.invokevirtual 46, 3) := by decide +kernel
theorem dL_law_371 : decode code 371 = .ok (.lcmp, 1) := by decide +kernel
theorem dL_law_372 : decode code 372 = .ok (.ifCond .eq 264, 3) := by decide +kernel
theorem dL_law_375 : decode code 375 = .ok (.iconst 0, 1) := by decide +kernel
theorem dL_law_376 : decode code 376 = .ok (.ireturn, 1) := by decide +kernel
theorem dL_law_377 : decode code 377 = .ok (.aload_n 1, 1) := by decide +kernel
theorem dL_law_378 : decode code 378 = .ok (.invokevirtual 47, 3) := by decide +kernel
theorem dL_law_381 : decode code 381 = .ok (.aload_n 2, 1) := by decide +kernel
theorem dL_law_382 : decode code 382 = .ok (.invokevirtual 51, 3) := by decide +kernel
theorem dL_law_385 : decode code 385 = .ok (.if_icmp .eq 251, 3) := by decide +kernel
theorem dL_law_388 : decode code 388 = .ok (.iconst 0, 1) := by decide +kernel
theorem dL_law_389 : decode code 389 = .ok (.ireturn, 1) := by decide +kernel
theorem dL_law_390 : decode code 390 = .ok (.aload_n 1, 1) := by decide +kernel
theorem dL_law_391 : decode code 391 = .ok (.invokevirtual 52, 3) := by decide +kernel
theorem dL_law_394 : decode code 394 = .ok (.aload_n 2, 1) := by decide +kernel
theorem dL_law_395 : decode code 395 = .ok (.invokevirtual 55, 3) := by decide +kernel
theorem dL_law_398 : decode code 398 = .ok (.lcmp, 1) := by decide +kernel
theorem dL_law_399 : decode code 399 = .ok (.ifCond .eq 237, 3) := by decide +kernel
theorem dL_law_402 : decode code 402 = .ok (.iconst 0, 1) := by decide +kernel
theorem dL_law_403 : decode code 403 = .ok (.ireturn, 1) := by decide +kernel
theorem dL_law_404 : decode code 404 = .ok (.aload_n 1, 1) := by decide +kernel
theorem dL_law_405 : decode code 405 = .ok (.invokevirtual 56, 3) := by decide +kernel
theorem dL_law_408 : decode code 408 = .ok (.aload_n 2, 1) := by decide +kernel
theorem dL_law_409 : decode code 409 = .ok (.invokevirtual 60, 3) := by decide +kernel
theorem dL_law_412 : decode code 412 = .ok (.if_icmp .eq 224, 3) := by decide +kernel
theorem dL_law_415 : decode code 415 = .ok (.iconst 0, 1) := by decide +kernel
theorem dL_law_416 : decode code 416 = .ok (.ireturn, 1) := by decide +kernel
theorem dL_law_417 : decode code 417 = .ok (.aload_n 1, 1) := by decide +kernel
theorem dL_law_418 : decode code 418 = .ok (.aload_n 0, 1) := by decide +kernel
theorem dL_law_419 : decode code 419 = .ok (.iload_n 3, 1) := by decide +kernel
theorem dL_law_420 : decode code 420 = .ok (.iconst 1, 1) := by decide +kernel
theorem dL_law_421 : decode code 421 = .ok (.iadd, 1) := by decide +kernel
theorem dL_law_422 : decode code 422 = .ok (.iaload, 1) := by decide +kernel
theorem dL_law_423 : decode code 423 = .ok (.invokevirtual 61, 3) := by decide +kernel
theorem dL_law_426 : decode code 426 = .ok (.aload_n 2, 1) := by decide +kernel
theorem dL_law_427 : decode code 427 = .ok (.aload_n 0, 1) := by decide +kernel
theorem dL_law_428 : decode code 428 = .ok (.iload_n 3, 1) := by decide +kernel
theorem dL_law_429 : decode code 429 = .ok (.iconst 1, 1) := by decide +kernel
theorem dL_law_430 : decode code 430 = .ok (.iadd, 1) := by decide +kernel
theorem dL_law_431 : decode code 431 = .ok (.iaload, 1) := by decide +kernel
theorem dL_law_432 : decode code 432 = .ok (.invokevirtual 64, 3) := by decide +kernel
theorem dL_law_435 : decode code 435 = .ok (.if_icmp .eq 201, 3) := by decide +kernel
theorem dL_law_438 : decode code 438 = .ok (.iconst 0, 1) := by decide +kernel
theorem dL_law_439 : decode code 439 = .ok (.ireturn, 1) := by decide +kernel
theorem dL_law_440 : decode code 440 = .ok (.aload_n 1, 1) := by decide +kernel
theorem dL_law_441 : decode code 441 = .ok (.aload_n 0, 1) := by decide +kernel
theorem dL_law_442 : decode code 442 = .ok (.iload_n 3, 1) := by decide +kernel
theorem dL_law_443 : decode code 443 = .ok (.iconst 1, 1) := by decide +kernel
theorem dL_law_444 : decode code 444 = .ok (.iadd, 1) := by decide +kernel
theorem dL_law_445 : decode code 445 = .ok (.iaload, 1) := by decide +kernel
theorem dL_law_446 : decode code 446 = .ok (.aload_n 0, 1) := by decide +kernel
theorem dL_law_447 : decode code 447 = .ok (.iload_n 3, 1) := by decide +kernel
theorem dL_law_448 : decode code 448 = .ok (.iconst 2, 1) := by decide +kernel
theorem dL_law_449 : decode code 449 = .ok (.iadd, 1) := by decide +kernel
theorem dL_law_450 : decode code 450 = .ok (.iaload, 1) := by decide +kernel
theorem dL_law_451 : decode code 451 = .ok (.invokevirtual 65, 3) := by decide +kernel
theorem dL_law_454 : decode code 454 = .ok (.aload_n 2, 1) := by decide +kernel
theorem dL_law_455 : decode code 455 = .ok (.aload_n 0, 1) := by decide +kernel
theorem dL_law_456 : decode code 456 = .ok (.iload_n 3, 1) := by decide +kernel
theorem dL_law_457 : decode code 457 = .ok (.iconst 1, 1) := by decide +kernel
theorem dL_law_458 : decode code 458 = .ok (.iadd, 1) := by decide +kernel
theorem dL_law_459 : decode code 459 = .ok (.iaload, 1) := by decide +kernel
theorem dL_law_460 : decode code 460 = .ok (.aload_n 0, 1) := by decide +kernel
theorem dL_law_461 : decode code 461 = .ok (.iload_n 3, 1) := by decide +kernel
theorem dL_law_462 : decode code 462 = .ok (.iconst 2, 1) := by decide +kernel
theorem dL_law_463 : decode code 463 = .ok (.iadd, 1) := by decide +kernel
theorem dL_law_464 : decode code 464 = .ok (.iaload, 1) := by decide +kernel
theorem dL_law_465 : decode code 465 = .ok (.invokevirtual 68, 3) := by decide +kernel
theorem dL_law_468 : decode code 468 = .ok (.if_icmp .eq 168, 3) := by decide +kernel
theorem dL_law_471 : decode code 471 = .ok (.iconst 0, 1) := by decide +kernel
theorem dL_law_472 : decode code 472 = .ok (.ireturn, 1) := by decide +kernel
theorem dL_law_473 : decode code 473 = .ok (.aload_n 1, 1) := by decide +kernel
theorem dL_law_474 : decode code 474 = .ok (.aload_n 0, 1) := by decide +kernel
theorem dL_law_475 : decode code 475 = .ok (.iload_n 3, 1) := by decide +kernel
theorem dL_law_476 : decode code 476 = .ok (.iconst 1, 1) := by decide +kernel
theorem dL_law_477 : decode code 477 = .ok (.iadd, 1) := by decide +kernel
theorem dL_law_478 : decode code 478 = .ok (.iaload, 1) := by decide +kernel
theorem dL_law_479 : decode code 479 = .ok (.aload_n 0, 1) := by decide +kernel
theorem dL_law_480 : decode code 480 = .ok (.iload_n 3, 1) := by decide +kernel
theorem dL_law_481 : decode code 481 = .ok (.iconst 2, 1) := by decide +kernel
theorem dL_law_482 : decode code 482 = .ok (.iadd, 1) := by decide +kernel
theorem dL_law_483 : decode code 483 = .ok (.iaload, 1) := by decide +kernel
theorem dL_law_484 : decode code 484 = .ok (.i2l, 1) := by decide +kernel
theorem dL_law_485 : decode code 485 = .ok (.bipush 32, 2) := by decide +kernel
theorem dL_law_487 : decode code 487 = .ok (.lshl, 1) := by decide +kernel
theorem dL_law_488 : decode code 488 = .ok (.aload_n 0, 1) := by decide +kernel
theorem dL_law_489 : decode code 489 = .ok (.iload_n 3, 1) := by decide +kernel
theorem dL_law_490 : decode code 490 = .ok (.iconst 3, 1) := by decide +kernel
theorem dL_law_491 : decode code 491 = .ok (.iadd, 1) := by decide +kernel
theorem dL_law_492 : decode code 492 = .ok (.iaload, 1) := by decide +kernel
theorem dL_law_493 : decode code 493 = .ok (.i2l, 1) := by decide +kernel
theorem dL_law_494 : decode code 494 = .ok (.ldc2_w 69, 3) := by decide +kernel
theorem dL_law_497 : decode code 497 = .ok (.land, 1) := by decide +kernel
theorem dL_law_498 : decode code 498 = .ok (.lor, 1) := by decide +kernel
theorem dL_law_499 : decode code 499 = .ok (.invokevirtual 71, 3) := by decide +kernel
theorem dL_law_502 : decode code 502 = .ok (.aload_n 2, 1) := by decide +kernel
theorem dL_law_503 : decode code 503 = .ok (.aload_n 0, 1) := by decide +kernel
theorem dL_law_504 : decode code 504 = .ok (.iload_n 3, 1) := by decide +kernel
theorem dL_law_505 : decode code 505 = .ok (.iconst 1, 1) := by decide +kernel
theorem dL_law_506 : decode code 506 = .ok (.iadd, 1) := by decide +kernel
theorem dL_law_507 : decode code 507 = .ok (.iaload, 1) := by decide +kernel
theorem dL_law_508 : decode code 508 = .ok (.aload_n 0, 1) := by decide +kernel
theorem dL_law_509 : decode code 509 = .ok (.iload_n 3, 1) := by decide +kernel
theorem dL_law_510 : decode code 510 = .ok (.iconst 2, 1) := by decide +kernel
theorem dL_law_511 : decode code 511 = .ok (.iadd, 1) := by decide +kernel
theorem dL_law_512 : decode code 512 = .ok (.iaload, 1) := by decide +kernel
theorem dL_law_513 : decode code 513 = .ok (.i2l, 1) := by decide +kernel
theorem dL_law_514 : decode code 514 = .ok (.bipush 32, 2) := by decide +kernel
theorem dL_law_516 : decode code 516 = .ok (.lshl, 1) := by decide +kernel
theorem dL_law_517 : decode code 517 = .ok (.aload_n 0, 1) := by decide +kernel
theorem dL_law_518 : decode code 518 = .ok (.iload_n 3, 1) := by decide +kernel
theorem dL_law_519 : decode code 519 = .ok (.iconst 3, 1) := by decide +kernel
theorem dL_law_520 : decode code 520 = .ok (.iadd, 1) := by decide +kernel
theorem dL_law_521 : decode code 521 = .ok (.iaload, 1) := by decide +kernel
theorem dL_law_522 : decode code 522 = .ok (.i2l, 1) := by decide +kernel
theorem dL_law_523 : decode code 523 = .ok (.ldc2_w 69, 3) := by decide +kernel
theorem dL_law_526 : decode code 526 = .ok (.land, 1) := by decide +kernel
theorem dL_law_527 : decode code 527 = .ok (.lor, 1) := by decide +kernel
theorem dL_law_528 : decode code 528 = .ok (.invokevirtual 75, 3) := by decide +kernel
theorem dL_law_531 : decode code 531 = .ok (.if_icmp .eq 105, 3) := by decide +kernel
theorem dL_law_534 : decode code 534 = .ok (.iconst 0, 1) := by decide +kernel
theorem dL_law_535 : decode code 535 = .ok (.ireturn, 1) := by decide +kernel
theorem dL_law_536 : decode code 536 = .ok (.aload_n 1, 1) := by decide +kernel
theorem dL_law_537 : decode code 537 = .ok (.aload_n 0, 1) := by decide +kernel
theorem dL_law_538 : decode code 538 = .ok (.iload_n 3, 1) := by decide +kernel
theorem dL_law_539 : decode code 539 = .ok (.iconst 1, 1) := by decide +kernel
theorem dL_law_540 : decode code 540 = .ok (.iadd, 1) := by decide +kernel
theorem dL_law_541 : decode code 541 = .ok (.iaload, 1) := by decide +kernel
theorem dL_law_542 : decode code 542 = .ok (.invokevirtual 76, 3) := by decide +kernel
theorem dL_law_545 : decode code 545 = .ok (.aload_n 2, 1) := by decide +kernel
theorem dL_law_546 : decode code 546 = .ok (.aload_n 0, 1) := by decide +kernel
theorem dL_law_547 : decode code 547 = .ok (.iload_n 3, 1) := by decide +kernel
theorem dL_law_548 : decode code 548 = .ok (.iconst 1, 1) := by decide +kernel
theorem dL_law_549 : decode code 549 = .ok (.iadd, 1) := by decide +kernel
theorem dL_law_550 : decode code 550 = .ok (.iaload, 1) := by decide +kernel
theorem dL_law_551 : decode code 551 = .ok (.invokevirtual 79, 3) := by decide +kernel
theorem dL_law_554 : decode code 554 = .ok (.lcmp, 1) := by decide +kernel
theorem dL_law_555 : decode code 555 = .ok (.ifCond .eq 81, 3) := by decide +kernel
theorem dL_law_558 : decode code 558 = .ok (.iconst 0, 1) := by decide +kernel
theorem dL_law_559 : decode code 559 = .ok (.ireturn, 1) := by decide +kernel
theorem dL_law_560 : decode code 560 = .ok (.aload_n 1, 1) := by decide +kernel
theorem dL_law_561 : decode code 561 = .ok (.aload_n 0, 1) := by decide +kernel
theorem dL_law_562 : decode code 562 = .ok (.iload_n 3, 1) := by decide +kernel
theorem dL_law_563 : decode code 563 = .ok (.iconst 1, 1) := by decide +kernel
theorem dL_law_564 : decode code 564 = .ok (.iadd, 1) := by decide +kernel
theorem dL_law_565 : decode code 565 = .ok (.iaload, 1) := by decide +kernel
theorem dL_law_566 : decode code 566 = .ok (.i2l, 1) := by decide +kernel
theorem dL_law_567 : decode code 567 = .ok (.bipush 32, 2) := by decide +kernel
theorem dL_law_569 : decode code 569 = .ok (.lshl, 1) := by decide +kernel
theorem dL_law_570 : decode code 570 = .ok (.aload_n 0, 1) := by decide +kernel
theorem dL_law_571 : decode code 571 = .ok (.iload_n 3, 1) := by decide +kernel
theorem dL_law_572 : decode code 572 = .ok (.iconst 2, 1) := by decide +kernel
theorem dL_law_573 : decode code 573 = .ok (.iadd, 1) := by decide +kernel
theorem dL_law_574 : decode code 574 = .ok (.iaload, 1) := by decide +kernel
theorem dL_law_575 : decode code 575 = .ok (.i2l, 1) := by decide +kernel
theorem dL_law_576 : decode code 576 = .ok (.ldc2_w 69, 3) := by decide +kernel
theorem dL_law_579 : decode code 579 = .ok (.land, 1) := by decide +kernel
theorem dL_law_580 : decode code 580 = .ok (.lor, 1) := by decide +kernel
theorem dL_law_581 : decode code 581 = .ok (.invokevirtual 80, 3) := by decide +kernel
theorem dL_law_584 : decode code 584 = .ok (.aload_n 2, 1) := by decide +kernel
theorem dL_law_585 : decode code 585 = .ok (.aload_n 0, 1) := by decide +kernel
theorem dL_law_586 : decode code 586 = .ok (.iload_n 3, 1) := by decide +kernel
theorem dL_law_587 : decode code 587 = .ok (.iconst 1, 1) := by decide +kernel
theorem dL_law_588 : decode code 588 = .ok (.iadd, 1) := by decide +kernel
theorem dL_law_589 : decode code 589 = .ok (.iaload, 1) := by decide +kernel
theorem dL_law_590 : decode code 590 = .ok (.i2l, 1) := by decide +kernel
theorem dL_law_591 : decode code 591 = .ok (.bipush 32, 2) := by decide +kernel
theorem dL_law_593 : decode code 593 = .ok (.lshl, 1) := by decide +kernel
theorem dL_law_594 : decode code 594 = .ok (.aload_n 0, 1) := by decide +kernel
theorem dL_law_595 : decode code 595 = .ok (.iload_n 3, 1) := by decide +kernel
theorem dL_law_596 : decode code 596 = .ok (.iconst 2, 1) := by decide +kernel
theorem dL_law_597 : decode code 597 = .ok (.iadd, 1) := by decide +kernel
theorem dL_law_598 : decode code 598 = .ok (.iaload, 1) := by decide +kernel
theorem dL_law_599 : decode code 599 = .ok (.i2l, 1) := by decide +kernel
theorem dL_law_600 : decode code 600 = .ok (.ldc2_w 69, 3) := by decide +kernel
theorem dL_law_603 : decode code 603 = .ok (.land, 1) := by decide +kernel
theorem dL_law_604 : decode code 604 = .ok (.lor, 1) := by decide +kernel
theorem dL_law_605 : decode code 605 = .ok (.invokevirtual 84, 3) := by decide +kernel
theorem dL_law_608 : decode code 608 = .ok (.if_icmp .eq 28, 3) := by decide +kernel
theorem dL_law_611 : decode code 611 = .ok (.iconst 0, 1) := by decide +kernel
theorem dL_law_612 : decode code 612 = .ok (.ireturn, 1) := by decide +kernel
theorem dL_law_613 : decode code 613 = .ok (.aload_n 1, 1) := by decide +kernel
theorem dL_law_614 : decode code 614 = .ok (.aload_n 0, 1) := by decide +kernel
theorem dL_law_615 : decode code 615 = .ok (.iload_n 3, 1) := by decide +kernel
theorem dL_law_616 : decode code 616 = .ok (.iconst 1, 1) := by decide +kernel
theorem dL_law_617 : decode code 617 = .ok (.iadd, 1) := by decide +kernel
theorem dL_law_618 : decode code 618 = .ok (.iaload, 1) := by decide +kernel
theorem dL_law_619 : decode code 619 = .ok (.invokevirtual 85, 3) := by decide +kernel
theorem dL_law_622 : decode code 622 = .ok (.aload_n 2, 1) := by decide +kernel
theorem dL_law_623 : decode code 623 = .ok (.aload_n 0, 1) := by decide +kernel
theorem dL_law_624 : decode code 624 = .ok (.iload_n 3, 1) := by decide +kernel
theorem dL_law_625 : decode code 625 = .ok (.iconst 1, 1) := by decide +kernel
theorem dL_law_626 : decode code 626 = .ok (.iadd, 1) := by decide +kernel
theorem dL_law_627 : decode code 627 = .ok (.iaload, 1) := by decide +kernel
theorem dL_law_628 : decode code 628 = .ok (.invokevirtual 88, 3) := by decide +kernel
theorem dL_law_631 : decode code 631 = .ok (.if_icmp .eq 5, 3) := by decide +kernel
theorem dL_law_634 : decode code 634 = .ok (.iconst 0, 1) := by decide +kernel
theorem dL_law_635 : decode code 635 = .ok (.ireturn, 1) := by decide +kernel
theorem dL_law_636 : decode code 636 = .ok (.iinc 3 6, 3) := by decide +kernel
theorem dL_law_639 : decode code 639 = .ok (.goto (-621), 3) := by decide +kernel
theorem dL_law_642 : decode code 642 = .ok (.iconst 1, 1) := by decide +kernel
theorem dL_law_643 : decode code 643 = .ok (.ireturn, 1) := by decide +kernel
