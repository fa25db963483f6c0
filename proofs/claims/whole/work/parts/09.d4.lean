def zm_Law_law : zg_M := (⟨"SurrogateTreeLaw", "law", "([I)Z"⟩, code, 4, some .boolean)
theorem zd_Law_law_0 : decode code 0 = .ok (.new 7, 3) := by decide +kernel
theorem zd_Law_law_3 : decode code 3 = .ok (.dup, 1) := by decide +kernel
theorem zd_Law_law_4 : decode code 4 = .ok (.invokespecial 9, 3) := by decide +kernel
theorem zd_Law_law_7 : decode code 7 = .ok (.astore_n 1, 1) := by decide +kernel
theorem zd_Law_law_8 : decode code 8 = .ok (.new 10, 3) := by decide +kernel
theorem zd_Law_law_11 : decode code 11 = .ok (.dup, 1) := by decide +kernel
theorem zd_Law_law_12 : decode code 12 = .ok (.invokespecial 12, 3) := by decide +kernel
theorem zd_Law_law_15 : decode code 15 = .ok (.astore_n 2, 1) := by decide +kernel
theorem zd_Law_law_16 : decode code 16 = .ok (.iconst 0, 1) := by decide +kernel
theorem zd_Law_law_17 : decode code 17 = .ok (.istore_n 3, 1) := by decide +kernel
theorem zd_Law_law_18 : decode code 18 = .ok (.iload_n 3, 1) := by decide +kernel
theorem zd_Law_law_19 : decode code 19 = .ok (.aload_n 0, 1) := by decide +kernel
theorem zd_Law_law_20 : decode code 20 = .ok (.arraylength, 1) := by decide +kernel
theorem zd_Law_law_21 : decode code 21 = .ok (.iconst 5, 1) := by decide +kernel
theorem zd_Law_law_22 : decode code 22 = .ok (.isub, 1) := by decide +kernel
theorem zd_Law_law_23 : decode code 23 = .ok (.if_icmp .gt 653, 3) := by decide +kernel
theorem zd_Law_law_26 : decode code 26 = .ok (.aload_n 0, 1) := by decide +kernel
theorem zd_Law_law_27 : decode code 27 = .ok (.iload_n 3, 1) := by decide +kernel
theorem zd_Law_law_28 : decode code 28 = .ok (.iaload, 1) := by decide +kernel
theorem zd_Law_law_29 : decode code 29 = .ok (.bipush 31, 2) := by decide +kernel
theorem zd_Law_law_31 : decode code 31 = .ok (.iand, 1) := by decide +kernel
theorem zd_Law_law_32 : decode code 32 = .ok (.tableswitch 638 0 18 #[92, 145, 188, 241, 252, 275, 298, 321, 354, 387, 411, 434, 457, 480, 523, 556, 579, 592, 625], 92) := by decide +kernel
theorem zd_Law_law_124 : decode code 124 = .ok (.aload_n 1, 1) := by decide +kernel
theorem zd_Law_law_125 : decode code 125 = .ok (.aload_n 0, 1) := by decide +kernel
theorem zd_Law_law_126 : decode code 126 = .ok (.iload_n 3, 1) := by decide +kernel
theorem zd_Law_law_127 : decode code 127 = .ok (.iconst 1, 1) := by decide +kernel
theorem zd_Law_law_128 : decode code 128 = .ok (.iadd, 1) := by decide +kernel
theorem zd_Law_law_129 : decode code 129 = .ok (.iaload, 1) := by decide +kernel
theorem zd_Law_law_130 : decode code 130 = .ok (.aload_n 0, 1) := by decide +kernel
theorem zd_Law_law_131 : decode code 131 = .ok (.iload_n 3, 1) := by decide +kernel
theorem zd_Law_law_132 : decode code 132 = .ok (.iconst 2, 1) := by decide +kernel
theorem zd_Law_law_133 : decode code 133 = .ok (.iadd, 1) := by decide +kernel
theorem zd_Law_law_134 : decode code 134 = .ok (.iaload, 1) := by decide +kernel
theorem zd_Law_law_135 : decode code 135 = .ok (.aload_n 0, 1) := by decide +kernel
theorem zd_Law_law_136 : decode code 136 = .ok (.iload_n 3, 1) := by decide +kernel
theorem zd_Law_law_137 : decode code 137 = .ok (.iconst 3, 1) := by decide +kernel
theorem zd_Law_law_138 : decode code 138 = .ok (.iadd, 1) := by decide +kernel
theorem zd_Law_law_139 : decode code 139 = .ok (.iaload, 1) := by decide +kernel
theorem zd_Law_law_140 : decode code 140 = .ok (.aload_n 0, 1) := by decide +kernel
theorem zd_Law_law_141 : decode code 141 = .ok (.iload_n 3, 1) := by decide +kernel
theorem zd_Law_law_142 : decode code 142 = .ok (.iconst 4, 1) := by decide +kernel
theorem zd_Law_law_143 : decode code 143 = .ok (.iadd, 1) := by decide +kernel
theorem zd_Law_law_144 : decode code 144 = .ok (.iaload, 1) := by decide +kernel
theorem zd_Law_law_145 : decode code 145 = .ok (.invokevirtual 13, 3) := by decide +kernel
theorem zd_Law_law_148 : decode code 148 = .ok (.aload_n 2, 1) := by decide +kernel
theorem zd_Law_law_149 : decode code 149 = .ok (.aload_n 0, 1) := by decide +kernel
theorem zd_Law_law_150 : decode code 150 = .ok (.iload_n 3, 1) := by decide +kernel
theorem zd_Law_law_151 : decode code 151 = .ok (.iconst 1, 1) := by decide +kernel
theorem zd_Law_law_152 : decode code 152 = .ok (.iadd, 1) := by decide +kernel
theorem zd_Law_law_153 : decode code 153 = .ok (.iaload, 1) := by decide +kernel
theorem zd_Law_law_154 : decode code 154 = .ok (.aload_n 0, 1) := by decide +kernel
theorem zd_Law_law_155 : decode code 155 = .ok (.iload_n 3, 1) := by decide +kernel
theorem zd_Law_law_156 : decode code 156 = .ok (.iconst 2, 1) := by decide +kernel
theorem zd_Law_law_157 : decode code 157 = .ok (.iadd, 1) := by decide +kernel
theorem zd_Law_law_158 : decode code 158 = .ok (.iaload, 1) := by decide +kernel
theorem zd_Law_law_159 : decode code 159 = .ok (.aload_n 0, 1) := by decide +kernel
theorem zd_Law_law_160 : decode code 160 = .ok (.iload_n 3, 1) := by decide +kernel
theorem zd_Law_law_161 : decode code 161 = .ok (.iconst 3, 1) := by decide +kernel
theorem zd_Law_law_162 : decode code 162 = .ok (.iadd, 1) := by decide +kernel
theorem zd_Law_law_163 : decode code 163 = .ok (.iaload, 1) := by decide +kernel
theorem zd_Law_law_164 : decode code 164 = .ok (.aload_n 0, 1) := by decide +kernel
theorem zd_Law_law_165 : decode code 165 = .ok (.iload_n 3, 1) := by decide +kernel
theorem zd_Law_law_166 : decode code 166 = .ok (.iconst 4, 1) := by decide +kernel
theorem zd_Law_law_167 : decode code 167 = .ok (.iadd, 1) := by decide +kernel
theorem zd_Law_law_168 : decode code 168 = .ok (.iaload, 1) := by decide +kernel
theorem zd_Law_law_169 : decode code 169 = .ok (.invokevirtual 17, 3) := by decide +kernel
theorem zd_Law_law_172 : decode code 172 = .ok (.if_icmp .eq 498, 3) := by decide +kernel
theorem zd_Law_law_175 : decode code 175 = .ok (.iconst 0, 1) := by decide +kernel
theorem zd_Law_law_176 : decode code 176 = .ok (.ireturn, 1) := by decide +kernel
theorem zd_Law_law_177 : decode code 177 = .ok (.aload_n 1, 1) := by decide +kernel
theorem zd_Law_law_178 : decode code 178 = .ok (.aload_n 0, 1) := by decide +kernel
theorem zd_Law_law_179 : decode code 179 = .ok (.iload_n 3, 1) := by decide +kernel
theorem zd_Law_law_180 : decode code 180 = .ok (.iconst 1, 1) := by decide +kernel
theorem zd_Law_law_181 : decode code 181 = .ok (.iadd, 1) := by decide +kernel
theorem zd_Law_law_182 : decode code 182 = .ok (.iaload, 1) := by decide +kernel
theorem zd_Law_law_183 : decode code 183 = .ok (.aload_n 0, 1) := by decide +kernel
theorem zd_Law_law_184 : decode code 184 = .ok (.iload_n 3, 1) := by decide +kernel
theorem zd_Law_law_185 : decode code 185 = .ok (.iconst 2, 1) := by decide +kernel
theorem zd_Law_law_186 : decode code 186 = .ok (.iadd, 1) := by decide +kernel
theorem zd_Law_law_187 : decode code 187 = .ok (.iaload, 1) := by decide +kernel
theorem zd_Law_law_188 : decode code 188 = .ok (.aload_n 0, 1) := by decide +kernel
theorem zd_Law_law_189 : decode code 189 = .ok (.iload_n 3, 1) := by decide +kernel
theorem zd_Law_law_190 : decode code 190 = .ok (.iconst 3, 1) := by decide +kernel
theorem zd_Law_law_191 : decode code 191 = .ok (.iadd, 1) := by decide +kernel
theorem zd_Law_law_192 : decode code 192 = .ok (.iaload, 1) := by decide +kernel
theorem zd_Law_law_193 : decode code 193 = .ok (.invokevirtual 18, 3) := by decide +kernel
theorem zd_Law_law_196 : decode code 196 = .ok (.aload_n 2, 1) := by decide +kernel
theorem zd_Law_law_197 : decode code 197 = .ok (.aload_n 0, 1) := by decide +kernel
theorem zd_Law_law_198 : decode code 198 = .ok (.iload_n 3, 1) := by decide +kernel
theorem zd_Law_law_199 : decode code 199 = .ok (.iconst 1, 1) := by decide +kernel
theorem zd_Law_law_200 : decode code 200 = .ok (.iadd, 1) := by decide +kernel
theorem zd_Law_law_201 : decode code 201 = .ok (.iaload, 1) := by decide +kernel
theorem zd_Law_law_202 : decode code 202 = .ok (.aload_n 0, 1) := by decide +kernel
theorem zd_Law_law_203 : decode code 203 = .ok (.iload_n 3, 1) := by decide +kernel
theorem zd_Law_law_204 : decode code 204 = .ok (.iconst 2, 1) := by decide +kernel
theorem zd_Law_law_205 : decode code 205 = .ok (.iadd, 1) := by decide +kernel
theorem zd_Law_law_206 : decode code 206 = .ok (.iaload, 1) := by decide +kernel
theorem zd_Law_law_207 : decode code 207 = .ok (.aload_n 0, 1) := by decide +kernel
theorem zd_Law_law_208 : decode code 208 = .ok (.iload_n 3, 1) := by decide +kernel
theorem zd_Law_law_209 : decode code 209 = .ok (.iconst 3, 1) := by decide +kernel
theorem zd_Law_law_210 : decode code 210 = .ok (.iadd, 1) := by decide +kernel
theorem zd_Law_law_211 : decode code 211 = .ok (.iaload, 1) := by decide +kernel
theorem zd_Law_law_212 : decode code 212 = .ok (.invokevirtual 22, 3) := by decide +kernel
theorem zd_Law_law_215 : decode code 215 = .ok (.if_icmp .eq 455, 3) := by decide +kernel
theorem zd_Law_law_218 : decode code 218 = .ok (.iconst 0, 1) := by decide +kernel
theorem zd_Law_law_219 : decode code 219 = .ok (.ireturn, 1) := by decide +kernel
theorem zd_Law_law_220 : decode code 220 = .ok (.aload_n 1, 1) := by decide +kernel
theorem zd_Law_law_221 : decode code 221 = .ok (.aload_n 0, 1) := by decide +kernel
theorem zd_Law_law_222 : decode code 222 = .ok (.iload_n 3, 1) := by decide +kernel
theorem zd_Law_law_223 : decode code 223 = .ok (.iconst 1, 1) := by decide +kernel
theorem zd_Law_law_224 : decode code 224 = .ok (.iadd, 1) := by decide +kernel
theorem zd_Law_law_225 : decode code 225 = .ok (.iaload, 1) := by decide +kernel
theorem zd_Law_law_226 : decode code 226 = .ok (.i2l, 1) := by decide +kernel
theorem zd_Law_law_227 : decode code 227 = .ok (.bipush 32, 2) := by decide +kernel
theorem zd_Law_law_229 : decode code 229 = .ok (.lshl, 1) := by decide +kernel
theorem zd_Law_law_230 : decode code 230 = .ok (.aload_n 0, 1) := by decide +kernel
theorem zd_Law_law_231 : decode code 231 = .ok (.iload_n 3, 1) := by decide +kernel
theorem zd_Law_law_232 : decode code 232 = .ok (.iconst 2, 1) := by decide +kernel
theorem zd_Law_law_233 : decode code 233 = .ok (.iadd, 1) := by decide +kernel
theorem zd_Law_law_234 : decode code 234 = .ok (.iaload, 1) := by decide +kernel
theorem zd_Law_law_235 : decode code 235 = .ok (.i2l, 1) := by decide +kernel
theorem zd_Law_law_236 : decode code 236 = .ok (.ldc2_w 23, 3) := by decide +kernel
theorem zd_Law_law_239 : decode code 239 = .ok (.land, 1) := by decide +kernel
theorem zd_Law_law_240 : decode code 240 = .ok (.lor, 1) := by decide +kernel
theorem zd_Law_law_241 : decode code 241 = .ok (.invokevirtual 25, 3) := by decide +kernel
theorem zd_Law_law_244 : decode code 244 = .ok (.aload_n 2, 1) := by decide +kernel
theorem zd_Law_law_245 : decode code 245 = .ok (.aload_n 0, 1) := by decide +kernel
theorem zd_Law_law_246 : decode code 246 = .ok (.iload_n 3, 1) := by decide +kernel
theorem zd_Law_law_247 : decode code 247 = .ok (.iconst 1, 1) := by decide +kernel
theorem zd_Law_law_248 : decode code 248 = .ok (.iadd, 1) := by decide +kernel
theorem zd_Law_law_249 : decode code 249 = .ok (.iaload, 1) := by decide +kernel
theorem zd_Law_law_250 : decode code 250 = .ok (.i2l, 1) := by decide +kernel
theorem zd_Law_law_251 : decode code 251 = .ok (.bipush 32, 2) := by decide +kernel
theorem zd_Law_law_253 : decode code 253 = .ok (.lshl, 1) := by decide +kernel
theorem zd_Law_law_254 : decode code 254 = .ok (.aload_n 0, 1) := by decide +kernel
theorem zd_Law_law_255 : decode code 255 = .ok (.iload_n 3, 1) := by decide +kernel
theorem zd_Law_law_256 : decode code 256 = .ok (.iconst 2, 1) := by decide +kernel
theorem zd_Law_law_257 : decode code 257 = .ok (.iadd, 1) := by decide +kernel
theorem zd_Law_law_258 : decode code 258 = .ok (.iaload, 1) := by decide +kernel
theorem zd_Law_law_259 : decode code 259 = .ok (.i2l, 1) := by decide +kernel
theorem zd_Law_law_260 : decode code 260 = .ok (.ldc2_w 23, 3) := by decide +kernel
theorem zd_Law_law_263 : decode code 263 = .ok (.land, 1) := by decide +kernel
theorem zd_Law_law_264 : decode code 264 = .ok (.lor, 1) := by decide +kernel
theorem zd_Law_law_265 : decode code 265 = .ok (.invokevirtual 29, 3) := by decide +kernel
theorem zd_Law_law_268 : decode code 268 = .ok (.if_icmp .eq 402, 3) := by decide +kernel
theorem zd_Law_law_271 : decode code 271 = .ok (.iconst 0, 1) := by decide +kernel
theorem zd_Law_law_272 : decode code 272 = .ok (.ireturn, 1) := by decide +kernel
theorem zd_Law_law_273 : decode code 273 = .ok (.aload_n 1, 1) := by decide +kernel
theorem zd_Law_law_274 : decode code 274 = .ok (.invokevirtual 30, 3) := by decide +kernel
theorem zd_Law_law_277 : decode code 277 = .ok (.aload_n 2, 1) := by decide +kernel
theorem zd_Law_law_278 : decode code 278 = .ok (.invokevirtual 33, 3) := by decide +kernel
theorem zd_Law_law_281 : decode code 281 = .ok (.goto 389, 3) := by decide +kernel
theorem zd_Law_law_284 : decode code 284 = .ok (.aload_n 1, 1) := by decide +kernel
theorem zd_Law_law_285 : decode code 285 = .ok (.aload_n 0, 1) := by decide +kernel
theorem zd_Law_law_286 : decode code 286 = .ok (.iload_n 3, 1) := by decide +kernel
theorem zd_Law_law_287 : decode code 287 = .ok (.iconst 1, 1) := by decide +kernel
theorem zd_Law_law_288 : decode code 288 = .ok (.iadd, 1) := by decide +kernel
theorem zd_Law_law_289 : decode code 289 = .ok (.iaload, 1) := by decide +kernel
theorem zd_Law_law_290 : decode code 290 = .ok (.invokevirtual 34, 3) := by decide +kernel
theorem zd_Law_law_293 : decode code 293 = .ok (.aload_n 2, 1) := by decide +kernel
theorem zd_Law_law_294 : decode code 294 = .ok (.aload_n 0, 1) := by decide +kernel
theorem zd_Law_law_295 : decode code 295 = .ok (.iload_n 3, 1) := by decide +kernel
theorem zd_Law_law_296 : decode code 296 = .ok (.iconst 1, 1) := by decide +kernel
theorem zd_Law_law_297 : decode code 297 = .ok (.iadd, 1) := by decide +kernel
theorem zd_Law_law_298 : decode code 298 = .ok (.iaload, 1) := by decide +kernel
theorem zd_Law_law_299 : decode code 299 = .ok (.invokevirtual 38, 3) := by decide +kernel
theorem zd_Law_law_302 : decode code 302 = .ok (.if_icmp .eq 368, 3) := by decide +kernel
theorem zd_Law_law_305 : decode code 305 = .ok (.iconst 0, 1) := by decide +kernel
theorem zd_Law_law_306 : decode code 306 = .ok (.ireturn, 1) := by decide +kernel
theorem zd_Law_law_307 : decode code 307 = .ok (.aload_n 1, 1) := by decide +kernel
theorem zd_Law_law_308 : decode code 308 = .ok (.aload_n 0, 1) := by decide +kernel
theorem zd_Law_law_309 : decode code 309 = .ok (.iload_n 3, 1) := by decide +kernel
theorem zd_Law_law_310 : decode code 310 = .ok (.iconst 1, 1) := by decide +kernel
theorem zd_Law_law_311 : decode code 311 = .ok (.iadd, 1) := by decide +kernel
theorem zd_Law_law_312 : decode code 312 = .ok (.iaload, 1) := by decide +kernel
theorem zd_Law_law_313 : decode code 313 = .ok (.invokevirtual 39, 3) := by decide +kernel
theorem zd_Law_law_316 : decode code 316 = .ok (.aload_n 2, 1) := by decide +kernel
theorem zd_Law_law_317 : decode code 317 = .ok (.aload_n 0, 1) := by decide +kernel
theorem zd_Law_law_318 : decode code 318 = .ok (.iload_n 3, 1) := by decide +kernel
theorem zd_Law_law_319 : decode code 319 = .ok (.iconst 1, 1) := by decide +kernel
theorem zd_Law_law_320 : decode code 320 = .ok (.iadd, 1) := by decide +kernel
theorem zd_Law_law_321 : decode code 321 = .ok (.iaload, 1) := by decide +kernel
theorem zd_Law_law_322 : decode code 322 = .ok (.invokevirtual 42, 3) := by decide +kernel
theorem zd_Law_law_325 : decode code 325 = .ok (.if_icmp .eq 345, 3) := by decide +kernel
theorem zd_Law_law_328 : decode code 328 = .ok (.iconst 0, 1) := by decide +kernel
theorem zd_Law_law_329 : decode code 329 = .ok (.ireturn, 1) := by decide +kernel
theorem zd_Law_law_330 : decode code 330 = .ok (.aload_n 1, 1) := by decide +kernel
theorem zd_Law_law_331 : decode code 331 = .ok (.aload_n 0, 1) := by decide +kernel
theorem zd_Law_law_332 : decode code 332 = .ok (.iload_n 3, 1) := by decide +kernel
theorem zd_Law_law_333 : decode code 333 = .ok (.iconst 1, 1) := by decide +kernel
theorem zd_Law_law_334 : decode code 334 = .ok (.iadd, 1) := by decide +kernel
theorem zd_Law_law_335 : decode code 335 = .ok (.iaload, 1) := by decide +kernel
theorem zd_Law_law_336 : decode code 336 = .ok (.invokevirtual 43, 3) := by decide +kernel
theorem zd_Law_law_339 : decode code 339 = .ok (.aload_n 2, 1) := by decide +kernel
theorem zd_Law_law_340 : decode code 340 = .ok (.aload_n 0, 1) := by decide +kernel
theorem zd_Law_law_341 : decode code 341 = .ok (.iload_n 3, 1) := by decide +kernel
theorem zd_Law_law_342 : decode code 342 = .ok (.iconst 1, 1) := by decide +kernel
theorem zd_Law_law_343 : decode code 343 = .ok (.iadd, 1) := by decide +kernel
theorem zd_Law_law_344 : decode code 344 = .ok (.iaload, 1) := by decide +kernel
theorem zd_Law_law_345 : decode code 345 = .ok (.invokevirtual 46, 3) := by decide +kernel
theorem zd_Law_law_348 : decode code 348 = .ok (.if_icmp .eq 322, 3) := by decide +kernel
theorem zd_Law_law_351 : decode code 351 = .ok (.iconst 0, 1) := by decide +kernel
theorem zd_Law_law_352 : decode code 352 = .ok (.ireturn, 1) := by decide +kernel
theorem zd_Law_law_353 : decode code 353 = .ok (.aload_n 1, 1) := by decide +kernel
theorem zd_Law_law_354 : decode code 354 = .ok (.aload_n 0, 1) := by decide +kernel
theorem zd_Law_law_355 : decode code 355 = .ok (.iload_n 3, 1) := by decide +kernel
theorem zd_Law_law_356 : decode code 356 = .ok (.iconst 1, 1) := by decide +kernel
theorem zd_Law_law_357 : decode code 357 = .ok (.iadd, 1) := by decide +kernel
theorem zd_Law_law_358 : decode code 358 = .ok (.iaload, 1) := by decide +kernel
theorem zd_Law_law_359 : decode code 359 = .ok (.aload_n 0, 1) := by decide +kernel
theorem zd_Law_law_360 : decode code 360 = .ok (.iload_n 3, 1) := by decide +kernel
theorem zd_Law_law_361 : decode code 361 = .ok (.iconst 2, 1) := by decide +kernel
theorem zd_Law_law_362 : decode code 362 = .ok (.iadd, 1) := by decide +kernel
theorem zd_Law_law_363 : decode code 363 = .ok (.iaload, 1) := by decide +kernel
theorem zd_Law_law_364 : decode code 364 = .ok (.invokevirtual 47, 3) := by decide +kernel
theorem zd_Law_law_367 : decode code 367 = .ok (.aload_n 2, 1) := by decide +kernel
theorem zd_Law_law_368 : decode code 368 = .ok (.aload_n 0, 1) := by decide +kernel
theorem zd_Law_law_369 : decode code 369 = .ok (.iload_n 3, 1) := by decide +kernel
theorem zd_Law_law_370 : decode code 370 = .ok (.iconst 1, 1) := by decide +kernel
theorem zd_Law_law_371 : decode code 371 = .ok (.iadd, 1) := by decide +kernel
theorem zd_Law_law_372 : decode code 372 = .ok (.iaload, 1) := by decide +kernel
theorem zd_Law_law_373 : decode code 373 = .ok (.aload_n 0, 1) := by decide +kernel
theorem zd_Law_law_374 : decode code 374 = .ok (.iload_n 3, 1) := by decide +kernel
theorem zd_Law_law_375 : decode code 375 = .ok (.iconst 2, 1) := by decide +kernel
theorem zd_Law_law_376 : decode code 376 = .ok (.iadd, 1) := by decide +kernel
theorem zd_Law_law_377 : decode code 377 = .ok (.iaload, 1) := by decide +kernel
theorem zd_Law_law_378 : decode code 378 = .ok (.invokevirtual 51, 3) := by decide +kernel
theorem zd_Law_law_381 : decode code 381 = .ok (.if_icmp .eq 289, 3) := by decide +kernel
theorem zd_Law_law_384 : decode code 384 = .ok (.iconst 0, 1) := by decide +kernel
theorem zd_Law_law_385 : decode code 385 = .ok (.ireturn, 1) := by decide +kernel
theorem zd_Law_law_386 : decode code 386 = .ok (.aload_n 1, 1) := by decide +kernel
theorem zd_Law_law_387 : decode code 387 = .ok (.aload_n 0, 1) := by decide +kernel
theorem zd_Law_law_388 : decode code 388 = .ok (.iload_n 3, 1) := by decide +kernel
theorem zd_Law_law_389 : decode code 389 = .ok (.iconst 1, 1) := by decide +kernel
theorem zd_Law_law_390 : decode code 390 = .ok (.iadd, 1) := by decide +kernel
theorem zd_Law_law_391 : decode code 391 = .ok (.iaload, 1) := by decide +kernel
theorem zd_Law_law_392 : decode code 392 = .ok (.aload_n 0, 1) := by decide +kernel
theorem zd_Law_law_393 : decode code 393 = .ok (.iload_n 3, 1) := by decide +kernel
theorem zd_Law_law_394 : decode code 394 = .ok (.iconst 2, 1) := by decide +kernel
theorem zd_Law_law_395 : decode code 395 = .ok (.iadd, 1) := by decide +kernel
theorem zd_Law_law_396 : decode code 396 = .ok (.iaload, 1) := by decide +kernel
theorem zd_Law_law_397 : decode code 397 = .ok (.invokevirtual 52, 3) := by decide +kernel
theorem zd_Law_law_400 : decode code 400 = .ok (.aload_n 2, 1) := by decide +kernel
theorem zd_Law_law_401 : decode code 401 = .ok (.aload_n 0, 1) := by decide +kernel
theorem zd_Law_law_402 : decode code 402 = .ok (.iload_n 3, 1) := by decide +kernel
theorem zd_Law_law_403 : decode code 403 = .ok (.iconst 1, 1) := by decide +kernel
theorem zd_Law_law_404 : decode code 404 = .ok (.iadd, 1) := by decide +kernel
theorem zd_Law_law_405 : decode code 405 = .ok (.iaload, 1) := by decide +kernel
theorem zd_Law_law_406 : decode code 406 = .ok (.aload_n 0, 1) := by decide +kernel
theorem zd_Law_law_407 : decode code 407 = .ok (.iload_n 3, 1) := by decide +kernel
theorem zd_Law_law_408 : decode code 408 = .ok (.iconst 2, 1) := by decide +kernel
theorem zd_Law_law_409 : decode code 409 = .ok (.iadd, 1) := by decide +kernel
theorem zd_Law_law_410 : decode code 410 = .ok (.iaload, 1) := by decide +kernel
theorem zd_Law_law_411 : decode code 411 = .ok (.invokevirtual 55, 3) := by decide +kernel
theorem zd_Law_law_414 : decode code 414 = .ok (.if_icmp .eq 256, 3) := by decide +kernel
theorem zd_Law_law_417 : decode code 417 = .ok (.iconst 0, 1) := by decide +kernel
theorem zd_Law_law_418 : decode code 418 = .ok (.ireturn, 1) := by decide +kernel
theorem zd_Law_law_419 : decode code 419 = .ok (.aload_n 1, 1) := by decide +kernel
theorem zd_Law_law_420 : decode code 420 = .ok (.aload_n 0, 1) := by decide +kernel
theorem zd_Law_law_421 : decode code 421 = .ok (.iload_n 3, 1) := by decide +kernel
theorem zd_Law_law_422 : decode code 422 = .ok (.iconst 1, 1) := by decide +kernel
theorem zd_Law_law_423 : decode code 423 = .ok (.iadd, 1) := by decide +kernel
theorem zd_Law_law_424 : decode code 424 = .ok (.iaload, 1) := by decide +kernel
theorem zd_Law_law_425 : decode code 425 = .ok (.invokevirtual 56, 3) := by decide +kernel
theorem zd_Law_law_428 : decode code 428 = .ok (.aload_n 2, 1) := by decide +kernel
theorem zd_Law_law_429 : decode code 429 = .ok (.aload_n 0, 1) := by decide +kernel
theorem zd_Law_law_430 : decode code 430 = .ok (.iload_n 3, 1) := by decide +kernel
theorem zd_Law_law_431 : decode code 431 = .ok (.iconst 1, 1) := by decide +kernel
theorem zd_Law_law_432 : decode code 432 = .ok (.iadd, 1) := by decide +kernel
theorem zd_Law_law_433 : decode code 433 = .ok (.iaload, 1) := by decide +kernel
theorem zd_Law_law_434 : decode code 434 = .ok (.invokevirtual 60, 3) := by decide +kernel
theorem zd_Law_law_437 : decode code 437 = .ok (.lcmp, 1) := by decide +kernel
theorem zd_Law_law_438 : decode code 438 = .ok (.ifCond .eq 232, 3) := by decide +kernel
theorem zd_Law_law_441 : decode code 441 = .ok (.iconst 0, 1) := by decide +kernel
theorem zd_Law_law_442 : decode code 442 = .ok (.ireturn, 1) := by decide +kernel
theorem zd_Law_law_443 : decode code 443 = .ok (.aload_n 1, 1) := by decide +kernel
theorem zd_Law_law_444 : decode code 444 = .ok (.aload_n 0, 1) := by decide +kernel
theorem zd_Law_law_445 : decode code 445 = .ok (.iload_n 3, 1) := by decide +kernel
theorem zd_Law_law_446 : decode code 446 = .ok (.iconst 1, 1) := by decide +kernel
theorem zd_Law_law_447 : decode code 447 = .ok (.iadd, 1) := by decide +kernel
theorem zd_Law_law_448 : decode code 448 = .ok (.iaload, 1) := by decide +kernel
theorem zd_Law_law_449 : decode code 449 = .ok (.invokevirtual 61, 3) := by decide +kernel
theorem zd_Law_law_452 : decode code 452 = .ok (.aload_n 2, 1) := by decide +kernel
theorem zd_Law_law_453 : decode code 453 = .ok (.aload_n 0, 1) := by decide +kernel
theorem zd_Law_law_454 : decode code 454 = .ok (.iload_n 3, 1) := by decide +kernel
theorem zd_Law_law_455 : decode code 455 = .ok (.iconst 1, 1) := by decide +kernel
theorem zd_Law_law_456 : decode code 456 = .ok (.iadd, 1) := by decide +kernel
theorem zd_Law_law_457 : decode code 457 = .ok (.iaload, 1) := by decide +kernel
theorem zd_Law_law_458 : decode code 458 = .ok (.invokevirtual 64, 3) := by decide +kernel
theorem zd_Law_law_461 : decode code 461 = .ok (.if_icmp .eq 209, 3) := by decide +kernel
theorem zd_Law_law_464 : decode code 464 = .ok (.iconst 0, 1) := by decide +kernel
theorem zd_Law_law_465 : decode code 465 = .ok (.ireturn, 1) := by decide +kernel
theorem zd_Law_law_466 : decode code 466 = .ok (.aload_n 1, 1) := by decide +kernel
theorem zd_Law_law_467 : decode code 467 = .ok (.aload_n 0, 1) := by decide +kernel
theorem zd_Law_law_468 : decode code 468 = .ok (.iload_n 3, 1) := by decide +kernel
theorem zd_Law_law_469 : decode code 469 = .ok (.iconst 1, 1) := by decide +kernel
theorem zd_Law_law_470 : decode code 470 = .ok (.iadd, 1) := by decide +kernel
theorem zd_Law_law_471 : decode code 471 = .ok (.iaload, 1) := by decide +kernel
theorem zd_Law_law_472 : decode code 472 = .ok (.invokevirtual 65, 3) := by decide +kernel
theorem zd_Law_law_475 : decode code 475 = .ok (.aload_n 2, 1) := by decide +kernel
theorem zd_Law_law_476 : decode code 476 = .ok (.aload_n 0, 1) := by decide +kernel
theorem zd_Law_law_477 : decode code 477 = .ok (.iload_n 3, 1) := by decide +kernel
theorem zd_Law_law_478 : decode code 478 = .ok (.iconst 1, 1) := by decide +kernel
theorem zd_Law_law_479 : decode code 479 = .ok (.iadd, 1) := by decide +kernel
theorem zd_Law_law_480 : decode code 480 = .ok (.iaload, 1) := by decide +kernel
theorem zd_Law_law_481 : decode code 481 = .ok (.invokevirtual 68, 3) := by decide +kernel
theorem zd_Law_law_484 : decode code 484 = .ok (.if_icmp .eq 186, 3) := by decide +kernel
theorem zd_Law_law_487 : decode code 487 = .ok (.iconst 0, 1) := by decide +kernel
theorem zd_Law_law_488 : decode code 488 = .ok (.ireturn, 1) := by decide +kernel
theorem zd_Law_law_489 : decode code 489 = .ok (.aload_n 1, 1) := by decide +kernel
theorem zd_Law_law_490 : decode code 490 = .ok (.aload_n 0, 1) := by decide +kernel
theorem zd_Law_law_491 : decode code 491 = .ok (.iload_n 3, 1) := by decide +kernel
theorem zd_Law_law_492 : decode code 492 = .ok (.iconst 1, 1) := by decide +kernel
theorem zd_Law_law_493 : decode code 493 = .ok (.iadd, 1) := by decide +kernel
theorem zd_Law_law_494 : decode code 494 = .ok (.iaload, 1) := by decide +kernel
theorem zd_Law_law_495 : decode code 495 = .ok (.invokevirtual 69, 3) := by decide +kernel
theorem zd_Law_law_498 : decode code 498 = .ok (.aload_n 2, 1) := by decide +kernel
theorem zd_Law_law_499 : decode code 499 = .ok (.aload_n 0, 1) := by decide +kernel
theorem zd_Law_law_500 : decode code 500 = .ok (.iload_n 3, 1) := by decide +kernel
theorem zd_Law_law_501 : decode code 501 = .ok (.iconst 1, 1) := by decide +kernel
theorem zd_Law_law_502 : decode code 502 = .ok (.iadd, 1) := by decide +kernel
theorem zd_Law_law_503 : decode code 503 = .ok (.iaload, 1) := by decide +kernel
theorem zd_Law_law_504 : decode code 504 = .ok (.invokevirtual 72, 3) := by decide +kernel
theorem zd_Law_law_507 : decode code 507 = .ok (.if_icmp .eq 163, 3) := by decide +kernel
theorem zd_Law_law_510 : decode code 510 = .ok (.iconst 0, 1) := by decide +kernel
theorem zd_Law_law_511 : decode code 511 = .ok (.ireturn, 1) := by decide +kernel
theorem zd_Law_law_512 : decode code 512 = .ok (.aload_n 1, 1) := by decide +kernel
theorem zd_Law_law_513 : decode code 513 = .ok (.aload_n 0, 1) := by decide +kernel
theorem zd_Law_law_514 : decode code 514 = .ok (.iload_n 3, 1) := by decide +kernel
theorem zd_Law_law_515 : decode code 515 = .ok (.iconst 1, 1) := by decide +kernel
theorem zd_Law_law_516 : decode code 516 = .ok (.iadd, 1) := by decide +kernel
theorem zd_Law_law_517 : decode code 517 = .ok (.iaload, 1) := by decide +kernel
theorem zd_Law_law_518 : decode code 518 = .ok (.aload_n 0, 1) := by decide +kernel
theorem zd_Law_law_519 : decode code 519 = .ok (.iload_n 3, 1) := by decide +kernel
theorem zd_Law_law_520 : decode code 520 = .ok (.iconst 2, 1) := by decide +kernel
theorem zd_Law_law_521 : decode code 521 = .ok (.iadd, 1) := by decide +kernel
theorem zd_Law_law_522 : decode code 522 = .ok (.iaload, 1) := by decide +kernel
theorem zd_Law_law_523 : decode code 523 = .ok (.aload_n 0, 1) := by decide +kernel
theorem zd_Law_law_524 : decode code 524 = .ok (.iload_n 3, 1) := by decide +kernel
theorem zd_Law_law_525 : decode code 525 = .ok (.iconst 3, 1) := by decide +kernel
theorem zd_Law_law_526 : decode code 526 = .ok (.iadd, 1) := by decide +kernel
theorem zd_Law_law_527 : decode code 527 = .ok (.iaload, 1) := by decide +kernel
theorem zd_Law_law_528 : decode code 528 = .ok (.invokevirtual 73, 3) := by decide +kernel
theorem zd_Law_law_531 : decode code 531 = .ok (.aload_n 2, 1) := by decide +kernel
theorem zd_Law_law_532 : decode code 532 = .ok (.aload_n 0, 1) := by decide +kernel
theorem zd_Law_law_533 : decode code 533 = .ok (.iload_n 3, 1) := by decide +kernel
theorem zd_Law_law_534 : decode code 534 = .ok (.iconst 1, 1) := by decide +kernel
theorem zd_Law_law_535 : decode code 535 = .ok (.iadd, 1) := by decide +kernel
theorem zd_Law_law_536 : decode code 536 = .ok (.iaload, 1) := by decide +kernel
theorem zd_Law_law_537 : decode code 537 = .ok (.aload_n 0, 1) := by decide +kernel
theorem zd_Law_law_538 : decode code 538 = .ok (.iload_n 3, 1) := by decide +kernel
theorem zd_Law_law_539 : decode code 539 = .ok (.iconst 2, 1) := by decide +kernel
theorem zd_Law_law_540 : decode code 540 = .ok (.iadd, 1) := by decide +kernel
theorem zd_Law_law_541 : decode code 541 = .ok (.iaload, 1) := by decide +kernel
theorem zd_Law_law_542 : decode code 542 = .ok (.aload_n 0, 1) := by decide +kernel
theorem zd_Law_law_543 : decode code 543 = .ok (.iload_n 3, 1) := by decide +kernel
theorem zd_Law_law_544 : decode code 544 = .ok (.iconst 3, 1) := by decide +kernel
theorem zd_Law_law_545 : decode code 545 = .ok (.iadd, 1) := by decide +kernel
theorem zd_Law_law_546 : decode code 546 = .ok (.iaload, 1) := by decide +kernel
theorem zd_Law_law_547 : decode code 547 = .ok (.invokevirtual 77, 3) := by decide +kernel
theorem zd_Law_law_550 : decode code 550 = .ok (.if_icmp .eq 120, 3) := by decide +kernel
theorem zd_Law_law_553 : decode code 553 = .ok (.iconst 0, 1) := by decide +kernel
theorem zd_Law_law_554 : decode code 554 = .ok (.ireturn, 1) := by decide +kernel
theorem zd_Law_law_555 : decode code 555 = .ok (.aload_n 1, 1) := by decide +kernel
theorem zd_Law_law_556 : decode code 556 = .ok (.aload_n 0, 1) := by decide +kernel
theorem zd_Law_law_557 : decode code 557 = .ok (.iload_n 3, 1) := by decide +kernel
theorem zd_Law_law_558 : decode code 558 = .ok (.iconst 1, 1) := by decide +kernel
theorem zd_Law_law_559 : decode code 559 = .ok (.iadd, 1) := by decide +kernel
theorem zd_Law_law_560 : decode code 560 = .ok (.iaload, 1) := by decide +kernel
theorem zd_Law_law_561 : decode code 561 = .ok (.aload_n 0, 1) := by decide +kernel
theorem zd_Law_law_562 : decode code 562 = .ok (.iload_n 3, 1) := by decide +kernel
theorem zd_Law_law_563 : decode code 563 = .ok (.iconst 2, 1) := by decide +kernel
theorem zd_Law_law_564 : decode code 564 = .ok (.iadd, 1) := by decide +kernel
theorem zd_Law_law_565 : decode code 565 = .ok (.iaload, 1) := by decide +kernel
theorem zd_Law_law_566 : decode code 566 = .ok (.invokevirtual 78, 3) := by decide +kernel
theorem zd_Law_law_569 : decode code 569 = .ok (.aload_n 2, 1) := by decide +kernel
theorem zd_Law_law_570 : decode code 570 = .ok (.aload_n 0, 1) := by decide +kernel
theorem zd_Law_law_571 : decode code 571 = .ok (.iload_n 3, 1) := by decide +kernel
theorem zd_Law_law_572 : decode code 572 = .ok (.iconst 1, 1) := by decide +kernel
theorem zd_Law_law_573 : decode code 573 = .ok (.iadd, 1) := by decide +kernel
theorem zd_Law_law_574 : decode code 574 = .ok (.iaload, 1) := by decide +kernel
theorem zd_Law_law_575 : decode code 575 = .ok (.aload_n 0, 1) := by decide +kernel
theorem zd_Law_law_576 : decode code 576 = .ok (.iload_n 3, 1) := by decide +kernel
theorem zd_Law_law_577 : decode code 577 = .ok (.iconst 2, 1) := by decide +kernel
theorem zd_Law_law_578 : decode code 578 = .ok (.iadd, 1) := by decide +kernel
theorem zd_Law_law_579 : decode code 579 = .ok (.iaload, 1) := by decide +kernel
theorem zd_Law_law_580 : decode code 580 = .ok (.invokevirtual 81, 3) := by decide +kernel
theorem zd_Law_law_583 : decode code 583 = .ok (.if_icmp .eq 87, 3) := by decide +kernel
theorem zd_Law_law_586 : decode code 586 = .ok (.iconst 0, 1) := by decide +kernel
theorem zd_Law_law_587 : decode code 587 = .ok (.ireturn, 1) := by decide +kernel
theorem zd_Law_law_588 : decode code 588 = .ok (.aload_n 1, 1) := by decide +kernel
theorem zd_Law_law_589 : decode code 589 = .ok (.aload_n 0, 1) := by decide +kernel
theorem zd_Law_law_590 : decode code 590 = .ok (.iload_n 3, 1) := by decide +kernel
theorem zd_Law_law_591 : decode code 591 = .ok (.iconst 1, 1) := by decide +kernel
theorem zd_Law_law_592 : decode code 592 = .ok (.iadd, 1) := by decide +kernel
theorem zd_Law_law_593 : decode code 593 = .ok (.iaload, 1) := by decide +kernel
theorem zd_Law_law_594 : decode code 594 = .ok (.invokevirtual 82, 3) := by decide +kernel
theorem zd_Law_law_597 : decode code 597 = .ok (.aload_n 2, 1) := by decide +kernel
theorem zd_Law_law_598 : decode code 598 = .ok (.aload_n 0, 1) := by decide +kernel
theorem zd_Law_law_599 : decode code 599 = .ok (.iload_n 3, 1) := by decide +kernel
theorem zd_Law_law_600 : decode code 600 = .ok (.iconst 1, 1) := by decide +kernel
theorem zd_Law_law_601 : decode code 601 = .ok (.iadd, 1) := by decide +kernel
theorem zd_Law_law_602 : decode code 602 = .ok (.iaload, 1) := by decide +kernel
theorem zd_Law_law_603 : decode code 603 = .ok (.invokevirtual 85, 3) := by decide +kernel
theorem zd_Law_law_606 : decode code 606 = .ok (.if_icmp .eq 64, 3) := by decide +kernel
theorem zd_Law_law_609 : decode code 609 = .ok (.iconst 0, 1) := by decide +kernel
theorem zd_Law_law_610 : decode code 610 = .ok (.ireturn, 1) := by decide +kernel
theorem zd_Law_law_611 : decode code 611 = .ok (.aload_n 1, 1) := by decide +kernel
theorem zd_Law_law_612 : decode code 612 = .ok (.invokevirtual 86, 3) := by decide +kernel
theorem zd_Law_law_615 : decode code 615 = .ok (.aload_n 2, 1) := by decide +kernel
theorem zd_Law_law_616 : decode code 616 = .ok (.invokevirtual 90, 3) := by decide +kernel
theorem zd_Law_law_619 : decode code 619 = .ok (.if_icmp .eq 51, 3) := by decide +kernel
theorem zd_Law_law_622 : decode code 622 = .ok (.iconst 0, 1) := by decide +kernel
theorem zd_Law_law_623 : decode code 623 = .ok (.ireturn, 1) := by decide +kernel
theorem zd_Law_law_624 : decode code 624 = .ok (.aload_n 1, 1) := by decide +kernel
theorem zd_Law_law_625 : decode code 625 = .ok (.aload_n 0, 1) := by decide +kernel
theorem zd_Law_law_626 : decode code 626 = .ok (.iload_n 3, 1) := by decide +kernel
theorem zd_Law_law_627 : decode code 627 = .ok (.iconst 1, 1) := by decide +kernel
theorem zd_Law_law_628 : decode code 628 = .ok (.iadd, 1) := by decide +kernel
theorem zd_Law_law_629 : decode code 629 = .ok (.iaload, 1) := by decide +kernel
theorem zd_Law_law_630 : decode code 630 = .ok (.aload_n 0, 1) := by decide +kernel
theorem zd_Law_law_631 : decode code 631 = .ok (.iload_n 3, 1) := by decide +kernel
theorem zd_Law_law_632 : decode code 632 = .ok (.iconst 2, 1) := by decide +kernel
theorem zd_Law_law_633 : decode code 633 = .ok (.iadd, 1) := by decide +kernel
theorem zd_Law_law_634 : decode code 634 = .ok (.iaload, 1) := by decide +kernel
theorem zd_Law_law_635 : decode code 635 = .ok (.invokevirtual 91, 3) := by decide +kernel
theorem zd_Law_law_638 : decode code 638 = .ok (.aload_n 2, 1) := by decide +kernel
theorem zd_Law_law_639 : decode code 639 = .ok (.aload_n 0, 1) := by decide +kernel
theorem zd_Law_law_640 : decode code 640 = .ok (.iload_n 3, 1) := by decide +kernel
theorem zd_Law_law_641 : decode code 641 = .ok (.iconst 1, 1) := by decide +kernel
theorem zd_Law_law_642 : decode code 642 = .ok (.iadd, 1) := by decide +kernel
theorem zd_Law_law_643 : decode code 643 = .ok (.iaload, 1) := by decide +kernel
theorem zd_Law_law_644 : decode code 644 = .ok (.aload_n 0, 1) := by decide +kernel
theorem zd_Law_law_645 : decode code 645 = .ok (.iload_n 3, 1) := by decide +kernel
theorem zd_Law_law_646 : decode code 646 = .ok (.iconst 2, 1) := by decide +kernel
theorem zd_Law_law_647 : decode code 647 = .ok (.iadd, 1) := by decide +kernel
theorem zd_Law_law_648 : decode code 648 = .ok (.iaload, 1) := by decide +kernel
theorem zd_Law_law_649 : decode code 649 = .ok (.invokevirtual 94, 3) := by decide +kernel
theorem zd_Law_law_652 : decode code 652 = .ok (.if_icmp .eq 18, 3) := by decide +kernel
theorem zd_Law_law_655 : decode code 655 = .ok (.iconst 0, 1) := by decide +kernel
theorem zd_Law_law_656 : decode code 656 = .ok (.ireturn, 1) := by decide +kernel
theorem zd_Law_law_657 : decode code 657 = .ok (.aload_n 1, 1) := by decide +kernel
theorem zd_Law_law_658 : decode code 658 = .ok (.invokevirtual 95, 3) := by decide +kernel
theorem zd_Law_law_661 : decode code 661 = .ok (.aload_n 2, 1) := by decide +kernel
theorem zd_Law_law_662 : decode code 662 = .ok (.invokevirtual 98, 3) := by decide +kernel
theorem zd_Law_law_665 : decode code 665 = .ok (.if_icmp .eq 5, 3) := by decide +kernel
theorem zd_Law_law_668 : decode code 668 = .ok (.iconst 0, 1) := by decide +kernel
theorem zd_Law_law_669 : decode code 669 = .ok (.ireturn, 1) := by decide +kernel
theorem zd_Law_law_670 : decode code 670 = .ok (.iinc 3 5, 3) := by decide +kernel
theorem zd_Law_law_673 : decode code 673 = .ok (.goto (-655), 3) := by decide +kernel
theorem zd_Law_law_676 : decode code 676 = .ok (.iconst 1, 1) := by decide +kernel
theorem zd_Law_law_677 : decode code 677 = .ok (.ireturn, 1) := by decide +kernel
