theorem dX12_init_0 : decode cX12_init 0 = .ok (.aload_n 0, 1) := by decide +kernel
theorem dX12_init_1 : decode cX12_init 1 = .ok (.invokespecial 1, 3) := by decide +kernel
theorem dX12_init_4 : decode cX12_init 4 = .ok (.aload_n 0, 1) := by decide +kernel
theorem dX12_init_5 : decode cX12_init 5 = .ok (.iconst 0, 1) := by decide +kernel
theorem dX12_init_6 : decode cX12_init 6 = .ok (.putfield 7, 3) := by decide +kernel
theorem dX12_init_9 : decode cX12_init 9 = .ok (.aload_n 0, 1) := by decide +kernel
theorem dX12_init_10 : decode cX12_init 10 = .ok (.iconst 0, 1) := by decide +kernel
theorem dX12_init_11 : decode cX12_init 11 = .ok (.putfield 13, 3) := by decide +kernel
theorem dX12_init_14 : decode cX12_init 14 = .ok (.aload_n 0, 1) := by decide +kernel
theorem dX12_init_15 : decode cX12_init 15 = .ok (.iconst 0, 1) := by decide +kernel
theorem dX12_init_16 : decode cX12_init 16 = .ok (.putfield 16, 3) := by decide +kernel
theorem dX12_init_19 : decode cX12_init 19 = .ok (.aload_n 0, 1) := by decide +kernel
theorem dX12_init_20 : decode cX12_init 20 = .ok (.iconst 0, 1) := by decide +kernel
theorem dX12_init_21 : decode cX12_init 21 = .ok (.putfield 19, 3) := by decide +kernel
theorem dX12_init_24 : decode cX12_init 24 = .ok (.aload_n 0, 1) := by decide +kernel
theorem dX12_init_25 : decode cX12_init 25 = .ok (.iconst 0, 1) := by decide +kernel
theorem dX12_init_26 : decode cX12_init 26 = .ok (.putfield 22, 3) := by decide +kernel
theorem dX12_init_29 : decode cX12_init 29 = .ok (.aload_n 0, 1) := by decide +kernel
theorem dX12_init_30 : decode cX12_init 30 = .ok (.iconst 0, 1) := by decide +kernel
theorem dX12_init_31 : decode cX12_init 31 = .ok (.putfield 25, 3) := by decide +kernel
theorem dX12_init_34 : decode cX12_init 34 = .ok (.aload_n 0, 1) := by decide +kernel
theorem dX12_init_35 : decode cX12_init 35 = .ok (.iconst 0, 1) := by decide +kernel
theorem dX12_init_36 : decode cX12_init 36 = .ok (.putfield 28, 3) := by decide +kernel
theorem dX12_init_39 : decode cX12_init 39 = .ok (.aload_n 0, 1) := by decide +kernel
theorem dX12_init_40 : decode cX12_init 40 = .ok (.iconst 0, 1) := by decide +kernel
theorem dX12_init_41 : decode cX12_init 41 = .ok (.putfield 31, 3) := by decide +kernel
theorem dX12_init_44 : decode cX12_init 44 = .ok (.aload_n 0, 1) := by decide +kernel
theorem dX12_init_45 : decode cX12_init 45 = .ok (.bipush 7, 2) := by decide +kernel
theorem dX12_init_47 : decode cX12_init 47 = .ok (.newarray .int, 2) := by decide +kernel
theorem dX12_init_49 : decode cX12_init 49 = .ok (.putfield 34, 3) := by decide +kernel
theorem dX12_init_52 : decode cX12_init 52 = .ok (.aload_n 0, 1) := by decide +kernel
theorem dX12_init_53 : decode cX12_init 53 = .ok (.bipush 7, 2) := by decide +kernel
theorem dX12_init_55 : decode cX12_init 55 = .ok (.newarray .int, 2) := by decide +kernel
theorem dX12_init_57 : decode cX12_init 57 = .ok (.putfield 38, 3) := by decide +kernel
theorem dX12_init_60 : decode cX12_init 60 = .ok (.aload_n 0, 1) := by decide +kernel
theorem dX12_init_61 : decode cX12_init 61 = .ok (.bipush 7, 2) := by decide +kernel
theorem dX12_init_63 : decode cX12_init 63 = .ok (.newarray .int, 2) := by decide +kernel
theorem dX12_init_65 : decode cX12_init 65 = .ok (.putfield 41, 3) := by decide +kernel
theorem dX12_init_68 : decode cX12_init 68 = .ok (.aload_n 0, 1) := by decide +kernel
theorem dX12_init_69 : decode cX12_init 69 = .ok (.iconst 4, 1) := by decide +kernel
theorem dX12_init_70 : decode cX12_init 70 = .ok (.newarray .int, 2) := by decide +kernel
theorem dX12_init_72 : decode cX12_init 72 = .ok (.putfield 44, 3) := by decide +kernel
theorem dX12_init_75 : decode cX12_init 75 = .ok (.aload_n 0, 1) := by decide +kernel
theorem dX12_init_76 : decode cX12_init 76 = .ok (.iconst 4, 1) := by decide +kernel
theorem dX12_init_77 : decode cX12_init 77 = .ok (.newarray .int, 2) := by decide +kernel
theorem dX12_init_79 : decode cX12_init 79 = .ok (.putfield 47, 3) := by decide +kernel
theorem dX12_init_82 : decode cX12_init 82 = .ok (.aload_n 0, 1) := by decide +kernel
theorem dX12_init_83 : decode cX12_init 83 = .ok (.bipush 16, 2) := by decide +kernel
theorem dX12_init_85 : decode cX12_init 85 = .ok (.newarray .int, 2) := by decide +kernel
theorem dX12_init_87 : decode cX12_init 87 = .ok (.putfield 50, 3) := by decide +kernel
theorem dX12_init_90 : decode cX12_init 90 = .ok (.aload_n 0, 1) := by decide +kernel
theorem dX12_init_91 : decode cX12_init 91 = .ok (.iconst 0, 1) := by decide +kernel
theorem dX12_init_92 : decode cX12_init 92 = .ok (.putfield 53, 3) := by decide +kernel
theorem dX12_init_95 : decode cX12_init 95 = .ok (.aload_n 0, 1) := by decide +kernel
theorem dX12_init_96 : decode cX12_init 96 = .ok (.iconst (-1), 1) := by decide +kernel
theorem dX12_init_97 : decode cX12_init 97 = .ok (.putfield 56, 3) := by decide +kernel
theorem dX12_init_100 : decode cX12_init 100 = .ok (.aload_n 0, 1) := by decide +kernel
theorem dX12_init_101 : decode cX12_init 101 = .ok (.iconst 0, 1) := by decide +kernel
theorem dX12_init_102 : decode cX12_init 102 = .ok (.putfield 59, 3) := by decide +kernel
theorem dX12_init_105 : decode cX12_init 105 = .ok (.aload_n 0, 1) := by decide +kernel
theorem dX12_init_106 : decode cX12_init 106 = .ok (.iconst 0, 1) := by decide +kernel
theorem dX12_init_107 : decode cX12_init 107 = .ok (.putfield 62, 3) := by decide +kernel
theorem dX12_init_110 : decode cX12_init 110 = .ok (.aload_n 0, 1) := by decide +kernel
theorem dX12_init_111 : decode cX12_init 111 = .ok (.iconst 0, 1) := by decide +kernel
theorem dX12_init_112 : decode cX12_init 112 = .ok (.putfield 65, 3) := by decide +kernel
theorem dX12_init_115 : decode cX12_init 115 = .ok (.aload_n 0, 1) := by decide +kernel
theorem dX12_init_116 : decode cX12_init 116 = .ok (.bipush 100, 2) := by decide +kernel
theorem dX12_init_118 : decode cX12_init 118 = .ok (.newarray .int, 2) := by decide +kernel
theorem dX12_init_120 : decode cX12_init 120 = .ok (.putfield 68, 3) := by decide +kernel
theorem dX12_init_123 : decode cX12_init 123 = .ok (.aload_n 0, 1) := by decide +kernel
theorem dX12_init_124 : decode cX12_init 124 = .ok (.bipush 6, 2) := by decide +kernel
theorem dX12_init_126 : decode cX12_init 126 = .ok (.newarray .int, 2) := by decide +kernel
theorem dX12_init_128 : decode cX12_init 128 = .ok (.putfield 71, 3) := by decide +kernel
theorem dX12_init_131 : decode cX12_init 131 = .ok (.aload_n 0, 1) := by decide +kernel
theorem dX12_init_132 : decode cX12_init 132 = .ok (.bipush 60, 2) := by decide +kernel
theorem dX12_init_134 : decode cX12_init 134 = .ok (.newarray .int, 2) := by decide +kernel
theorem dX12_init_136 : decode cX12_init 136 = .ok (.putfield 74, 3) := by decide +kernel
theorem dX12_init_139 : decode cX12_init 139 = .ok (.aload_n 0, 1) := by decide +kernel
theorem dX12_init_140 : decode cX12_init 140 = .ok (.bipush 60, 2) := by decide +kernel
theorem dX12_init_142 : decode cX12_init 142 = .ok (.newarray .int, 2) := by decide +kernel
theorem dX12_init_144 : decode cX12_init 144 = .ok (.putfield 77, 3) := by decide +kernel
theorem dX12_init_147 : decode cX12_init 147 = .ok (.aload_n 0, 1) := by decide +kernel
theorem dX12_init_148 : decode cX12_init 148 = .ok (.bipush 60, 2) := by decide +kernel
theorem dX12_init_150 : decode cX12_init 150 = .ok (.newarray .int, 2) := by decide +kernel
theorem dX12_init_152 : decode cX12_init 152 = .ok (.putfield 80, 3) := by decide +kernel
theorem dX12_init_155 : decode cX12_init 155 = .ok (.aload_n 0, 1) := by decide +kernel
theorem dX12_init_156 : decode cX12_init 156 = .ok (.bipush 60, 2) := by decide +kernel
theorem dX12_init_158 : decode cX12_init 158 = .ok (.newarray .int, 2) := by decide +kernel
theorem dX12_init_160 : decode cX12_init 160 = .ok (.putfield 83, 3) := by decide +kernel
theorem dX12_init_163 : decode cX12_init 163 = .ok (.aload_n 0, 1) := by decide +kernel
theorem dX12_init_164 : decode cX12_init 164 = .ok (.sipush 600, 3) := by decide +kernel
theorem dX12_init_167 : decode cX12_init 167 = .ok (.newarray .int, 2) := by decide +kernel
theorem dX12_init_169 : decode cX12_init 169 = .ok (.putfield 86, 3) := by decide +kernel
theorem dX12_init_172 : decode cX12_init 172 = .ok (.aload_n 0, 1) := by decide +kernel
theorem dX12_init_173 : decode cX12_init 173 = .ok (.bipush 101, 2) := by decide +kernel
theorem dX12_init_175 : decode cX12_init 175 = .ok (.newarray .int, 2) := by decide +kernel
theorem dX12_init_177 : decode cX12_init 177 = .ok (.putfield 89, 3) := by decide +kernel
theorem dX12_init_180 : decode cX12_init 180 = .ok (.aload_n 0, 1) := by decide +kernel
theorem dX12_init_181 : decode cX12_init 181 = .ok (.iconst 0, 1) := by decide +kernel
theorem dX12_init_182 : decode cX12_init 182 = .ok (.putfield 92, 3) := by decide +kernel
theorem dX12_init_185 : decode cX12_init 185 = .ok (.aload_n 0, 1) := by decide +kernel
theorem dX12_init_186 : decode cX12_init 186 = .ok (.iconst 0, 1) := by decide +kernel
theorem dX12_init_187 : decode cX12_init 187 = .ok (.putfield 95, 3) := by decide +kernel
theorem dX12_init_190 : decode cX12_init 190 = .ok (.aload_n 0, 1) := by decide +kernel
theorem dX12_init_191 : decode cX12_init 191 = .ok (.iconst 0, 1) := by decide +kernel
theorem dX12_init_192 : decode cX12_init 192 = .ok (.putfield 98, 3) := by decide +kernel
theorem dX12_init_195 : decode cX12_init 195 = .ok (.aload_n 0, 1) := by decide +kernel
theorem dX12_init_196 : decode cX12_init 196 = .ok (.bipush 16, 2) := by decide +kernel
theorem dX12_init_198 : decode cX12_init 198 = .ok (.newarray .int, 2) := by decide +kernel
theorem dX12_init_200 : decode cX12_init 200 = .ok (.dup, 1) := by decide +kernel
theorem dX12_init_201 : decode cX12_init 201 = .ok (.iconst 0, 1) := by decide +kernel
theorem dX12_init_202 : decode cX12_init 202 = .ok (.bipush 99, 2) := by decide +kernel
theorem dX12_init_204 : decode cX12_init 204 = .ok (.iastore, 1) := by decide +kernel
theorem dX12_init_205 : decode cX12_init 205 = .ok (.dup, 1) := by decide +kernel
theorem dX12_init_206 : decode cX12_init 206 = .ok (.iconst 1, 1) := by decide +kernel
theorem dX12_init_207 : decode cX12_init 207 = .ok (.bipush 97, 2) := by decide +kernel
theorem dX12_init_209 : decode cX12_init 209 = .ok (.iastore, 1) := by decide +kernel
theorem dX12_init_210 : decode cX12_init 210 = .ok (.dup, 1) := by decide +kernel
theorem dX12_init_211 : decode cX12_init 211 = .ok (.iconst 2, 1) := by decide +kernel
theorem dX12_init_212 : decode cX12_init 212 = .ok (.bipush 108, 2) := by decide +kernel
theorem dX12_init_214 : decode cX12_init 214 = .ok (.iastore, 1) := by decide +kernel
theorem dX12_init_215 : decode cX12_init 215 = .ok (.dup, 1) := by decide +kernel
theorem dX12_init_216 : decode cX12_init 216 = .ok (.iconst 3, 1) := by decide +kernel
theorem dX12_init_217 : decode cX12_init 217 = .ok (.bipush 109, 2) := by decide +kernel
theorem dX12_init_219 : decode cX12_init 219 = .ok (.iastore, 1) := by decide +kernel
theorem dX12_init_220 : decode cX12_init 220 = .ok (.dup, 1) := by decide +kernel
theorem dX12_init_221 : decode cX12_init 221 = .ok (.iconst 4, 1) := by decide +kernel
theorem dX12_init_222 : decode cX12_init 222 = .ok (.bipush 102, 2) := by decide +kernel
theorem dX12_init_224 : decode cX12_init 224 = .ok (.iastore, 1) := by decide +kernel
theorem dX12_init_225 : decode cX12_init 225 = .ok (.dup, 1) := by decide +kernel
theorem dX12_init_226 : decode cX12_init 226 = .ok (.iconst 5, 1) := by decide +kernel
theorem dX12_init_227 : decode cX12_init 227 = .ok (.bipush 117, 2) := by decide +kernel
theorem dX12_init_229 : decode cX12_init 229 = .ok (.iastore, 1) := by decide +kernel
theorem dX12_init_230 : decode cX12_init 230 = .ok (.dup, 1) := by decide +kernel
theorem dX12_init_231 : decode cX12_init 231 = .ok (.bipush 6, 2) := by decide +kernel
theorem dX12_init_233 : decode cX12_init 233 = .ok (.bipush 115, 2) := by decide +kernel
theorem dX12_init_235 : decode cX12_init 235 = .ok (.iastore, 1) := by decide +kernel
theorem dX12_init_236 : decode cX12_init 236 = .ok (.dup, 1) := by decide +kernel
theorem dX12_init_237 : decode cX12_init 237 = .ok (.bipush 7, 2) := by decide +kernel
theorem dX12_init_239 : decode cX12_init 239 = .ok (.bipush 115, 2) := by decide +kernel
theorem dX12_init_241 : decode cX12_init 241 = .ok (.iastore, 1) := by decide +kernel
theorem dX12_init_242 : decode cX12_init 242 = .ok (.dup, 1) := by decide +kernel
theorem dX12_init_243 : decode cX12_init 243 = .ok (.bipush 8, 2) := by decide +kernel
theorem dX12_init_245 : decode cX12_init 245 = .ok (.bipush 108, 2) := by decide +kernel
theorem dX12_init_247 : decode cX12_init 247 = .ok (.iastore, 1) := by decide +kernel
theorem dX12_init_248 : decode cX12_init 248 = .ok (.dup, 1) := by decide +kernel
theorem dX12_init_249 : decode cX12_init 249 = .ok (.bipush 9, 2) := by decide +kernel
theorem dX12_init_251 : decode cX12_init 251 = .ok (.bipush 97, 2) := by decide +kernel
theorem dX12_init_253 : decode cX12_init 253 = .ok (.iastore, 1) := by decide +kernel
theorem dX12_init_254 : decode cX12_init 254 = .ok (.dup, 1) := by decide +kernel
theorem dX12_init_255 : decode cX12_init 255 = .ok (.bipush 10, 2) := by decide +kernel
theorem dX12_init_257 : decode cX12_init 257 = .ok (.bipush 116, 2) := by decide +kernel
theorem dX12_init_259 : decode cX12_init 259 = .ok (.iastore, 1) := by decide +kernel
theorem dX12_init_260 : decode cX12_init 260 = .ok (.dup, 1) := by decide +kernel
theorem dX12_init_261 : decode cX12_init 261 = .ok (.bipush 11, 2) := by decide +kernel
theorem dX12_init_263 : decode cX12_init 263 = .ok (.bipush 101, 2) := by decide +kernel
theorem dX12_init_265 : decode cX12_init 265 = .ok (.iastore, 1) := by decide +kernel
theorem dX12_init_266 : decode cX12_init 266 = .ok (.dup, 1) := by decide +kernel
theorem dX12_init_267 : decode cX12_init 267 = .ok (.bipush 12, 2) := by decide +kernel
theorem dX12_init_269 : decode cX12_init 269 = .ok (.bipush 100, 2) := by decide +kernel
theorem dX12_init_271 : decode cX12_init 271 = .ok (.iastore, 1) := by decide +kernel
theorem dX12_init_272 : decode cX12_init 272 = .ok (.dup, 1) := by decide +kernel
theorem dX12_init_273 : decode cX12_init 273 = .ok (.bipush 13, 2) := by decide +kernel
theorem dX12_init_275 : decode cX12_init 275 = .ok (.bipush 101, 2) := by decide +kernel
theorem dX12_init_277 : decode cX12_init 277 = .ok (.iastore, 1) := by decide +kernel
theorem dX12_init_278 : decode cX12_init 278 = .ok (.dup, 1) := by decide +kernel
theorem dX12_init_279 : decode cX12_init 279 = .ok (.bipush 14, 2) := by decide +kernel
theorem dX12_init_281 : decode cX12_init 281 = .ok (.bipush 101, 2) := by decide +kernel
theorem dX12_init_283 : decode cX12_init 283 = .ok (.iastore, 1) := by decide +kernel
theorem dX12_init_284 : decode cX12_init 284 = .ok (.dup, 1) := by decide +kernel
theorem dX12_init_285 : decode cX12_init 285 = .ok (.bipush 15, 2) := by decide +kernel
theorem dX12_init_287 : decode cX12_init 287 = .ok (.bipush 112, 2) := by decide +kernel
theorem dX12_init_289 : decode cX12_init 289 = .ok (.iastore, 1) := by decide +kernel
theorem dX12_init_290 : decode cX12_init 290 = .ok (.putfield 101, 3) := by decide +kernel
theorem dX12_init_293 : decode cX12_init 293 = .ok (.aload_n 0, 1) := by decide +kernel
theorem dX12_init_294 : decode cX12_init 294 = .ok (.bipush 100, 2) := by decide +kernel
theorem dX12_init_296 : decode cX12_init 296 = .ok (.newarray .boolean, 2) := by decide +kernel
theorem dX12_init_298 : decode cX12_init 298 = .ok (.putfield 104, 3) := by decide +kernel
theorem dX12_init_301 : decode cX12_init 301 = .ok (.aload_n 0, 1) := by decide +kernel
theorem dX12_init_302 : decode cX12_init 302 = .ok (.iconst (-1), 1) := by decide +kernel
theorem dX12_init_303 : decode cX12_init 303 = .ok (.putfield 108, 3) := by decide +kernel
theorem dX12_init_306 : decode cX12_init 306 = .ok (.aload_n 0, 1) := by decide +kernel
theorem dX12_init_307 : decode cX12_init 307 = .ok (.iconst (-1), 1) := by decide +kernel
theorem dX12_init_308 : decode cX12_init 308 = .ok (.putfield 111, 3) := by decide +kernel
theorem dX12_init_311 : decode cX12_init 311 = .ok (.aload_n 0, 1) := by decide +kernel
theorem dX12_init_312 : decode cX12_init 312 = .ok (.iconst (-1), 1) := by decide +kernel
theorem dX12_init_313 : decode cX12_init 313 = .ok (.putfield 114, 3) := by decide +kernel
theorem dX12_init_316 : decode cX12_init 316 = .ok (.aload_n 0, 1) := by decide +kernel
theorem dX12_init_317 : decode cX12_init 317 = .ok (.iconst 0, 1) := by decide +kernel
theorem dX12_init_318 : decode cX12_init 318 = .ok (.putfield 117, 3) := by decide +kernel
theorem dX12_init_321 : decode cX12_init 321 = .ok (.aload_n 0, 1) := by decide +kernel
theorem dX12_init_322 : decode cX12_init 322 = .ok (.iconst (-1), 1) := by decide +kernel
theorem dX12_init_323 : decode cX12_init 323 = .ok (.putfield 120, 3) := by decide +kernel
theorem dX12_init_326 : decode cX12_init 326 = .ok (.aload_n 0, 1) := by decide +kernel
theorem dX12_init_327 : decode cX12_init 327 = .ok (.iconst 0, 1) := by decide +kernel
theorem dX12_init_328 : decode cX12_init 328 = .ok (.putfield 123, 3) := by decide +kernel
theorem dX12_init_331 : decode cX12_init 331 = .ok (.aload_n 0, 1) := by decide +kernel
theorem dX12_init_332 : decode cX12_init 332 = .ok (.iconst 0, 1) := by decide +kernel
theorem dX12_init_333 : decode cX12_init 333 = .ok (.putfield 126, 3) := by decide +kernel
theorem dX12_init_336 : decode cX12_init 336 = .ok (.aload_n 0, 1) := by decide +kernel
theorem dX12_init_337 : decode cX12_init 337 = .ok (.iconst 0, 1) := by decide +kernel
theorem dX12_init_338 : decode cX12_init 338 = .ok (.putfield 129, 3) := by decide +kernel
theorem dX12_init_341 : decode cX12_init 341 = .ok (.aload_n 0, 1) := by decide +kernel
theorem dX12_init_342 : decode cX12_init 342 = .ok (.iconst 0, 1) := by decide +kernel
theorem dX12_init_343 : decode cX12_init 343 = .ok (.putfield 132, 3) := by decide +kernel
theorem dX12_init_346 : decode cX12_init 346 = .ok (.aload_n 0, 1) := by decide +kernel
theorem dX12_init_347 : decode cX12_init 347 = .ok (.iconst 0, 1) := by decide +kernel
theorem dX12_init_348 : decode cX12_init 348 = .ok (.putfield 135, 3) := by decide +kernel
theorem dX12_init_351 : decode cX12_init 351 = .ok (.aload_n 0, 1) := by decide +kernel
theorem dX12_init_352 : decode cX12_init 352 = .ok (.iconst 0, 1) := by decide +kernel
theorem dX12_init_353 : decode cX12_init 353 = .ok (.putfield 138, 3) := by decide +kernel
theorem dX12_init_356 : decode cX12_init 356 = .ok (.aload_n 0, 1) := by decide +kernel
theorem dX12_init_357 : decode cX12_init 357 = .ok (.bipush 7, 2) := by decide +kernel
theorem dX12_init_359 : decode cX12_init 359 = .ok (.newarray .int, 2) := by decide +kernel
theorem dX12_init_361 : decode cX12_init 361 = .ok (.putfield 141, 3) := by decide +kernel
theorem dX12_init_364 : decode cX12_init 364 = .ok (.aload_n 0, 1) := by decide +kernel
theorem dX12_init_365 : decode cX12_init 365 = .ok (.iconst 5, 1) := by decide +kernel
theorem dX12_init_366 : decode cX12_init 366 = .ok (.newarray .int, 2) := by decide +kernel
theorem dX12_init_368 : decode cX12_init 368 = .ok (.putfield 144, 3) := by decide +kernel
theorem dX12_init_371 : decode cX12_init 371 = .ok (.aload_n 0, 1) := by decide +kernel
theorem dX12_init_372 : decode cX12_init 372 = .ok (.iconst 5, 1) := by decide +kernel
theorem dX12_init_373 : decode cX12_init 373 = .ok (.newarray .int, 2) := by decide +kernel
theorem dX12_init_375 : decode cX12_init 375 = .ok (.putfield 147, 3) := by decide +kernel
theorem dX12_init_378 : decode cX12_init 378 = .ok (.aload_n 0, 1) := by decide +kernel
theorem dX12_init_379 : decode cX12_init 379 = .ok (.iconst 0, 1) := by decide +kernel
theorem dX12_init_380 : decode cX12_init 380 = .ok (.putfield 150, 3) := by decide +kernel
theorem dX12_init_383 : decode cX12_init 383 = .ok (.aload_n 0, 1) := by decide +kernel
theorem dX12_init_384 : decode cX12_init 384 = .ok (.bipush 8, 2) := by decide +kernel
theorem dX12_init_386 : decode cX12_init 386 = .ok (.newarray .boolean, 2) := by decide +kernel
theorem dX12_init_388 : decode cX12_init 388 = .ok (.putfield 153, 3) := by decide +kernel
theorem dX12_init_391 : decode cX12_init 391 = .ok (.aload_n 0, 1) := by decide +kernel
theorem dX12_init_392 : decode cX12_init 392 = .ok (.iconst 0, 1) := by decide +kernel
theorem dX12_init_393 : decode cX12_init 393 = .ok (.putfield 156, 3) := by decide +kernel
theorem dX12_init_396 : decode cX12_init 396 = .ok (.aload_n 0, 1) := by decide +kernel
theorem dX12_init_397 : decode cX12_init 397 = .ok (.bipush 12, 2) := by decide +kernel
theorem dX12_init_399 : decode cX12_init 399 = .ok (.newarray .int, 2) := by decide +kernel
theorem dX12_init_401 : decode cX12_init 401 = .ok (.putfield 159, 3) := by decide +kernel
theorem dX12_init_404 : decode cX12_init 404 = .ok (.aload_n 0, 1) := by decide +kernel
theorem dX12_init_405 : decode cX12_init 405 = .ok (.iconst 0, 1) := by decide +kernel
theorem dX12_init_406 : decode cX12_init 406 = .ok (.putfield 162, 3) := by decide +kernel
theorem dX12_init_409 : decode cX12_init 409 = .ok (.aload_n 0, 1) := by decide +kernel
theorem dX12_init_410 : decode cX12_init 410 = .ok (.iconst (-1), 1) := by decide +kernel
theorem dX12_init_411 : decode cX12_init 411 = .ok (.putfield 166, 3) := by decide +kernel
theorem dX12_init_414 : decode cX12_init 414 = .ok (.aload_n 0, 1) := by decide +kernel
theorem dX12_init_415 : decode cX12_init 415 = .ok (.iconst 0, 1) := by decide +kernel
theorem dX12_init_416 : decode cX12_init 416 = .ok (.putfield 169, 3) := by decide +kernel
theorem dX12_init_419 : decode cX12_init 419 = .ok (.aload_n 0, 1) := by decide +kernel
theorem dX12_init_420 : decode cX12_init 420 = .ok (.iconst 0, 1) := by decide +kernel
theorem dX12_init_421 : decode cX12_init 421 = .ok (.putfield 172, 3) := by decide +kernel
theorem dX12_init_424 : decode cX12_init 424 = .ok (.aload_n 0, 1) := by decide +kernel
theorem dX12_init_425 : decode cX12_init 425 = .ok (.iconst 0, 1) := by decide +kernel
theorem dX12_init_426 : decode cX12_init 426 = .ok (.putfield 175, 3) := by decide +kernel
theorem dX12_init_429 : decode cX12_init 429 = .ok (.aload_n 0, 1) := by decide +kernel
theorem dX12_init_430 : decode cX12_init 430 = .ok (.iconst 0, 1) := by decide +kernel
theorem dX12_init_431 : decode cX12_init 431 = .ok (.putfield 178, 3) := by decide +kernel
theorem dX12_init_434 : decode cX12_init 434 = .ok (.aload_n 0, 1) := by decide +kernel
theorem dX12_init_435 : decode cX12_init 435 = .ok (.iconst 0, 1) := by decide +kernel
theorem dX12_init_436 : decode cX12_init 436 = .ok (.putfield 181, 3) := by decide +kernel
theorem dX12_init_439 : decode cX12_init 439 = .ok (.aload_n 0, 1) := by decide +kernel
theorem dX12_init_440 : decode cX12_init 440 = .ok (.iconst 0, 1) := by decide +kernel
theorem dX12_init_441 : decode cX12_init 441 = .ok (.putfield 184, 3) := by decide +kernel
theorem dX12_init_444 : decode cX12_init 444 = .ok (.aload_n 0, 1) := by decide +kernel
theorem dX12_init_445 : decode cX12_init 445 = .ok (.iconst 0, 1) := by decide +kernel
theorem dX12_init_446 : decode cX12_init 446 = .ok (.putfield 187, 3) := by decide +kernel
theorem dX12_init_449 : decode cX12_init 449 = .ok (.aload_n 0, 1) := by decide +kernel
theorem dX12_init_450 : decode cX12_init 450 = .ok (.iconst 0, 1) := by decide +kernel
theorem dX12_init_451 : decode cX12_init 451 = .ok (.putfield 190, 3) := by decide +kernel
theorem dX12_init_454 : decode cX12_init 454 = .ok (.aload_n 0, 1) := by decide +kernel
theorem dX12_init_455 : decode cX12_init 455 = .ok (.iconst 0, 1) := by decide +kernel
theorem dX12_init_456 : decode cX12_init 456 = .ok (.putfield 193, 3) := by decide +kernel
theorem dX12_init_459 : decode cX12_init 459 = .ok (.aload_n 0, 1) := by decide +kernel
theorem dX12_init_460 : decode cX12_init 460 = .ok (.iconst 0, 1) := by decide +kernel
theorem dX12_init_461 : decode cX12_init 461 = .ok (.putfield 196, 3) := by decide +kernel
theorem dX12_init_464 : decode cX12_init 464 = .ok (.aload_n 0, 1) := by decide +kernel
theorem dX12_init_465 : decode cX12_init 465 = .ok (.bipush 7, 2) := by decide +kernel
theorem dX12_init_467 : decode cX12_init 467 = .ok (.newarray .int, 2) := by decide +kernel
theorem dX12_init_469 : decode cX12_init 469 = .ok (.putfield 199, 3) := by decide +kernel
theorem dX12_init_472 : decode cX12_init 472 = .ok (.aload_n 0, 1) := by decide +kernel
theorem dX12_init_473 : decode cX12_init 473 = .ok (.bipush 7, 2) := by decide +kernel
theorem dX12_init_475 : decode cX12_init 475 = .ok (.newarray .int, 2) := by decide +kernel
theorem dX12_init_477 : decode cX12_init 477 = .ok (.putfield 202, 3) := by decide +kernel
theorem dX12_init_480 : decode cX12_init 480 = .ok (.aload_n 0, 1) := by decide +kernel
theorem dX12_init_481 : decode cX12_init 481 = .ok (.bipush 7, 2) := by decide +kernel
theorem dX12_init_483 : decode cX12_init 483 = .ok (.newarray .int, 2) := by decide +kernel
theorem dX12_init_485 : decode cX12_init 485 = .ok (.putfield 205, 3) := by decide +kernel
theorem dX12_init_488 : decode cX12_init 488 = .ok (.aload_n 0, 1) := by decide +kernel
theorem dX12_init_489 : decode cX12_init 489 = .ok (.iconst 4, 1) := by decide +kernel
theorem dX12_init_490 : decode cX12_init 490 = .ok (.newarray .int, 2) := by decide +kernel
theorem dX12_init_492 : decode cX12_init 492 = .ok (.putfield 208, 3) := by decide +kernel
theorem dX12_init_495 : decode cX12_init 495 = .ok (.aload_n 0, 1) := by decide +kernel
theorem dX12_init_496 : decode cX12_init 496 = .ok (.iconst 4, 1) := by decide +kernel
theorem dX12_init_497 : decode cX12_init 497 = .ok (.newarray .int, 2) := by decide +kernel
theorem dX12_init_499 : decode cX12_init 499 = .ok (.putfield 211, 3) := by decide +kernel
theorem dX12_init_502 : decode cX12_init 502 = .ok (.aload_n 0, 1) := by decide +kernel
theorem dX12_init_503 : decode cX12_init 503 = .ok (.bipush 16, 2) := by decide +kernel
theorem dX12_init_505 : decode cX12_init 505 = .ok (.newarray .int, 2) := by decide +kernel
theorem dX12_init_507 : decode cX12_init 507 = .ok (.putfield 214, 3) := by decide +kernel
theorem dX12_init_510 : decode cX12_init 510 = .ok (.aload_n 0, 1) := by decide +kernel
theorem dX12_init_511 : decode cX12_init 511 = .ok (.bipush 12, 2) := by decide +kernel
theorem dX12_init_513 : decode cX12_init 513 = .ok (.newarray .int, 2) := by decide +kernel
theorem dX12_init_515 : decode cX12_init 515 = .ok (.putfield 217, 3) := by decide +kernel
theorem dX12_init_518 : decode cX12_init 518 = .ok (.aload_n 0, 1) := by decide +kernel
theorem dX12_init_519 : decode cX12_init 519 = .ok (.bipush 8, 2) := by decide +kernel
theorem dX12_init_521 : decode cX12_init 521 = .ok (.newarray .boolean, 2) := by decide +kernel
theorem dX12_init_523 : decode cX12_init 523 = .ok (.putfield 220, 3) := by decide +kernel
theorem dX12_init_526 : decode cX12_init 526 = .ok (.aload_n 0, 1) := by decide +kernel
theorem dX12_init_527 : decode cX12_init 527 = .ok (.iconst 0, 1) := by decide +kernel
theorem dX12_init_528 : decode cX12_init 528 = .ok (.putfield 223, 3) := by decide +kernel
theorem dX12_init_531 : decode cX12_init 531 = .ok (.aload_n 0, 1) := by decide +kernel
theorem dX12_init_532 : decode cX12_init 532 = .ok (.bipush 20, 2) := by decide +kernel
theorem dX12_init_534 : decode cX12_init 534 = .ok (.newarray .int, 2) := by decide +kernel
theorem dX12_init_536 : decode cX12_init 536 = .ok (.putfield 226, 3) := by decide +kernel
theorem dX12_init_539 : decode cX12_init 539 = .ok (.aload_n 0, 1) := by decide +kernel
theorem dX12_init_540 : decode cX12_init 540 = .ok (.bipush 6, 2) := by decide +kernel
theorem dX12_init_542 : decode cX12_init 542 = .ok (.newarray .int, 2) := by decide +kernel
theorem dX12_init_544 : decode cX12_init 544 = .ok (.dup, 1) := by decide +kernel
theorem dX12_init_545 : decode cX12_init 545 = .ok (.iconst 0, 1) := by decide +kernel
theorem dX12_init_546 : decode cX12_init 546 = .ok (.iconst (-1), 1) := by decide +kernel
theorem dX12_init_547 : decode cX12_init 547 = .ok (.iastore, 1) := by decide +kernel
theorem dX12_init_548 : decode cX12_init 548 = .ok (.dup, 1) := by decide +kernel
theorem dX12_init_549 : decode cX12_init 549 = .ok (.iconst 1, 1) := by decide +kernel
theorem dX12_init_550 : decode cX12_init 550 = .ok (.iconst (-1), 1) := by decide +kernel
theorem dX12_init_551 : decode cX12_init 551 = .ok (.iastore, 1) := by decide +kernel
theorem dX12_init_552 : decode cX12_init 552 = .ok (.dup, 1) := by decide +kernel
theorem dX12_init_553 : decode cX12_init 553 = .ok (.iconst 2, 1) := by decide +kernel
theorem dX12_init_554 : decode cX12_init 554 = .ok (.iconst (-1), 1) := by decide +kernel
theorem dX12_init_555 : decode cX12_init 555 = .ok (.iastore, 1) := by decide +kernel
theorem dX12_init_556 : decode cX12_init 556 = .ok (.dup, 1) := by decide +kernel
theorem dX12_init_557 : decode cX12_init 557 = .ok (.iconst 3, 1) := by decide +kernel
theorem dX12_init_558 : decode cX12_init 558 = .ok (.iconst (-1), 1) := by decide +kernel
theorem dX12_init_559 : decode cX12_init 559 = .ok (.iastore, 1) := by decide +kernel
theorem dX12_init_560 : decode cX12_init 560 = .ok (.dup, 1) := by decide +kernel
theorem dX12_init_561 : decode cX12_init 561 = .ok (.iconst 4, 1) := by decide +kernel
theorem dX12_init_562 : decode cX12_init 562 = .ok (.iconst (-1), 1) := by decide +kernel
theorem dX12_init_563 : decode cX12_init 563 = .ok (.iastore, 1) := by decide +kernel
theorem dX12_init_564 : decode cX12_init 564 = .ok (.dup, 1) := by decide +kernel
theorem dX12_init_565 : decode cX12_init 565 = .ok (.iconst 5, 1) := by decide +kernel
theorem dX12_init_566 : decode cX12_init 566 = .ok (.iconst (-1), 1) := by decide +kernel
theorem dX12_init_567 : decode cX12_init 567 = .ok (.iastore, 1) := by decide +kernel
theorem dX12_init_568 : decode cX12_init 568 = .ok (.putfield 229, 3) := by decide +kernel
theorem dX12_init_571 : decode cX12_init 571 = .ok (.aload_n 0, 1) := by decide +kernel
theorem dX12_init_572 : decode cX12_init 572 = .ok (.bipush 6, 2) := by decide +kernel
theorem dX12_init_574 : decode cX12_init 574 = .ok (.newarray .int, 2) := by decide +kernel
theorem dX12_init_576 : decode cX12_init 576 = .ok (.putfield 232, 3) := by decide +kernel
theorem dX12_init_579 : decode cX12_init 579 = .ok (.aload_n 0, 1) := by decide +kernel
theorem dX12_init_580 : decode cX12_init 580 = .ok (.sipush 360, 3) := by decide +kernel
theorem dX12_init_583 : decode cX12_init 583 = .ok (.newarray .long, 2) := by decide +kernel
theorem dX12_init_585 : decode cX12_init 585 = .ok (.putfield 235, 3) := by decide +kernel
theorem dX12_init_588 : decode cX12_init 588 = .ok (.aload_n 0, 1) := by decide +kernel
theorem dX12_init_589 : decode cX12_init 589 = .ok (.bipush 60, 2) := by decide +kernel
theorem dX12_init_591 : decode cX12_init 591 = .ok (.newarray .long, 2) := by decide +kernel
theorem dX12_init_593 : decode cX12_init 593 = .ok (.putfield 239, 3) := by decide +kernel
theorem dX12_init_596 : decode cX12_init 596 = .ok (.return_, 1) := by decide +kernel
theorem dX12_in_0 : decode cX12_in 0 = .ok (.iload_n 1, 1) := by decide +kernel
theorem dX12_in_1 : decode cX12_in 1 = .ok (.iload_n 2, 1) := by decide +kernel
theorem dX12_in_2 : decode cX12_in 2 = .ok (.if_icmp .lt 12, 3) := by decide +kernel
theorem dX12_in_5 : decode cX12_in 5 = .ok (.iload_n 1, 1) := by decide +kernel
theorem dX12_in_6 : decode cX12_in 6 = .ok (.iload_n 3, 1) := by decide +kernel
theorem dX12_in_7 : decode cX12_in 7 = .ok (.if_icmp .gt 7, 3) := by decide +kernel
theorem dX12_in_10 : decode cX12_in 10 = .ok (.iconst 1, 1) := by decide +kernel
theorem dX12_in_11 : decode cX12_in 11 = .ok (.goto 4, 3) := by decide +kernel
theorem dX12_in_14 : decode cX12_in 14 = .ok (.iconst 0, 1) := by decide +kernel
theorem dX12_in_15 : decode cX12_in 15 = .ok (.ireturn, 1) := by decide +kernel
theorem dX12_has_0 : decode cX12_has 0 = .ok (.iload_n 1, 1) := by decide +kernel
theorem dX12_has_1 : decode cX12_has 1 = .ok (.iload_n 2, 1) := by decide +kernel
theorem dX12_has_2 : decode cX12_has 2 = .ok (.ishr, 1) := by decide +kernel
theorem dX12_has_3 : decode cX12_has 3 = .ok (.iconst 1, 1) := by decide +kernel
theorem dX12_has_4 : decode cX12_has 4 = .ok (.iand, 1) := by decide +kernel
theorem dX12_has_5 : decode cX12_has 5 = .ok (.iconst 1, 1) := by decide +kernel
theorem dX12_has_6 : decode cX12_has 6 = .ok (.if_icmp .ne 7, 3) := by decide +kernel
theorem dX12_has_9 : decode cX12_has 9 = .ok (.iconst 1, 1) := by decide +kernel
theorem dX12_has_10 : decode cX12_has 10 = .ok (.goto 4, 3) := by decide +kernel
theorem dX12_has_13 : decode cX12_has 13 = .ok (.iconst 0, 1) := by decide +kernel
theorem dX12_has_14 : decode cX12_has 14 = .ok (.ireturn, 1) := by decide +kernel
theorem dX12_isThing_0 : decode cX12_isThing 0 = .ok (.aload_n 0, 1) := by decide +kernel
theorem dX12_isThing_1 : decode cX12_isThing 1 = .ok (.iload_n 1, 1) := by decide +kernel
theorem dX12_isThing_2 : decode cX12_isThing 2 = .ok (.iconst 0, 1) := by decide +kernel
theorem dX12_isThing_3 : decode cX12_isThing 3 = .ok (.aload_n 0, 1) := by decide +kernel
theorem dX12_isThing_4 : decode cX12_isThing 4 = .ok (.getfield 7, 3) := by decide +kernel
theorem dX12_isThing_7 : decode cX12_isThing 7 = .ok (.iconst 1, 1) := by decide +kernel
theorem dX12_isThing_8 : decode cX12_isThing 8 = .ok (.isub, 1) := by decide +kernel
theorem dX12_isThing_9 : decode cX12_isThing 9 = .ok (.invokevirtual 242, 3) := by decide +kernel
theorem dX12_isThing_12 : decode cX12_isThing 12 = .ok (.ireturn, 1) := by decide +kernel
theorem dX12_isParent_0 : decode cX12_isParent 0 = .ok (.aload_n 0, 1) := by decide +kernel
theorem dX12_isParent_1 : decode cX12_isParent 1 = .ok (.iload_n 1, 1) := by decide +kernel
theorem dX12_isParent_2 : decode cX12_isParent 2 = .ok (.iconst 0, 1) := by decide +kernel
theorem dX12_isParent_3 : decode cX12_isParent 3 = .ok (.aload_n 0, 1) := by decide +kernel
theorem dX12_isParent_4 : decode cX12_isParent 4 = .ok (.getfield 13, 3) := by decide +kernel
theorem dX12_isParent_7 : decode cX12_isParent 7 = .ok (.iconst 1, 1) := by decide +kernel
theorem dX12_isParent_8 : decode cX12_isParent 8 = .ok (.isub, 1) := by decide +kernel
theorem dX12_isParent_9 : decode cX12_isParent 9 = .ok (.invokevirtual 242, 3) := by decide +kernel
theorem dX12_isParent_12 : decode cX12_isParent 12 = .ok (.ireturn, 1) := by decide +kernel
theorem dX12_thing_0 : decode cX12_thing 0 = .ok (.aload_n 0, 1) := by decide +kernel
theorem dX12_thing_1 : decode cX12_thing 1 = .ok (.iload_n 1, 1) := by decide +kernel
theorem dX12_thing_2 : decode cX12_thing 2 = .ok (.iconst 1, 1) := by decide +kernel
theorem dX12_thing_3 : decode cX12_thing 3 = .ok (.bipush 20, 2) := by decide +kernel
theorem dX12_thing_5 : decode cX12_thing 5 = .ok (.invokevirtual 242, 3) := by decide +kernel
theorem dX12_thing_8 : decode cX12_thing 8 = .ok (.ifCond .eq 14, 3) := by decide +kernel
theorem dX12_thing_11 : decode cX12_thing 11 = .ok (.aload_n 0, 1) := by decide +kernel
theorem dX12_thing_12 : decode cX12_thing 12 = .ok (.iload_n 2, 1) := by decide +kernel
theorem dX12_thing_13 : decode cX12_thing 13 = .ok (.iconst 0, 1) := by decide +kernel
theorem dX12_thing_14 : decode cX12_thing 14 = .ok (.bipush 9, 2) := by decide +kernel
theorem dX12_thing_16 : decode cX12_thing 16 = .ok (.invokevirtual 242, 3) := by decide +kernel
theorem dX12_thing_19 : decode cX12_thing 19 = .ok (.ifCond .ne 6, 3) := by decide +kernel
theorem dX12_thing_22 : decode cX12_thing 22 = .ok (.bipush (-2), 2) := by decide +kernel
theorem dX12_thing_24 : decode cX12_thing 24 = .ok (.ireturn, 1) := by decide +kernel
theorem dX12_thing_25 : decode cX12_thing 25 = .ok (.aload_n 0, 1) := by decide +kernel
theorem dX12_thing_26 : decode cX12_thing 26 = .ok (.getfield 7, 3) := by decide +kernel
theorem dX12_thing_29 : decode cX12_thing 29 = .ok (.bipush 7, 2) := by decide +kernel
theorem dX12_thing_31 : decode cX12_thing 31 = .ok (.if_icmp .ne 6, 3) := by decide +kernel
theorem dX12_thing_34 : decode cX12_thing 34 = .ok (.bipush (-4), 2) := by decide +kernel
theorem dX12_thing_36 : decode cX12_thing 36 = .ok (.ireturn, 1) := by decide +kernel
theorem dX12_thing_37 : decode cX12_thing 37 = .ok (.aload_n 0, 1) := by decide +kernel
theorem dX12_thing_38 : decode cX12_thing 38 = .ok (.getfield 34, 3) := by decide +kernel
theorem dX12_thing_41 : decode cX12_thing 41 = .ok (.aload_n 0, 1) := by decide +kernel
theorem dX12_thing_42 : decode cX12_thing 42 = .ok (.getfield 7, 3) := by decide +kernel
theorem dX12_thing_45 : decode cX12_thing 45 = .ok (.iload_n 1, 1) := by decide +kernel
theorem dX12_thing_46 : decode cX12_thing 46 = .ok (.iastore, 1) := by decide +kernel
theorem dX12_thing_47 : decode cX12_thing 47 = .ok (.aload_n 0, 1) := by decide +kernel
theorem dX12_thing_48 : decode cX12_thing 48 = .ok (.getfield 38, 3) := by decide +kernel
theorem dX12_thing_51 : decode cX12_thing 51 = .ok (.aload_n 0, 1) := by decide +kernel
theorem dX12_thing_52 : decode cX12_thing 52 = .ok (.getfield 7, 3) := by decide +kernel
theorem dX12_thing_55 : decode cX12_thing 55 = .ok (.iload_n 2, 1) := by decide +kernel
theorem dX12_thing_56 : decode cX12_thing 56 = .ok (.iastore, 1) := by decide +kernel
theorem dX12_thing_57 : decode cX12_thing 57 = .ok (.aload_n 0, 1) := by decide +kernel
theorem dX12_thing_58 : decode cX12_thing 58 = .ok (.getfield 41, 3) := by decide +kernel
theorem dX12_thing_61 : decode cX12_thing 61 = .ok (.aload_n 0, 1) := by decide +kernel
theorem dX12_thing_62 : decode cX12_thing 62 = .ok (.getfield 7, 3) := by decide +kernel
theorem dX12_thing_65 : decode cX12_thing 65 = .ok (.iconst 0, 1) := by decide +kernel
theorem dX12_thing_66 : decode cX12_thing 66 = .ok (.iastore, 1) := by decide +kernel
theorem dX12_thing_67 : decode cX12_thing 67 = .ok (.aload_n 0, 1) := by decide +kernel
theorem dX12_thing_68 : decode cX12_thing 68 = .ok (.dup, 1) := by decide +kernel
theorem dX12_thing_69 : decode cX12_thing 69 = .ok (.getfield 7, 3) := by decide +kernel
theorem dX12_thing_72 : decode cX12_thing 72 = .ok (.iconst 1, 1) := by decide +kernel
theorem dX12_thing_73 : decode cX12_thing 73 = .ok (.iadd, 1) := by decide +kernel
theorem dX12_thing_74 : decode cX12_thing 74 = .ok (.putfield 7, 3) := by decide +kernel
theorem dX12_thing_77 : decode cX12_thing 77 = .ok (.aload_n 0, 1) := by decide +kernel
theorem dX12_thing_78 : decode cX12_thing 78 = .ok (.getfield 7, 3) := by decide +kernel
theorem dX12_thing_81 : decode cX12_thing 81 = .ok (.iconst 1, 1) := by decide +kernel
theorem dX12_thing_82 : decode cX12_thing 82 = .ok (.isub, 1) := by decide +kernel
theorem dX12_thing_83 : decode cX12_thing 83 = .ok (.ireturn, 1) := by decide +kernel
theorem dX12_parent_0 : decode cX12_parent 0 = .ok (.aload_n 0, 1) := by decide +kernel
theorem dX12_parent_1 : decode cX12_parent 1 = .ok (.iload_n 1, 1) := by decide +kernel
theorem dX12_parent_2 : decode cX12_parent 2 = .ok (.iconst 0, 1) := by decide +kernel
theorem dX12_parent_3 : decode cX12_parent 3 = .ok (.bipush 6, 2) := by decide +kernel
theorem dX12_parent_5 : decode cX12_parent 5 = .ok (.invokevirtual 242, 3) := by decide +kernel
theorem dX12_parent_8 : decode cX12_parent 8 = .ok (.ifCond .ne 5, 3) := by decide +kernel
theorem dX12_parent_11 : decode cX12_parent 11 = .ok (.iconst (-1), 1) := by decide +kernel
theorem dX12_parent_12 : decode cX12_parent 12 = .ok (.ireturn, 1) := by decide +kernel
theorem dX12_parent_13 : decode cX12_parent 13 = .ok (.aload_n 0, 1) := by decide +kernel
theorem dX12_parent_14 : decode cX12_parent 14 = .ok (.iload_n 2, 1) := by decide +kernel
theorem dX12_parent_15 : decode cX12_parent 15 = .ok (.iconst 0, 1) := by decide +kernel
theorem dX12_parent_16 : decode cX12_parent 16 = .ok (.bipush 9, 2) := by decide +kernel
theorem dX12_parent_18 : decode cX12_parent 18 = .ok (.invokevirtual 242, 3) := by decide +kernel
theorem dX12_parent_21 : decode cX12_parent 21 = .ok (.ifCond .ne 6, 3) := by decide +kernel
theorem dX12_parent_24 : decode cX12_parent 24 = .ok (.bipush (-2), 2) := by decide +kernel
theorem dX12_parent_26 : decode cX12_parent 26 = .ok (.ireturn, 1) := by decide +kernel
theorem dX12_parent_27 : decode cX12_parent 27 = .ok (.aload_n 0, 1) := by decide +kernel
theorem dX12_parent_28 : decode cX12_parent 28 = .ok (.getfield 13, 3) := by decide +kernel
theorem dX12_parent_31 : decode cX12_parent 31 = .ok (.iconst 4, 1) := by decide +kernel
theorem dX12_parent_32 : decode cX12_parent 32 = .ok (.if_icmp .ne 6, 3) := by decide +kernel
theorem dX12_parent_35 : decode cX12_parent 35 = .ok (.bipush (-4), 2) := by decide +kernel
theorem dX12_parent_37 : decode cX12_parent 37 = .ok (.ireturn, 1) := by decide +kernel
theorem dX12_parent_38 : decode cX12_parent 38 = .ok (.aload_n 0, 1) := by decide +kernel
theorem dX12_parent_39 : decode cX12_parent 39 = .ok (.getfield 44, 3) := by decide +kernel
theorem dX12_parent_42 : decode cX12_parent 42 = .ok (.aload_n 0, 1) := by decide +kernel
theorem dX12_parent_43 : decode cX12_parent 43 = .ok (.getfield 13, 3) := by decide +kernel
theorem dX12_parent_46 : decode cX12_parent 46 = .ok (.iload_n 1, 1) := by decide +kernel
theorem dX12_parent_47 : decode cX12_parent 47 = .ok (.iastore, 1) := by decide +kernel
theorem dX12_parent_48 : decode cX12_parent 48 = .ok (.aload_n 0, 1) := by decide +kernel
theorem dX12_parent_49 : decode cX12_parent 49 = .ok (.getfield 47, 3) := by decide +kernel
theorem dX12_parent_52 : decode cX12_parent 52 = .ok (.aload_n 0, 1) := by decide +kernel
theorem dX12_parent_53 : decode cX12_parent 53 = .ok (.getfield 13, 3) := by decide +kernel
theorem dX12_parent_56 : decode cX12_parent 56 = .ok (.iload_n 2, 1) := by decide +kernel
theorem dX12_parent_57 : decode cX12_parent 57 = .ok (.iastore, 1) := by decide +kernel
theorem dX12_parent_58 : decode cX12_parent 58 = .ok (.iconst 0, 1) := by decide +kernel
theorem dX12_parent_59 : decode cX12_parent 59 = .ok (.istore_n 3, 1) := by decide +kernel
theorem dX12_parent_60 : decode cX12_parent 60 = .ok (.iload_n 3, 1) := by decide +kernel
theorem dX12_parent_61 : decode cX12_parent 61 = .ok (.iconst 4, 1) := by decide +kernel
theorem dX12_parent_62 : decode cX12_parent 62 = .ok (.if_icmp .ge 23, 3) := by decide +kernel
theorem dX12_parent_65 : decode cX12_parent 65 = .ok (.aload_n 0, 1) := by decide +kernel
theorem dX12_parent_66 : decode cX12_parent 66 = .ok (.getfield 50, 3) := by decide +kernel
theorem dX12_parent_69 : decode cX12_parent 69 = .ok (.iconst 4, 1) := by decide +kernel
theorem dX12_parent_70 : decode cX12_parent 70 = .ok (.aload_n 0, 1) := by decide +kernel
theorem dX12_parent_71 : decode cX12_parent 71 = .ok (.getfield 13, 3) := by decide +kernel
theorem dX12_parent_74 : decode cX12_parent 74 = .ok (.imul, 1) := by decide +kernel
theorem dX12_parent_75 : decode cX12_parent 75 = .ok (.iload_n 3, 1) := by decide +kernel
theorem dX12_parent_76 : decode cX12_parent 76 = .ok (.iadd, 1) := by decide +kernel
theorem dX12_parent_77 : decode cX12_parent 77 = .ok (.iconst 1, 1) := by decide +kernel
theorem dX12_parent_78 : decode cX12_parent 78 = .ok (.iastore, 1) := by decide +kernel
theorem dX12_parent_79 : decode cX12_parent 79 = .ok (.iinc 3 1, 3) := by decide +kernel
theorem dX12_parent_82 : decode cX12_parent 82 = .ok (.goto (-22), 3) := by decide +kernel
theorem dX12_parent_85 : decode cX12_parent 85 = .ok (.aload_n 0, 1) := by decide +kernel
theorem dX12_parent_86 : decode cX12_parent 86 = .ok (.dup, 1) := by decide +kernel
theorem dX12_parent_87 : decode cX12_parent 87 = .ok (.getfield 13, 3) := by decide +kernel
theorem dX12_parent_90 : decode cX12_parent 90 = .ok (.iconst 1, 1) := by decide +kernel
theorem dX12_parent_91 : decode cX12_parent 91 = .ok (.iadd, 1) := by decide +kernel
theorem dX12_parent_92 : decode cX12_parent 92 = .ok (.putfield 13, 3) := by decide +kernel
theorem dX12_parent_95 : decode cX12_parent 95 = .ok (.aload_n 0, 1) := by decide +kernel
theorem dX12_parent_96 : decode cX12_parent 96 = .ok (.getfield 13, 3) := by decide +kernel
theorem dX12_parent_99 : decode cX12_parent 99 = .ok (.iconst 1, 1) := by decide +kernel
theorem dX12_parent_100 : decode cX12_parent 100 = .ok (.isub, 1) := by decide +kernel
theorem dX12_parent_101 : decode cX12_parent 101 = .ok (.ireturn, 1) := by decide +kernel
theorem dX12_at_0 : decode cX12_at 0 = .ok (.aload_n 0, 1) := by decide +kernel
theorem dX12_at_1 : decode cX12_at 1 = .ok (.iload_n 1, 1) := by decide +kernel
theorem dX12_at_2 : decode cX12_at 2 = .ok (.invokevirtual 246, 3) := by decide +kernel
theorem dX12_at_5 : decode cX12_at 5 = .ok (.ifCond .ne 7, 3) := by decide +kernel
theorem dX12_at_8 : decode cX12_at 8 = .ok (.iconst (-1), 1) := by decide +kernel
theorem dX12_at_9 : decode cX12_at 9 = .ok (.goto 45, 3) := by decide +kernel
theorem dX12_at_12 : decode cX12_at 12 = .ok (.iload_n 2, 1) := by decide +kernel
theorem dX12_at_13 : decode cX12_at 13 = .ok (.ifCond .ne 12, 3) := by decide +kernel
theorem dX12_at_16 : decode cX12_at 16 = .ok (.aload_n 0, 1) := by decide +kernel
theorem dX12_at_17 : decode cX12_at 17 = .ok (.getfield 34, 3) := by decide +kernel
theorem dX12_at_20 : decode cX12_at 20 = .ok (.iload_n 1, 1) := by decide +kernel
theorem dX12_at_21 : decode cX12_at 21 = .ok (.iaload, 1) := by decide +kernel
theorem dX12_at_22 : decode cX12_at 22 = .ok (.goto 32, 3) := by decide +kernel
theorem dX12_at_25 : decode cX12_at 25 = .ok (.iload_n 2, 1) := by decide +kernel
theorem dX12_at_26 : decode cX12_at 26 = .ok (.iconst 1, 1) := by decide +kernel
theorem dX12_at_27 : decode cX12_at 27 = .ok (.if_icmp .ne 12, 3) := by decide +kernel
theorem dX12_at_30 : decode cX12_at 30 = .ok (.aload_n 0, 1) := by decide +kernel
theorem dX12_at_31 : decode cX12_at 31 = .ok (.getfield 38, 3) := by decide +kernel
theorem dX12_at_34 : decode cX12_at 34 = .ok (.iload_n 1, 1) := by decide +kernel
theorem dX12_at_35 : decode cX12_at 35 = .ok (.iaload, 1) := by decide +kernel
theorem dX12_at_36 : decode cX12_at 36 = .ok (.goto 18, 3) := by decide +kernel
theorem dX12_at_39 : decode cX12_at 39 = .ok (.iload_n 2, 1) := by decide +kernel
theorem dX12_at_40 : decode cX12_at 40 = .ok (.iconst 2, 1) := by decide +kernel
theorem dX12_at_41 : decode cX12_at 41 = .ok (.if_icmp .ne 12, 3) := by decide +kernel
theorem dX12_at_44 : decode cX12_at 44 = .ok (.aload_n 0, 1) := by decide +kernel
theorem dX12_at_45 : decode cX12_at 45 = .ok (.getfield 41, 3) := by decide +kernel
theorem dX12_at_48 : decode cX12_at 48 = .ok (.iload_n 1, 1) := by decide +kernel
theorem dX12_at_49 : decode cX12_at 49 = .ok (.iaload, 1) := by decide +kernel
theorem dX12_at_50 : decode cX12_at 50 = .ok (.goto 4, 3) := by decide +kernel
theorem dX12_at_53 : decode cX12_at 53 = .ok (.iconst (-1), 1) := by decide +kernel
theorem dX12_at_54 : decode cX12_at 54 = .ok (.ireturn, 1) := by decide +kernel
theorem dX12_habit_0 : decode cX12_habit 0 = .ok (.aload_n 0, 1) := by decide +kernel
theorem dX12_habit_1 : decode cX12_habit 1 = .ok (.iload_n 1, 1) := by decide +kernel
theorem dX12_habit_2 : decode cX12_habit 2 = .ok (.invokevirtual 246, 3) := by decide +kernel
theorem dX12_habit_5 : decode cX12_habit 5 = .ok (.ifCond .ne 5, 3) := by decide +kernel
theorem dX12_habit_8 : decode cX12_habit 8 = .ok (.iconst (-1), 1) := by decide +kernel
theorem dX12_habit_9 : decode cX12_habit 9 = .ok (.ireturn, 1) := by decide +kernel
theorem dX12_habit_10 : decode cX12_habit 10 = .ok (.aload_n 0, 1) := by decide +kernel
theorem dX12_habit_11 : decode cX12_habit 11 = .ok (.iload_n 2, 1) := by decide +kernel
theorem dX12_habit_12 : decode cX12_habit 12 = .ok (.iconst 0, 1) := by decide +kernel
theorem dX12_habit_13 : decode cX12_habit 13 = .ok (.sipush 999, 3) := by decide +kernel
theorem dX12_habit_16 : decode cX12_habit 16 = .ok (.invokevirtual 242, 3) := by decide +kernel
theorem dX12_habit_19 : decode cX12_habit 19 = .ok (.ifCond .ne 6, 3) := by decide +kernel
theorem dX12_habit_22 : decode cX12_habit 22 = .ok (.bipush (-2), 2) := by decide +kernel
theorem dX12_habit_24 : decode cX12_habit 24 = .ok (.ireturn, 1) := by decide +kernel
theorem dX12_habit_25 : decode cX12_habit 25 = .ok (.aload_n 0, 1) := by decide +kernel
theorem dX12_habit_26 : decode cX12_habit 26 = .ok (.getfield 41, 3) := by decide +kernel
theorem dX12_habit_29 : decode cX12_habit 29 = .ok (.iload_n 1, 1) := by decide +kernel
theorem dX12_habit_30 : decode cX12_habit 30 = .ok (.iaload, 1) := by decide +kernel
theorem dX12_habit_31 : decode cX12_habit 31 = .ok (.istore_n 3, 1) := by decide +kernel
theorem dX12_habit_32 : decode cX12_habit 32 = .ok (.aload_n 0, 1) := by decide +kernel
theorem dX12_habit_33 : decode cX12_habit 33 = .ok (.getfield 41, 3) := by decide +kernel
theorem dX12_habit_36 : decode cX12_habit 36 = .ok (.iload_n 1, 1) := by decide +kernel
theorem dX12_habit_37 : decode cX12_habit 37 = .ok (.iload_n 2, 1) := by decide +kernel
theorem dX12_habit_38 : decode cX12_habit 38 = .ok (.iastore, 1) := by decide +kernel
theorem dX12_habit_39 : decode cX12_habit 39 = .ok (.iload_n 3, 1) := by decide +kernel
theorem dX12_habit_40 : decode cX12_habit 40 = .ok (.ireturn, 1) := by decide +kernel
theorem dX12_row_0 : decode cX12_row 0 = .ok (.aload_n 0, 1) := by decide +kernel
theorem dX12_row_1 : decode cX12_row 1 = .ok (.iload_n 1, 1) := by decide +kernel
theorem dX12_row_2 : decode cX12_row 2 = .ok (.invokevirtual 250, 3) := by decide +kernel
theorem dX12_row_5 : decode cX12_row 5 = .ok (.ifCond .eq 13, 3) := by decide +kernel
theorem dX12_row_8 : decode cX12_row 8 = .ok (.aload_n 0, 1) := by decide +kernel
theorem dX12_row_9 : decode cX12_row 9 = .ok (.iload_n 2, 1) := by decide +kernel
theorem dX12_row_10 : decode cX12_row 10 = .ok (.iconst 0, 1) := by decide +kernel
theorem dX12_row_11 : decode cX12_row 11 = .ok (.iconst 3, 1) := by decide +kernel
theorem dX12_row_12 : decode cX12_row 12 = .ok (.invokevirtual 242, 3) := by decide +kernel
theorem dX12_row_15 : decode cX12_row 15 = .ok (.ifCond .ne 5, 3) := by decide +kernel
theorem dX12_row_18 : decode cX12_row 18 = .ok (.iconst (-1), 1) := by decide +kernel
theorem dX12_row_19 : decode cX12_row 19 = .ok (.ireturn, 1) := by decide +kernel
theorem dX12_row_20 : decode cX12_row 20 = .ok (.aload_n 0, 1) := by decide +kernel
theorem dX12_row_21 : decode cX12_row 21 = .ok (.iload_n 3, 1) := by decide +kernel
theorem dX12_row_22 : decode cX12_row 22 = .ok (.iconst 0, 1) := by decide +kernel
theorem dX12_row_23 : decode cX12_row 23 = .ok (.iconst 1, 1) := by decide +kernel
theorem dX12_row_24 : decode cX12_row 24 = .ok (.invokevirtual 242, 3) := by decide +kernel
theorem dX12_row_27 : decode cX12_row 27 = .ok (.ifCond .ne 6, 3) := by decide +kernel
theorem dX12_row_30 : decode cX12_row 30 = .ok (.bipush (-2), 2) := by decide +kernel
theorem dX12_row_32 : decode cX12_row 32 = .ok (.ireturn, 1) := by decide +kernel
theorem dX12_row_33 : decode cX12_row 33 = .ok (.aload_n 0, 1) := by decide +kernel
theorem dX12_row_34 : decode cX12_row 34 = .ok (.getfield 44, 3) := by decide +kernel
theorem dX12_row_37 : decode cX12_row 37 = .ok (.iload_n 1, 1) := by decide +kernel
theorem dX12_row_38 : decode cX12_row 38 = .ok (.iaload, 1) := by decide +kernel
theorem dX12_row_39 : decode cX12_row 39 = .ok (.bipush 6, 2) := by decide +kernel
theorem dX12_row_41 : decode cX12_row 41 = .ok (.if_icmp .eq 6, 3) := by decide +kernel
theorem dX12_row_44 : decode cX12_row 44 = .ok (.bipush (-3), 2) := by decide +kernel
theorem dX12_row_46 : decode cX12_row 46 = .ok (.ireturn, 1) := by decide +kernel
theorem dX12_row_47 : decode cX12_row 47 = .ok (.aload_n 0, 1) := by decide +kernel
theorem dX12_row_48 : decode cX12_row 48 = .ok (.getfield 50, 3) := by decide +kernel
theorem dX12_row_51 : decode cX12_row 51 = .ok (.iconst 4, 1) := by decide +kernel
theorem dX12_row_52 : decode cX12_row 52 = .ok (.iload_n 1, 1) := by decide +kernel
theorem dX12_row_53 : decode cX12_row 53 = .ok (.imul, 1) := by decide +kernel
theorem dX12_row_54 : decode cX12_row 54 = .ok (.iload_n 2, 1) := by decide +kernel
theorem dX12_row_55 : decode cX12_row 55 = .ok (.iadd, 1) := by decide +kernel
theorem dX12_row_56 : decode cX12_row 56 = .ok (.iaload, 1) := by decide +kernel
theorem dX12_row_57 : decode cX12_row 57 = .ok (.istore 4, 2) := by decide +kernel
theorem dX12_row_59 : decode cX12_row 59 = .ok (.aload_n 0, 1) := by decide +kernel
theorem dX12_row_60 : decode cX12_row 60 = .ok (.getfield 50, 3) := by decide +kernel
theorem dX12_row_63 : decode cX12_row 63 = .ok (.iconst 4, 1) := by decide +kernel
theorem dX12_row_64 : decode cX12_row 64 = .ok (.iload_n 1, 1) := by decide +kernel
theorem dX12_row_65 : decode cX12_row 65 = .ok (.imul, 1) := by decide +kernel
theorem dX12_row_66 : decode cX12_row 66 = .ok (.iload_n 2, 1) := by decide +kernel
theorem dX12_row_67 : decode cX12_row 67 = .ok (.iadd, 1) := by decide +kernel
theorem dX12_row_68 : decode cX12_row 68 = .ok (.iload_n 3, 1) := by decide +kernel
theorem dX12_row_69 : decode cX12_row 69 = .ok (.iastore, 1) := by decide +kernel
theorem dX12_row_70 : decode cX12_row 70 = .ok (.iload 4, 2) := by decide +kernel
theorem dX12_row_72 : decode cX12_row 72 = .ok (.ireturn, 1) := by decide +kernel
theorem dX12_feed_0 : decode cX12_feed 0 = .ok (.aload_n 0, 1) := by decide +kernel
theorem dX12_feed_1 : decode cX12_feed 1 = .ok (.iload_n 1, 1) := by decide +kernel
theorem dX12_feed_2 : decode cX12_feed 2 = .ok (.iconst 0, 1) := by decide +kernel
theorem dX12_feed_3 : decode cX12_feed 3 = .ok (.bipush 127, 2) := by decide +kernel
theorem dX12_feed_5 : decode cX12_feed 5 = .ok (.invokevirtual 242, 3) := by decide +kernel
theorem dX12_feed_8 : decode cX12_feed 8 = .ok (.ifCond .ne 6, 3) := by decide +kernel
theorem dX12_feed_11 : decode cX12_feed 11 = .ok (.bipush (-2), 2) := by decide +kernel
theorem dX12_feed_13 : decode cX12_feed 13 = .ok (.ireturn, 1) := by decide +kernel
theorem dX12_feed_14 : decode cX12_feed 14 = .ok (.aload_n 0, 1) := by decide +kernel
theorem dX12_feed_15 : decode cX12_feed 15 = .ok (.getfield 59, 3) := by decide +kernel
theorem dX12_feed_18 : decode cX12_feed 18 = .ok (.bipush 100, 2) := by decide +kernel
theorem dX12_feed_20 : decode cX12_feed 20 = .ok (.if_icmp .ne 6, 3) := by decide +kernel
theorem dX12_feed_23 : decode cX12_feed 23 = .ok (.bipush (-4), 2) := by decide +kernel
theorem dX12_feed_25 : decode cX12_feed 25 = .ok (.ireturn, 1) := by decide +kernel
theorem dX12_feed_26 : decode cX12_feed 26 = .ok (.aload_n 0, 1) := by decide +kernel
theorem dX12_feed_27 : decode cX12_feed 27 = .ok (.getfield 68, 3) := by decide +kernel
theorem dX12_feed_30 : decode cX12_feed 30 = .ok (.aload_n 0, 1) := by decide +kernel
theorem dX12_feed_31 : decode cX12_feed 31 = .ok (.getfield 59, 3) := by decide +kernel
theorem dX12_feed_34 : decode cX12_feed 34 = .ok (.iload_n 1, 1) := by decide +kernel
theorem dX12_feed_35 : decode cX12_feed 35 = .ok (.iastore, 1) := by decide +kernel
theorem dX12_feed_36 : decode cX12_feed 36 = .ok (.aload_n 0, 1) := by decide +kernel
theorem dX12_feed_37 : decode cX12_feed 37 = .ok (.dup, 1) := by decide +kernel
theorem dX12_feed_38 : decode cX12_feed 38 = .ok (.getfield 59, 3) := by decide +kernel
theorem dX12_feed_41 : decode cX12_feed 41 = .ok (.iconst 1, 1) := by decide +kernel
theorem dX12_feed_42 : decode cX12_feed 42 = .ok (.iadd, 1) := by decide +kernel
theorem dX12_feed_43 : decode cX12_feed 43 = .ok (.putfield 59, 3) := by decide +kernel
theorem dX12_feed_46 : decode cX12_feed 46 = .ok (.aload_n 0, 1) := by decide +kernel
theorem dX12_feed_47 : decode cX12_feed 47 = .ok (.getfield 59, 3) := by decide +kernel
theorem dX12_feed_50 : decode cX12_feed 50 = .ok (.ireturn, 1) := by decide +kernel
theorem dX12_next_0 : decode cX12_next 0 = .ok (.aload_n 0, 1) := by decide +kernel
theorem dX12_next_1 : decode cX12_next 1 = .ok (.getfield 62, 3) := by decide +kernel
theorem dX12_next_4 : decode cX12_next 4 = .ok (.aload_n 0, 1) := by decide +kernel
theorem dX12_next_5 : decode cX12_next 5 = .ok (.getfield 59, 3) := by decide +kernel
theorem dX12_next_8 : decode cX12_next 8 = .ok (.if_icmp .ge 15, 3) := by decide +kernel
theorem dX12_next_11 : decode cX12_next 11 = .ok (.aload_n 0, 1) := by decide +kernel
theorem dX12_next_12 : decode cX12_next 12 = .ok (.getfield 68, 3) := by decide +kernel
theorem dX12_next_15 : decode cX12_next 15 = .ok (.aload_n 0, 1) := by decide +kernel
theorem dX12_next_16 : decode cX12_next 16 = .ok (.getfield 62, 3) := by decide +kernel
theorem dX12_next_19 : decode cX12_next 19 = .ok (.iaload, 1) := by decide +kernel
theorem dX12_next_20 : decode cX12_next 20 = .ok (.goto 4, 3) := by decide +kernel
theorem dX12_next_23 : decode cX12_next 23 = .ok (.iconst (-1), 1) := by decide +kernel
theorem dX12_next_24 : decode cX12_next 24 = .ok (.ireturn, 1) := by decide +kernel
theorem dX12_takes_0 : decode cX12_takes 0 = .ok (.aload_n 0, 1) := by decide +kernel
theorem dX12_takes_1 : decode cX12_takes 1 = .ok (.invokevirtual 253, 3) := by decide +kernel
theorem dX12_takes_4 : decode cX12_takes 4 = .ok (.iload_n 1, 1) := by decide +kernel
theorem dX12_takes_5 : decode cX12_takes 5 = .ok (.if_icmp .eq 5, 3) := by decide +kernel
theorem dX12_takes_8 : decode cX12_takes 8 = .ok (.iconst 0, 1) := by decide +kernel
theorem dX12_takes_9 : decode cX12_takes 9 = .ok (.ireturn, 1) := by decide +kernel
theorem dX12_takes_10 : decode cX12_takes 10 = .ok (.aload_n 0, 1) := by decide +kernel
theorem dX12_takes_11 : decode cX12_takes 11 = .ok (.dup, 1) := by decide +kernel
theorem dX12_takes_12 : decode cX12_takes 12 = .ok (.getfield 62, 3) := by decide +kernel
theorem dX12_takes_15 : decode cX12_takes 15 = .ok (.iconst 1, 1) := by decide +kernel
theorem dX12_takes_16 : decode cX12_takes 16 = .ok (.iadd, 1) := by decide +kernel
theorem dX12_takes_17 : decode cX12_takes 17 = .ok (.putfield 62, 3) := by decide +kernel
theorem dX12_takes_20 : decode cX12_takes 20 = .ok (.iconst 1, 1) := by decide +kernel
theorem dX12_takes_21 : decode cX12_takes 21 = .ok (.ireturn, 1) := by decide +kernel
theorem dX12_takesWord_0 : decode cX12_takesWord 0 = .ok (.iconst 0, 1) := by decide +kernel
theorem dX12_takesWord_1 : decode cX12_takesWord 1 = .ok (.istore_n 3, 1) := by decide +kernel
theorem dX12_takesWord_2 : decode cX12_takesWord 2 = .ok (.iload_n 3, 1) := by decide +kernel
theorem dX12_takesWord_3 : decode cX12_takesWord 3 = .ok (.iload_n 2, 1) := by decide +kernel
theorem dX12_takesWord_4 : decode cX12_takesWord 4 = .ok (.if_icmp .ge 26, 3) := by decide +kernel
theorem dX12_takesWord_7 : decode cX12_takesWord 7 = .ok (.aload_n 0, 1) := by decide +kernel
theorem dX12_takesWord_8 : decode cX12_takesWord 8 = .ok (.aload_n 0, 1) := by decide +kernel
theorem dX12_takesWord_9 : decode cX12_takesWord 9 = .ok (.getfield 101, 3) := by decide +kernel
theorem dX12_takesWord_12 : decode cX12_takesWord 12 = .ok (.iload_n 1, 1) := by decide +kernel
theorem dX12_takesWord_13 : decode cX12_takesWord 13 = .ok (.iload_n 3, 1) := by decide +kernel
theorem dX12_takesWord_14 : decode cX12_takesWord 14 = .ok (.iadd, 1) := by decide +kernel
theorem dX12_takesWord_15 : decode cX12_takesWord 15 = .ok (.iaload, 1) := by decide +kernel
theorem dX12_takesWord_16 : decode cX12_takesWord 16 = .ok (.invokevirtual 257, 3) := by decide +kernel
theorem dX12_takesWord_19 : decode cX12_takesWord 19 = .ok (.ifCond .ne 5, 3) := by decide +kernel
theorem dX12_takesWord_22 : decode cX12_takesWord 22 = .ok (.iconst 0, 1) := by decide +kernel
theorem dX12_takesWord_23 : decode cX12_takesWord 23 = .ok (.ireturn, 1) := by decide +kernel
theorem dX12_takesWord_24 : decode cX12_takesWord 24 = .ok (.iinc 3 1, 3) := by decide +kernel
theorem dX12_takesWord_27 : decode cX12_takesWord 27 = .ok (.goto (-25), 3) := by decide +kernel
theorem dX12_takesWord_30 : decode cX12_takesWord 30 = .ok (.aload_n 0, 1) := by decide +kernel
theorem dX12_takesWord_31 : decode cX12_takesWord 31 = .ok (.bipush 32, 2) := by decide +kernel
theorem dX12_takesWord_33 : decode cX12_takesWord 33 = .ok (.invokevirtual 257, 3) := by decide +kernel
theorem dX12_takesWord_36 : decode cX12_takesWord 36 = .ok (.ireturn, 1) := by decide +kernel
theorem dX12_isDigit_0 : decode cX12_isDigit 0 = .ok (.aload_n 0, 1) := by decide +kernel
theorem dX12_isDigit_1 : decode cX12_isDigit 1 = .ok (.aload_n 0, 1) := by decide +kernel
theorem dX12_isDigit_2 : decode cX12_isDigit 2 = .ok (.invokevirtual 253, 3) := by decide +kernel
theorem dX12_isDigit_5 : decode cX12_isDigit 5 = .ok (.bipush 48, 2) := by decide +kernel
theorem dX12_isDigit_7 : decode cX12_isDigit 7 = .ok (.bipush 57, 2) := by decide +kernel
theorem dX12_isDigit_9 : decode cX12_isDigit 9 = .ok (.invokevirtual 242, 3) := by decide +kernel
theorem dX12_isDigit_12 : decode cX12_isDigit 12 = .ok (.ireturn, 1) := by decide +kernel
theorem dX12_takesNumber_0 : decode cX12_takesNumber 0 = .ok (.aload_n 0, 1) := by decide +kernel
theorem dX12_takesNumber_1 : decode cX12_takesNumber 1 = .ok (.invokevirtual 260, 3) := by decide +kernel
theorem dX12_takesNumber_4 : decode cX12_takesNumber 4 = .ok (.ifCond .ne 5, 3) := by decide +kernel
theorem dX12_takesNumber_7 : decode cX12_takesNumber 7 = .ok (.iconst 0, 1) := by decide +kernel
theorem dX12_takesNumber_8 : decode cX12_takesNumber 8 = .ok (.ireturn, 1) := by decide +kernel
theorem dX12_takesNumber_9 : decode cX12_takesNumber 9 = .ok (.aload_n 0, 1) := by decide +kernel
theorem dX12_takesNumber_10 : decode cX12_takesNumber 10 = .ok (.iconst 0, 1) := by decide +kernel
theorem dX12_takesNumber_11 : decode cX12_takesNumber 11 = .ok (.putfield 65, 3) := by decide +kernel
theorem dX12_takesNumber_14 : decode cX12_takesNumber 14 = .ok (.iconst 0, 1) := by decide +kernel
theorem dX12_takesNumber_15 : decode cX12_takesNumber 15 = .ok (.istore_n 1, 1) := by decide +kernel
theorem dX12_takesNumber_16 : decode cX12_takesNumber 16 = .ok (.iload_n 1, 1) := by decide +kernel
theorem dX12_takesNumber_17 : decode cX12_takesNumber 17 = .ok (.iconst 2, 1) := by decide +kernel
theorem dX12_takesNumber_18 : decode cX12_takesNumber 18 = .ok (.if_icmp .ge 45, 3) := by decide +kernel
theorem dX12_takesNumber_21 : decode cX12_takesNumber 21 = .ok (.aload_n 0, 1) := by decide +kernel
theorem dX12_takesNumber_22 : decode cX12_takesNumber 22 = .ok (.invokevirtual 260, 3) := by decide +kernel
theorem dX12_takesNumber_25 : decode cX12_takesNumber 25 = .ok (.ifCond .eq 38, 3) := by decide +kernel
theorem dX12_takesNumber_28 : decode cX12_takesNumber 28 = .ok (.aload_n 0, 1) := by decide +kernel
theorem dX12_takesNumber_29 : decode cX12_takesNumber 29 = .ok (.bipush 10, 2) := by decide +kernel
theorem dX12_takesNumber_31 : decode cX12_takesNumber 31 = .ok (.aload_n 0, 1) := by decide +kernel
theorem dX12_takesNumber_32 : decode cX12_takesNumber 32 = .ok (.getfield 65, 3) := by decide +kernel
theorem dX12_takesNumber_35 : decode cX12_takesNumber 35 = .ok (.imul, 1) := by decide +kernel
theorem dX12_takesNumber_36 : decode cX12_takesNumber 36 = .ok (.aload_n 0, 1) := by decide +kernel
theorem dX12_takesNumber_37 : decode cX12_takesNumber 37 = .ok (.invokevirtual 253, 3) := by decide +kernel
theorem dX12_takesNumber_40 : decode cX12_takesNumber 40 = .ok (.iadd, 1) := by decide +kernel
theorem dX12_takesNumber_41 : decode cX12_takesNumber 41 = .ok (.bipush 48, 2) := by decide +kernel
theorem dX12_takesNumber_43 : decode cX12_takesNumber 43 = .ok (.isub, 1) := by decide +kernel
theorem dX12_takesNumber_44 : decode cX12_takesNumber 44 = .ok (.putfield 65, 3) := by decide +kernel
theorem dX12_takesNumber_47 : decode cX12_takesNumber 47 = .ok (.aload_n 0, 1) := by decide +kernel
theorem dX12_takesNumber_48 : decode cX12_takesNumber 48 = .ok (.dup, 1) := by decide +kernel
theorem dX12_takesNumber_49 : decode cX12_takesNumber 49 = .ok (.getfield 62, 3) := by decide +kernel
theorem dX12_takesNumber_52 : decode cX12_takesNumber 52 = .ok (.iconst 1, 1) := by decide +kernel
theorem dX12_takesNumber_53 : decode cX12_takesNumber 53 = .ok (.iadd, 1) := by decide +kernel
theorem dX12_takesNumber_54 : decode cX12_takesNumber 54 = .ok (.putfield 62, 3) := by decide +kernel
theorem dX12_takesNumber_57 : decode cX12_takesNumber 57 = .ok (.iinc 1 1, 3) := by decide +kernel
theorem dX12_takesNumber_60 : decode cX12_takesNumber 60 = .ok (.goto (-44), 3) := by decide +kernel
theorem dX12_takesNumber_63 : decode cX12_takesNumber 63 = .ok (.iconst 1, 1) := by decide +kernel
theorem dX12_takesNumber_64 : decode cX12_takesNumber 64 = .ok (.ireturn, 1) := by decide +kernel
theorem dX12_emits_0 : decode cX12_emits 0 = .ok (.aload_n 0, 1) := by decide +kernel
theorem dX12_emits_1 : decode cX12_emits 1 = .ok (.getfield 86, 3) := by decide +kernel
theorem dX12_emits_4 : decode cX12_emits 4 = .ok (.aload_n 0, 1) := by decide +kernel
theorem dX12_emits_5 : decode cX12_emits 5 = .ok (.getfield 92, 3) := by decide +kernel
theorem dX12_emits_8 : decode cX12_emits 8 = .ok (.iload_n 1, 1) := by decide +kernel
theorem dX12_emits_9 : decode cX12_emits 9 = .ok (.iastore, 1) := by decide +kernel
theorem dX12_emits_10 : decode cX12_emits 10 = .ok (.aload_n 0, 1) := by decide +kernel
theorem dX12_emits_11 : decode cX12_emits 11 = .ok (.dup, 1) := by decide +kernel
theorem dX12_emits_12 : decode cX12_emits 12 = .ok (.getfield 92, 3) := by decide +kernel
theorem dX12_emits_15 : decode cX12_emits 15 = .ok (.iconst 1, 1) := by decide +kernel
theorem dX12_emits_16 : decode cX12_emits 16 = .ok (.iadd, 1) := by decide +kernel
theorem dX12_emits_17 : decode cX12_emits 17 = .ok (.putfield 92, 3) := by decide +kernel
theorem dX12_emits_20 : decode cX12_emits 20 = .ok (.return_, 1) := by decide +kernel
theorem dX12_whole_0 : decode cX12_whole 0 = .ok (.aload_n 0, 1) := by decide +kernel
theorem dX12_whole_1 : decode cX12_whole 1 = .ok (.getfield 95, 3) := by decide +kernel
theorem dX12_whole_4 : decode cX12_whole 4 = .ok (.ifCond .le 48, 3) := by decide +kernel
theorem dX12_whole_7 : decode cX12_whole 7 = .ok (.aload_n 0, 1) := by decide +kernel
theorem dX12_whole_8 : decode cX12_whole 8 = .ok (.getfield 89, 3) := by decide +kernel
theorem dX12_whole_11 : decode cX12_whole 11 = .ok (.aload_n 0, 1) := by decide +kernel
theorem dX12_whole_12 : decode cX12_whole 12 = .ok (.getfield 95, 3) := by decide +kernel
theorem dX12_whole_15 : decode cX12_whole 15 = .ok (.iconst 1, 1) := by decide +kernel
theorem dX12_whole_16 : decode cX12_whole 16 = .ok (.isub, 1) := by decide +kernel
theorem dX12_whole_17 : decode cX12_whole 17 = .ok (.iaload, 1) := by decide +kernel
theorem dX12_whole_18 : decode cX12_whole 18 = .ok (.bipush 33, 2) := by decide +kernel
theorem dX12_whole_20 : decode cX12_whole 20 = .ok (.if_icmp .ne 32, 3) := by decide +kernel
theorem dX12_whole_23 : decode cX12_whole 23 = .ok (.aload_n 0, 1) := by decide +kernel
theorem dX12_whole_24 : decode cX12_whole 24 = .ok (.bipush (-33), 2) := by decide +kernel
theorem dX12_whole_26 : decode cX12_whole 26 = .ok (.invokevirtual 264, 3) := by decide +kernel
theorem dX12_whole_29 : decode cX12_whole 29 = .ok (.aload_n 0, 1) := by decide +kernel
theorem dX12_whole_30 : decode cX12_whole 30 = .ok (.dup, 1) := by decide +kernel
theorem dX12_whole_31 : decode cX12_whole 31 = .ok (.getfield 95, 3) := by decide +kernel
theorem dX12_whole_34 : decode cX12_whole 34 = .ok (.iconst 1, 1) := by decide +kernel
theorem dX12_whole_35 : decode cX12_whole 35 = .ok (.isub, 1) := by decide +kernel
theorem dX12_whole_36 : decode cX12_whole 36 = .ok (.putfield 95, 3) := by decide +kernel
theorem dX12_whole_39 : decode cX12_whole 39 = .ok (.aload_n 0, 1) := by decide +kernel
theorem dX12_whole_40 : decode cX12_whole 40 = .ok (.dup, 1) := by decide +kernel
theorem dX12_whole_41 : decode cX12_whole 41 = .ok (.getfield 98, 3) := by decide +kernel
theorem dX12_whole_44 : decode cX12_whole 44 = .ok (.iconst 1, 1) := by decide +kernel
theorem dX12_whole_45 : decode cX12_whole 45 = .ok (.isub, 1) := by decide +kernel
theorem dX12_whole_46 : decode cX12_whole 46 = .ok (.putfield 98, 3) := by decide +kernel
theorem dX12_whole_49 : decode cX12_whole 49 = .ok (.goto (-49), 3) := by decide +kernel
theorem dX12_whole_52 : decode cX12_whole 52 = .ok (.return_, 1) := by decide +kernel
theorem dX12_settle_0 : decode cX12_settle 0 = .ok (.aload_n 0, 1) := by decide +kernel
theorem dX12_settle_1 : decode cX12_settle 1 = .ok (.getfield 95, 3) := by decide +kernel
theorem dX12_settle_4 : decode cX12_settle 4 = .ok (.ifCond .le 68, 3) := by decide +kernel
theorem dX12_settle_7 : decode cX12_settle 7 = .ok (.aload_n 0, 1) := by decide +kernel
theorem dX12_settle_8 : decode cX12_settle 8 = .ok (.getfield 89, 3) := by decide +kernel
theorem dX12_settle_11 : decode cX12_settle 11 = .ok (.aload_n 0, 1) := by decide +kernel
theorem dX12_settle_12 : decode cX12_settle 12 = .ok (.getfield 95, 3) := by decide +kernel
theorem dX12_settle_15 : decode cX12_settle 15 = .ok (.iconst 1, 1) := by decide +kernel
theorem dX12_settle_16 : decode cX12_settle 16 = .ok (.isub, 1) := by decide +kernel
theorem dX12_settle_17 : decode cX12_settle 17 = .ok (.iaload, 1) := by decide +kernel
theorem dX12_settle_18 : decode cX12_settle 18 = .ok (.bipush 38, 2) := by decide +kernel
theorem dX12_settle_20 : decode cX12_settle 20 = .ok (.if_icmp .eq 25, 3) := by decide +kernel
theorem dX12_settle_23 : decode cX12_settle 23 = .ok (.aload_n 0, 1) := by decide +kernel
theorem dX12_settle_24 : decode cX12_settle 24 = .ok (.getfield 89, 3) := by decide +kernel
theorem dX12_settle_27 : decode cX12_settle 27 = .ok (.aload_n 0, 1) := by decide +kernel
theorem dX12_settle_28 : decode cX12_settle 28 = .ok (.getfield 95, 3) := by decide +kernel
theorem dX12_settle_31 : decode cX12_settle 31 = .ok (.iconst 1, 1) := by decide +kernel
theorem dX12_settle_32 : decode cX12_settle 32 = .ok (.isub, 1) := by decide +kernel
theorem dX12_settle_33 : decode cX12_settle 33 = .ok (.iaload, 1) := by decide +kernel
theorem dX12_settle_34 : decode cX12_settle 34 = .ok (.bipush 124, 2) := by decide +kernel
theorem dX12_settle_36 : decode cX12_settle 36 = .ok (.if_icmp .ne 36, 3) := by decide +kernel
theorem dX12_settle_39 : decode cX12_settle 39 = .ok (.iload_n 1, 1) := by decide +kernel
theorem dX12_settle_40 : decode cX12_settle 40 = .ok (.bipush 38, 2) := by decide +kernel
theorem dX12_settle_42 : decode cX12_settle 42 = .ok (.if_icmp .eq 30, 3) := by decide +kernel
theorem dX12_settle_45 : decode cX12_settle 45 = .ok (.aload_n 0, 1) := by decide +kernel
theorem dX12_settle_46 : decode cX12_settle 46 = .ok (.dup, 1) := by decide +kernel
theorem dX12_settle_47 : decode cX12_settle 47 = .ok (.getfield 95, 3) := by decide +kernel
theorem dX12_settle_50 : decode cX12_settle 50 = .ok (.iconst 1, 1) := by decide +kernel
theorem dX12_settle_51 : decode cX12_settle 51 = .ok (.isub, 1) := by decide +kernel
theorem dX12_settle_52 : decode cX12_settle 52 = .ok (.putfield 95, 3) := by decide +kernel
theorem dX12_settle_55 : decode cX12_settle 55 = .ok (.aload_n 0, 1) := by decide +kernel
theorem dX12_settle_56 : decode cX12_settle 56 = .ok (.aload_n 0, 1) := by decide +kernel
theorem dX12_settle_57 : decode cX12_settle 57 = .ok (.getfield 89, 3) := by decide +kernel
theorem dX12_settle_60 : decode cX12_settle 60 = .ok (.aload_n 0, 1) := by decide +kernel
theorem dX12_settle_61 : decode cX12_settle 61 = .ok (.getfield 95, 3) := by decide +kernel
theorem dX12_settle_64 : decode cX12_settle 64 = .ok (.iaload, 1) := by decide +kernel
theorem dX12_settle_65 : decode cX12_settle 65 = .ok (.ineg, 1) := by decide +kernel
theorem dX12_settle_66 : decode cX12_settle 66 = .ok (.invokevirtual 264, 3) := by decide +kernel
theorem dX12_settle_69 : decode cX12_settle 69 = .ok (.goto (-69), 3) := by decide +kernel
theorem dX12_settle_72 : decode cX12_settle 72 = .ok (.return_, 1) := by decide +kernel
theorem dX12_place_0 : decode cX12_place 0 = .ok (.iload_n 1, 1) := by decide +kernel
theorem dX12_place_1 : decode cX12_place 1 = .ok (.tableswitch 99 99 116 #[93, 99, 99, 99, 99, 97, 99, 99, 89, 99, 99, 95, 99, 87, 99, 99, 99, 91], 87) := by decide +kernel
theorem dX12_place_88 : decode cX12_place 88 = .ok (.iconst 0, 1) := by decide +kernel
theorem dX12_place_89 : decode cX12_place 89 = .ok (.ireturn, 1) := by decide +kernel
theorem dX12_place_90 : decode cX12_place 90 = .ok (.iconst 1, 1) := by decide +kernel
theorem dX12_place_91 : decode cX12_place 91 = .ok (.ireturn, 1) := by decide +kernel
theorem dX12_place_92 : decode cX12_place 92 = .ok (.iconst 2, 1) := by decide +kernel
theorem dX12_place_93 : decode cX12_place 93 = .ok (.ireturn, 1) := by decide +kernel
theorem dX12_place_94 : decode cX12_place 94 = .ok (.iconst 3, 1) := by decide +kernel
theorem dX12_place_95 : decode cX12_place 95 = .ok (.ireturn, 1) := by decide +kernel
theorem dX12_place_96 : decode cX12_place 96 = .ok (.iconst 4, 1) := by decide +kernel
theorem dX12_place_97 : decode cX12_place 97 = .ok (.ireturn, 1) := by decide +kernel
theorem dX12_place_98 : decode cX12_place 98 = .ok (.iconst 5, 1) := by decide +kernel
theorem dX12_place_99 : decode cX12_place 99 = .ok (.ireturn, 1) := by decide +kernel
theorem dX12_place_100 : decode cX12_place 100 = .ok (.iconst (-1), 1) := by decide +kernel
theorem dX12_place_101 : decode cX12_place 101 = .ok (.ireturn, 1) := by decide +kernel
theorem dX12_takesTest_0 : decode cX12_takesTest 0 = .ok (.aload_n 0, 1) := by decide +kernel
theorem dX12_takesTest_1 : decode cX12_takesTest 1 = .ok (.aload_n 0, 1) := by decide +kernel
theorem dX12_takesTest_2 : decode cX12_takesTest 2 = .ok (.invokevirtual 253, 3) := by decide +kernel
theorem dX12_takesTest_5 : decode cX12_takesTest 5 = .ok (.invokevirtual 268, 3) := by decide +kernel
theorem dX12_takesTest_8 : decode cX12_takesTest 8 = .ok (.istore_n 1, 1) := by decide +kernel
theorem dX12_takesTest_9 : decode cX12_takesTest 9 = .ok (.iload_n 1, 1) := by decide +kernel
theorem dX12_takesTest_10 : decode cX12_takesTest 10 = .ok (.ifCond .ge 5, 3) := by decide +kernel
theorem dX12_takesTest_13 : decode cX12_takesTest 13 = .ok (.iconst 0, 1) := by decide +kernel
theorem dX12_takesTest_14 : decode cX12_takesTest 14 = .ok (.ireturn, 1) := by decide +kernel
theorem dX12_takesTest_15 : decode cX12_takesTest 15 = .ok (.aload_n 0, 1) := by decide +kernel
theorem dX12_takesTest_16 : decode cX12_takesTest 16 = .ok (.dup, 1) := by decide +kernel
theorem dX12_takesTest_17 : decode cX12_takesTest 17 = .ok (.getfield 62, 3) := by decide +kernel
theorem dX12_takesTest_20 : decode cX12_takesTest 20 = .ok (.iconst 1, 1) := by decide +kernel
theorem dX12_takesTest_21 : decode cX12_takesTest 21 = .ok (.iadd, 1) := by decide +kernel
theorem dX12_takesTest_22 : decode cX12_takesTest 22 = .ok (.putfield 62, 3) := by decide +kernel
theorem dX12_takesTest_25 : decode cX12_takesTest 25 = .ok (.aload_n 0, 1) := by decide +kernel
theorem dX12_takesTest_26 : decode cX12_takesTest 26 = .ok (.invokevirtual 253, 3) := by decide +kernel
theorem dX12_takesTest_29 : decode cX12_takesTest 29 = .ok (.istore_n 2, 1) := by decide +kernel
theorem dX12_takesTest_30 : decode cX12_takesTest 30 = .ok (.aload_n 0, 1) := by decide +kernel
theorem dX12_takesTest_31 : decode cX12_takesTest 31 = .ok (.iload_n 2, 1) := by decide +kernel
theorem dX12_takesTest_32 : decode cX12_takesTest 32 = .ok (.bipush 60, 2) := by decide +kernel
theorem dX12_takesTest_34 : decode cX12_takesTest 34 = .ok (.bipush 62, 2) := by decide +kernel
theorem dX12_takesTest_36 : decode cX12_takesTest 36 = .ok (.invokevirtual 242, 3) := by decide +kernel
theorem dX12_takesTest_39 : decode cX12_takesTest 39 = .ok (.ifCond .ne 5, 3) := by decide +kernel
theorem dX12_takesTest_42 : decode cX12_takesTest 42 = .ok (.iconst 0, 1) := by decide +kernel
theorem dX12_takesTest_43 : decode cX12_takesTest 43 = .ok (.ireturn, 1) := by decide +kernel
theorem dX12_takesTest_44 : decode cX12_takesTest 44 = .ok (.aload_n 0, 1) := by decide +kernel
theorem dX12_takesTest_45 : decode cX12_takesTest 45 = .ok (.dup, 1) := by decide +kernel
theorem dX12_takesTest_46 : decode cX12_takesTest 46 = .ok (.getfield 62, 3) := by decide +kernel
theorem dX12_takesTest_49 : decode cX12_takesTest 49 = .ok (.iconst 1, 1) := by decide +kernel
theorem dX12_takesTest_50 : decode cX12_takesTest 50 = .ok (.iadd, 1) := by decide +kernel
theorem dX12_takesTest_51 : decode cX12_takesTest 51 = .ok (.putfield 62, 3) := by decide +kernel
theorem dX12_takesTest_54 : decode cX12_takesTest 54 = .ok (.aload_n 0, 1) := by decide +kernel
theorem dX12_takesTest_55 : decode cX12_takesTest 55 = .ok (.invokevirtual 272, 3) := by decide +kernel
theorem dX12_takesTest_58 : decode cX12_takesTest 58 = .ok (.ifCond .ne 5, 3) := by decide +kernel
theorem dX12_takesTest_61 : decode cX12_takesTest 61 = .ok (.iconst 0, 1) := by decide +kernel
theorem dX12_takesTest_62 : decode cX12_takesTest 62 = .ok (.ireturn, 1) := by decide +kernel
theorem dX12_takesTest_63 : decode cX12_takesTest 63 = .ok (.aload_n 0, 1) := by decide +kernel
theorem dX12_takesTest_64 : decode cX12_takesTest 64 = .ok (.sipush 1000, 3) := by decide +kernel
theorem dX12_takesTest_67 : decode cX12_takesTest 67 = .ok (.iload_n 1, 1) := by decide +kernel
theorem dX12_takesTest_68 : decode cX12_takesTest 68 = .ok (.imul, 1) := by decide +kernel
theorem dX12_takesTest_69 : decode cX12_takesTest 69 = .ok (.bipush 100, 2) := by decide +kernel
theorem dX12_takesTest_71 : decode cX12_takesTest 71 = .ok (.iload_n 2, 1) := by decide +kernel
theorem dX12_takesTest_72 : decode cX12_takesTest 72 = .ok (.bipush 60, 2) := by decide +kernel
theorem dX12_takesTest_74 : decode cX12_takesTest 74 = .ok (.isub, 1) := by decide +kernel
theorem dX12_takesTest_75 : decode cX12_takesTest 75 = .ok (.imul, 1) := by decide +kernel
theorem dX12_takesTest_76 : decode cX12_takesTest 76 = .ok (.iadd, 1) := by decide +kernel
theorem dX12_takesTest_77 : decode cX12_takesTest 77 = .ok (.aload_n 0, 1) := by decide +kernel
theorem dX12_takesTest_78 : decode cX12_takesTest 78 = .ok (.getfield 65, 3) := by decide +kernel
theorem dX12_takesTest_81 : decode cX12_takesTest 81 = .ok (.iadd, 1) := by decide +kernel
theorem dX12_takesTest_82 : decode cX12_takesTest 82 = .ok (.invokevirtual 264, 3) := by decide +kernel
theorem dX12_takesTest_85 : decode cX12_takesTest 85 = .ok (.aload_n 0, 1) := by decide +kernel
theorem dX12_takesTest_86 : decode cX12_takesTest 86 = .ok (.invokevirtual 275, 3) := by decide +kernel
theorem dX12_takesTest_89 : decode cX12_takesTest 89 = .ok (.iconst 1, 1) := by decide +kernel
theorem dX12_takesTest_90 : decode cX12_takesTest 90 = .ok (.ireturn, 1) := by decide +kernel
theorem dX12_takesE_0 : decode cX12_takesE 0 = .ok (.aload_n 0, 1) := by decide +kernel
theorem dX12_takesE_1 : decode cX12_takesE 1 = .ok (.iconst 0, 1) := by decide +kernel
theorem dX12_takesE_2 : decode cX12_takesE 2 = .ok (.putfield 95, 3) := by decide +kernel
theorem dX12_takesE_5 : decode cX12_takesE 5 = .ok (.aload_n 0, 1) := by decide +kernel
theorem dX12_takesE_6 : decode cX12_takesE 6 = .ok (.iconst 0, 1) := by decide +kernel
theorem dX12_takesE_7 : decode cX12_takesE 7 = .ok (.putfield 98, 3) := by decide +kernel
theorem dX12_takesE_10 : decode cX12_takesE 10 = .ok (.aload_n 0, 1) := by decide +kernel
theorem dX12_takesE_11 : decode cX12_takesE 11 = .ok (.getfield 80, 3) := by decide +kernel
theorem dX12_takesE_14 : decode cX12_takesE 14 = .ok (.iload_n 1, 1) := by decide +kernel
theorem dX12_takesE_15 : decode cX12_takesE 15 = .ok (.aload_n 0, 1) := by decide +kernel
theorem dX12_takesE_16 : decode cX12_takesE 16 = .ok (.getfield 92, 3) := by decide +kernel
theorem dX12_takesE_19 : decode cX12_takesE 19 = .ok (.iastore, 1) := by decide +kernel
theorem dX12_takesE_20 : decode cX12_takesE 20 = .ok (.iconst 1, 1) := by decide +kernel
theorem dX12_takesE_21 : decode cX12_takesE 21 = .ok (.istore_n 2, 1) := by decide +kernel
theorem dX12_takesE_22 : decode cX12_takesE 22 = .ok (.aload_n 0, 1) := by decide +kernel
theorem dX12_takesE_23 : decode cX12_takesE 23 = .ok (.invokevirtual 253, 3) := by decide +kernel
theorem dX12_takesE_26 : decode cX12_takesE 26 = .ok (.istore_n 3, 1) := by decide +kernel
theorem dX12_takesE_27 : decode cX12_takesE 27 = .ok (.iload_n 2, 1) := by decide +kernel
theorem dX12_takesE_28 : decode cX12_takesE 28 = .ok (.ifCond .eq 82, 3) := by decide +kernel
theorem dX12_takesE_31 : decode cX12_takesE 31 = .ok (.iload_n 3, 1) := by decide +kernel
theorem dX12_takesE_32 : decode cX12_takesE 32 = .ok (.bipush 33, 2) := by decide +kernel
theorem dX12_takesE_34 : decode cX12_takesE 34 = .ok (.if_icmp .eq 9, 3) := by decide +kernel
theorem dX12_takesE_37 : decode cX12_takesE 37 = .ok (.iload_n 3, 1) := by decide +kernel
theorem dX12_takesE_38 : decode cX12_takesE 38 = .ok (.bipush 40, 2) := by decide +kernel
theorem dX12_takesE_40 : decode cX12_takesE 40 = .ok (.if_icmp .ne 56, 3) := by decide +kernel
theorem dX12_takesE_43 : decode cX12_takesE 43 = .ok (.aload_n 0, 1) := by decide +kernel
theorem dX12_takesE_44 : decode cX12_takesE 44 = .ok (.getfield 98, 3) := by decide +kernel
theorem dX12_takesE_47 : decode cX12_takesE 47 = .ok (.iconst 4, 1) := by decide +kernel
theorem dX12_takesE_48 : decode cX12_takesE 48 = .ok (.if_icmp .ne 5, 3) := by decide +kernel
theorem dX12_takesE_51 : decode cX12_takesE 51 = .ok (.iconst 0, 1) := by decide +kernel
theorem dX12_takesE_52 : decode cX12_takesE 52 = .ok (.ireturn, 1) := by decide +kernel
theorem dX12_takesE_53 : decode cX12_takesE 53 = .ok (.aload_n 0, 1) := by decide +kernel
theorem dX12_takesE_54 : decode cX12_takesE 54 = .ok (.dup, 1) := by decide +kernel
theorem dX12_takesE_55 : decode cX12_takesE 55 = .ok (.getfield 98, 3) := by decide +kernel
theorem dX12_takesE_58 : decode cX12_takesE 58 = .ok (.iconst 1, 1) := by decide +kernel
theorem dX12_takesE_59 : decode cX12_takesE 59 = .ok (.iadd, 1) := by decide +kernel
theorem dX12_takesE_60 : decode cX12_takesE 60 = .ok (.putfield 98, 3) := by decide +kernel
theorem dX12_takesE_63 : decode cX12_takesE 63 = .ok (.aload_n 0, 1) := by decide +kernel
theorem dX12_takesE_64 : decode cX12_takesE 64 = .ok (.getfield 89, 3) := by decide +kernel
theorem dX12_takesE_67 : decode cX12_takesE 67 = .ok (.aload_n 0, 1) := by decide +kernel
theorem dX12_takesE_68 : decode cX12_takesE 68 = .ok (.getfield 95, 3) := by decide +kernel
theorem dX12_takesE_71 : decode cX12_takesE 71 = .ok (.iload_n 3, 1) := by decide +kernel
theorem dX12_takesE_72 : decode cX12_takesE 72 = .ok (.iastore, 1) := by decide +kernel
theorem dX12_takesE_73 : decode cX12_takesE 73 = .ok (.aload_n 0, 1) := by decide +kernel
theorem dX12_takesE_74 : decode cX12_takesE 74 = .ok (.dup, 1) := by decide +kernel
theorem dX12_takesE_75 : decode cX12_takesE 75 = .ok (.getfield 95, 3) := by decide +kernel
theorem dX12_takesE_78 : decode cX12_takesE 78 = .ok (.iconst 1, 1) := by decide +kernel
theorem dX12_takesE_79 : decode cX12_takesE 79 = .ok (.iadd, 1) := by decide +kernel
theorem dX12_takesE_80 : decode cX12_takesE 80 = .ok (.putfield 95, 3) := by decide +kernel
theorem dX12_takesE_83 : decode cX12_takesE 83 = .ok (.aload_n 0, 1) := by decide +kernel
theorem dX12_takesE_84 : decode cX12_takesE 84 = .ok (.dup, 1) := by decide +kernel
theorem dX12_takesE_85 : decode cX12_takesE 85 = .ok (.getfield 62, 3) := by decide +kernel
theorem dX12_takesE_88 : decode cX12_takesE 88 = .ok (.iconst 1, 1) := by decide +kernel
theorem dX12_takesE_89 : decode cX12_takesE 89 = .ok (.iadd, 1) := by decide +kernel
theorem dX12_takesE_90 : decode cX12_takesE 90 = .ok (.putfield 62, 3) := by decide +kernel
theorem dX12_takesE_93 : decode cX12_takesE 93 = .ok (.goto (-71), 3) := by decide +kernel
theorem dX12_takesE_96 : decode cX12_takesE 96 = .ok (.aload_n 0, 1) := by decide +kernel
theorem dX12_takesE_97 : decode cX12_takesE 97 = .ok (.invokevirtual 278, 3) := by decide +kernel
theorem dX12_takesE_100 : decode cX12_takesE 100 = .ok (.ifCond .eq 8, 3) := by decide +kernel
theorem dX12_takesE_103 : decode cX12_takesE 103 = .ok (.iconst 0, 1) := by decide +kernel
theorem dX12_takesE_104 : decode cX12_takesE 104 = .ok (.istore_n 2, 1) := by decide +kernel
theorem dX12_takesE_105 : decode cX12_takesE 105 = .ok (.goto (-83), 3) := by decide +kernel
theorem dX12_takesE_108 : decode cX12_takesE 108 = .ok (.iconst 0, 1) := by decide +kernel
theorem dX12_takesE_109 : decode cX12_takesE 109 = .ok (.ireturn, 1) := by decide +kernel
theorem dX12_takesE_110 : decode cX12_takesE 110 = .ok (.iload_n 3, 1) := by decide +kernel
theorem dX12_takesE_111 : decode cX12_takesE 111 = .ok (.bipush 38, 2) := by decide +kernel
theorem dX12_takesE_113 : decode cX12_takesE 113 = .ok (.if_icmp .eq 9, 3) := by decide +kernel
theorem dX12_takesE_116 : decode cX12_takesE 116 = .ok (.iload_n 3, 1) := by decide +kernel
theorem dX12_takesE_117 : decode cX12_takesE 117 = .ok (.bipush 124, 2) := by decide +kernel
theorem dX12_takesE_119 : decode cX12_takesE 119 = .ok (.if_icmp .ne 43, 3) := by decide +kernel
theorem dX12_takesE_122 : decode cX12_takesE 122 = .ok (.aload_n 0, 1) := by decide +kernel
theorem dX12_takesE_123 : decode cX12_takesE 123 = .ok (.iload_n 3, 1) := by decide +kernel
theorem dX12_takesE_124 : decode cX12_takesE 124 = .ok (.invokevirtual 281, 3) := by decide +kernel
theorem dX12_takesE_127 : decode cX12_takesE 127 = .ok (.aload_n 0, 1) := by decide +kernel
theorem dX12_takesE_128 : decode cX12_takesE 128 = .ok (.getfield 89, 3) := by decide +kernel
theorem dX12_takesE_131 : decode cX12_takesE 131 = .ok (.aload_n 0, 1) := by decide +kernel
theorem dX12_takesE_132 : decode cX12_takesE 132 = .ok (.getfield 95, 3) := by decide +kernel
theorem dX12_takesE_135 : decode cX12_takesE 135 = .ok (.iload_n 3, 1) := by decide +kernel
theorem dX12_takesE_136 : decode cX12_takesE 136 = .ok (.iastore, 1) := by decide +kernel
theorem dX12_takesE_137 : decode cX12_takesE 137 = .ok (.aload_n 0, 1) := by decide +kernel
theorem dX12_takesE_138 : decode cX12_takesE 138 = .ok (.dup, 1) := by decide +kernel
theorem dX12_takesE_139 : decode cX12_takesE 139 = .ok (.getfield 95, 3) := by decide +kernel
theorem dX12_takesE_142 : decode cX12_takesE 142 = .ok (.iconst 1, 1) := by decide +kernel
theorem dX12_takesE_143 : decode cX12_takesE 143 = .ok (.iadd, 1) := by decide +kernel
theorem dX12_takesE_144 : decode cX12_takesE 144 = .ok (.putfield 95, 3) := by decide +kernel
theorem dX12_takesE_147 : decode cX12_takesE 147 = .ok (.iconst 1, 1) := by decide +kernel
theorem dX12_takesE_148 : decode cX12_takesE 148 = .ok (.istore_n 2, 1) := by decide +kernel
theorem dX12_takesE_149 : decode cX12_takesE 149 = .ok (.aload_n 0, 1) := by decide +kernel
theorem dX12_takesE_150 : decode cX12_takesE 150 = .ok (.dup, 1) := by decide +kernel
theorem dX12_takesE_151 : decode cX12_takesE 151 = .ok (.getfield 62, 3) := by decide +kernel
theorem dX12_takesE_154 : decode cX12_takesE 154 = .ok (.iconst 1, 1) := by decide +kernel
theorem dX12_takesE_155 : decode cX12_takesE 155 = .ok (.iadd, 1) := by decide +kernel
theorem dX12_takesE_156 : decode cX12_takesE 156 = .ok (.putfield 62, 3) := by decide +kernel
theorem dX12_takesE_159 : decode cX12_takesE 159 = .ok (.goto (-137), 3) := by decide +kernel
theorem dX12_takesE_162 : decode cX12_takesE 162 = .ok (.aload_n 0, 1) := by decide +kernel
theorem dX12_takesE_163 : decode cX12_takesE 163 = .ok (.bipush 124, 2) := by decide +kernel
theorem dX12_takesE_165 : decode cX12_takesE 165 = .ok (.invokevirtual 281, 3) := by decide +kernel
theorem dX12_takesE_168 : decode cX12_takesE 168 = .ok (.aload_n 0, 1) := by decide +kernel
theorem dX12_takesE_169 : decode cX12_takesE 169 = .ok (.getfield 83, 3) := by decide +kernel
theorem dX12_takesE_172 : decode cX12_takesE 172 = .ok (.iload_n 1, 1) := by decide +kernel
theorem dX12_takesE_173 : decode cX12_takesE 173 = .ok (.aload_n 0, 1) := by decide +kernel
theorem dX12_takesE_174 : decode cX12_takesE 174 = .ok (.getfield 92, 3) := by decide +kernel
theorem dX12_takesE_177 : decode cX12_takesE 177 = .ok (.iastore, 1) := by decide +kernel
theorem dX12_takesE_178 : decode cX12_takesE 178 = .ok (.aload_n 0, 1) := by decide +kernel
theorem dX12_takesE_179 : decode cX12_takesE 179 = .ok (.getfield 95, 3) := by decide +kernel
theorem dX12_takesE_182 : decode cX12_takesE 182 = .ok (.ifCond .ne 5, 3) := by decide +kernel
theorem dX12_takesE_185 : decode cX12_takesE 185 = .ok (.iconst 1, 1) := by decide +kernel
theorem dX12_takesE_186 : decode cX12_takesE 186 = .ok (.ireturn, 1) := by decide +kernel
theorem dX12_takesE_187 : decode cX12_takesE 187 = .ok (.iload_n 3, 1) := by decide +kernel
theorem dX12_takesE_188 : decode cX12_takesE 188 = .ok (.bipush 41, 2) := by decide +kernel
theorem dX12_takesE_190 : decode cX12_takesE 190 = .ok (.if_icmp .eq 5, 3) := by decide +kernel
theorem dX12_takesE_193 : decode cX12_takesE 193 = .ok (.iconst 0, 1) := by decide +kernel
theorem dX12_takesE_194 : decode cX12_takesE 194 = .ok (.ireturn, 1) := by decide +kernel
theorem dX12_takesE_195 : decode cX12_takesE 195 = .ok (.aload_n 0, 1) := by decide +kernel
theorem dX12_takesE_196 : decode cX12_takesE 196 = .ok (.dup, 1) := by decide +kernel
theorem dX12_takesE_197 : decode cX12_takesE 197 = .ok (.getfield 95, 3) := by decide +kernel
theorem dX12_takesE_200 : decode cX12_takesE 200 = .ok (.iconst 1, 1) := by decide +kernel
theorem dX12_takesE_201 : decode cX12_takesE 201 = .ok (.isub, 1) := by decide +kernel
theorem dX12_takesE_202 : decode cX12_takesE 202 = .ok (.putfield 95, 3) := by decide +kernel
theorem dX12_takesE_205 : decode cX12_takesE 205 = .ok (.aload_n 0, 1) := by decide +kernel
theorem dX12_takesE_206 : decode cX12_takesE 206 = .ok (.dup, 1) := by decide +kernel
theorem dX12_takesE_207 : decode cX12_takesE 207 = .ok (.getfield 98, 3) := by decide +kernel
theorem dX12_takesE_210 : decode cX12_takesE 210 = .ok (.iconst 1, 1) := by decide +kernel
theorem dX12_takesE_211 : decode cX12_takesE 211 = .ok (.isub, 1) := by decide +kernel
theorem dX12_takesE_212 : decode cX12_takesE 212 = .ok (.putfield 98, 3) := by decide +kernel
theorem dX12_takesE_215 : decode cX12_takesE 215 = .ok (.aload_n 0, 1) := by decide +kernel
theorem dX12_takesE_216 : decode cX12_takesE 216 = .ok (.dup, 1) := by decide +kernel
theorem dX12_takesE_217 : decode cX12_takesE 217 = .ok (.getfield 62, 3) := by decide +kernel
theorem dX12_takesE_220 : decode cX12_takesE 220 = .ok (.iconst 1, 1) := by decide +kernel
theorem dX12_takesE_221 : decode cX12_takesE 221 = .ok (.iadd, 1) := by decide +kernel
theorem dX12_takesE_222 : decode cX12_takesE 222 = .ok (.putfield 62, 3) := by decide +kernel
theorem dX12_takesE_225 : decode cX12_takesE 225 = .ok (.aload_n 0, 1) := by decide +kernel
theorem dX12_takesE_226 : decode cX12_takesE 226 = .ok (.invokevirtual 275, 3) := by decide +kernel
theorem dX12_takesE_229 : decode cX12_takesE 229 = .ok (.goto (-207), 3) := by decide +kernel
theorem dX12_takesHead_0 : decode cX12_takesHead 0 = .ok (.aload_n 0, 1) := by decide +kernel
theorem dX12_takesHead_1 : decode cX12_takesHead 1 = .ok (.invokevirtual 253, 3) := by decide +kernel
theorem dX12_takesHead_4 : decode cX12_takesHead 4 = .ok (.lookupswitch 79 #[(99, 36), (102, 50), (108, 64)], 36) := by decide +kernel
theorem dX12_takesHead_40 : decode cX12_takesHead 40 = .ok (.aload_n 0, 1) := by decide +kernel
theorem dX12_takesHead_41 : decode cX12_takesHead 41 = .ok (.getfield 74, 3) := by decide +kernel
theorem dX12_takesHead_44 : decode cX12_takesHead 44 = .ok (.iload_n 1, 1) := by decide +kernel
theorem dX12_takesHead_45 : decode cX12_takesHead 45 = .ok (.iconst 0, 1) := by decide +kernel
theorem dX12_takesHead_46 : decode cX12_takesHead 46 = .ok (.iastore, 1) := by decide +kernel
theorem dX12_takesHead_47 : decode cX12_takesHead 47 = .ok (.aload_n 0, 1) := by decide +kernel
theorem dX12_takesHead_48 : decode cX12_takesHead 48 = .ok (.iconst 0, 1) := by decide +kernel
theorem dX12_takesHead_49 : decode cX12_takesHead 49 = .ok (.iconst 4, 1) := by decide +kernel
theorem dX12_takesHead_50 : decode cX12_takesHead 50 = .ok (.invokevirtual 284, 3) := by decide +kernel
theorem dX12_takesHead_53 : decode cX12_takesHead 53 = .ok (.ireturn, 1) := by decide +kernel
theorem dX12_takesHead_54 : decode cX12_takesHead 54 = .ok (.aload_n 0, 1) := by decide +kernel
theorem dX12_takesHead_55 : decode cX12_takesHead 55 = .ok (.getfield 74, 3) := by decide +kernel
theorem dX12_takesHead_58 : decode cX12_takesHead 58 = .ok (.iload_n 1, 1) := by decide +kernel
theorem dX12_takesHead_59 : decode cX12_takesHead 59 = .ok (.iconst 1, 1) := by decide +kernel
theorem dX12_takesHead_60 : decode cX12_takesHead 60 = .ok (.iastore, 1) := by decide +kernel
theorem dX12_takesHead_61 : decode cX12_takesHead 61 = .ok (.aload_n 0, 1) := by decide +kernel
theorem dX12_takesHead_62 : decode cX12_takesHead 62 = .ok (.iconst 4, 1) := by decide +kernel
theorem dX12_takesHead_63 : decode cX12_takesHead 63 = .ok (.iconst 4, 1) := by decide +kernel
theorem dX12_takesHead_64 : decode cX12_takesHead 64 = .ok (.invokevirtual 284, 3) := by decide +kernel
theorem dX12_takesHead_67 : decode cX12_takesHead 67 = .ok (.ireturn, 1) := by decide +kernel
theorem dX12_takesHead_68 : decode cX12_takesHead 68 = .ok (.aload_n 0, 1) := by decide +kernel
theorem dX12_takesHead_69 : decode cX12_takesHead 69 = .ok (.getfield 74, 3) := by decide +kernel
theorem dX12_takesHead_72 : decode cX12_takesHead 72 = .ok (.iload_n 1, 1) := by decide +kernel
theorem dX12_takesHead_73 : decode cX12_takesHead 73 = .ok (.iconst 2, 1) := by decide +kernel
theorem dX12_takesHead_74 : decode cX12_takesHead 74 = .ok (.iastore, 1) := by decide +kernel
theorem dX12_takesHead_75 : decode cX12_takesHead 75 = .ok (.aload_n 0, 1) := by decide +kernel
theorem dX12_takesHead_76 : decode cX12_takesHead 76 = .ok (.bipush 8, 2) := by decide +kernel
theorem dX12_takesHead_78 : decode cX12_takesHead 78 = .ok (.iconst 4, 1) := by decide +kernel
theorem dX12_takesHead_79 : decode cX12_takesHead 79 = .ok (.invokevirtual 284, 3) := by decide +kernel
theorem dX12_takesHead_82 : decode cX12_takesHead 82 = .ok (.ireturn, 1) := by decide +kernel
theorem dX12_takesHead_83 : decode cX12_takesHead 83 = .ok (.aload_n 0, 1) := by decide +kernel
theorem dX12_takesHead_84 : decode cX12_takesHead 84 = .ok (.getfield 74, 3) := by decide +kernel
theorem dX12_takesHead_87 : decode cX12_takesHead 87 = .ok (.iload_n 1, 1) := by decide +kernel
theorem dX12_takesHead_88 : decode cX12_takesHead 88 = .ok (.iconst 3, 1) := by decide +kernel
theorem dX12_takesHead_89 : decode cX12_takesHead 89 = .ok (.iastore, 1) := by decide +kernel
theorem dX12_takesHead_90 : decode cX12_takesHead 90 = .ok (.aload_n 0, 1) := by decide +kernel
theorem dX12_takesHead_91 : decode cX12_takesHead 91 = .ok (.bipush 12, 2) := by decide +kernel
theorem dX12_takesHead_93 : decode cX12_takesHead 93 = .ok (.iconst 4, 1) := by decide +kernel
theorem dX12_takesHead_94 : decode cX12_takesHead 94 = .ok (.invokevirtual 284, 3) := by decide +kernel
theorem dX12_takesHead_97 : decode cX12_takesHead 97 = .ok (.ireturn, 1) := by decide +kernel
theorem dX12_takesClause_0 : decode cX12_takesClause 0 = .ok (.aload_n 0, 1) := by decide +kernel
theorem dX12_takesClause_1 : decode cX12_takesClause 1 = .ok (.iload_n 1, 1) := by decide +kernel
theorem dX12_takesClause_2 : decode cX12_takesClause 2 = .ok (.invokevirtual 288, 3) := by decide +kernel
theorem dX12_takesClause_5 : decode cX12_takesClause 5 = .ok (.ifCond .eq 10, 3) := by decide +kernel
theorem dX12_takesClause_8 : decode cX12_takesClause 8 = .ok (.aload_n 0, 1) := by decide +kernel
theorem dX12_takesClause_9 : decode cX12_takesClause 9 = .ok (.invokevirtual 272, 3) := by decide +kernel
theorem dX12_takesClause_12 : decode cX12_takesClause 12 = .ok (.ifCond .ne 5, 3) := by decide +kernel
theorem dX12_takesClause_15 : decode cX12_takesClause 15 = .ok (.iconst 0, 1) := by decide +kernel
theorem dX12_takesClause_16 : decode cX12_takesClause 16 = .ok (.ireturn, 1) := by decide +kernel
theorem dX12_takesClause_17 : decode cX12_takesClause 17 = .ok (.aload_n 0, 1) := by decide +kernel
theorem dX12_takesClause_18 : decode cX12_takesClause 18 = .ok (.getfield 77, 3) := by decide +kernel
theorem dX12_takesClause_21 : decode cX12_takesClause 21 = .ok (.iload_n 1, 1) := by decide +kernel
theorem dX12_takesClause_22 : decode cX12_takesClause 22 = .ok (.aload_n 0, 1) := by decide +kernel
theorem dX12_takesClause_23 : decode cX12_takesClause 23 = .ok (.getfield 65, 3) := by decide +kernel
theorem dX12_takesClause_26 : decode cX12_takesClause 26 = .ok (.iastore, 1) := by decide +kernel
theorem dX12_takesClause_27 : decode cX12_takesClause 27 = .ok (.aload_n 0, 1) := by decide +kernel
theorem dX12_takesClause_28 : decode cX12_takesClause 28 = .ok (.getfield 74, 3) := by decide +kernel
theorem dX12_takesClause_31 : decode cX12_takesClause 31 = .ok (.iload_n 1, 1) := by decide +kernel
theorem dX12_takesClause_32 : decode cX12_takesClause 32 = .ok (.iaload, 1) := by decide +kernel
theorem dX12_takesClause_33 : decode cX12_takesClause 33 = .ok (.iconst 2, 1) := by decide +kernel
theorem dX12_takesClause_34 : decode cX12_takesClause 34 = .ok (.if_icmp .ge 20, 3) := by decide +kernel
theorem dX12_takesClause_37 : decode cX12_takesClause 37 = .ok (.aload_n 0, 1) := by decide +kernel
theorem dX12_takesClause_38 : decode cX12_takesClause 38 = .ok (.bipush 32, 2) := by decide +kernel
theorem dX12_takesClause_40 : decode cX12_takesClause 40 = .ok (.invokevirtual 257, 3) := by decide +kernel
theorem dX12_takesClause_43 : decode cX12_takesClause 43 = .ok (.ifCond .eq 15, 3) := by decide +kernel
theorem dX12_takesClause_46 : decode cX12_takesClause 46 = .ok (.aload_n 0, 1) := by decide +kernel
theorem dX12_takesClause_47 : decode cX12_takesClause 47 = .ok (.iload_n 1, 1) := by decide +kernel
theorem dX12_takesClause_48 : decode cX12_takesClause 48 = .ok (.invokevirtual 291, 3) := by decide +kernel
theorem dX12_takesClause_51 : decode cX12_takesClause 51 = .ok (.ifCond .eq 7, 3) := by decide +kernel
theorem dX12_takesClause_54 : decode cX12_takesClause 54 = .ok (.iconst 1, 1) := by decide +kernel
theorem dX12_takesClause_55 : decode cX12_takesClause 55 = .ok (.goto 4, 3) := by decide +kernel
theorem dX12_takesClause_58 : decode cX12_takesClause 58 = .ok (.iconst 0, 1) := by decide +kernel
theorem dX12_takesClause_59 : decode cX12_takesClause 59 = .ok (.ireturn, 1) := by decide +kernel
theorem dX12_goesText_0 : decode cX12_goesText 0 = .ok (.aload_n 0, 1) := by decide +kernel
theorem dX12_goesText_1 : decode cX12_goesText 1 = .ok (.iconst 0, 1) := by decide +kernel
theorem dX12_goesText_2 : decode cX12_goesText 2 = .ok (.putfield 62, 3) := by decide +kernel
theorem dX12_goesText_5 : decode cX12_goesText 5 = .ok (.aload_n 0, 1) := by decide +kernel
theorem dX12_goesText_6 : decode cX12_goesText 6 = .ok (.bipush 100, 2) := by decide +kernel
theorem dX12_goesText_8 : decode cX12_goesText 8 = .ok (.iload_n 1, 1) := by decide +kernel
theorem dX12_goesText_9 : decode cX12_goesText 9 = .ok (.imul, 1) := by decide +kernel
theorem dX12_goesText_10 : decode cX12_goesText 10 = .ok (.putfield 92, 3) := by decide +kernel
theorem dX12_goesText_13 : decode cX12_goesText 13 = .ok (.iconst 0, 1) := by decide +kernel
theorem dX12_goesText_14 : decode cX12_goesText 14 = .ok (.istore_n 2, 1) := by decide +kernel
theorem dX12_goesText_15 : decode cX12_goesText 15 = .ok (.aload_n 0, 1) := by decide +kernel
theorem dX12_goesText_16 : decode cX12_goesText 16 = .ok (.bipush 10, 2) := by decide +kernel
theorem dX12_goesText_18 : decode cX12_goesText 18 = .ok (.iload_n 1, 1) := by decide +kernel
theorem dX12_goesText_19 : decode cX12_goesText 19 = .ok (.imul, 1) := by decide +kernel
theorem dX12_goesText_20 : decode cX12_goesText 20 = .ok (.iload_n 2, 1) := by decide +kernel
theorem dX12_goesText_21 : decode cX12_goesText 21 = .ok (.iadd, 1) := by decide +kernel
theorem dX12_goesText_22 : decode cX12_goesText 22 = .ok (.invokevirtual 294, 3) := by decide +kernel
theorem dX12_goesText_25 : decode cX12_goesText 25 = .ok (.ifCond .ne 5, 3) := by decide +kernel
theorem dX12_goesText_28 : decode cX12_goesText 28 = .ok (.iconst 0, 1) := by decide +kernel
theorem dX12_goesText_29 : decode cX12_goesText 29 = .ok (.ireturn, 1) := by decide +kernel
theorem dX12_goesText_30 : decode cX12_goesText 30 = .ok (.iinc 2 1, 3) := by decide +kernel
theorem dX12_goesText_33 : decode cX12_goesText 33 = .ok (.aload_n 0, 1) := by decide +kernel
theorem dX12_goesText_34 : decode cX12_goesText 34 = .ok (.getfield 71, 3) := by decide +kernel
theorem dX12_goesText_37 : decode cX12_goesText 37 = .ok (.iload_n 1, 1) := by decide +kernel
theorem dX12_goesText_38 : decode cX12_goesText 38 = .ok (.iload_n 2, 1) := by decide +kernel
theorem dX12_goesText_39 : decode cX12_goesText 39 = .ok (.iastore, 1) := by decide +kernel
theorem dX12_goesText_40 : decode cX12_goesText 40 = .ok (.aload_n 0, 1) := by decide +kernel
theorem dX12_goesText_41 : decode cX12_goesText 41 = .ok (.getfield 62, 3) := by decide +kernel
theorem dX12_goesText_44 : decode cX12_goesText 44 = .ok (.aload_n 0, 1) := by decide +kernel
theorem dX12_goesText_45 : decode cX12_goesText 45 = .ok (.getfield 59, 3) := by decide +kernel
theorem dX12_goesText_48 : decode cX12_goesText 48 = .ok (.if_icmp .ne 5, 3) := by decide +kernel
theorem dX12_goesText_51 : decode cX12_goesText 51 = .ok (.iconst 1, 1) := by decide +kernel
theorem dX12_goesText_52 : decode cX12_goesText 52 = .ok (.ireturn, 1) := by decide +kernel
theorem dX12_goesText_53 : decode cX12_goesText 53 = .ok (.iload_n 2, 1) := by decide +kernel
theorem dX12_goesText_54 : decode cX12_goesText 54 = .ok (.bipush 10, 2) := by decide +kernel
theorem dX12_goesText_56 : decode cX12_goesText 56 = .ok (.if_icmp .eq 12, 3) := by decide +kernel
theorem dX12_goesText_59 : decode cX12_goesText 59 = .ok (.aload_n 0, 1) := by decide +kernel
theorem dX12_goesText_60 : decode cX12_goesText 60 = .ok (.bipush 59, 2) := by decide +kernel
theorem dX12_goesText_62 : decode cX12_goesText 62 = .ok (.invokevirtual 257, 3) := by decide +kernel
theorem dX12_goesText_65 : decode cX12_goesText 65 = .ok (.ifCond .ne (-50), 3) := by decide +kernel
theorem dX12_goesText_68 : decode cX12_goesText 68 = .ok (.iconst 0, 1) := by decide +kernel
theorem dX12_goesText_69 : decode cX12_goesText 69 = .ok (.ireturn, 1) := by decide +kernel
theorem dX12_house_0 : decode cX12_house 0 = .ok (.aload_n 0, 1) := by decide +kernel
theorem dX12_house_1 : decode cX12_house 1 = .ok (.getfield 53, 3) := by decide +kernel
theorem dX12_house_4 : decode cX12_house 4 = .ok (.bipush 6, 2) := by decide +kernel
theorem dX12_house_6 : decode cX12_house 6 = .ok (.if_icmp .ne 6, 3) := by decide +kernel
theorem dX12_house_9 : decode cX12_house 9 = .ok (.bipush (-4), 2) := by decide +kernel
theorem dX12_house_11 : decode cX12_house 11 = .ok (.ireturn, 1) := by decide +kernel
theorem dX12_house_12 : decode cX12_house 12 = .ok (.aload_n 0, 1) := by decide +kernel
theorem dX12_house_13 : decode cX12_house 13 = .ok (.aload_n 0, 1) := by decide +kernel
theorem dX12_house_14 : decode cX12_house 14 = .ok (.getfield 53, 3) := by decide +kernel
theorem dX12_house_17 : decode cX12_house 17 = .ok (.invokevirtual 297, 3) := by decide +kernel
theorem dX12_house_20 : decode cX12_house 20 = .ok (.istore_n 1, 1) := by decide +kernel
theorem dX12_house_21 : decode cX12_house 21 = .ok (.aload_n 0, 1) := by decide +kernel
theorem dX12_house_22 : decode cX12_house 22 = .ok (.iconst 0, 1) := by decide +kernel
theorem dX12_house_23 : decode cX12_house 23 = .ok (.putfield 59, 3) := by decide +kernel
theorem dX12_house_26 : decode cX12_house 26 = .ok (.iload_n 1, 1) := by decide +kernel
theorem dX12_house_27 : decode cX12_house 27 = .ok (.ifCond .ne 11, 3) := by decide +kernel
theorem dX12_house_30 : decode cX12_house 30 = .ok (.bipush (-10), 2) := by decide +kernel
theorem dX12_house_32 : decode cX12_house 32 = .ok (.aload_n 0, 1) := by decide +kernel
theorem dX12_house_33 : decode cX12_house 33 = .ok (.getfield 62, 3) := by decide +kernel
theorem dX12_house_36 : decode cX12_house 36 = .ok (.isub, 1) := by decide +kernel
theorem dX12_house_37 : decode cX12_house 37 = .ok (.ireturn, 1) := by decide +kernel
theorem dX12_house_38 : decode cX12_house 38 = .ok (.aload_n 0, 1) := by decide +kernel
theorem dX12_house_39 : decode cX12_house 39 = .ok (.aload_n 0, 1) := by decide +kernel
theorem dX12_house_40 : decode cX12_house 40 = .ok (.getfield 53, 3) := by decide +kernel
theorem dX12_house_43 : decode cX12_house 43 = .ok (.putfield 56, 3) := by decide +kernel
theorem dX12_house_46 : decode cX12_house 46 = .ok (.aload_n 0, 1) := by decide +kernel
theorem dX12_house_47 : decode cX12_house 47 = .ok (.dup, 1) := by decide +kernel
theorem dX12_house_48 : decode cX12_house 48 = .ok (.getfield 53, 3) := by decide +kernel
theorem dX12_house_51 : decode cX12_house 51 = .ok (.iconst 1, 1) := by decide +kernel
theorem dX12_house_52 : decode cX12_house 52 = .ok (.iadd, 1) := by decide +kernel
theorem dX12_house_53 : decode cX12_house 53 = .ok (.putfield 53, 3) := by decide +kernel
theorem dX12_house_56 : decode cX12_house 56 = .ok (.aload_n 0, 1) := by decide +kernel
theorem dX12_house_57 : decode cX12_house 57 = .ok (.getfield 56, 3) := by decide +kernel
theorem dX12_house_60 : decode cX12_house 60 = .ok (.ireturn, 1) := by decide +kernel
theorem dX12_begin_0 : decode cX12_begin 0 = .ok (.aload_n 0, 1) := by decide +kernel
theorem dX12_begin_1 : decode cX12_begin 1 = .ok (.getfield 56, 3) := by decide +kernel
theorem dX12_begin_4 : decode cX12_begin 4 = .ok (.ifCond .ge 7, 3) := by decide +kernel
theorem dX12_begin_7 : decode cX12_begin 7 = .ok (.iconst 0, 1) := by decide +kernel
theorem dX12_begin_8 : decode cX12_begin 8 = .ok (.goto 10, 3) := by decide +kernel
theorem dX12_begin_11 : decode cX12_begin 11 = .ok (.bipush 10, 2) := by decide +kernel
theorem dX12_begin_13 : decode cX12_begin 13 = .ok (.aload_n 0, 1) := by decide +kernel
theorem dX12_begin_14 : decode cX12_begin 14 = .ok (.getfield 56, 3) := by decide +kernel
theorem dX12_begin_17 : decode cX12_begin 17 = .ok (.imul, 1) := by decide +kernel
theorem dX12_begin_18 : decode cX12_begin 18 = .ok (.ireturn, 1) := by decide +kernel
theorem dX12_behind_0 : decode cX12_behind 0 = .ok (.aload_n 0, 1) := by decide +kernel
theorem dX12_behind_1 : decode cX12_behind 1 = .ok (.getfield 56, 3) := by decide +kernel
theorem dX12_behind_4 : decode cX12_behind 4 = .ok (.ifCond .ge 7, 3) := by decide +kernel
theorem dX12_behind_7 : decode cX12_behind 7 = .ok (.iconst 0, 1) := by decide +kernel
theorem dX12_behind_8 : decode cX12_behind 8 = .ok (.goto 20, 3) := by decide +kernel
theorem dX12_behind_11 : decode cX12_behind 11 = .ok (.bipush 10, 2) := by decide +kernel
theorem dX12_behind_13 : decode cX12_behind 13 = .ok (.aload_n 0, 1) := by decide +kernel
theorem dX12_behind_14 : decode cX12_behind 14 = .ok (.getfield 56, 3) := by decide +kernel
theorem dX12_behind_17 : decode cX12_behind 17 = .ok (.imul, 1) := by decide +kernel
theorem dX12_behind_18 : decode cX12_behind 18 = .ok (.aload_n 0, 1) := by decide +kernel
theorem dX12_behind_19 : decode cX12_behind 19 = .ok (.getfield 71, 3) := by decide +kernel
theorem dX12_behind_22 : decode cX12_behind 22 = .ok (.aload_n 0, 1) := by decide +kernel
theorem dX12_behind_23 : decode cX12_behind 23 = .ok (.getfield 56, 3) := by decide +kernel
theorem dX12_behind_26 : decode cX12_behind 26 = .ok (.iaload, 1) := by decide +kernel
theorem dX12_behind_27 : decode cX12_behind 27 = .ok (.iadd, 1) := by decide +kernel
theorem dX12_behind_28 : decode cX12_behind 28 = .ok (.ireturn, 1) := by decide +kernel
theorem dX12_lastOf_0 : decode cX12_lastOf 0 = .ok (.iload_n 2, 1) := by decide +kernel
theorem dX12_lastOf_1 : decode cX12_lastOf 1 = .ok (.istore_n 3, 1) := by decide +kernel
theorem dX12_lastOf_2 : decode cX12_lastOf 2 = .ok (.aload_n 0, 1) := by decide +kernel
theorem dX12_lastOf_3 : decode cX12_lastOf 3 = .ok (.invokevirtual 300, 3) := by decide +kernel
theorem dX12_lastOf_6 : decode cX12_lastOf 6 = .ok (.istore 4, 2) := by decide +kernel
theorem dX12_lastOf_8 : decode cX12_lastOf 8 = .ok (.iload 4, 2) := by decide +kernel
theorem dX12_lastOf_10 : decode cX12_lastOf 10 = .ok (.aload_n 0, 1) := by decide +kernel
theorem dX12_lastOf_11 : decode cX12_lastOf 11 = .ok (.invokevirtual 303, 3) := by decide +kernel
theorem dX12_lastOf_14 : decode cX12_lastOf 14 = .ok (.if_icmp .ge 32, 3) := by decide +kernel
theorem dX12_lastOf_17 : decode cX12_lastOf 17 = .ok (.aload_n 0, 1) := by decide +kernel
theorem dX12_lastOf_18 : decode cX12_lastOf 18 = .ok (.getfield 74, 3) := by decide +kernel
theorem dX12_lastOf_21 : decode cX12_lastOf 21 = .ok (.iload 4, 2) := by decide +kernel
theorem dX12_lastOf_23 : decode cX12_lastOf 23 = .ok (.iaload, 1) := by decide +kernel
theorem dX12_lastOf_24 : decode cX12_lastOf 24 = .ok (.iload_n 1, 1) := by decide +kernel
theorem dX12_lastOf_25 : decode cX12_lastOf 25 = .ok (.if_icmp .ne 13, 3) := by decide +kernel
theorem dX12_lastOf_28 : decode cX12_lastOf 28 = .ok (.aload_n 0, 1) := by decide +kernel
theorem dX12_lastOf_29 : decode cX12_lastOf 29 = .ok (.getfield 77, 3) := by decide +kernel
theorem dX12_lastOf_32 : decode cX12_lastOf 32 = .ok (.iload 4, 2) := by decide +kernel
theorem dX12_lastOf_34 : decode cX12_lastOf 34 = .ok (.iaload, 1) := by decide +kernel
theorem dX12_lastOf_35 : decode cX12_lastOf 35 = .ok (.goto 4, 3) := by decide +kernel
theorem dX12_lastOf_38 : decode cX12_lastOf 38 = .ok (.iload_n 3, 1) := by decide +kernel
theorem dX12_lastOf_39 : decode cX12_lastOf 39 = .ok (.istore_n 3, 1) := by decide +kernel
theorem dX12_lastOf_40 : decode cX12_lastOf 40 = .ok (.iinc 4 1, 3) := by decide +kernel
theorem dX12_lastOf_43 : decode cX12_lastOf 43 = .ok (.goto (-35), 3) := by decide +kernel
theorem dX12_lastOf_46 : decode cX12_lastOf 46 = .ok (.iload_n 3, 1) := by decide +kernel
theorem dX12_lastOf_47 : decode cX12_lastOf 47 = .ok (.ireturn, 1) := by decide +kernel
theorem dX12_factOf_0 : decode cX12_factOf 0 = .ok (.iload_n 1, 1) := by decide +kernel
theorem dX12_factOf_1 : decode cX12_factOf 1 = .ok (.tableswitch 59 0 4 #[35, 37, 44, 46, 54], 35) := by decide +kernel
theorem dX12_factOf_36 : decode cX12_factOf 36 = .ok (.iload_n 2, 1) := by decide +kernel
theorem dX12_factOf_37 : decode cX12_factOf 37 = .ok (.ireturn, 1) := by decide +kernel
theorem dX12_factOf_38 : decode cX12_factOf 38 = .ok (.aload_n 0, 1) := by decide +kernel
theorem dX12_factOf_39 : decode cX12_factOf 39 = .ok (.getfield 44, 3) := by decide +kernel
theorem dX12_factOf_42 : decode cX12_factOf 42 = .ok (.iload_n 2, 1) := by decide +kernel
theorem dX12_factOf_43 : decode cX12_factOf 43 = .ok (.iaload, 1) := by decide +kernel
theorem dX12_factOf_44 : decode cX12_factOf 44 = .ok (.ireturn, 1) := by decide +kernel
theorem dX12_factOf_45 : decode cX12_factOf 45 = .ok (.iload_n 3, 1) := by decide +kernel
theorem dX12_factOf_46 : decode cX12_factOf 46 = .ok (.ireturn, 1) := by decide +kernel
theorem dX12_factOf_47 : decode cX12_factOf 47 = .ok (.aload_n 0, 1) := by decide +kernel
theorem dX12_factOf_48 : decode cX12_factOf 48 = .ok (.getfield 19, 3) := by decide +kernel
theorem dX12_factOf_51 : decode cX12_factOf 51 = .ok (.bipush 10, 2) := by decide +kernel
theorem dX12_factOf_53 : decode cX12_factOf 53 = .ok (.idiv, 1) := by decide +kernel
theorem dX12_factOf_54 : decode cX12_factOf 54 = .ok (.ireturn, 1) := by decide +kernel
theorem dX12_factOf_55 : decode cX12_factOf 55 = .ok (.aload_n 0, 1) := by decide +kernel
theorem dX12_factOf_56 : decode cX12_factOf 56 = .ok (.getfield 25, 3) := by decide +kernel
theorem dX12_factOf_59 : decode cX12_factOf 59 = .ok (.ireturn, 1) := by decide +kernel
theorem dX12_factOf_60 : decode cX12_factOf 60 = .ok (.aload_n 0, 1) := by decide +kernel
theorem dX12_factOf_61 : decode cX12_factOf 61 = .ok (.getfield 41, 3) := by decide +kernel
theorem dX12_factOf_64 : decode cX12_factOf 64 = .ok (.iload_n 3, 1) := by decide +kernel
theorem dX12_factOf_65 : decode cX12_factOf 65 = .ok (.iaload, 1) := by decide +kernel
theorem dX12_factOf_66 : decode cX12_factOf 66 = .ok (.bipush 100, 2) := by decide +kernel
theorem dX12_factOf_68 : decode cX12_factOf 68 = .ok (.irem, 1) := by decide +kernel
theorem dX12_factOf_69 : decode cX12_factOf 69 = .ok (.ireturn, 1) := by decide +kernel
theorem dX12_holds_0 : decode cX12_holds 0 = .ok (.iconst 0, 1) := by decide +kernel
theorem dX12_holds_1 : decode cX12_holds 1 = .ok (.istore 4, 2) := by decide +kernel
theorem dX12_holds_3 : decode cX12_holds 3 = .ok (.aload_n 0, 1) := by decide +kernel
theorem dX12_holds_4 : decode cX12_holds 4 = .ok (.getfield 80, 3) := by decide +kernel
theorem dX12_holds_7 : decode cX12_holds 7 = .ok (.iload_n 1, 1) := by decide +kernel
theorem dX12_holds_8 : decode cX12_holds 8 = .ok (.iaload, 1) := by decide +kernel
theorem dX12_holds_9 : decode cX12_holds 9 = .ok (.istore 5, 2) := by decide +kernel
theorem dX12_holds_11 : decode cX12_holds 11 = .ok (.iload 5, 2) := by decide +kernel
theorem dX12_holds_13 : decode cX12_holds 13 = .ok (.aload_n 0, 1) := by decide +kernel
theorem dX12_holds_14 : decode cX12_holds 14 = .ok (.getfield 83, 3) := by decide +kernel
theorem dX12_holds_17 : decode cX12_holds 17 = .ok (.iload_n 1, 1) := by decide +kernel
theorem dX12_holds_18 : decode cX12_holds 18 = .ok (.iaload, 1) := by decide +kernel
theorem dX12_holds_19 : decode cX12_holds 19 = .ok (.if_icmp .ge 234, 3) := by decide +kernel
theorem dX12_holds_22 : decode cX12_holds 22 = .ok (.aload_n 0, 1) := by decide +kernel
theorem dX12_holds_23 : decode cX12_holds 23 = .ok (.getfield 86, 3) := by decide +kernel
theorem dX12_holds_26 : decode cX12_holds 26 = .ok (.iload 5, 2) := by decide +kernel
theorem dX12_holds_28 : decode cX12_holds 28 = .ok (.iaload, 1) := by decide +kernel
theorem dX12_holds_29 : decode cX12_holds 29 = .ok (.istore 6, 2) := by decide +kernel
theorem dX12_holds_31 : decode cX12_holds 31 = .ok (.iload 6, 2) := by decide +kernel
theorem dX12_holds_33 : decode cX12_holds 33 = .ok (.bipush (-33), 2) := by decide +kernel
theorem dX12_holds_35 : decode cX12_holds 35 = .ok (.if_icmp .ne 32, 3) := by decide +kernel
theorem dX12_holds_38 : decode cX12_holds 38 = .ok (.aload_n 0, 1) := by decide +kernel
theorem dX12_holds_39 : decode cX12_holds 39 = .ok (.getfield 104, 3) := by decide +kernel
theorem dX12_holds_42 : decode cX12_holds 42 = .ok (.iload 4, 2) := by decide +kernel
theorem dX12_holds_44 : decode cX12_holds 44 = .ok (.iconst 1, 1) := by decide +kernel
theorem dX12_holds_45 : decode cX12_holds 45 = .ok (.isub, 1) := by decide +kernel
theorem dX12_holds_46 : decode cX12_holds 46 = .ok (.aload_n 0, 1) := by decide +kernel
theorem dX12_holds_47 : decode cX12_holds 47 = .ok (.getfield 104, 3) := by decide +kernel
theorem dX12_holds_50 : decode cX12_holds 50 = .ok (.iload 4, 2) := by decide +kernel
theorem dX12_holds_52 : decode cX12_holds 52 = .ok (.iconst 1, 1) := by decide +kernel
theorem dX12_holds_53 : decode cX12_holds 53 = .ok (.isub, 1) := by decide +kernel
theorem dX12_holds_54 : decode cX12_holds 54 = .ok (.baload, 1) := by decide +kernel
theorem dX12_holds_55 : decode cX12_holds 55 = .ok (.ifCond .ne 7, 3) := by decide +kernel
theorem dX12_holds_58 : decode cX12_holds 58 = .ok (.iconst 1, 1) := by decide +kernel
theorem dX12_holds_59 : decode cX12_holds 59 = .ok (.goto 4, 3) := by decide +kernel
theorem dX12_holds_62 : decode cX12_holds 62 = .ok (.iconst 0, 1) := by decide +kernel
theorem dX12_holds_63 : decode cX12_holds 63 = .ok (.bastore, 1) := by decide +kernel
theorem dX12_holds_64 : decode cX12_holds 64 = .ok (.goto 183, 3) := by decide +kernel
theorem dX12_holds_67 : decode cX12_holds 67 = .ok (.iload 6, 2) := by decide +kernel
theorem dX12_holds_69 : decode cX12_holds 69 = .ok (.ifCond .ge 82, 3) := by decide +kernel
theorem dX12_holds_72 : decode cX12_holds 72 = .ok (.iinc 4 (-1), 3) := by decide +kernel
theorem dX12_holds_75 : decode cX12_holds 75 = .ok (.aload_n 0, 1) := by decide +kernel
theorem dX12_holds_76 : decode cX12_holds 76 = .ok (.getfield 104, 3) := by decide +kernel
theorem dX12_holds_79 : decode cX12_holds 79 = .ok (.iload 4, 2) := by decide +kernel
theorem dX12_holds_81 : decode cX12_holds 81 = .ok (.iconst 1, 1) := by decide +kernel
theorem dX12_holds_82 : decode cX12_holds 82 = .ok (.isub, 1) := by decide +kernel
theorem dX12_holds_83 : decode cX12_holds 83 = .ok (.iload 6, 2) := by decide +kernel
theorem dX12_holds_85 : decode cX12_holds 85 = .ok (.bipush (-38), 2) := by decide +kernel
theorem dX12_holds_87 : decode cX12_holds 87 = .ok (.if_icmp .ne 33, 3) := by decide +kernel
theorem dX12_holds_90 : decode cX12_holds 90 = .ok (.aload_n 0, 1) := by decide +kernel
theorem dX12_holds_91 : decode cX12_holds 91 = .ok (.getfield 104, 3) := by decide +kernel
theorem dX12_holds_94 : decode cX12_holds 94 = .ok (.iload 4, 2) := by decide +kernel
theorem dX12_holds_96 : decode cX12_holds 96 = .ok (.iconst 1, 1) := by decide +kernel
theorem dX12_holds_97 : decode cX12_holds 97 = .ok (.isub, 1) := by decide +kernel
theorem dX12_holds_98 : decode cX12_holds 98 = .ok (.baload, 1) := by decide +kernel
theorem dX12_holds_99 : decode cX12_holds 99 = .ok (.ifCond .eq 17, 3) := by decide +kernel
theorem dX12_holds_102 : decode cX12_holds 102 = .ok (.aload_n 0, 1) := by decide +kernel
theorem dX12_holds_103 : decode cX12_holds 103 = .ok (.getfield 104, 3) := by decide +kernel
theorem dX12_holds_106 : decode cX12_holds 106 = .ok (.iload 4, 2) := by decide +kernel
theorem dX12_holds_108 : decode cX12_holds 108 = .ok (.baload, 1) := by decide +kernel
theorem dX12_holds_109 : decode cX12_holds 109 = .ok (.ifCond .eq 7, 3) := by decide +kernel
theorem dX12_holds_112 : decode cX12_holds 112 = .ok (.iconst 1, 1) := by decide +kernel
theorem dX12_holds_113 : decode cX12_holds 113 = .ok (.goto 34, 3) := by decide +kernel
theorem dX12_holds_116 : decode cX12_holds 116 = .ok (.iconst 0, 1) := by decide +kernel
theorem dX12_holds_117 : decode cX12_holds 117 = .ok (.goto 30, 3) := by decide +kernel
theorem dX12_holds_120 : decode cX12_holds 120 = .ok (.aload_n 0, 1) := by decide +kernel
theorem dX12_holds_121 : decode cX12_holds 121 = .ok (.getfield 104, 3) := by decide +kernel
theorem dX12_holds_124 : decode cX12_holds 124 = .ok (.iload 4, 2) := by decide +kernel
theorem dX12_holds_126 : decode cX12_holds 126 = .ok (.iconst 1, 1) := by decide +kernel
theorem dX12_holds_127 : decode cX12_holds 127 = .ok (.isub, 1) := by decide +kernel
theorem dX12_holds_128 : decode cX12_holds 128 = .ok (.baload, 1) := by decide +kernel
theorem dX12_holds_129 : decode cX12_holds 129 = .ok (.ifCond .ne 13, 3) := by decide +kernel
theorem dX12_holds_132 : decode cX12_holds 132 = .ok (.aload_n 0, 1) := by decide +kernel
theorem dX12_holds_133 : decode cX12_holds 133 = .ok (.getfield 104, 3) := by decide +kernel
theorem dX12_holds_136 : decode cX12_holds 136 = .ok (.iload 4, 2) := by decide +kernel
theorem dX12_holds_138 : decode cX12_holds 138 = .ok (.baload, 1) := by decide +kernel
theorem dX12_holds_139 : decode cX12_holds 139 = .ok (.ifCond .eq 7, 3) := by decide +kernel
theorem dX12_holds_142 : decode cX12_holds 142 = .ok (.iconst 1, 1) := by decide +kernel
theorem dX12_holds_143 : decode cX12_holds 143 = .ok (.goto 4, 3) := by decide +kernel
theorem dX12_holds_146 : decode cX12_holds 146 = .ok (.iconst 0, 1) := by decide +kernel
theorem dX12_holds_147 : decode cX12_holds 147 = .ok (.bastore, 1) := by decide +kernel
theorem dX12_holds_148 : decode cX12_holds 148 = .ok (.goto 99, 3) := by decide +kernel
theorem dX12_holds_151 : decode cX12_holds 151 = .ok (.aload_n 0, 1) := by decide +kernel
theorem dX12_holds_152 : decode cX12_holds 152 = .ok (.iload 6, 2) := by decide +kernel
theorem dX12_holds_154 : decode cX12_holds 154 = .ok (.sipush 1000, 3) := by decide +kernel
theorem dX12_holds_157 : decode cX12_holds 157 = .ok (.idiv, 1) := by decide +kernel
theorem dX12_holds_158 : decode cX12_holds 158 = .ok (.iload_n 2, 1) := by decide +kernel
theorem dX12_holds_159 : decode cX12_holds 159 = .ok (.iload_n 3, 1) := by decide +kernel
theorem dX12_holds_160 : decode cX12_holds 160 = .ok (.invokevirtual 306, 3) := by decide +kernel
theorem dX12_holds_163 : decode cX12_holds 163 = .ok (.istore 7, 2) := by decide +kernel
theorem dX12_holds_165 : decode cX12_holds 165 = .ok (.iload 6, 2) := by decide +kernel
theorem dX12_holds_167 : decode cX12_holds 167 = .ok (.bipush 100, 2) := by decide +kernel
theorem dX12_holds_169 : decode cX12_holds 169 = .ok (.idiv, 1) := by decide +kernel
theorem dX12_holds_170 : decode cX12_holds 170 = .ok (.bipush 10, 2) := by decide +kernel
theorem dX12_holds_172 : decode cX12_holds 172 = .ok (.irem, 1) := by decide +kernel
theorem dX12_holds_173 : decode cX12_holds 173 = .ok (.istore 8, 2) := by decide +kernel
theorem dX12_holds_175 : decode cX12_holds 175 = .ok (.aload_n 0, 1) := by decide +kernel
theorem dX12_holds_176 : decode cX12_holds 176 = .ok (.getfield 104, 3) := by decide +kernel
theorem dX12_holds_179 : decode cX12_holds 179 = .ok (.iload 4, 2) := by decide +kernel
theorem dX12_holds_181 : decode cX12_holds 181 = .ok (.iload 8, 2) := by decide +kernel
theorem dX12_holds_183 : decode cX12_holds 183 = .ok (.ifCond .ne 21, 3) := by decide +kernel
theorem dX12_holds_186 : decode cX12_holds 186 = .ok (.iload 7, 2) := by decide +kernel
theorem dX12_holds_188 : decode cX12_holds 188 = .ok (.iload 6, 2) := by decide +kernel
theorem dX12_holds_190 : decode cX12_holds 190 = .ok (.bipush 100, 2) := by decide +kernel
theorem dX12_holds_192 : decode cX12_holds 192 = .ok (.irem, 1) := by decide +kernel
theorem dX12_holds_193 : decode cX12_holds 193 = .ok (.if_icmp .ge 7, 3) := by decide +kernel
theorem dX12_holds_196 : decode cX12_holds 196 = .ok (.iconst 1, 1) := by decide +kernel
theorem dX12_holds_197 : decode cX12_holds 197 = .ok (.goto 46, 3) := by decide +kernel
theorem dX12_holds_200 : decode cX12_holds 200 = .ok (.iconst 0, 1) := by decide +kernel
theorem dX12_holds_201 : decode cX12_holds 201 = .ok (.goto 42, 3) := by decide +kernel
theorem dX12_holds_204 : decode cX12_holds 204 = .ok (.iload 8, 2) := by decide +kernel
theorem dX12_holds_206 : decode cX12_holds 206 = .ok (.iconst 1, 1) := by decide +kernel
theorem dX12_holds_207 : decode cX12_holds 207 = .ok (.if_icmp .ne 21, 3) := by decide +kernel
theorem dX12_holds_210 : decode cX12_holds 210 = .ok (.iload 7, 2) := by decide +kernel
theorem dX12_holds_212 : decode cX12_holds 212 = .ok (.iload 6, 2) := by decide +kernel
theorem dX12_holds_214 : decode cX12_holds 214 = .ok (.bipush 100, 2) := by decide +kernel
theorem dX12_holds_216 : decode cX12_holds 216 = .ok (.irem, 1) := by decide +kernel
theorem dX12_holds_217 : decode cX12_holds 217 = .ok (.if_icmp .ne 7, 3) := by decide +kernel
theorem dX12_holds_220 : decode cX12_holds 220 = .ok (.iconst 1, 1) := by decide +kernel
theorem dX12_holds_221 : decode cX12_holds 221 = .ok (.goto 22, 3) := by decide +kernel
theorem dX12_holds_224 : decode cX12_holds 224 = .ok (.iconst 0, 1) := by decide +kernel
theorem dX12_holds_225 : decode cX12_holds 225 = .ok (.goto 18, 3) := by decide +kernel
theorem dX12_holds_228 : decode cX12_holds 228 = .ok (.iload 7, 2) := by decide +kernel
theorem dX12_holds_230 : decode cX12_holds 230 = .ok (.iload 6, 2) := by decide +kernel
theorem dX12_holds_232 : decode cX12_holds 232 = .ok (.bipush 100, 2) := by decide +kernel
theorem dX12_holds_234 : decode cX12_holds 234 = .ok (.irem, 1) := by decide +kernel
theorem dX12_holds_235 : decode cX12_holds 235 = .ok (.if_icmp .le 7, 3) := by decide +kernel
theorem dX12_holds_238 : decode cX12_holds 238 = .ok (.iconst 1, 1) := by decide +kernel
theorem dX12_holds_239 : decode cX12_holds 239 = .ok (.goto 4, 3) := by decide +kernel
theorem dX12_holds_242 : decode cX12_holds 242 = .ok (.iconst 0, 1) := by decide +kernel
theorem dX12_holds_243 : decode cX12_holds 243 = .ok (.bastore, 1) := by decide +kernel
theorem dX12_holds_244 : decode cX12_holds 244 = .ok (.iinc 4 1, 3) := by decide +kernel
theorem dX12_holds_247 : decode cX12_holds 247 = .ok (.iinc 5 1, 3) := by decide +kernel
theorem dX12_holds_250 : decode cX12_holds 250 = .ok (.goto (-239), 3) := by decide +kernel
theorem dX12_holds_253 : decode cX12_holds 253 = .ok (.aload_n 0, 1) := by decide +kernel
theorem dX12_holds_254 : decode cX12_holds 254 = .ok (.getfield 104, 3) := by decide +kernel
theorem dX12_holds_257 : decode cX12_holds 257 = .ok (.iconst 0, 1) := by decide +kernel
theorem dX12_holds_258 : decode cX12_holds 258 = .ok (.baload, 1) := by decide +kernel
theorem dX12_holds_259 : decode cX12_holds 259 = .ok (.ireturn, 1) := by decide +kernel
theorem dX12_sumOf_0 : decode cX12_sumOf 0 = .ok (.iconst 0, 1) := by decide +kernel
theorem dX12_sumOf_1 : decode cX12_sumOf 1 = .ok (.istore 5, 2) := by decide +kernel
theorem dX12_sumOf_3 : decode cX12_sumOf 3 = .ok (.iconst 0, 1) := by decide +kernel
theorem dX12_sumOf_4 : decode cX12_sumOf 4 = .ok (.istore 6, 2) := by decide +kernel
theorem dX12_sumOf_6 : decode cX12_sumOf 6 = .ok (.aload_n 0, 1) := by decide +kernel
theorem dX12_sumOf_7 : decode cX12_sumOf 7 = .ok (.invokevirtual 300, 3) := by decide +kernel
theorem dX12_sumOf_10 : decode cX12_sumOf 10 = .ok (.istore 7, 2) := by decide +kernel
theorem dX12_sumOf_12 : decode cX12_sumOf 12 = .ok (.iload 7, 2) := by decide +kernel
theorem dX12_sumOf_14 : decode cX12_sumOf 14 = .ok (.aload_n 0, 1) := by decide +kernel
theorem dX12_sumOf_15 : decode cX12_sumOf 15 = .ok (.invokevirtual 303, 3) := by decide +kernel
theorem dX12_sumOf_18 : decode cX12_sumOf 18 = .ok (.if_icmp .ge 53, 3) := by decide +kernel
theorem dX12_sumOf_21 : decode cX12_sumOf 21 = .ok (.aload_n 0, 1) := by decide +kernel
theorem dX12_sumOf_22 : decode cX12_sumOf 22 = .ok (.getfield 74, 3) := by decide +kernel
theorem dX12_sumOf_25 : decode cX12_sumOf 25 = .ok (.iload 7, 2) := by decide +kernel
theorem dX12_sumOf_27 : decode cX12_sumOf 27 = .ok (.iaload, 1) := by decide +kernel
theorem dX12_sumOf_28 : decode cX12_sumOf 28 = .ok (.iload_n 1, 1) := by decide +kernel
theorem dX12_sumOf_29 : decode cX12_sumOf 29 = .ok (.if_icmp .eq 6, 3) := by decide +kernel
theorem dX12_sumOf_32 : decode cX12_sumOf 32 = .ok (.goto 33, 3) := by decide +kernel
theorem dX12_sumOf_35 : decode cX12_sumOf 35 = .ok (.iconst 1, 1) := by decide +kernel
theorem dX12_sumOf_36 : decode cX12_sumOf 36 = .ok (.istore 6, 2) := by decide +kernel
theorem dX12_sumOf_38 : decode cX12_sumOf 38 = .ok (.iload 5, 2) := by decide +kernel
theorem dX12_sumOf_40 : decode cX12_sumOf 40 = .ok (.aload_n 0, 1) := by decide +kernel
theorem dX12_sumOf_41 : decode cX12_sumOf 41 = .ok (.iload 7, 2) := by decide +kernel
theorem dX12_sumOf_43 : decode cX12_sumOf 43 = .ok (.iload_n 2, 1) := by decide +kernel
theorem dX12_sumOf_44 : decode cX12_sumOf 44 = .ok (.iload_n 3, 1) := by decide +kernel
theorem dX12_sumOf_45 : decode cX12_sumOf 45 = .ok (.invokevirtual 310, 3) := by decide +kernel
theorem dX12_sumOf_48 : decode cX12_sumOf 48 = .ok (.ifCond .eq 13, 3) := by decide +kernel
theorem dX12_sumOf_51 : decode cX12_sumOf 51 = .ok (.aload_n 0, 1) := by decide +kernel
theorem dX12_sumOf_52 : decode cX12_sumOf 52 = .ok (.getfield 77, 3) := by decide +kernel
theorem dX12_sumOf_55 : decode cX12_sumOf 55 = .ok (.iload 7, 2) := by decide +kernel
theorem dX12_sumOf_57 : decode cX12_sumOf 57 = .ok (.iaload, 1) := by decide +kernel
theorem dX12_sumOf_58 : decode cX12_sumOf 58 = .ok (.goto 4, 3) := by decide +kernel
theorem dX12_sumOf_61 : decode cX12_sumOf 61 = .ok (.iconst 0, 1) := by decide +kernel
theorem dX12_sumOf_62 : decode cX12_sumOf 62 = .ok (.iadd, 1) := by decide +kernel
theorem dX12_sumOf_63 : decode cX12_sumOf 63 = .ok (.istore 5, 2) := by decide +kernel
theorem dX12_sumOf_65 : decode cX12_sumOf 65 = .ok (.iinc 7 1, 3) := by decide +kernel
theorem dX12_sumOf_68 : decode cX12_sumOf 68 = .ok (.goto (-56), 3) := by decide +kernel
theorem dX12_sumOf_71 : decode cX12_sumOf 71 = .ok (.iload 6, 2) := by decide +kernel
theorem dX12_sumOf_73 : decode cX12_sumOf 73 = .ok (.ifCond .eq 8, 3) := by decide +kernel
theorem dX12_sumOf_76 : decode cX12_sumOf 76 = .ok (.iload 5, 2) := by decide +kernel
theorem dX12_sumOf_78 : decode cX12_sumOf 78 = .ok (.goto 5, 3) := by decide +kernel
theorem dX12_sumOf_81 : decode cX12_sumOf 81 = .ok (.iload 4, 2) := by decide +kernel
theorem dX12_sumOf_83 : decode cX12_sumOf 83 = .ok (.ireturn, 1) := by decide +kernel
theorem dX12_late_0 : decode cX12_late 0 = .ok (.aload_n 0, 1) := by decide +kernel
theorem dX12_late_1 : decode cX12_late 1 = .ok (.getfield 108, 3) := by decide +kernel
theorem dX12_late_4 : decode cX12_late 4 = .ok (.ifCond .ge 13, 3) := by decide +kernel
theorem dX12_late_7 : decode cX12_late 7 = .ok (.aload_n 0, 1) := by decide +kernel
theorem dX12_late_8 : decode cX12_late 8 = .ok (.iconst 2, 1) := by decide +kernel
theorem dX12_late_9 : decode cX12_late 9 = .ok (.bipush 60, 2) := by decide +kernel
theorem dX12_late_11 : decode cX12_late 11 = .ok (.invokevirtual 313, 3) := by decide +kernel
theorem dX12_late_14 : decode cX12_late 14 = .ok (.goto 7, 3) := by decide +kernel
theorem dX12_late_17 : decode cX12_late 17 = .ok (.aload_n 0, 1) := by decide +kernel
theorem dX12_late_18 : decode cX12_late 18 = .ok (.getfield 108, 3) := by decide +kernel
theorem dX12_late_21 : decode cX12_late 21 = .ok (.ireturn, 1) := by decide +kernel
theorem dX12_deep_0 : decode cX12_deep 0 = .ok (.aload_n 0, 1) := by decide +kernel
theorem dX12_deep_1 : decode cX12_deep 1 = .ok (.iconst 3, 1) := by decide +kernel
theorem dX12_deep_2 : decode cX12_deep 2 = .ok (.bipush 30, 2) := by decide +kernel
theorem dX12_deep_4 : decode cX12_deep 4 = .ok (.invokevirtual 313, 3) := by decide +kernel
theorem dX12_deep_7 : decode cX12_deep 7 = .ok (.ireturn, 1) := by decide +kernel
theorem dX12_how_0 : decode cX12_how 0 = .ok (.aload_n 0, 1) := by decide +kernel
theorem dX12_how_1 : decode cX12_how 1 = .ok (.getfield 22, 3) := by decide +kernel
theorem dX12_how_4 : decode cX12_how 4 = .ok (.aload_n 0, 1) := by decide +kernel
theorem dX12_how_5 : decode cX12_how 5 = .ok (.invokevirtual 317, 3) := by decide +kernel
theorem dX12_how_8 : decode cX12_how 8 = .ok (.if_icmp .lt 7, 3) := by decide +kernel
theorem dX12_how_11 : decode cX12_how 11 = .ok (.iconst 1, 1) := by decide +kernel
theorem dX12_how_12 : decode cX12_how 12 = .ok (.goto 19, 3) := by decide +kernel
theorem dX12_how_15 : decode cX12_how 15 = .ok (.aload_n 0, 1) := by decide +kernel
theorem dX12_how_16 : decode cX12_how 16 = .ok (.getfield 19, 3) := by decide +kernel
theorem dX12_how_19 : decode cX12_how 19 = .ok (.aload_n 0, 1) := by decide +kernel
theorem dX12_how_20 : decode cX12_how 20 = .ok (.invokevirtual 320, 3) := by decide +kernel
theorem dX12_how_23 : decode cX12_how 23 = .ok (.if_icmp .lt 7, 3) := by decide +kernel
theorem dX12_how_26 : decode cX12_how 26 = .ok (.iconst 2, 1) := by decide +kernel
theorem dX12_how_27 : decode cX12_how 27 = .ok (.goto 4, 3) := by decide +kernel
theorem dX12_how_30 : decode cX12_how 30 = .ok (.iconst 0, 1) := by decide +kernel
theorem dX12_how_31 : decode cX12_how 31 = .ok (.ireturn, 1) := by decide +kernel
theorem dX12_isEarly_0 : decode cX12_isEarly 0 = .ok (.aload_n 0, 1) := by decide +kernel
theorem dX12_isEarly_1 : decode cX12_isEarly 1 = .ok (.getfield 19, 3) := by decide +kernel
theorem dX12_isEarly_4 : decode cX12_isEarly 4 = .ok (.aload_n 0, 1) := by decide +kernel
theorem dX12_isEarly_5 : decode cX12_isEarly 5 = .ok (.getfield 34, 3) := by decide +kernel
theorem dX12_isEarly_8 : decode cX12_isEarly 8 = .ok (.iload_n 1, 1) := by decide +kernel
theorem dX12_isEarly_9 : decode cX12_isEarly 9 = .ok (.iaload, 1) := by decide +kernel
theorem dX12_isEarly_10 : decode cX12_isEarly 10 = .ok (.iadd, 1) := by decide +kernel
theorem dX12_isEarly_11 : decode cX12_isEarly 11 = .ok (.aload_n 0, 1) := by decide +kernel
theorem dX12_isEarly_12 : decode cX12_isEarly 12 = .ok (.invokevirtual 320, 3) := by decide +kernel
theorem dX12_isEarly_15 : decode cX12_isEarly 15 = .ok (.if_icmp .ge 7, 3) := by decide +kernel
theorem dX12_isEarly_18 : decode cX12_isEarly 18 = .ok (.iconst 1, 1) := by decide +kernel
theorem dX12_isEarly_19 : decode cX12_isEarly 19 = .ok (.goto 4, 3) := by decide +kernel
theorem dX12_isEarly_22 : decode cX12_isEarly 22 = .ok (.iconst 0, 1) := by decide +kernel
theorem dX12_isEarly_23 : decode cX12_isEarly 23 = .ok (.ireturn, 1) := by decide +kernel
theorem dX12_gives_0 : decode cX12_gives 0 = .ok (.aload_n 0, 1) := by decide +kernel
theorem dX12_gives_1 : decode cX12_gives 1 = .ok (.getfield 44, 3) := by decide +kernel
theorem dX12_gives_4 : decode cX12_gives 4 = .ok (.iload_n 1, 1) := by decide +kernel
theorem dX12_gives_5 : decode cX12_gives 5 = .ok (.iaload, 1) := by decide +kernel
theorem dX12_gives_6 : decode cX12_gives 6 = .ok (.tableswitch 225 1 6 #[38, 60, 87, 108, 141, 185], 38) := by decide +kernel
theorem dX12_gives_44 : decode cX12_gives 44 = .ok (.aload_n 0, 1) := by decide +kernel
theorem dX12_gives_45 : decode cX12_gives 45 = .ok (.iload_n 2, 1) := by decide +kernel
theorem dX12_gives_46 : decode cX12_gives 46 = .ok (.invokevirtual 323, 3) := by decide +kernel
theorem dX12_gives_49 : decode cX12_gives 49 = .ok (.ifCond .ne 11, 3) := by decide +kernel
theorem dX12_gives_52 : decode cX12_gives 52 = .ok (.aload_n 0, 1) := by decide +kernel
theorem dX12_gives_53 : decode cX12_gives 53 = .ok (.getfield 25, 3) := by decide +kernel
theorem dX12_gives_56 : decode cX12_gives 56 = .ok (.iconst 1, 1) := by decide +kernel
theorem dX12_gives_57 : decode cX12_gives 57 = .ok (.if_icmp .le 7, 3) := by decide +kernel
theorem dX12_gives_60 : decode cX12_gives 60 = .ok (.iconst 1, 1) := by decide +kernel
theorem dX12_gives_61 : decode cX12_gives 61 = .ok (.goto 4, 3) := by decide +kernel
theorem dX12_gives_64 : decode cX12_gives 64 = .ok (.iconst 0, 1) := by decide +kernel
theorem dX12_gives_65 : decode cX12_gives 65 = .ok (.ireturn, 1) := by decide +kernel
theorem dX12_gives_66 : decode cX12_gives 66 = .ok (.aload_n 0, 1) := by decide +kernel
theorem dX12_gives_67 : decode cX12_gives 67 = .ok (.iload_n 2, 1) := by decide +kernel
theorem dX12_gives_68 : decode cX12_gives 68 = .ok (.invokevirtual 323, 3) := by decide +kernel
theorem dX12_gives_71 : decode cX12_gives 71 = .ok (.ifCond .eq 20, 3) := by decide +kernel
theorem dX12_gives_74 : decode cX12_gives 74 = .ok (.aload_n 0, 1) := by decide +kernel
theorem dX12_gives_75 : decode cX12_gives 75 = .ok (.getfield 28, 3) := by decide +kernel
theorem dX12_gives_78 : decode cX12_gives 78 = .ok (.aload_n 0, 1) := by decide +kernel
theorem dX12_gives_79 : decode cX12_gives 79 = .ok (.getfield 47, 3) := by decide +kernel
theorem dX12_gives_82 : decode cX12_gives 82 = .ok (.iload_n 1, 1) := by decide +kernel
theorem dX12_gives_83 : decode cX12_gives 83 = .ok (.iaload, 1) := by decide +kernel
theorem dX12_gives_84 : decode cX12_gives 84 = .ok (.if_icmp .ge 7, 3) := by decide +kernel
theorem dX12_gives_87 : decode cX12_gives 87 = .ok (.iconst 1, 1) := by decide +kernel
theorem dX12_gives_88 : decode cX12_gives 88 = .ok (.goto 4, 3) := by decide +kernel
theorem dX12_gives_91 : decode cX12_gives 91 = .ok (.iconst 0, 1) := by decide +kernel
theorem dX12_gives_92 : decode cX12_gives 92 = .ok (.ireturn, 1) := by decide +kernel
theorem dX12_gives_93 : decode cX12_gives 93 = .ok (.aload_n 0, 1) := by decide +kernel
theorem dX12_gives_94 : decode cX12_gives 94 = .ok (.getfield 34, 3) := by decide +kernel
theorem dX12_gives_97 : decode cX12_gives 97 = .ok (.iload_n 2, 1) := by decide +kernel
theorem dX12_gives_98 : decode cX12_gives 98 = .ok (.iaload, 1) := by decide +kernel
theorem dX12_gives_99 : decode cX12_gives 99 = .ok (.aload_n 0, 1) := by decide +kernel
theorem dX12_gives_100 : decode cX12_gives 100 = .ok (.getfield 47, 3) := by decide +kernel
theorem dX12_gives_103 : decode cX12_gives 103 = .ok (.iload_n 1, 1) := by decide +kernel
theorem dX12_gives_104 : decode cX12_gives 104 = .ok (.iaload, 1) := by decide +kernel
theorem dX12_gives_105 : decode cX12_gives 105 = .ok (.if_icmp .gt 7, 3) := by decide +kernel
theorem dX12_gives_108 : decode cX12_gives 108 = .ok (.iconst 1, 1) := by decide +kernel
theorem dX12_gives_109 : decode cX12_gives 109 = .ok (.goto 4, 3) := by decide +kernel
theorem dX12_gives_112 : decode cX12_gives 112 = .ok (.iconst 0, 1) := by decide +kernel
theorem dX12_gives_113 : decode cX12_gives 113 = .ok (.ireturn, 1) := by decide +kernel
theorem dX12_gives_114 : decode cX12_gives 114 = .ok (.aload_n 0, 1) := by decide +kernel
theorem dX12_gives_115 : decode cX12_gives 115 = .ok (.iload_n 2, 1) := by decide +kernel
theorem dX12_gives_116 : decode cX12_gives 116 = .ok (.invokevirtual 323, 3) := by decide +kernel
theorem dX12_gives_119 : decode cX12_gives 119 = .ok (.ifCond .ne 22, 3) := by decide +kernel
theorem dX12_gives_122 : decode cX12_gives 122 = .ok (.aload_n 0, 1) := by decide +kernel
theorem dX12_gives_123 : decode cX12_gives 123 = .ok (.getfield 25, 3) := by decide +kernel
theorem dX12_gives_126 : decode cX12_gives 126 = .ok (.iconst 1, 1) := by decide +kernel
theorem dX12_gives_127 : decode cX12_gives 127 = .ok (.if_icmp .gt 14, 3) := by decide +kernel
theorem dX12_gives_130 : decode cX12_gives 130 = .ok (.aload_n 0, 1) := by decide +kernel
theorem dX12_gives_131 : decode cX12_gives 131 = .ok (.getfield 38, 3) := by decide +kernel
theorem dX12_gives_134 : decode cX12_gives 134 = .ok (.iload_n 2, 1) := by decide +kernel
theorem dX12_gives_135 : decode cX12_gives 135 = .ok (.iaload, 1) := by decide +kernel
theorem dX12_gives_136 : decode cX12_gives 136 = .ok (.bipush 6, 2) := by decide +kernel
theorem dX12_gives_138 : decode cX12_gives 138 = .ok (.if_icmp .le 7, 3) := by decide +kernel
theorem dX12_gives_141 : decode cX12_gives 141 = .ok (.iconst 1, 1) := by decide +kernel
theorem dX12_gives_142 : decode cX12_gives 142 = .ok (.goto 4, 3) := by decide +kernel
theorem dX12_gives_145 : decode cX12_gives 145 = .ok (.iconst 0, 1) := by decide +kernel
theorem dX12_gives_146 : decode cX12_gives 146 = .ok (.ireturn, 1) := by decide +kernel
theorem dX12_gives_147 : decode cX12_gives 147 = .ok (.aload_n 0, 1) := by decide +kernel
theorem dX12_gives_148 : decode cX12_gives 148 = .ok (.iload_n 2, 1) := by decide +kernel
theorem dX12_gives_149 : decode cX12_gives 149 = .ok (.invokevirtual 323, 3) := by decide +kernel
theorem dX12_gives_152 : decode cX12_gives 152 = .ok (.ifCond .eq 37, 3) := by decide +kernel
theorem dX12_gives_155 : decode cX12_gives 155 = .ok (.aload_n 0, 1) := by decide +kernel
theorem dX12_gives_156 : decode cX12_gives 156 = .ok (.getfield 28, 3) := by decide +kernel
theorem dX12_gives_159 : decode cX12_gives 159 = .ok (.aload_n 0, 1) := by decide +kernel
theorem dX12_gives_160 : decode cX12_gives 160 = .ok (.getfield 47, 3) := by decide +kernel
theorem dX12_gives_163 : decode cX12_gives 163 = .ok (.iload_n 1, 1) := by decide +kernel
theorem dX12_gives_164 : decode cX12_gives 164 = .ok (.iaload, 1) := by decide +kernel
theorem dX12_gives_165 : decode cX12_gives 165 = .ok (.if_icmp .ge 24, 3) := by decide +kernel
theorem dX12_gives_168 : decode cX12_gives 168 = .ok (.aload_n 0, 1) := by decide +kernel
theorem dX12_gives_169 : decode cX12_gives 169 = .ok (.getfield 41, 3) := by decide +kernel
theorem dX12_gives_172 : decode cX12_gives 172 = .ok (.iload_n 2, 1) := by decide +kernel
theorem dX12_gives_173 : decode cX12_gives 173 = .ok (.iaload, 1) := by decide +kernel
theorem dX12_gives_174 : decode cX12_gives 174 = .ok (.iconst 3, 1) := by decide +kernel
theorem dX12_gives_175 : decode cX12_gives 175 = .ok (.aload_n 0, 1) := by decide +kernel
theorem dX12_gives_176 : decode cX12_gives 176 = .ok (.getfield 47, 3) := by decide +kernel
theorem dX12_gives_179 : decode cX12_gives 179 = .ok (.iload_n 1, 1) := by decide +kernel
theorem dX12_gives_180 : decode cX12_gives 180 = .ok (.iaload, 1) := by decide +kernel
theorem dX12_gives_181 : decode cX12_gives 181 = .ok (.imul, 1) := by decide +kernel
theorem dX12_gives_182 : decode cX12_gives 182 = .ok (.if_icmp .gt 7, 3) := by decide +kernel
theorem dX12_gives_185 : decode cX12_gives 185 = .ok (.iconst 1, 1) := by decide +kernel
theorem dX12_gives_186 : decode cX12_gives 186 = .ok (.goto 4, 3) := by decide +kernel
theorem dX12_gives_189 : decode cX12_gives 189 = .ok (.iconst 0, 1) := by decide +kernel
theorem dX12_gives_190 : decode cX12_gives 190 = .ok (.ireturn, 1) := by decide +kernel
theorem dX12_gives_191 : decode cX12_gives 191 = .ok (.aload_n 0, 1) := by decide +kernel
theorem dX12_gives_192 : decode cX12_gives 192 = .ok (.getfield 34, 3) := by decide +kernel
theorem dX12_gives_195 : decode cX12_gives 195 = .ok (.iload_n 2, 1) := by decide +kernel
theorem dX12_gives_196 : decode cX12_gives 196 = .ok (.iaload, 1) := by decide +kernel
theorem dX12_gives_197 : decode cX12_gives 197 = .ok (.aload_n 0, 1) := by decide +kernel
theorem dX12_gives_198 : decode cX12_gives 198 = .ok (.getfield 47, 3) := by decide +kernel
theorem dX12_gives_201 : decode cX12_gives 201 = .ok (.iload_n 1, 1) := by decide +kernel
theorem dX12_gives_202 : decode cX12_gives 202 = .ok (.iaload, 1) := by decide +kernel
theorem dX12_gives_203 : decode cX12_gives 203 = .ok (.if_icmp .gt 26, 3) := by decide +kernel
theorem dX12_gives_206 : decode cX12_gives 206 = .ok (.aload_n 0, 1) := by decide +kernel
theorem dX12_gives_207 : decode cX12_gives 207 = .ok (.getfield 50, 3) := by decide +kernel
theorem dX12_gives_210 : decode cX12_gives 210 = .ok (.iconst 4, 1) := by decide +kernel
theorem dX12_gives_211 : decode cX12_gives 211 = .ok (.iload_n 1, 1) := by decide +kernel
theorem dX12_gives_212 : decode cX12_gives 212 = .ok (.imul, 1) := by decide +kernel
theorem dX12_gives_213 : decode cX12_gives 213 = .ok (.aload_n 0, 1) := by decide +kernel
theorem dX12_gives_214 : decode cX12_gives 214 = .ok (.getfield 16, 3) := by decide +kernel
theorem dX12_gives_217 : decode cX12_gives 217 = .ok (.iconst 4, 1) := by decide +kernel
theorem dX12_gives_218 : decode cX12_gives 218 = .ok (.irem, 1) := by decide +kernel
theorem dX12_gives_219 : decode cX12_gives 219 = .ok (.iadd, 1) := by decide +kernel
theorem dX12_gives_220 : decode cX12_gives 220 = .ok (.iaload, 1) := by decide +kernel
theorem dX12_gives_221 : decode cX12_gives 221 = .ok (.iconst 1, 1) := by decide +kernel
theorem dX12_gives_222 : decode cX12_gives 222 = .ok (.if_icmp .ne 7, 3) := by decide +kernel
theorem dX12_gives_225 : decode cX12_gives 225 = .ok (.iconst 1, 1) := by decide +kernel
theorem dX12_gives_226 : decode cX12_gives 226 = .ok (.goto 4, 3) := by decide +kernel
theorem dX12_gives_229 : decode cX12_gives 229 = .ok (.iconst 0, 1) := by decide +kernel
theorem dX12_gives_230 : decode cX12_gives 230 = .ok (.ireturn, 1) := by decide +kernel
theorem dX12_gives_231 : decode cX12_gives 231 = .ok (.aload_n 0, 1) := by decide +kernel
theorem dX12_gives_232 : decode cX12_gives 232 = .ok (.iload_n 2, 1) := by decide +kernel
theorem dX12_gives_233 : decode cX12_gives 233 = .ok (.invokevirtual 323, 3) := by decide +kernel
theorem dX12_gives_236 : decode cX12_gives 236 = .ok (.ireturn, 1) := by decide +kernel
theorem dX12_of_0 : decode cX12_of 0 = .ok (.aload_n 0, 1) := by decide +kernel
theorem dX12_of_1 : decode cX12_of 1 = .ok (.iload_n 1, 1) := by decide +kernel
theorem dX12_of_2 : decode cX12_of 2 = .ok (.invokevirtual 250, 3) := by decide +kernel
theorem dX12_of_5 : decode cX12_of 5 = .ok (.ifCond .ne 5, 3) := by decide +kernel
theorem dX12_of_8 : decode cX12_of 8 = .ok (.iconst (-1), 1) := by decide +kernel
theorem dX12_of_9 : decode cX12_of 9 = .ok (.ireturn, 1) := by decide +kernel
theorem dX12_of_10 : decode cX12_of 10 = .ok (.iload_n 2, 1) := by decide +kernel
theorem dX12_of_11 : decode cX12_of 11 = .ok (.ifCond .eq 8, 3) := by decide +kernel
theorem dX12_of_14 : decode cX12_of 14 = .ok (.iload_n 2, 1) := by decide +kernel
theorem dX12_of_15 : decode cX12_of 15 = .ok (.iconst 1, 1) := by decide +kernel
theorem dX12_of_16 : decode cX12_of 16 = .ok (.if_icmp .ne 23, 3) := by decide +kernel
theorem dX12_of_19 : decode cX12_of 19 = .ok (.iload_n 2, 1) := by decide +kernel
theorem dX12_of_20 : decode cX12_of 20 = .ok (.ifCond .ne 12, 3) := by decide +kernel
theorem dX12_of_23 : decode cX12_of 23 = .ok (.aload_n 0, 1) := by decide +kernel
theorem dX12_of_24 : decode cX12_of 24 = .ok (.getfield 44, 3) := by decide +kernel
theorem dX12_of_27 : decode cX12_of 27 = .ok (.iload_n 1, 1) := by decide +kernel
theorem dX12_of_28 : decode cX12_of 28 = .ok (.iaload, 1) := by decide +kernel
theorem dX12_of_29 : decode cX12_of 29 = .ok (.goto 9, 3) := by decide +kernel
theorem dX12_of_32 : decode cX12_of 32 = .ok (.aload_n 0, 1) := by decide +kernel
theorem dX12_of_33 : decode cX12_of 33 = .ok (.getfield 47, 3) := by decide +kernel
theorem dX12_of_36 : decode cX12_of 36 = .ok (.iload_n 1, 1) := by decide +kernel
theorem dX12_of_37 : decode cX12_of 37 = .ok (.iaload, 1) := by decide +kernel
theorem dX12_of_38 : decode cX12_of 38 = .ok (.ireturn, 1) := by decide +kernel
theorem dX12_of_39 : decode cX12_of 39 = .ok (.iload_n 2, 1) := by decide +kernel
theorem dX12_of_40 : decode cX12_of 40 = .ok (.bipush 10, 2) := by decide +kernel
theorem dX12_of_42 : decode cX12_of 42 = .ok (.irem, 1) := by decide +kernel
theorem dX12_of_43 : decode cX12_of 43 = .ok (.istore_n 3, 1) := by decide +kernel
theorem dX12_of_44 : decode cX12_of 44 = .ok (.aload_n 0, 1) := by decide +kernel
theorem dX12_of_45 : decode cX12_of 45 = .ok (.iload_n 2, 1) := by decide +kernel
theorem dX12_of_46 : decode cX12_of 46 = .ok (.bipush 10, 2) := by decide +kernel
theorem dX12_of_48 : decode cX12_of 48 = .ok (.bipush 39, 2) := by decide +kernel
theorem dX12_of_50 : decode cX12_of 50 = .ok (.invokevirtual 242, 3) := by decide +kernel
theorem dX12_of_53 : decode cX12_of 53 = .ok (.ifCond .eq 11, 3) := by decide +kernel
theorem dX12_of_56 : decode cX12_of 56 = .ok (.aload_n 0, 1) := by decide +kernel
theorem dX12_of_57 : decode cX12_of 57 = .ok (.iload_n 3, 1) := by decide +kernel
theorem dX12_of_58 : decode cX12_of 58 = .ok (.invokevirtual 246, 3) := by decide +kernel
theorem dX12_of_61 : decode cX12_of 61 = .ok (.ifCond .ne 5, 3) := by decide +kernel
theorem dX12_of_64 : decode cX12_of 64 = .ok (.iconst (-1), 1) := by decide +kernel
theorem dX12_of_65 : decode cX12_of 65 = .ok (.ireturn, 1) := by decide +kernel
theorem dX12_of_66 : decode cX12_of 66 = .ok (.iload_n 2, 1) := by decide +kernel
theorem dX12_of_67 : decode cX12_of 67 = .ok (.bipush 20, 2) := by decide +kernel
theorem dX12_of_69 : decode cX12_of 69 = .ok (.if_icmp .ge 20, 3) := by decide +kernel
theorem dX12_of_72 : decode cX12_of 72 = .ok (.aload_n 0, 1) := by decide +kernel
theorem dX12_of_73 : decode cX12_of 73 = .ok (.iload_n 1, 1) := by decide +kernel
theorem dX12_of_74 : decode cX12_of 74 = .ok (.iload_n 3, 1) := by decide +kernel
theorem dX12_of_75 : decode cX12_of 75 = .ok (.invokevirtual 326, 3) := by decide +kernel
theorem dX12_of_78 : decode cX12_of 78 = .ok (.ifCond .eq 7, 3) := by decide +kernel
theorem dX12_of_81 : decode cX12_of 81 = .ok (.iconst 1, 1) := by decide +kernel
theorem dX12_of_82 : decode cX12_of 82 = .ok (.goto 32, 3) := by decide +kernel
theorem dX12_of_85 : decode cX12_of 85 = .ok (.iconst 0, 1) := by decide +kernel
theorem dX12_of_86 : decode cX12_of 86 = .ok (.goto 28, 3) := by decide +kernel
theorem dX12_of_89 : decode cX12_of 89 = .ok (.iload_n 2, 1) := by decide +kernel
theorem dX12_of_90 : decode cX12_of 90 = .ok (.bipush 30, 2) := by decide +kernel
theorem dX12_of_92 : decode cX12_of 92 = .ok (.if_icmp .ge 14, 3) := by decide +kernel
theorem dX12_of_95 : decode cX12_of 95 = .ok (.aload_n 0, 1) := by decide +kernel
theorem dX12_of_96 : decode cX12_of 96 = .ok (.iconst 0, 1) := by decide +kernel
theorem dX12_of_97 : decode cX12_of 97 = .ok (.iload_n 1, 1) := by decide +kernel
theorem dX12_of_98 : decode cX12_of 98 = .ok (.iload_n 3, 1) := by decide +kernel
theorem dX12_of_99 : decode cX12_of 99 = .ok (.iconst 4, 1) := by decide +kernel
theorem dX12_of_100 : decode cX12_of 100 = .ok (.invokevirtual 329, 3) := by decide +kernel
theorem dX12_of_103 : decode cX12_of 103 = .ok (.goto 11, 3) := by decide +kernel
theorem dX12_of_106 : decode cX12_of 106 = .ok (.aload_n 0, 1) := by decide +kernel
theorem dX12_of_107 : decode cX12_of 107 = .ok (.iconst 1, 1) := by decide +kernel
theorem dX12_of_108 : decode cX12_of 108 = .ok (.iload_n 1, 1) := by decide +kernel
theorem dX12_of_109 : decode cX12_of 109 = .ok (.iload_n 3, 1) := by decide +kernel
theorem dX12_of_110 : decode cX12_of 110 = .ok (.iconst 2, 1) := by decide +kernel
theorem dX12_of_111 : decode cX12_of 111 = .ok (.invokevirtual 329, 3) := by decide +kernel
theorem dX12_of_114 : decode cX12_of 114 = .ok (.ireturn, 1) := by decide +kernel
theorem dX12_told_0 : decode cX12_told 0 = .ok (.iload_n 1, 1) := by decide +kernel
theorem dX12_told_1 : decode cX12_told 1 = .ok (.tableswitch 96 0 8 #[51, 56, 61, 66, 71, 76, 81, 86, 91], 51) := by decide +kernel
theorem dX12_told_52 : decode cX12_told 52 = .ok (.aload_n 0, 1) := by decide +kernel
theorem dX12_told_53 : decode cX12_told 53 = .ok (.getfield 16, 3) := by decide +kernel
theorem dX12_told_56 : decode cX12_told 56 = .ok (.ireturn, 1) := by decide +kernel
theorem dX12_told_57 : decode cX12_told 57 = .ok (.aload_n 0, 1) := by decide +kernel
theorem dX12_told_58 : decode cX12_told 58 = .ok (.getfield 19, 3) := by decide +kernel
theorem dX12_told_61 : decode cX12_told 61 = .ok (.ireturn, 1) := by decide +kernel
theorem dX12_told_62 : decode cX12_told 62 = .ok (.aload_n 0, 1) := by decide +kernel
theorem dX12_told_63 : decode cX12_told 63 = .ok (.getfield 22, 3) := by decide +kernel
theorem dX12_told_66 : decode cX12_told 66 = .ok (.ireturn, 1) := by decide +kernel
theorem dX12_told_67 : decode cX12_told 67 = .ok (.aload_n 0, 1) := by decide +kernel
theorem dX12_told_68 : decode cX12_told 68 = .ok (.getfield 25, 3) := by decide +kernel
theorem dX12_told_71 : decode cX12_told 71 = .ok (.ireturn, 1) := by decide +kernel
theorem dX12_told_72 : decode cX12_told 72 = .ok (.aload_n 0, 1) := by decide +kernel
theorem dX12_told_73 : decode cX12_told 73 = .ok (.getfield 28, 3) := by decide +kernel
theorem dX12_told_76 : decode cX12_told 76 = .ok (.ireturn, 1) := by decide +kernel
theorem dX12_told_77 : decode cX12_told 77 = .ok (.aload_n 0, 1) := by decide +kernel
theorem dX12_told_78 : decode cX12_told 78 = .ok (.getfield 31, 3) := by decide +kernel
theorem dX12_told_81 : decode cX12_told 81 = .ok (.ireturn, 1) := by decide +kernel
theorem dX12_told_82 : decode cX12_told 82 = .ok (.aload_n 0, 1) := by decide +kernel
theorem dX12_told_83 : decode cX12_told 83 = .ok (.invokevirtual 320, 3) := by decide +kernel
theorem dX12_told_86 : decode cX12_told 86 = .ok (.ireturn, 1) := by decide +kernel
theorem dX12_told_87 : decode cX12_told 87 = .ok (.aload_n 0, 1) := by decide +kernel
theorem dX12_told_88 : decode cX12_told 88 = .ok (.invokevirtual 317, 3) := by decide +kernel
theorem dX12_told_91 : decode cX12_told 91 = .ok (.ireturn, 1) := by decide +kernel
theorem dX12_told_92 : decode cX12_told 92 = .ok (.aload_n 0, 1) := by decide +kernel
theorem dX12_told_93 : decode cX12_told 93 = .ok (.invokevirtual 333, 3) := by decide +kernel
theorem dX12_told_96 : decode cX12_told 96 = .ok (.ireturn, 1) := by decide +kernel
theorem dX12_told_97 : decode cX12_told 97 = .ok (.iconst (-1), 1) := by decide +kernel
theorem dX12_told_98 : decode cX12_told 98 = .ok (.ireturn, 1) := by decide +kernel
theorem dX12_nextOf_0 : decode cX12_nextOf 0 = .ok (.iload_n 1, 1) := by decide +kernel
theorem dX12_nextOf_1 : decode cX12_nextOf 1 = .ok (.iconst 1, 1) := by decide +kernel
theorem dX12_nextOf_2 : decode cX12_nextOf 2 = .ok (.iadd, 1) := by decide +kernel
theorem dX12_nextOf_3 : decode cX12_nextOf 3 = .ok (.aload_n 0, 1) := by decide +kernel
theorem dX12_nextOf_4 : decode cX12_nextOf 4 = .ok (.getfield 7, 3) := by decide +kernel
theorem dX12_nextOf_7 : decode cX12_nextOf 7 = .ok (.if_icmp .ge 9, 3) := by decide +kernel
theorem dX12_nextOf_10 : decode cX12_nextOf 10 = .ok (.iload_n 1, 1) := by decide +kernel
theorem dX12_nextOf_11 : decode cX12_nextOf 11 = .ok (.iconst 1, 1) := by decide +kernel
theorem dX12_nextOf_12 : decode cX12_nextOf 12 = .ok (.iadd, 1) := by decide +kernel
theorem dX12_nextOf_13 : decode cX12_nextOf 13 = .ok (.goto 4, 3) := by decide +kernel
theorem dX12_nextOf_16 : decode cX12_nextOf 16 = .ok (.iconst 0, 1) := by decide +kernel
theorem dX12_nextOf_17 : decode cX12_nextOf 17 = .ok (.ireturn, 1) := by decide +kernel
theorem dX12_asks_0 : decode cX12_asks 0 = .ok (.aload_n 0, 1) := by decide +kernel
theorem dX12_asks_1 : decode cX12_asks 1 = .ok (.iload_n 1, 1) := by decide +kernel
theorem dX12_asks_2 : decode cX12_asks 2 = .ok (.iload_n 2, 1) := by decide +kernel
theorem dX12_asks_3 : decode cX12_asks 3 = .ok (.invokevirtual 326, 3) := by decide +kernel
theorem dX12_asks_6 : decode cX12_asks 6 = .ok (.ifCond .eq 127, 3) := by decide +kernel
theorem dX12_asks_9 : decode cX12_asks 9 = .ok (.aload_n 0, 1) := by decide +kernel
theorem dX12_asks_10 : decode cX12_asks 10 = .ok (.getfield 111, 3) := by decide +kernel
theorem dX12_asks_13 : decode cX12_asks 13 = .ok (.ifCond .eq 120, 3) := by decide +kernel
theorem dX12_asks_16 : decode cX12_asks 16 = .ok (.aload_n 0, 1) := by decide +kernel
theorem dX12_asks_17 : decode cX12_asks 17 = .ok (.dup, 1) := by decide +kernel
theorem dX12_asks_18 : decode cX12_asks 18 = .ok (.getfield 22, 3) := by decide +kernel
theorem dX12_asks_21 : decode cX12_asks 21 = .ok (.aload_n 0, 1) := by decide +kernel
theorem dX12_asks_22 : decode cX12_asks 22 = .ok (.iconst 0, 1) := by decide +kernel
theorem dX12_asks_23 : decode cX12_asks 23 = .ok (.iload_n 1, 1) := by decide +kernel
theorem dX12_asks_24 : decode cX12_asks 24 = .ok (.iload_n 2, 1) := by decide +kernel
theorem dX12_asks_25 : decode cX12_asks 25 = .ok (.iconst 4, 1) := by decide +kernel
theorem dX12_asks_26 : decode cX12_asks 26 = .ok (.invokevirtual 329, 3) := by decide +kernel
theorem dX12_asks_29 : decode cX12_asks 29 = .ok (.iadd, 1) := by decide +kernel
theorem dX12_asks_30 : decode cX12_asks 30 = .ok (.putfield 22, 3) := by decide +kernel
theorem dX12_asks_33 : decode cX12_asks 33 = .ok (.aload_n 0, 1) := by decide +kernel
theorem dX12_asks_34 : decode cX12_asks 34 = .ok (.dup, 1) := by decide +kernel
theorem dX12_asks_35 : decode cX12_asks 35 = .ok (.getfield 19, 3) := by decide +kernel
theorem dX12_asks_38 : decode cX12_asks 38 = .ok (.aload_n 0, 1) := by decide +kernel
theorem dX12_asks_39 : decode cX12_asks 39 = .ok (.getfield 34, 3) := by decide +kernel
theorem dX12_asks_42 : decode cX12_asks 42 = .ok (.iload_n 2, 1) := by decide +kernel
theorem dX12_asks_43 : decode cX12_asks 43 = .ok (.iaload, 1) := by decide +kernel
theorem dX12_asks_44 : decode cX12_asks 44 = .ok (.iadd, 1) := by decide +kernel
theorem dX12_asks_45 : decode cX12_asks 45 = .ok (.putfield 19, 3) := by decide +kernel
theorem dX12_asks_48 : decode cX12_asks 48 = .ok (.aload_n 0, 1) := by decide +kernel
theorem dX12_asks_49 : decode cX12_asks 49 = .ok (.dup, 1) := by decide +kernel
theorem dX12_asks_50 : decode cX12_asks 50 = .ok (.getfield 117, 3) := by decide +kernel
theorem dX12_asks_53 : decode cX12_asks 53 = .ok (.aload_n 0, 1) := by decide +kernel
theorem dX12_asks_54 : decode cX12_asks 54 = .ok (.getfield 34, 3) := by decide +kernel
theorem dX12_asks_57 : decode cX12_asks 57 = .ok (.iload_n 2, 1) := by decide +kernel
theorem dX12_asks_58 : decode cX12_asks 58 = .ok (.iaload, 1) := by decide +kernel
theorem dX12_asks_59 : decode cX12_asks 59 = .ok (.iadd, 1) := by decide +kernel
theorem dX12_asks_60 : decode cX12_asks 60 = .ok (.putfield 117, 3) := by decide +kernel
theorem dX12_asks_63 : decode cX12_asks 63 = .ok (.aload_n 0, 1) := by decide +kernel
theorem dX12_asks_64 : decode cX12_asks 64 = .ok (.iconst 0, 1) := by decide +kernel
theorem dX12_asks_65 : decode cX12_asks 65 = .ok (.putfield 25, 3) := by decide +kernel
theorem dX12_asks_68 : decode cX12_asks 68 = .ok (.aload_n 0, 1) := by decide +kernel
theorem dX12_asks_69 : decode cX12_asks 69 = .ok (.dup, 1) := by decide +kernel
theorem dX12_asks_70 : decode cX12_asks 70 = .ok (.getfield 28, 3) := by decide +kernel
theorem dX12_asks_73 : decode cX12_asks 73 = .ok (.iconst 1, 1) := by decide +kernel
theorem dX12_asks_74 : decode cX12_asks 74 = .ok (.iadd, 1) := by decide +kernel
theorem dX12_asks_75 : decode cX12_asks 75 = .ok (.putfield 28, 3) := by decide +kernel
theorem dX12_asks_78 : decode cX12_asks 78 = .ok (.aload_n 0, 1) := by decide +kernel
theorem dX12_asks_79 : decode cX12_asks 79 = .ok (.getfield 41, 3) := by decide +kernel
theorem dX12_asks_82 : decode cX12_asks 82 = .ok (.iload_n 2, 1) := by decide +kernel
theorem dX12_asks_83 : decode cX12_asks 83 = .ok (.aload_n 0, 1) := by decide +kernel
theorem dX12_asks_84 : decode cX12_asks 84 = .ok (.getfield 41, 3) := by decide +kernel
theorem dX12_asks_87 : decode cX12_asks 87 = .ok (.iload_n 2, 1) := by decide +kernel
theorem dX12_asks_88 : decode cX12_asks 88 = .ok (.iaload, 1) := by decide +kernel
theorem dX12_asks_89 : decode cX12_asks 89 = .ok (.sipush 999, 3) := by decide +kernel
theorem dX12_asks_92 : decode cX12_asks 92 = .ok (.if_icmp .ge 14, 3) := by decide +kernel
theorem dX12_asks_95 : decode cX12_asks 95 = .ok (.aload_n 0, 1) := by decide +kernel
theorem dX12_asks_96 : decode cX12_asks 96 = .ok (.getfield 41, 3) := by decide +kernel
theorem dX12_asks_99 : decode cX12_asks 99 = .ok (.iload_n 2, 1) := by decide +kernel
theorem dX12_asks_100 : decode cX12_asks 100 = .ok (.iaload, 1) := by decide +kernel
theorem dX12_asks_101 : decode cX12_asks 101 = .ok (.iconst 1, 1) := by decide +kernel
theorem dX12_asks_102 : decode cX12_asks 102 = .ok (.iadd, 1) := by decide +kernel
theorem dX12_asks_103 : decode cX12_asks 103 = .ok (.goto 6, 3) := by decide +kernel
theorem dX12_asks_106 : decode cX12_asks 106 = .ok (.sipush 999, 3) := by decide +kernel
theorem dX12_asks_109 : decode cX12_asks 109 = .ok (.iastore, 1) := by decide +kernel
theorem dX12_asks_110 : decode cX12_asks 110 = .ok (.aload_n 0, 1) := by decide +kernel
theorem dX12_asks_111 : decode cX12_asks 111 = .ok (.dup, 1) := by decide +kernel
theorem dX12_asks_112 : decode cX12_asks 112 = .ok (.getfield 111, 3) := by decide +kernel
theorem dX12_asks_115 : decode cX12_asks 115 = .ok (.aload_n 0, 1) := by decide +kernel
theorem dX12_asks_116 : decode cX12_asks 116 = .ok (.getfield 111, 3) := by decide +kernel
theorem dX12_asks_119 : decode cX12_asks 119 = .ok (.ifCond .le 7, 3) := by decide +kernel
theorem dX12_asks_122 : decode cX12_asks 122 = .ok (.iconst 1, 1) := by decide +kernel
theorem dX12_asks_123 : decode cX12_asks 123 = .ok (.goto 4, 3) := by decide +kernel
theorem dX12_asks_126 : decode cX12_asks 126 = .ok (.iconst 0, 1) := by decide +kernel
theorem dX12_asks_127 : decode cX12_asks 127 = .ok (.isub, 1) := by decide +kernel
theorem dX12_asks_128 : decode cX12_asks 128 = .ok (.putfield 111, 3) := by decide +kernel
theorem dX12_asks_131 : decode cX12_asks 131 = .ok (.iconst 1, 1) := by decide +kernel
theorem dX12_asks_132 : decode cX12_asks 132 = .ok (.ireturn, 1) := by decide +kernel
theorem dX12_asks_133 : decode cX12_asks 133 = .ok (.aload_n 0, 1) := by decide +kernel
theorem dX12_asks_134 : decode cX12_asks 134 = .ok (.getfield 22, 3) := by decide +kernel
theorem dX12_asks_137 : decode cX12_asks 137 = .ok (.aload_n 0, 1) := by decide +kernel
theorem dX12_asks_138 : decode cX12_asks 138 = .ok (.iconst 1, 1) := by decide +kernel
theorem dX12_asks_139 : decode cX12_asks 139 = .ok (.iload_n 1, 1) := by decide +kernel
theorem dX12_asks_140 : decode cX12_asks 140 = .ok (.iload_n 2, 1) := by decide +kernel
theorem dX12_asks_141 : decode cX12_asks 141 = .ok (.iconst 2, 1) := by decide +kernel
theorem dX12_asks_142 : decode cX12_asks 142 = .ok (.invokevirtual 329, 3) := by decide +kernel
theorem dX12_asks_145 : decode cX12_asks 145 = .ok (.isub, 1) := by decide +kernel
theorem dX12_asks_146 : decode cX12_asks 146 = .ok (.istore_n 3, 1) := by decide +kernel
theorem dX12_asks_147 : decode cX12_asks 147 = .ok (.aload_n 0, 1) := by decide +kernel
theorem dX12_asks_148 : decode cX12_asks 148 = .ok (.iload_n 3, 1) := by decide +kernel
theorem dX12_asks_149 : decode cX12_asks 149 = .ok (.ifCond .ge 7, 3) := by decide +kernel
theorem dX12_asks_152 : decode cX12_asks 152 = .ok (.iconst 0, 1) := by decide +kernel
theorem dX12_asks_153 : decode cX12_asks 153 = .ok (.goto 4, 3) := by decide +kernel
theorem dX12_asks_156 : decode cX12_asks 156 = .ok (.iload_n 3, 1) := by decide +kernel
theorem dX12_asks_157 : decode cX12_asks 157 = .ok (.putfield 22, 3) := by decide +kernel
theorem dX12_asks_160 : decode cX12_asks 160 = .ok (.aload_n 0, 1) := by decide +kernel
theorem dX12_asks_161 : decode cX12_asks 161 = .ok (.dup, 1) := by decide +kernel
theorem dX12_asks_162 : decode cX12_asks 162 = .ok (.getfield 19, 3) := by decide +kernel
theorem dX12_asks_165 : decode cX12_asks 165 = .ok (.iconst 1, 1) := by decide +kernel
theorem dX12_asks_166 : decode cX12_asks 166 = .ok (.iadd, 1) := by decide +kernel
theorem dX12_asks_167 : decode cX12_asks 167 = .ok (.putfield 19, 3) := by decide +kernel
theorem dX12_asks_170 : decode cX12_asks 170 = .ok (.aload_n 0, 1) := by decide +kernel
theorem dX12_asks_171 : decode cX12_asks 171 = .ok (.dup, 1) := by decide +kernel
theorem dX12_asks_172 : decode cX12_asks 172 = .ok (.getfield 25, 3) := by decide +kernel
theorem dX12_asks_175 : decode cX12_asks 175 = .ok (.iconst 1, 1) := by decide +kernel
theorem dX12_asks_176 : decode cX12_asks 176 = .ok (.iadd, 1) := by decide +kernel
theorem dX12_asks_177 : decode cX12_asks 177 = .ok (.putfield 25, 3) := by decide +kernel
theorem dX12_asks_180 : decode cX12_asks 180 = .ok (.iconst 0, 1) := by decide +kernel
theorem dX12_asks_181 : decode cX12_asks 181 = .ok (.ireturn, 1) := by decide +kernel
theorem dX12_isOver_0 : decode cX12_isOver 0 = .ok (.aload_n 0, 1) := by decide +kernel
theorem dX12_isOver_1 : decode cX12_isOver 1 = .ok (.invokevirtual 333, 3) := by decide +kernel
theorem dX12_isOver_4 : decode cX12_isOver 4 = .ok (.ifCond .ne 25, 3) := by decide +kernel
theorem dX12_isOver_7 : decode cX12_isOver 7 = .ok (.aload_n 0, 1) := by decide +kernel
theorem dX12_isOver_8 : decode cX12_isOver 8 = .ok (.getfield 7, 3) := by decide +kernel
theorem dX12_isOver_11 : decode cX12_isOver 11 = .ok (.ifCond .eq 18, 3) := by decide +kernel
theorem dX12_isOver_14 : decode cX12_isOver 14 = .ok (.aload_n 0, 1) := by decide +kernel
theorem dX12_isOver_15 : decode cX12_isOver 15 = .ok (.getfield 114, 3) := by decide +kernel
theorem dX12_isOver_18 : decode cX12_isOver 18 = .ok (.ifCond .lt 15, 3) := by decide +kernel
theorem dX12_isOver_21 : decode cX12_isOver 21 = .ok (.aload_n 0, 1) := by decide +kernel
theorem dX12_isOver_22 : decode cX12_isOver 22 = .ok (.getfield 7, 3) := by decide +kernel
theorem dX12_isOver_25 : decode cX12_isOver 25 = .ok (.iconst 1, 1) := by decide +kernel
theorem dX12_isOver_26 : decode cX12_isOver 26 = .ok (.if_icmp .ne 7, 3) := by decide +kernel
theorem dX12_isOver_29 : decode cX12_isOver 29 = .ok (.iconst 1, 1) := by decide +kernel
theorem dX12_isOver_30 : decode cX12_isOver 30 = .ok (.goto 4, 3) := by decide +kernel
theorem dX12_isOver_33 : decode cX12_isOver 33 = .ok (.iconst 0, 1) := by decide +kernel
theorem dX12_isOver_34 : decode cX12_isOver 34 = .ok (.ireturn, 1) := by decide +kernel
theorem dX12_goAsk_0 : decode cX12_goAsk 0 = .ok (.aload_n 0, 1) := by decide +kernel
theorem dX12_goAsk_1 : decode cX12_goAsk 1 = .ok (.getfield 31, 3) := by decide +kernel
theorem dX12_goAsk_4 : decode cX12_goAsk 4 = .ok (.aload_n 0, 1) := by decide +kernel
theorem dX12_goAsk_5 : decode cX12_goAsk 5 = .ok (.getfield 114, 3) := by decide +kernel
theorem dX12_goAsk_8 : decode cX12_goAsk 8 = .ok (.if_icmp .ne 15, 3) := by decide +kernel
theorem dX12_goAsk_11 : decode cX12_goAsk 11 = .ok (.aload_n 0, 1) := by decide +kernel
theorem dX12_goAsk_12 : decode cX12_goAsk 12 = .ok (.aload_n 0, 1) := by decide +kernel
theorem dX12_goAsk_13 : decode cX12_goAsk 13 = .ok (.aload_n 0, 1) := by decide +kernel
theorem dX12_goAsk_14 : decode cX12_goAsk 14 = .ok (.getfield 31, 3) := by decide +kernel
theorem dX12_goAsk_17 : decode cX12_goAsk 17 = .ok (.invokevirtual 336, 3) := by decide +kernel
theorem dX12_goAsk_20 : decode cX12_goAsk 20 = .ok (.putfield 31, 3) := by decide +kernel
theorem dX12_goAsk_23 : decode cX12_goAsk 23 = .ok (.aload_n 0, 1) := by decide +kernel
theorem dX12_goAsk_24 : decode cX12_goAsk 24 = .ok (.iload_n 1, 1) := by decide +kernel
theorem dX12_goAsk_25 : decode cX12_goAsk 25 = .ok (.aload_n 0, 1) := by decide +kernel
theorem dX12_goAsk_26 : decode cX12_goAsk 26 = .ok (.getfield 31, 3) := by decide +kernel
theorem dX12_goAsk_29 : decode cX12_goAsk 29 = .ok (.invokevirtual 339, 3) := by decide +kernel
theorem dX12_goAsk_32 : decode cX12_goAsk 32 = .ok (.istore_n 2, 1) := by decide +kernel
theorem dX12_goAsk_33 : decode cX12_goAsk 33 = .ok (.aload_n 0, 1) := by decide +kernel
theorem dX12_goAsk_34 : decode cX12_goAsk 34 = .ok (.aload_n 0, 1) := by decide +kernel
theorem dX12_goAsk_35 : decode cX12_goAsk 35 = .ok (.aload_n 0, 1) := by decide +kernel
theorem dX12_goAsk_36 : decode cX12_goAsk 36 = .ok (.getfield 31, 3) := by decide +kernel
theorem dX12_goAsk_39 : decode cX12_goAsk 39 = .ok (.invokevirtual 336, 3) := by decide +kernel
theorem dX12_goAsk_42 : decode cX12_goAsk 42 = .ok (.putfield 31, 3) := by decide +kernel
theorem dX12_goAsk_45 : decode cX12_goAsk 45 = .ok (.iload_n 2, 1) := by decide +kernel
theorem dX12_goAsk_46 : decode cX12_goAsk 46 = .ok (.ireturn, 1) := by decide +kernel
theorem dX12_ask_0 : decode cX12_ask 0 = .ok (.aload_n 0, 1) := by decide +kernel
theorem dX12_ask_1 : decode cX12_ask 1 = .ok (.iload_n 1, 1) := by decide +kernel
theorem dX12_ask_2 : decode cX12_ask 2 = .ok (.invokevirtual 250, 3) := by decide +kernel
theorem dX12_ask_5 : decode cX12_ask 5 = .ok (.ifCond .ne 5, 3) := by decide +kernel
theorem dX12_ask_8 : decode cX12_ask 8 = .ok (.iconst (-1), 1) := by decide +kernel
theorem dX12_ask_9 : decode cX12_ask 9 = .ok (.ireturn, 1) := by decide +kernel
theorem dX12_ask_10 : decode cX12_ask 10 = .ok (.aload_n 0, 1) := by decide +kernel
theorem dX12_ask_11 : decode cX12_ask 11 = .ok (.invokevirtual 342, 3) := by decide +kernel
theorem dX12_ask_14 : decode cX12_ask 14 = .ok (.ifCond .eq 6, 3) := by decide +kernel
theorem dX12_ask_17 : decode cX12_ask 17 = .ok (.bipush (-3), 2) := by decide +kernel
theorem dX12_ask_19 : decode cX12_ask 19 = .ok (.ireturn, 1) := by decide +kernel
theorem dX12_ask_20 : decode cX12_ask 20 = .ok (.aload_n 0, 1) := by decide +kernel
theorem dX12_ask_21 : decode cX12_ask 21 = .ok (.iload_n 1, 1) := by decide +kernel
theorem dX12_ask_22 : decode cX12_ask 22 = .ok (.invokevirtual 345, 3) := by decide +kernel
theorem dX12_ask_25 : decode cX12_ask 25 = .ok (.ifCond .eq 7, 3) := by decide +kernel
theorem dX12_ask_28 : decode cX12_ask 28 = .ok (.iconst 1, 1) := by decide +kernel
theorem dX12_ask_29 : decode cX12_ask 29 = .ok (.goto 4, 3) := by decide +kernel
theorem dX12_ask_32 : decode cX12_ask 32 = .ok (.iconst 0, 1) := by decide +kernel
theorem dX12_ask_33 : decode cX12_ask 33 = .ok (.ireturn, 1) := by decide +kernel
theorem dX12_goNight_0 : decode cX12_goNight 0 = .ok (.aload_n 0, 1) := by decide +kernel
theorem dX12_goNight_1 : decode cX12_goNight 1 = .ok (.iconst 0, 1) := by decide +kernel
theorem dX12_goNight_2 : decode cX12_goNight 2 = .ok (.putfield 19, 3) := by decide +kernel
theorem dX12_goNight_5 : decode cX12_goNight 5 = .ok (.aload_n 0, 1) := by decide +kernel
theorem dX12_goNight_6 : decode cX12_goNight 6 = .ok (.iconst 0, 1) := by decide +kernel
theorem dX12_goNight_7 : decode cX12_goNight 7 = .ok (.putfield 22, 3) := by decide +kernel
theorem dX12_goNight_10 : decode cX12_goNight 10 = .ok (.aload_n 0, 1) := by decide +kernel
theorem dX12_goNight_11 : decode cX12_goNight 11 = .ok (.iconst 0, 1) := by decide +kernel
theorem dX12_goNight_12 : decode cX12_goNight 12 = .ok (.putfield 25, 3) := by decide +kernel
theorem dX12_goNight_15 : decode cX12_goNight 15 = .ok (.aload_n 0, 1) := by decide +kernel
theorem dX12_goNight_16 : decode cX12_goNight 16 = .ok (.iconst 0, 1) := by decide +kernel
theorem dX12_goNight_17 : decode cX12_goNight 17 = .ok (.putfield 28, 3) := by decide +kernel
theorem dX12_goNight_20 : decode cX12_goNight 20 = .ok (.aload_n 0, 1) := by decide +kernel
theorem dX12_goNight_21 : decode cX12_goNight 21 = .ok (.iconst 0, 1) := by decide +kernel
theorem dX12_goNight_22 : decode cX12_goNight 22 = .ok (.putfield 31, 3) := by decide +kernel
theorem dX12_goNight_25 : decode cX12_goNight 25 = .ok (.aload_n 0, 1) := by decide +kernel
theorem dX12_goNight_26 : decode cX12_goNight 26 = .ok (.dup, 1) := by decide +kernel
theorem dX12_goNight_27 : decode cX12_goNight 27 = .ok (.getfield 16, 3) := by decide +kernel
theorem dX12_goNight_30 : decode cX12_goNight 30 = .ok (.iconst 1, 1) := by decide +kernel
theorem dX12_goNight_31 : decode cX12_goNight 31 = .ok (.iadd, 1) := by decide +kernel
theorem dX12_goNight_32 : decode cX12_goNight 32 = .ok (.putfield 16, 3) := by decide +kernel
theorem dX12_goNight_35 : decode cX12_goNight 35 = .ok (.return_, 1) := by decide +kernel
theorem dX12_night_0 : decode cX12_night 0 = .ok (.aload_n 0, 1) := by decide +kernel
theorem dX12_night_1 : decode cX12_night 1 = .ok (.getfield 16, 3) := by decide +kernel
theorem dX12_night_4 : decode cX12_night 4 = .ok (.sipush 9999, 3) := by decide +kernel
theorem dX12_night_7 : decode cX12_night 7 = .ok (.if_icmp .ne 6, 3) := by decide +kernel
theorem dX12_night_10 : decode cX12_night 10 = .ok (.bipush (-3), 2) := by decide +kernel
theorem dX12_night_12 : decode cX12_night 12 = .ok (.ireturn, 1) := by decide +kernel
theorem dX12_night_13 : decode cX12_night 13 = .ok (.aload_n 0, 1) := by decide +kernel
theorem dX12_night_14 : decode cX12_night 14 = .ok (.invokevirtual 333, 3) := by decide +kernel
theorem dX12_night_17 : decode cX12_night 17 = .ok (.istore_n 1, 1) := by decide +kernel
theorem dX12_night_18 : decode cX12_night 18 = .ok (.aload_n 0, 1) := by decide +kernel
theorem dX12_night_19 : decode cX12_night 19 = .ok (.invokevirtual 348, 3) := by decide +kernel
theorem dX12_night_22 : decode cX12_night 22 = .ok (.iload_n 1, 1) := by decide +kernel
theorem dX12_night_23 : decode cX12_night 23 = .ok (.ireturn, 1) := by decide +kernel
theorem dX12_will_0 : decode cX12_will 0 = .ok (.aload_n 0, 1) := by decide +kernel
theorem dX12_will_1 : decode cX12_will 1 = .ok (.iload_n 1, 1) := by decide +kernel
theorem dX12_will_2 : decode cX12_will 2 = .ok (.invokevirtual 246, 3) := by decide +kernel
theorem dX12_will_5 : decode cX12_will 5 = .ok (.ifCond .ne 5, 3) := by decide +kernel
theorem dX12_will_8 : decode cX12_will 8 = .ok (.iconst (-1), 1) := by decide +kernel
theorem dX12_will_9 : decode cX12_will 9 = .ok (.ireturn, 1) := by decide +kernel
theorem dX12_will_10 : decode cX12_will 10 = .ok (.iconst 0, 1) := by decide +kernel
theorem dX12_will_11 : decode cX12_will 11 = .ok (.istore_n 2, 1) := by decide +kernel
theorem dX12_will_12 : decode cX12_will 12 = .ok (.iconst 0, 1) := by decide +kernel
theorem dX12_will_13 : decode cX12_will 13 = .ok (.istore_n 3, 1) := by decide +kernel
theorem dX12_will_14 : decode cX12_will 14 = .ok (.iload_n 3, 1) := by decide +kernel
theorem dX12_will_15 : decode cX12_will 15 = .ok (.aload_n 0, 1) := by decide +kernel
theorem dX12_will_16 : decode cX12_will 16 = .ok (.getfield 13, 3) := by decide +kernel
theorem dX12_will_19 : decode cX12_will 19 = .ok (.if_icmp .ge 28, 3) := by decide +kernel
theorem dX12_will_22 : decode cX12_will 22 = .ok (.iload_n 2, 1) := by decide +kernel
theorem dX12_will_23 : decode cX12_will 23 = .ok (.aload_n 0, 1) := by decide +kernel
theorem dX12_will_24 : decode cX12_will 24 = .ok (.iload_n 3, 1) := by decide +kernel
theorem dX12_will_25 : decode cX12_will 25 = .ok (.iload_n 1, 1) := by decide +kernel
theorem dX12_will_26 : decode cX12_will 26 = .ok (.invokevirtual 326, 3) := by decide +kernel
theorem dX12_will_29 : decode cX12_will 29 = .ok (.ifCond .eq 9, 3) := by decide +kernel
theorem dX12_will_32 : decode cX12_will 32 = .ok (.iconst 1, 1) := by decide +kernel
theorem dX12_will_33 : decode cX12_will 33 = .ok (.iload_n 3, 1) := by decide +kernel
theorem dX12_will_34 : decode cX12_will 34 = .ok (.ishl, 1) := by decide +kernel
theorem dX12_will_35 : decode cX12_will 35 = .ok (.goto 4, 3) := by decide +kernel
theorem dX12_will_38 : decode cX12_will 38 = .ok (.iconst 0, 1) := by decide +kernel
theorem dX12_will_39 : decode cX12_will 39 = .ok (.ior, 1) := by decide +kernel
theorem dX12_will_40 : decode cX12_will 40 = .ok (.istore_n 2, 1) := by decide +kernel
theorem dX12_will_41 : decode cX12_will 41 = .ok (.iinc 3 1, 3) := by decide +kernel
theorem dX12_will_44 : decode cX12_will 44 = .ok (.goto (-30), 3) := by decide +kernel
theorem dX12_will_47 : decode cX12_will 47 = .ok (.iload_n 2, 1) := by decide +kernel
theorem dX12_will_48 : decode cX12_will 48 = .ok (.ireturn, 1) := by decide +kernel
theorem dX12_save_0 : decode cX12_save 0 = .ok (.aload_n 0, 1) := by decide +kernel
theorem dX12_save_1 : decode cX12_save 1 = .ok (.aload_n 0, 1) := by decide +kernel
theorem dX12_save_2 : decode cX12_save 2 = .ok (.getfield 111, 3) := by decide +kernel
theorem dX12_save_5 : decode cX12_save 5 = .ok (.putfield 120, 3) := by decide +kernel
theorem dX12_save_8 : decode cX12_save 8 = .ok (.aload_n 0, 1) := by decide +kernel
theorem dX12_save_9 : decode cX12_save 9 = .ok (.aload_n 0, 1) := by decide +kernel
theorem dX12_save_10 : decode cX12_save 10 = .ok (.getfield 16, 3) := by decide +kernel
theorem dX12_save_13 : decode cX12_save 13 = .ok (.putfield 123, 3) := by decide +kernel
theorem dX12_save_16 : decode cX12_save 16 = .ok (.aload_n 0, 1) := by decide +kernel
theorem dX12_save_17 : decode cX12_save 17 = .ok (.aload_n 0, 1) := by decide +kernel
theorem dX12_save_18 : decode cX12_save 18 = .ok (.getfield 19, 3) := by decide +kernel
theorem dX12_save_21 : decode cX12_save 21 = .ok (.putfield 126, 3) := by decide +kernel
theorem dX12_save_24 : decode cX12_save 24 = .ok (.aload_n 0, 1) := by decide +kernel
theorem dX12_save_25 : decode cX12_save 25 = .ok (.aload_n 0, 1) := by decide +kernel
theorem dX12_save_26 : decode cX12_save 26 = .ok (.getfield 22, 3) := by decide +kernel
theorem dX12_save_29 : decode cX12_save 29 = .ok (.putfield 129, 3) := by decide +kernel
theorem dX12_save_32 : decode cX12_save 32 = .ok (.aload_n 0, 1) := by decide +kernel
theorem dX12_save_33 : decode cX12_save 33 = .ok (.aload_n 0, 1) := by decide +kernel
theorem dX12_save_34 : decode cX12_save 34 = .ok (.getfield 25, 3) := by decide +kernel
theorem dX12_save_37 : decode cX12_save 37 = .ok (.putfield 132, 3) := by decide +kernel
theorem dX12_save_40 : decode cX12_save 40 = .ok (.aload_n 0, 1) := by decide +kernel
theorem dX12_save_41 : decode cX12_save 41 = .ok (.aload_n 0, 1) := by decide +kernel
theorem dX12_save_42 : decode cX12_save 42 = .ok (.getfield 28, 3) := by decide +kernel
theorem dX12_save_45 : decode cX12_save 45 = .ok (.putfield 135, 3) := by decide +kernel
theorem dX12_save_48 : decode cX12_save 48 = .ok (.aload_n 0, 1) := by decide +kernel
theorem dX12_save_49 : decode cX12_save 49 = .ok (.aload_n 0, 1) := by decide +kernel
theorem dX12_save_50 : decode cX12_save 50 = .ok (.getfield 31, 3) := by decide +kernel
theorem dX12_save_53 : decode cX12_save 53 = .ok (.putfield 138, 3) := by decide +kernel
theorem dX12_save_56 : decode cX12_save 56 = .ok (.iconst 0, 1) := by decide +kernel
theorem dX12_save_57 : decode cX12_save 57 = .ok (.istore_n 1, 1) := by decide +kernel
theorem dX12_save_58 : decode cX12_save 58 = .ok (.iload_n 1, 1) := by decide +kernel
theorem dX12_save_59 : decode cX12_save 59 = .ok (.bipush 7, 2) := by decide +kernel
theorem dX12_save_61 : decode cX12_save 61 = .ok (.if_icmp .ge 21, 3) := by decide +kernel
theorem dX12_save_64 : decode cX12_save 64 = .ok (.aload_n 0, 1) := by decide +kernel
theorem dX12_save_65 : decode cX12_save 65 = .ok (.getfield 141, 3) := by decide +kernel
theorem dX12_save_68 : decode cX12_save 68 = .ok (.iload_n 1, 1) := by decide +kernel
theorem dX12_save_69 : decode cX12_save 69 = .ok (.aload_n 0, 1) := by decide +kernel
theorem dX12_save_70 : decode cX12_save 70 = .ok (.getfield 41, 3) := by decide +kernel
theorem dX12_save_73 : decode cX12_save 73 = .ok (.iload_n 1, 1) := by decide +kernel
theorem dX12_save_74 : decode cX12_save 74 = .ok (.iaload, 1) := by decide +kernel
theorem dX12_save_75 : decode cX12_save 75 = .ok (.iastore, 1) := by decide +kernel
theorem dX12_save_76 : decode cX12_save 76 = .ok (.iinc 1 1, 3) := by decide +kernel
theorem dX12_save_79 : decode cX12_save 79 = .ok (.goto (-21), 3) := by decide +kernel
theorem dX12_save_82 : decode cX12_save 82 = .ok (.return_, 1) := by decide +kernel
theorem dX12_putBack_0 : decode cX12_putBack 0 = .ok (.aload_n 0, 1) := by decide +kernel
theorem dX12_putBack_1 : decode cX12_putBack 1 = .ok (.aload_n 0, 1) := by decide +kernel
theorem dX12_putBack_2 : decode cX12_putBack 2 = .ok (.getfield 120, 3) := by decide +kernel
theorem dX12_putBack_5 : decode cX12_putBack 5 = .ok (.putfield 111, 3) := by decide +kernel
theorem dX12_putBack_8 : decode cX12_putBack 8 = .ok (.aload_n 0, 1) := by decide +kernel
theorem dX12_putBack_9 : decode cX12_putBack 9 = .ok (.aload_n 0, 1) := by decide +kernel
theorem dX12_putBack_10 : decode cX12_putBack 10 = .ok (.getfield 123, 3) := by decide +kernel
theorem dX12_putBack_13 : decode cX12_putBack 13 = .ok (.putfield 16, 3) := by decide +kernel
theorem dX12_putBack_16 : decode cX12_putBack 16 = .ok (.aload_n 0, 1) := by decide +kernel
theorem dX12_putBack_17 : decode cX12_putBack 17 = .ok (.aload_n 0, 1) := by decide +kernel
theorem dX12_putBack_18 : decode cX12_putBack 18 = .ok (.getfield 126, 3) := by decide +kernel
theorem dX12_putBack_21 : decode cX12_putBack 21 = .ok (.putfield 19, 3) := by decide +kernel
theorem dX12_putBack_24 : decode cX12_putBack 24 = .ok (.aload_n 0, 1) := by decide +kernel
theorem dX12_putBack_25 : decode cX12_putBack 25 = .ok (.aload_n 0, 1) := by decide +kernel
theorem dX12_putBack_26 : decode cX12_putBack 26 = .ok (.getfield 129, 3) := by decide +kernel
theorem dX12_putBack_29 : decode cX12_putBack 29 = .ok (.putfield 22, 3) := by decide +kernel
theorem dX12_putBack_32 : decode cX12_putBack 32 = .ok (.aload_n 0, 1) := by decide +kernel
theorem dX12_putBack_33 : decode cX12_putBack 33 = .ok (.aload_n 0, 1) := by decide +kernel
theorem dX12_putBack_34 : decode cX12_putBack 34 = .ok (.getfield 132, 3) := by decide +kernel
theorem dX12_putBack_37 : decode cX12_putBack 37 = .ok (.putfield 25, 3) := by decide +kernel
theorem dX12_putBack_40 : decode cX12_putBack 40 = .ok (.aload_n 0, 1) := by decide +kernel
theorem dX12_putBack_41 : decode cX12_putBack 41 = .ok (.aload_n 0, 1) := by decide +kernel
theorem dX12_putBack_42 : decode cX12_putBack 42 = .ok (.getfield 135, 3) := by decide +kernel
theorem dX12_putBack_45 : decode cX12_putBack 45 = .ok (.putfield 28, 3) := by decide +kernel
theorem dX12_putBack_48 : decode cX12_putBack 48 = .ok (.aload_n 0, 1) := by decide +kernel
theorem dX12_putBack_49 : decode cX12_putBack 49 = .ok (.aload_n 0, 1) := by decide +kernel
theorem dX12_putBack_50 : decode cX12_putBack 50 = .ok (.getfield 138, 3) := by decide +kernel
theorem dX12_putBack_53 : decode cX12_putBack 53 = .ok (.putfield 31, 3) := by decide +kernel
theorem dX12_putBack_56 : decode cX12_putBack 56 = .ok (.iconst 0, 1) := by decide +kernel
theorem dX12_putBack_57 : decode cX12_putBack 57 = .ok (.istore_n 1, 1) := by decide +kernel
theorem dX12_putBack_58 : decode cX12_putBack 58 = .ok (.iload_n 1, 1) := by decide +kernel
theorem dX12_putBack_59 : decode cX12_putBack 59 = .ok (.bipush 7, 2) := by decide +kernel
theorem dX12_putBack_61 : decode cX12_putBack 61 = .ok (.if_icmp .ge 21, 3) := by decide +kernel
theorem dX12_putBack_64 : decode cX12_putBack 64 = .ok (.aload_n 0, 1) := by decide +kernel
theorem dX12_putBack_65 : decode cX12_putBack 65 = .ok (.getfield 41, 3) := by decide +kernel
theorem dX12_putBack_68 : decode cX12_putBack 68 = .ok (.iload_n 1, 1) := by decide +kernel
theorem dX12_putBack_69 : decode cX12_putBack 69 = .ok (.aload_n 0, 1) := by decide +kernel
theorem dX12_putBack_70 : decode cX12_putBack 70 = .ok (.getfield 141, 3) := by decide +kernel
theorem dX12_putBack_73 : decode cX12_putBack 73 = .ok (.iload_n 1, 1) := by decide +kernel
theorem dX12_putBack_74 : decode cX12_putBack 74 = .ok (.iaload, 1) := by decide +kernel
theorem dX12_putBack_75 : decode cX12_putBack 75 = .ok (.iastore, 1) := by decide +kernel
theorem dX12_putBack_76 : decode cX12_putBack 76 = .ok (.iinc 1 1, 3) := by decide +kernel
theorem dX12_putBack_79 : decode cX12_putBack 79 = .ok (.goto (-21), 3) := by decide +kernel
theorem dX12_putBack_82 : decode cX12_putBack 82 = .ok (.return_, 1) := by decide +kernel
theorem dX12_goAsks_0 : decode cX12_goAsks 0 = .ok (.iconst 0, 1) := by decide +kernel
theorem dX12_goAsks_1 : decode cX12_goAsks 1 = .ok (.istore_n 3, 1) := by decide +kernel
theorem dX12_goAsks_2 : decode cX12_goAsks 2 = .ok (.iload_n 3, 1) := by decide +kernel
theorem dX12_goAsks_3 : decode cX12_goAsks 3 = .ok (.iload_n 2, 1) := by decide +kernel
theorem dX12_goAsks_4 : decode cX12_goAsks 4 = .ok (.if_icmp .ge 23, 3) := by decide +kernel
theorem dX12_goAsks_7 : decode cX12_goAsks 7 = .ok (.aload_n 0, 1) := by decide +kernel
theorem dX12_goAsks_8 : decode cX12_goAsks 8 = .ok (.invokevirtual 342, 3) := by decide +kernel
theorem dX12_goAsks_11 : decode cX12_goAsks 11 = .ok (.ifCond .ne 16, 3) := by decide +kernel
theorem dX12_goAsks_14 : decode cX12_goAsks 14 = .ok (.aload_n 0, 1) := by decide +kernel
theorem dX12_goAsks_15 : decode cX12_goAsks 15 = .ok (.iload_n 1, 1) := by decide +kernel
theorem dX12_goAsks_16 : decode cX12_goAsks 16 = .ok (.invokevirtual 345, 3) := by decide +kernel
theorem dX12_goAsks_19 : decode cX12_goAsks 19 = .ok (.istore 4, 2) := by decide +kernel
theorem dX12_goAsks_21 : decode cX12_goAsks 21 = .ok (.iinc 3 1, 3) := by decide +kernel
theorem dX12_goAsks_24 : decode cX12_goAsks 24 = .ok (.goto (-22), 3) := by decide +kernel
theorem dX12_goAsks_27 : decode cX12_goAsks 27 = .ok (.iload_n 3, 1) := by decide +kernel
theorem dX12_goAsks_28 : decode cX12_goAsks 28 = .ok (.ireturn, 1) := by decide +kernel
theorem dX12_on_0 : decode cX12_on 0 = .ok (.aload_n 0, 1) := by decide +kernel
theorem dX12_on_1 : decode cX12_on 1 = .ok (.iload_n 1, 1) := by decide +kernel
theorem dX12_on_2 : decode cX12_on 2 = .ok (.invokevirtual 250, 3) := by decide +kernel
theorem dX12_on_5 : decode cX12_on 5 = .ok (.ifCond .eq 13, 3) := by decide +kernel
theorem dX12_on_8 : decode cX12_on 8 = .ok (.aload_n 0, 1) := by decide +kernel
theorem dX12_on_9 : decode cX12_on 9 = .ok (.iload_n 3, 1) := by decide +kernel
theorem dX12_on_10 : decode cX12_on 10 = .ok (.iconst 0, 1) := by decide +kernel
theorem dX12_on_11 : decode cX12_on 11 = .ok (.iconst 4, 1) := by decide +kernel
theorem dX12_on_12 : decode cX12_on 12 = .ok (.invokevirtual 242, 3) := by decide +kernel
theorem dX12_on_15 : decode cX12_on 15 = .ok (.ifCond .ne 5, 3) := by decide +kernel
theorem dX12_on_18 : decode cX12_on 18 = .ok (.iconst (-1), 1) := by decide +kernel
theorem dX12_on_19 : decode cX12_on 19 = .ok (.ireturn, 1) := by decide +kernel
theorem dX12_on_20 : decode cX12_on 20 = .ok (.aload_n 0, 1) := by decide +kernel
theorem dX12_on_21 : decode cX12_on 21 = .ok (.iload_n 2, 1) := by decide +kernel
theorem dX12_on_22 : decode cX12_on 22 = .ok (.iconst 0, 1) := by decide +kernel
theorem dX12_on_23 : decode cX12_on 23 = .ok (.bipush 60, 2) := by decide +kernel
theorem dX12_on_25 : decode cX12_on 25 = .ok (.invokevirtual 242, 3) := by decide +kernel
theorem dX12_on_28 : decode cX12_on 28 = .ok (.ifCond .ne 6, 3) := by decide +kernel
theorem dX12_on_31 : decode cX12_on 31 = .ok (.bipush (-2), 2) := by decide +kernel
theorem dX12_on_33 : decode cX12_on 33 = .ok (.ireturn, 1) := by decide +kernel
theorem dX12_on_34 : decode cX12_on 34 = .ok (.aload_n 0, 1) := by decide +kernel
theorem dX12_on_35 : decode cX12_on 35 = .ok (.invokevirtual 351, 3) := by decide +kernel
theorem dX12_on_38 : decode cX12_on 38 = .ok (.aload_n 0, 1) := by decide +kernel
theorem dX12_on_39 : decode cX12_on 39 = .ok (.iload_n 1, 1) := by decide +kernel
theorem dX12_on_40 : decode cX12_on 40 = .ok (.iload_n 2, 1) := by decide +kernel
theorem dX12_on_41 : decode cX12_on 41 = .ok (.invokevirtual 354, 3) := by decide +kernel
theorem dX12_on_44 : decode cX12_on 44 = .ok (.istore 4, 2) := by decide +kernel
theorem dX12_on_46 : decode cX12_on 46 = .ok (.iload_n 3, 1) := by decide +kernel
theorem dX12_on_47 : decode cX12_on 47 = .ok (.ifCond .ne 10, 3) := by decide +kernel
theorem dX12_on_50 : decode cX12_on 50 = .ok (.aload_n 0, 1) := by decide +kernel
theorem dX12_on_51 : decode cX12_on 51 = .ok (.getfield 19, 3) := by decide +kernel
theorem dX12_on_54 : decode cX12_on 54 = .ok (.goto 41, 3) := by decide +kernel
theorem dX12_on_57 : decode cX12_on 57 = .ok (.iload_n 3, 1) := by decide +kernel
theorem dX12_on_58 : decode cX12_on 58 = .ok (.iconst 1, 1) := by decide +kernel
theorem dX12_on_59 : decode cX12_on 59 = .ok (.if_icmp .ne 10, 3) := by decide +kernel
theorem dX12_on_62 : decode cX12_on 62 = .ok (.aload_n 0, 1) := by decide +kernel
theorem dX12_on_63 : decode cX12_on 63 = .ok (.getfield 22, 3) := by decide +kernel
theorem dX12_on_66 : decode cX12_on 66 = .ok (.goto 29, 3) := by decide +kernel
theorem dX12_on_69 : decode cX12_on 69 = .ok (.iload_n 3, 1) := by decide +kernel
theorem dX12_on_70 : decode cX12_on 70 = .ok (.iconst 2, 1) := by decide +kernel
theorem dX12_on_71 : decode cX12_on 71 = .ok (.if_icmp .ne 10, 3) := by decide +kernel
theorem dX12_on_74 : decode cX12_on 74 = .ok (.aload_n 0, 1) := by decide +kernel
theorem dX12_on_75 : decode cX12_on 75 = .ok (.getfield 28, 3) := by decide +kernel
theorem dX12_on_78 : decode cX12_on 78 = .ok (.goto 17, 3) := by decide +kernel
theorem dX12_on_81 : decode cX12_on 81 = .ok (.iload_n 3, 1) := by decide +kernel
theorem dX12_on_82 : decode cX12_on 82 = .ok (.iconst 3, 1) := by decide +kernel
theorem dX12_on_83 : decode cX12_on 83 = .ok (.if_icmp .ne 8, 3) := by decide +kernel
theorem dX12_on_86 : decode cX12_on 86 = .ok (.iload 4, 2) := by decide +kernel
theorem dX12_on_88 : decode cX12_on 88 = .ok (.goto 7, 3) := by decide +kernel
theorem dX12_on_91 : decode cX12_on 91 = .ok (.aload_n 0, 1) := by decide +kernel
theorem dX12_on_92 : decode cX12_on 92 = .ok (.invokevirtual 333, 3) := by decide +kernel
theorem dX12_on_95 : decode cX12_on 95 = .ok (.istore 5, 2) := by decide +kernel
theorem dX12_on_97 : decode cX12_on 97 = .ok (.aload_n 0, 1) := by decide +kernel
theorem dX12_on_98 : decode cX12_on 98 = .ok (.invokevirtual 357, 3) := by decide +kernel
theorem dX12_on_101 : decode cX12_on 101 = .ok (.iload 5, 2) := by decide +kernel
theorem dX12_on_103 : decode cX12_on 103 = .ok (.ireturn, 1) := by decide +kernel
theorem dX12_sleepsBy_0 : decode cX12_sleepsBy 0 = .ok (.aload_n 0, 1) := by decide +kernel
theorem dX12_sleepsBy_1 : decode cX12_sleepsBy 1 = .ok (.invokevirtual 351, 3) := by decide +kernel
theorem dX12_sleepsBy_4 : decode cX12_sleepsBy 4 = .ok (.aload_n 0, 1) := by decide +kernel
theorem dX12_sleepsBy_5 : decode cX12_sleepsBy 5 = .ok (.iload_n 1, 1) := by decide +kernel
theorem dX12_sleepsBy_6 : decode cX12_sleepsBy 6 = .ok (.bipush 60, 2) := by decide +kernel
theorem dX12_sleepsBy_8 : decode cX12_sleepsBy 8 = .ok (.invokevirtual 354, 3) := by decide +kernel
theorem dX12_sleepsBy_11 : decode cX12_sleepsBy 11 = .ok (.istore_n 2, 1) := by decide +kernel
theorem dX12_sleepsBy_12 : decode cX12_sleepsBy 12 = .ok (.aload_n 0, 1) := by decide +kernel
theorem dX12_sleepsBy_13 : decode cX12_sleepsBy 13 = .ok (.invokevirtual 333, 3) := by decide +kernel
theorem dX12_sleepsBy_16 : decode cX12_sleepsBy 16 = .ok (.iconst 1, 1) := by decide +kernel
theorem dX12_sleepsBy_17 : decode cX12_sleepsBy 17 = .ok (.if_icmp .ne 10, 3) := by decide +kernel
theorem dX12_sleepsBy_20 : decode cX12_sleepsBy 20 = .ok (.aload_n 0, 1) := by decide +kernel
theorem dX12_sleepsBy_21 : decode cX12_sleepsBy 21 = .ok (.getfield 19, 3) := by decide +kernel
theorem dX12_sleepsBy_24 : decode cX12_sleepsBy 24 = .ok (.goto 5, 3) := by decide +kernel
theorem dX12_sleepsBy_27 : decode cX12_sleepsBy 27 = .ok (.bipush (-5), 2) := by decide +kernel
theorem dX12_sleepsBy_29 : decode cX12_sleepsBy 29 = .ok (.istore_n 3, 1) := by decide +kernel
theorem dX12_sleepsBy_30 : decode cX12_sleepsBy 30 = .ok (.aload_n 0, 1) := by decide +kernel
theorem dX12_sleepsBy_31 : decode cX12_sleepsBy 31 = .ok (.invokevirtual 357, 3) := by decide +kernel
theorem dX12_sleepsBy_34 : decode cX12_sleepsBy 34 = .ok (.iload_n 3, 1) := by decide +kernel
theorem dX12_sleepsBy_35 : decode cX12_sleepsBy 35 = .ok (.ireturn, 1) := by decide +kernel
theorem dX12_with_0 : decode cX12_with 0 = .ok (.aload_n 0, 1) := by decide +kernel
theorem dX12_with_1 : decode cX12_with 1 = .ok (.iload_n 1, 1) := by decide +kernel
theorem dX12_with_2 : decode cX12_with 2 = .ok (.iconst 0, 1) := by decide +kernel
theorem dX12_with_3 : decode cX12_with 3 = .ok (.iconst 1, 1) := by decide +kernel
theorem dX12_with_4 : decode cX12_with 4 = .ok (.invokevirtual 242, 3) := by decide +kernel
theorem dX12_with_7 : decode cX12_with 7 = .ok (.ifCond .ne 5, 3) := by decide +kernel
theorem dX12_with_10 : decode cX12_with 10 = .ok (.iconst (-1), 1) := by decide +kernel
theorem dX12_with_11 : decode cX12_with 11 = .ok (.ireturn, 1) := by decide +kernel
theorem dX12_with_12 : decode cX12_with 12 = .ok (.bipush (-5), 2) := by decide +kernel
theorem dX12_with_14 : decode cX12_with 14 = .ok (.istore_n 2, 1) := by decide +kernel
theorem dX12_with_15 : decode cX12_with 15 = .ok (.bipush (-5), 2) := by decide +kernel
theorem dX12_with_17 : decode cX12_with 17 = .ok (.istore_n 3, 1) := by decide +kernel
theorem dX12_with_18 : decode cX12_with 18 = .ok (.iconst 0, 1) := by decide +kernel
theorem dX12_with_19 : decode cX12_with 19 = .ok (.istore 4, 2) := by decide +kernel
theorem dX12_with_21 : decode cX12_with 21 = .ok (.iload 4, 2) := by decide +kernel
theorem dX12_with_23 : decode cX12_with 23 = .ok (.aload_n 0, 1) := by decide +kernel
theorem dX12_with_24 : decode cX12_with 24 = .ok (.getfield 13, 3) := by decide +kernel
theorem dX12_with_27 : decode cX12_with 27 = .ok (.if_icmp .ge 41, 3) := by decide +kernel
theorem dX12_with_30 : decode cX12_with 30 = .ok (.aload_n 0, 1) := by decide +kernel
theorem dX12_with_31 : decode cX12_with 31 = .ok (.iload 4, 2) := by decide +kernel
theorem dX12_with_33 : decode cX12_with 33 = .ok (.invokevirtual 360, 3) := by decide +kernel
theorem dX12_with_36 : decode cX12_with 36 = .ok (.istore 5, 2) := by decide +kernel
theorem dX12_with_38 : decode cX12_with 38 = .ok (.iload 5, 2) := by decide +kernel
theorem dX12_with_40 : decode cX12_with 40 = .ok (.ifCond .lt 22, 3) := by decide +kernel
theorem dX12_with_43 : decode cX12_with 43 = .ok (.iload_n 3, 1) := by decide +kernel
theorem dX12_with_44 : decode cX12_with 44 = .ok (.ifCond .lt 12, 3) := by decide +kernel
theorem dX12_with_47 : decode cX12_with 47 = .ok (.iload 5, 2) := by decide +kernel
theorem dX12_with_49 : decode cX12_with 49 = .ok (.iload_n 3, 1) := by decide +kernel
theorem dX12_with_50 : decode cX12_with 50 = .ok (.if_icmp .lt 6, 3) := by decide +kernel
theorem dX12_with_53 : decode cX12_with 53 = .ok (.goto 9, 3) := by decide +kernel
theorem dX12_with_56 : decode cX12_with 56 = .ok (.iload 4, 2) := by decide +kernel
theorem dX12_with_58 : decode cX12_with 58 = .ok (.istore_n 2, 1) := by decide +kernel
theorem dX12_with_59 : decode cX12_with 59 = .ok (.iload 5, 2) := by decide +kernel
theorem dX12_with_61 : decode cX12_with 61 = .ok (.istore_n 3, 1) := by decide +kernel
theorem dX12_with_62 : decode cX12_with 62 = .ok (.iinc 4 1, 3) := by decide +kernel
theorem dX12_with_65 : decode cX12_with 65 = .ok (.goto (-44), 3) := by decide +kernel
theorem dX12_with_68 : decode cX12_with 68 = .ok (.iload_n 1, 1) := by decide +kernel
theorem dX12_with_69 : decode cX12_with 69 = .ok (.ifCond .ne 7, 3) := by decide +kernel
theorem dX12_with_72 : decode cX12_with 72 = .ok (.iload_n 2, 1) := by decide +kernel
theorem dX12_with_73 : decode cX12_with 73 = .ok (.goto 4, 3) := by decide +kernel
theorem dX12_with_76 : decode cX12_with 76 = .ok (.iload_n 3, 1) := by decide +kernel
theorem dX12_with_77 : decode cX12_with 77 = .ok (.ireturn, 1) := by decide +kernel
theorem dX12_both_0 : decode cX12_both 0 = .ok (.aload_n 0, 1) := by decide +kernel
theorem dX12_both_1 : decode cX12_both 1 = .ok (.iload_n 1, 1) := by decide +kernel
theorem dX12_both_2 : decode cX12_both 2 = .ok (.invokevirtual 250, 3) := by decide +kernel
theorem dX12_both_5 : decode cX12_both 5 = .ok (.ifCond .eq 11, 3) := by decide +kernel
theorem dX12_both_8 : decode cX12_both 8 = .ok (.aload_n 0, 1) := by decide +kernel
theorem dX12_both_9 : decode cX12_both 9 = .ok (.iload_n 2, 1) := by decide +kernel
theorem dX12_both_10 : decode cX12_both 10 = .ok (.invokevirtual 250, 3) := by decide +kernel
theorem dX12_both_13 : decode cX12_both 13 = .ok (.ifCond .ne 5, 3) := by decide +kernel
theorem dX12_both_16 : decode cX12_both 16 = .ok (.iconst (-1), 1) := by decide +kernel
theorem dX12_both_17 : decode cX12_both 17 = .ok (.ireturn, 1) := by decide +kernel
theorem dX12_both_18 : decode cX12_both 18 = .ok (.aload_n 0, 1) := by decide +kernel
theorem dX12_both_19 : decode cX12_both 19 = .ok (.invokevirtual 351, 3) := by decide +kernel
theorem dX12_both_22 : decode cX12_both 22 = .ok (.iconst 0, 1) := by decide +kernel
theorem dX12_both_23 : decode cX12_both 23 = .ok (.istore_n 3, 1) := by decide +kernel
theorem dX12_both_24 : decode cX12_both 24 = .ok (.iload_n 3, 1) := by decide +kernel
theorem dX12_both_25 : decode cX12_both 25 = .ok (.bipush 60, 2) := by decide +kernel
theorem dX12_both_27 : decode cX12_both 27 = .ok (.if_icmp .ge 33, 3) := by decide +kernel
theorem dX12_both_30 : decode cX12_both 30 = .ok (.aload_n 0, 1) := by decide +kernel
theorem dX12_both_31 : decode cX12_both 31 = .ok (.invokevirtual 342, 3) := by decide +kernel
theorem dX12_both_34 : decode cX12_both 34 = .ok (.ifCond .ne 26, 3) := by decide +kernel
theorem dX12_both_37 : decode cX12_both 37 = .ok (.aload_n 0, 1) := by decide +kernel
theorem dX12_both_38 : decode cX12_both 38 = .ok (.iload_n 3, 1) := by decide +kernel
theorem dX12_both_39 : decode cX12_both 39 = .ok (.iconst 2, 1) := by decide +kernel
theorem dX12_both_40 : decode cX12_both 40 = .ok (.irem, 1) := by decide +kernel
theorem dX12_both_41 : decode cX12_both 41 = .ok (.ifCond .ne 7, 3) := by decide +kernel
theorem dX12_both_44 : decode cX12_both 44 = .ok (.iload_n 1, 1) := by decide +kernel
theorem dX12_both_45 : decode cX12_both 45 = .ok (.goto 4, 3) := by decide +kernel
theorem dX12_both_48 : decode cX12_both 48 = .ok (.iload_n 2, 1) := by decide +kernel
theorem dX12_both_49 : decode cX12_both 49 = .ok (.invokevirtual 345, 3) := by decide +kernel
theorem dX12_both_52 : decode cX12_both 52 = .ok (.istore 4, 2) := by decide +kernel
theorem dX12_both_54 : decode cX12_both 54 = .ok (.iinc 3 1, 3) := by decide +kernel
theorem dX12_both_57 : decode cX12_both 57 = .ok (.goto (-33), 3) := by decide +kernel
theorem dX12_both_60 : decode cX12_both 60 = .ok (.aload_n 0, 1) := by decide +kernel
theorem dX12_both_61 : decode cX12_both 61 = .ok (.invokevirtual 333, 3) := by decide +kernel
theorem dX12_both_64 : decode cX12_both 64 = .ok (.iconst 1, 1) := by decide +kernel
theorem dX12_both_65 : decode cX12_both 65 = .ok (.if_icmp .ne 10, 3) := by decide +kernel
theorem dX12_both_68 : decode cX12_both 68 = .ok (.aload_n 0, 1) := by decide +kernel
theorem dX12_both_69 : decode cX12_both 69 = .ok (.getfield 19, 3) := by decide +kernel
theorem dX12_both_72 : decode cX12_both 72 = .ok (.goto 5, 3) := by decide +kernel
theorem dX12_both_75 : decode cX12_both 75 = .ok (.bipush (-5), 2) := by decide +kernel
theorem dX12_both_77 : decode cX12_both 77 = .ok (.istore_n 3, 1) := by decide +kernel
theorem dX12_both_78 : decode cX12_both 78 = .ok (.aload_n 0, 1) := by decide +kernel
theorem dX12_both_79 : decode cX12_both 79 = .ok (.invokevirtual 357, 3) := by decide +kernel
theorem dX12_both_82 : decode cX12_both 82 = .ok (.iload_n 3, 1) := by decide +kernel
theorem dX12_both_83 : decode cX12_both 83 = .ok (.ireturn, 1) := by decide +kernel
theorem dX12_limit_0 : decode cX12_limit 0 = .ok (.aload_n 0, 1) := by decide +kernel
theorem dX12_limit_1 : decode cX12_limit 1 = .ok (.iload_n 1, 1) := by decide +kernel
theorem dX12_limit_2 : decode cX12_limit 2 = .ok (.invokevirtual 250, 3) := by decide +kernel
theorem dX12_limit_5 : decode cX12_limit 5 = .ok (.ifCond .eq 13, 3) := by decide +kernel
theorem dX12_limit_8 : decode cX12_limit 8 = .ok (.aload_n 0, 1) := by decide +kernel
theorem dX12_limit_9 : decode cX12_limit 9 = .ok (.iload_n 2, 1) := by decide +kernel
theorem dX12_limit_10 : decode cX12_limit 10 = .ok (.iconst 0, 1) := by decide +kernel
theorem dX12_limit_11 : decode cX12_limit 11 = .ok (.iconst 1, 1) := by decide +kernel
theorem dX12_limit_12 : decode cX12_limit 12 = .ok (.invokevirtual 242, 3) := by decide +kernel
theorem dX12_limit_15 : decode cX12_limit 15 = .ok (.ifCond .ne 5, 3) := by decide +kernel
theorem dX12_limit_18 : decode cX12_limit 18 = .ok (.iconst (-1), 1) := by decide +kernel
theorem dX12_limit_19 : decode cX12_limit 19 = .ok (.ireturn, 1) := by decide +kernel
theorem dX12_limit_20 : decode cX12_limit 20 = .ok (.bipush (-5), 2) := by decide +kernel
theorem dX12_limit_22 : decode cX12_limit 22 = .ok (.istore_n 3, 1) := by decide +kernel
theorem dX12_limit_23 : decode cX12_limit 23 = .ok (.bipush (-5), 2) := by decide +kernel
theorem dX12_limit_25 : decode cX12_limit 25 = .ok (.istore 4, 2) := by decide +kernel
theorem dX12_limit_27 : decode cX12_limit 27 = .ok (.iconst 1, 1) := by decide +kernel
theorem dX12_limit_28 : decode cX12_limit 28 = .ok (.istore 5, 2) := by decide +kernel
theorem dX12_limit_30 : decode cX12_limit 30 = .ok (.iload 5, 2) := by decide +kernel
theorem dX12_limit_32 : decode cX12_limit 32 = .ok (.bipush 100, 2) := by decide +kernel
theorem dX12_limit_34 : decode cX12_limit 34 = .ok (.if_icmp .ge 49, 3) := by decide +kernel
theorem dX12_limit_37 : decode cX12_limit 37 = .ok (.aload_n 0, 1) := by decide +kernel
theorem dX12_limit_38 : decode cX12_limit 38 = .ok (.iload 5, 2) := by decide +kernel
theorem dX12_limit_40 : decode cX12_limit 40 = .ok (.putfield 108, 3) := by decide +kernel
theorem dX12_limit_43 : decode cX12_limit 43 = .ok (.aload_n 0, 1) := by decide +kernel
theorem dX12_limit_44 : decode cX12_limit 44 = .ok (.iload_n 1, 1) := by decide +kernel
theorem dX12_limit_45 : decode cX12_limit 45 = .ok (.invokevirtual 360, 3) := by decide +kernel
theorem dX12_limit_48 : decode cX12_limit 48 = .ok (.istore 6, 2) := by decide +kernel
theorem dX12_limit_50 : decode cX12_limit 50 = .ok (.iload 6, 2) := by decide +kernel
theorem dX12_limit_52 : decode cX12_limit 52 = .ok (.ifCond .lt 25, 3) := by decide +kernel
theorem dX12_limit_55 : decode cX12_limit 55 = .ok (.iload 4, 2) := by decide +kernel
theorem dX12_limit_57 : decode cX12_limit 57 = .ok (.ifCond .lt 13, 3) := by decide +kernel
theorem dX12_limit_60 : decode cX12_limit 60 = .ok (.iload 6, 2) := by decide +kernel
theorem dX12_limit_62 : decode cX12_limit 62 = .ok (.iload 4, 2) := by decide +kernel
theorem dX12_limit_64 : decode cX12_limit 64 = .ok (.if_icmp .lt 6, 3) := by decide +kernel
theorem dX12_limit_67 : decode cX12_limit 67 = .ok (.goto 10, 3) := by decide +kernel
theorem dX12_limit_70 : decode cX12_limit 70 = .ok (.iload 5, 2) := by decide +kernel
theorem dX12_limit_72 : decode cX12_limit 72 = .ok (.istore_n 3, 1) := by decide +kernel
theorem dX12_limit_73 : decode cX12_limit 73 = .ok (.iload 6, 2) := by decide +kernel
theorem dX12_limit_75 : decode cX12_limit 75 = .ok (.istore 4, 2) := by decide +kernel
theorem dX12_limit_77 : decode cX12_limit 77 = .ok (.iinc 5 1, 3) := by decide +kernel
theorem dX12_limit_80 : decode cX12_limit 80 = .ok (.goto (-50), 3) := by decide +kernel
theorem dX12_limit_83 : decode cX12_limit 83 = .ok (.aload_n 0, 1) := by decide +kernel
theorem dX12_limit_84 : decode cX12_limit 84 = .ok (.iconst (-1), 1) := by decide +kernel
theorem dX12_limit_85 : decode cX12_limit 85 = .ok (.putfield 108, 3) := by decide +kernel
theorem dX12_limit_88 : decode cX12_limit 88 = .ok (.iload_n 2, 1) := by decide +kernel
theorem dX12_limit_89 : decode cX12_limit 89 = .ok (.ifCond .ne 7, 3) := by decide +kernel
theorem dX12_limit_92 : decode cX12_limit 92 = .ok (.iload_n 3, 1) := by decide +kernel
theorem dX12_limit_93 : decode cX12_limit 93 = .ok (.goto 5, 3) := by decide +kernel
theorem dX12_limit_96 : decode cX12_limit 96 = .ok (.iload 4, 2) := by decide +kernel
theorem dX12_limit_98 : decode cX12_limit 98 = .ok (.ireturn, 1) := by decide +kernel
theorem dX12_without_0 : decode cX12_without 0 = .ok (.aload_n 0, 1) := by decide +kernel
theorem dX12_without_1 : decode cX12_without 1 = .ok (.iload_n 1, 1) := by decide +kernel
theorem dX12_without_2 : decode cX12_without 2 = .ok (.invokevirtual 250, 3) := by decide +kernel
theorem dX12_without_5 : decode cX12_without 5 = .ok (.ifCond .ne 5, 3) := by decide +kernel
theorem dX12_without_8 : decode cX12_without 8 = .ok (.iconst (-1), 1) := by decide +kernel
theorem dX12_without_9 : decode cX12_without 9 = .ok (.ireturn, 1) := by decide +kernel
theorem dX12_without_10 : decode cX12_without 10 = .ok (.aload_n 0, 1) := by decide +kernel
theorem dX12_without_11 : decode cX12_without 11 = .ok (.iload_n 1, 1) := by decide +kernel
theorem dX12_without_12 : decode cX12_without 12 = .ok (.invokevirtual 360, 3) := by decide +kernel
theorem dX12_without_15 : decode cX12_without 15 = .ok (.istore_n 2, 1) := by decide +kernel
theorem dX12_without_16 : decode cX12_without 16 = .ok (.bipush (-5), 2) := by decide +kernel
theorem dX12_without_18 : decode cX12_without 18 = .ok (.istore_n 3, 1) := by decide +kernel
theorem dX12_without_19 : decode cX12_without 19 = .ok (.iconst 0, 1) := by decide +kernel
theorem dX12_without_20 : decode cX12_without 20 = .ok (.istore 4, 2) := by decide +kernel
theorem dX12_without_22 : decode cX12_without 22 = .ok (.iload 4, 2) := by decide +kernel
theorem dX12_without_24 : decode cX12_without 24 = .ok (.aload_n 0, 1) := by decide +kernel
theorem dX12_without_25 : decode cX12_without 25 = .ok (.getfield 7, 3) := by decide +kernel
theorem dX12_without_28 : decode cX12_without 28 = .ok (.if_icmp .ge 46, 3) := by decide +kernel
theorem dX12_without_31 : decode cX12_without 31 = .ok (.aload_n 0, 1) := by decide +kernel
theorem dX12_without_32 : decode cX12_without 32 = .ok (.iload 4, 2) := by decide +kernel
theorem dX12_without_34 : decode cX12_without 34 = .ok (.putfield 114, 3) := by decide +kernel
theorem dX12_without_37 : decode cX12_without 37 = .ok (.aload_n 0, 1) := by decide +kernel
theorem dX12_without_38 : decode cX12_without 38 = .ok (.iload_n 1, 1) := by decide +kernel
theorem dX12_without_39 : decode cX12_without 39 = .ok (.invokevirtual 360, 3) := by decide +kernel
theorem dX12_without_42 : decode cX12_without 42 = .ok (.istore 5, 2) := by decide +kernel
theorem dX12_without_44 : decode cX12_without 44 = .ok (.iload 5, 2) := by decide +kernel
theorem dX12_without_46 : decode cX12_without 46 = .ok (.ifCond .lt 22, 3) := by decide +kernel
theorem dX12_without_49 : decode cX12_without 49 = .ok (.iload_n 2, 1) := by decide +kernel
theorem dX12_without_50 : decode cX12_without 50 = .ok (.ifCond .lt 12, 3) := by decide +kernel
theorem dX12_without_53 : decode cX12_without 53 = .ok (.iload 5, 2) := by decide +kernel
theorem dX12_without_55 : decode cX12_without 55 = .ok (.iload_n 2, 1) := by decide +kernel
theorem dX12_without_56 : decode cX12_without 56 = .ok (.if_icmp .lt 6, 3) := by decide +kernel
theorem dX12_without_59 : decode cX12_without 59 = .ok (.goto 9, 3) := by decide +kernel
theorem dX12_without_62 : decode cX12_without 62 = .ok (.iload 4, 2) := by decide +kernel
theorem dX12_without_64 : decode cX12_without 64 = .ok (.istore_n 3, 1) := by decide +kernel
theorem dX12_without_65 : decode cX12_without 65 = .ok (.iload 5, 2) := by decide +kernel
theorem dX12_without_67 : decode cX12_without 67 = .ok (.istore_n 2, 1) := by decide +kernel
theorem dX12_without_68 : decode cX12_without 68 = .ok (.iinc 4 1, 3) := by decide +kernel
theorem dX12_without_71 : decode cX12_without 71 = .ok (.goto (-49), 3) := by decide +kernel
theorem dX12_without_74 : decode cX12_without 74 = .ok (.aload_n 0, 1) := by decide +kernel
theorem dX12_without_75 : decode cX12_without 75 = .ok (.iconst (-1), 1) := by decide +kernel
theorem dX12_without_76 : decode cX12_without 76 = .ok (.putfield 114, 3) := by decide +kernel
theorem dX12_without_79 : decode cX12_without 79 = .ok (.iload_n 3, 1) := by decide +kernel
theorem dX12_without_80 : decode cX12_without 80 = .ok (.ireturn, 1) := by decide +kernel
theorem dX12_layOrder_0 : decode cX12_layOrder 0 = .ok (.iconst 1, 1) := by decide +kernel
theorem dX12_layOrder_1 : decode cX12_layOrder 1 = .ok (.istore_n 2, 1) := by decide +kernel
theorem dX12_layOrder_2 : decode cX12_layOrder 2 = .ok (.iconst 2, 1) := by decide +kernel
theorem dX12_layOrder_3 : decode cX12_layOrder 3 = .ok (.istore_n 3, 1) := by decide +kernel
theorem dX12_layOrder_4 : decode cX12_layOrder 4 = .ok (.iload_n 3, 1) := by decide +kernel
theorem dX12_layOrder_5 : decode cX12_layOrder 5 = .ok (.aload_n 0, 1) := by decide +kernel
theorem dX12_layOrder_6 : decode cX12_layOrder 6 = .ok (.getfield 7, 3) := by decide +kernel
theorem dX12_layOrder_9 : decode cX12_layOrder 9 = .ok (.if_icmp .gt 13, 3) := by decide +kernel
theorem dX12_layOrder_12 : decode cX12_layOrder 12 = .ok (.iload_n 2, 1) := by decide +kernel
theorem dX12_layOrder_13 : decode cX12_layOrder 13 = .ok (.iload_n 3, 1) := by decide +kernel
theorem dX12_layOrder_14 : decode cX12_layOrder 14 = .ok (.imul, 1) := by decide +kernel
theorem dX12_layOrder_15 : decode cX12_layOrder 15 = .ok (.istore_n 2, 1) := by decide +kernel
theorem dX12_layOrder_16 : decode cX12_layOrder 16 = .ok (.iinc 3 1, 3) := by decide +kernel
theorem dX12_layOrder_19 : decode cX12_layOrder 19 = .ok (.goto (-15), 3) := by decide +kernel
theorem dX12_layOrder_22 : decode cX12_layOrder 22 = .ok (.iload_n 1, 1) := by decide +kernel
theorem dX12_layOrder_23 : decode cX12_layOrder 23 = .ok (.iload_n 2, 1) := by decide +kernel
theorem dX12_layOrder_24 : decode cX12_layOrder 24 = .ok (.if_icmp .lt 5, 3) := by decide +kernel
theorem dX12_layOrder_27 : decode cX12_layOrder 27 = .ok (.iconst 0, 1) := by decide +kernel
theorem dX12_layOrder_28 : decode cX12_layOrder 28 = .ok (.ireturn, 1) := by decide +kernel
theorem dX12_layOrder_29 : decode cX12_layOrder 29 = .ok (.iconst 1, 1) := by decide +kernel
theorem dX12_layOrder_30 : decode cX12_layOrder 30 = .ok (.aload_n 0, 1) := by decide +kernel
theorem dX12_layOrder_31 : decode cX12_layOrder 31 = .ok (.getfield 7, 3) := by decide +kernel
theorem dX12_layOrder_34 : decode cX12_layOrder 34 = .ok (.ishl, 1) := by decide +kernel
theorem dX12_layOrder_35 : decode cX12_layOrder 35 = .ok (.iconst 1, 1) := by decide +kernel
theorem dX12_layOrder_36 : decode cX12_layOrder 36 = .ok (.isub, 1) := by decide +kernel
theorem dX12_layOrder_37 : decode cX12_layOrder 37 = .ok (.istore_n 3, 1) := by decide +kernel
theorem dX12_layOrder_38 : decode cX12_layOrder 38 = .ok (.iload_n 1, 1) := by decide +kernel
theorem dX12_layOrder_39 : decode cX12_layOrder 39 = .ok (.istore 4, 2) := by decide +kernel
theorem dX12_layOrder_41 : decode cX12_layOrder 41 = .ok (.iconst 0, 1) := by decide +kernel
theorem dX12_layOrder_42 : decode cX12_layOrder 42 = .ok (.istore 5, 2) := by decide +kernel
theorem dX12_layOrder_44 : decode cX12_layOrder 44 = .ok (.iload 5, 2) := by decide +kernel
theorem dX12_layOrder_46 : decode cX12_layOrder 46 = .ok (.aload_n 0, 1) := by decide +kernel
theorem dX12_layOrder_47 : decode cX12_layOrder 47 = .ok (.getfield 7, 3) := by decide +kernel
theorem dX12_layOrder_50 : decode cX12_layOrder 50 = .ok (.if_icmp .ge 93, 3) := by decide +kernel
theorem dX12_layOrder_53 : decode cX12_layOrder 53 = .ok (.iload_n 2, 1) := by decide +kernel
theorem dX12_layOrder_54 : decode cX12_layOrder 54 = .ok (.aload_n 0, 1) := by decide +kernel
theorem dX12_layOrder_55 : decode cX12_layOrder 55 = .ok (.getfield 7, 3) := by decide +kernel
theorem dX12_layOrder_58 : decode cX12_layOrder 58 = .ok (.iload 5, 2) := by decide +kernel
theorem dX12_layOrder_60 : decode cX12_layOrder 60 = .ok (.isub, 1) := by decide +kernel
theorem dX12_layOrder_61 : decode cX12_layOrder 61 = .ok (.idiv, 1) := by decide +kernel
theorem dX12_layOrder_62 : decode cX12_layOrder 62 = .ok (.istore_n 2, 1) := by decide +kernel
theorem dX12_layOrder_63 : decode cX12_layOrder 63 = .ok (.iload 4, 2) := by decide +kernel
theorem dX12_layOrder_65 : decode cX12_layOrder 65 = .ok (.iload_n 2, 1) := by decide +kernel
theorem dX12_layOrder_66 : decode cX12_layOrder 66 = .ok (.idiv, 1) := by decide +kernel
theorem dX12_layOrder_67 : decode cX12_layOrder 67 = .ok (.istore 6, 2) := by decide +kernel
theorem dX12_layOrder_69 : decode cX12_layOrder 69 = .ok (.iload 4, 2) := by decide +kernel
theorem dX12_layOrder_71 : decode cX12_layOrder 71 = .ok (.iload_n 2, 1) := by decide +kernel
theorem dX12_layOrder_72 : decode cX12_layOrder 72 = .ok (.irem, 1) := by decide +kernel
theorem dX12_layOrder_73 : decode cX12_layOrder 73 = .ok (.istore 4, 2) := by decide +kernel
theorem dX12_layOrder_75 : decode cX12_layOrder 75 = .ok (.iconst 0, 1) := by decide +kernel
theorem dX12_layOrder_76 : decode cX12_layOrder 76 = .ok (.istore 7, 2) := by decide +kernel
theorem dX12_layOrder_78 : decode cX12_layOrder 78 = .ok (.aload_n 0, 1) := by decide +kernel
theorem dX12_layOrder_79 : decode cX12_layOrder 79 = .ok (.iload_n 3, 1) := by decide +kernel
theorem dX12_layOrder_80 : decode cX12_layOrder 80 = .ok (.iload 7, 2) := by decide +kernel
theorem dX12_layOrder_82 : decode cX12_layOrder 82 = .ok (.invokevirtual 363, 3) := by decide +kernel
theorem dX12_layOrder_85 : decode cX12_layOrder 85 = .ok (.ifCond .eq 8, 3) := by decide +kernel
theorem dX12_layOrder_88 : decode cX12_layOrder 88 = .ok (.iload 6, 2) := by decide +kernel
theorem dX12_layOrder_90 : decode cX12_layOrder 90 = .ok (.ifCond .le 29, 3) := by decide +kernel
theorem dX12_layOrder_93 : decode cX12_layOrder 93 = .ok (.iload 6, 2) := by decide +kernel
theorem dX12_layOrder_95 : decode cX12_layOrder 95 = .ok (.aload_n 0, 1) := by decide +kernel
theorem dX12_layOrder_96 : decode cX12_layOrder 96 = .ok (.iload_n 3, 1) := by decide +kernel
theorem dX12_layOrder_97 : decode cX12_layOrder 97 = .ok (.iload 7, 2) := by decide +kernel
theorem dX12_layOrder_99 : decode cX12_layOrder 99 = .ok (.invokevirtual 363, 3) := by decide +kernel
theorem dX12_layOrder_102 : decode cX12_layOrder 102 = .ok (.ifCond .eq 7, 3) := by decide +kernel
theorem dX12_layOrder_105 : decode cX12_layOrder 105 = .ok (.iconst 1, 1) := by decide +kernel
theorem dX12_layOrder_106 : decode cX12_layOrder 106 = .ok (.goto 4, 3) := by decide +kernel
theorem dX12_layOrder_109 : decode cX12_layOrder 109 = .ok (.iconst 0, 1) := by decide +kernel
theorem dX12_layOrder_110 : decode cX12_layOrder 110 = .ok (.isub, 1) := by decide +kernel
theorem dX12_layOrder_111 : decode cX12_layOrder 111 = .ok (.istore 6, 2) := by decide +kernel
theorem dX12_layOrder_113 : decode cX12_layOrder 113 = .ok (.iinc 7 1, 3) := by decide +kernel
theorem dX12_layOrder_116 : decode cX12_layOrder 116 = .ok (.goto (-38), 3) := by decide +kernel
theorem dX12_layOrder_119 : decode cX12_layOrder 119 = .ok (.aload_n 0, 1) := by decide +kernel
theorem dX12_layOrder_120 : decode cX12_layOrder 120 = .ok (.getfield 144, 3) := by decide +kernel
theorem dX12_layOrder_123 : decode cX12_layOrder 123 = .ok (.iload 5, 2) := by decide +kernel
theorem dX12_layOrder_125 : decode cX12_layOrder 125 = .ok (.iload 7, 2) := by decide +kernel
theorem dX12_layOrder_127 : decode cX12_layOrder 127 = .ok (.iastore, 1) := by decide +kernel
theorem dX12_layOrder_128 : decode cX12_layOrder 128 = .ok (.iload_n 3, 1) := by decide +kernel
theorem dX12_layOrder_129 : decode cX12_layOrder 129 = .ok (.iconst 1, 1) := by decide +kernel
theorem dX12_layOrder_130 : decode cX12_layOrder 130 = .ok (.iload 7, 2) := by decide +kernel
theorem dX12_layOrder_132 : decode cX12_layOrder 132 = .ok (.ishl, 1) := by decide +kernel
theorem dX12_layOrder_133 : decode cX12_layOrder 133 = .ok (.iconst (-1), 1) := by decide +kernel
theorem dX12_layOrder_134 : decode cX12_layOrder 134 = .ok (.ixor, 1) := by decide +kernel
theorem dX12_layOrder_135 : decode cX12_layOrder 135 = .ok (.iand, 1) := by decide +kernel
theorem dX12_layOrder_136 : decode cX12_layOrder 136 = .ok (.istore_n 3, 1) := by decide +kernel
theorem dX12_layOrder_137 : decode cX12_layOrder 137 = .ok (.iinc 5 1, 3) := by decide +kernel
theorem dX12_layOrder_140 : decode cX12_layOrder 140 = .ok (.goto (-96), 3) := by decide +kernel
theorem dX12_layOrder_143 : decode cX12_layOrder 143 = .ok (.iconst 1, 1) := by decide +kernel
theorem dX12_layOrder_144 : decode cX12_layOrder 144 = .ok (.ireturn, 1) := by decide +kernel
theorem dX12_spentAsOrdered_0 : decode cX12_spentAsOrdered 0 = .ok (.aload_n 0, 1) := by decide +kernel
theorem dX12_spentAsOrdered_1 : decode cX12_spentAsOrdered 1 = .ok (.invokevirtual 351, 3) := by decide +kernel
theorem dX12_spentAsOrdered_4 : decode cX12_spentAsOrdered 4 = .ok (.aload_n 0, 1) := by decide +kernel
theorem dX12_spentAsOrdered_5 : decode cX12_spentAsOrdered 5 = .ok (.iconst 0, 1) := by decide +kernel
theorem dX12_spentAsOrdered_6 : decode cX12_spentAsOrdered 6 = .ok (.putfield 19, 3) := by decide +kernel
theorem dX12_spentAsOrdered_9 : decode cX12_spentAsOrdered 9 = .ok (.aload_n 0, 1) := by decide +kernel
theorem dX12_spentAsOrdered_10 : decode cX12_spentAsOrdered 10 = .ok (.iconst 0, 1) := by decide +kernel
theorem dX12_spentAsOrdered_11 : decode cX12_spentAsOrdered 11 = .ok (.putfield 22, 3) := by decide +kernel
theorem dX12_spentAsOrdered_14 : decode cX12_spentAsOrdered 14 = .ok (.aload_n 0, 1) := by decide +kernel
theorem dX12_spentAsOrdered_15 : decode cX12_spentAsOrdered 15 = .ok (.iconst 0, 1) := by decide +kernel
theorem dX12_spentAsOrdered_16 : decode cX12_spentAsOrdered 16 = .ok (.putfield 25, 3) := by decide +kernel
theorem dX12_spentAsOrdered_19 : decode cX12_spentAsOrdered 19 = .ok (.aload_n 0, 1) := by decide +kernel
theorem dX12_spentAsOrdered_20 : decode cX12_spentAsOrdered 20 = .ok (.iconst 0, 1) := by decide +kernel
theorem dX12_spentAsOrdered_21 : decode cX12_spentAsOrdered 21 = .ok (.putfield 28, 3) := by decide +kernel
theorem dX12_spentAsOrdered_24 : decode cX12_spentAsOrdered 24 = .ok (.aload_n 0, 1) := by decide +kernel
theorem dX12_spentAsOrdered_25 : decode cX12_spentAsOrdered 25 = .ok (.iconst 0, 1) := by decide +kernel
theorem dX12_spentAsOrdered_26 : decode cX12_spentAsOrdered 26 = .ok (.putfield 117, 3) := by decide +kernel
theorem dX12_spentAsOrdered_29 : decode cX12_spentAsOrdered 29 = .ok (.iconst 0, 1) := by decide +kernel
theorem dX12_spentAsOrdered_30 : decode cX12_spentAsOrdered 30 = .ok (.istore_n 2, 1) := by decide +kernel
theorem dX12_spentAsOrdered_31 : decode cX12_spentAsOrdered 31 = .ok (.iload_n 2, 1) := by decide +kernel
theorem dX12_spentAsOrdered_32 : decode cX12_spentAsOrdered 32 = .ok (.bipush 60, 2) := by decide +kernel
theorem dX12_spentAsOrdered_34 : decode cX12_spentAsOrdered 34 = .ok (.if_icmp .ge 33, 3) := by decide +kernel
theorem dX12_spentAsOrdered_37 : decode cX12_spentAsOrdered 37 = .ok (.aload_n 0, 1) := by decide +kernel
theorem dX12_spentAsOrdered_38 : decode cX12_spentAsOrdered 38 = .ok (.invokevirtual 342, 3) := by decide +kernel
theorem dX12_spentAsOrdered_41 : decode cX12_spentAsOrdered 41 = .ok (.ifCond .ne 26, 3) := by decide +kernel
theorem dX12_spentAsOrdered_44 : decode cX12_spentAsOrdered 44 = .ok (.aload_n 0, 1) := by decide +kernel
theorem dX12_spentAsOrdered_45 : decode cX12_spentAsOrdered 45 = .ok (.iload_n 1, 1) := by decide +kernel
theorem dX12_spentAsOrdered_46 : decode cX12_spentAsOrdered 46 = .ok (.aload_n 0, 1) := by decide +kernel
theorem dX12_spentAsOrdered_47 : decode cX12_spentAsOrdered 47 = .ok (.getfield 144, 3) := by decide +kernel
theorem dX12_spentAsOrdered_50 : decode cX12_spentAsOrdered 50 = .ok (.iload_n 2, 1) := by decide +kernel
theorem dX12_spentAsOrdered_51 : decode cX12_spentAsOrdered 51 = .ok (.aload_n 0, 1) := by decide +kernel
theorem dX12_spentAsOrdered_52 : decode cX12_spentAsOrdered 52 = .ok (.getfield 7, 3) := by decide +kernel
theorem dX12_spentAsOrdered_55 : decode cX12_spentAsOrdered 55 = .ok (.irem, 1) := by decide +kernel
theorem dX12_spentAsOrdered_56 : decode cX12_spentAsOrdered 56 = .ok (.iaload, 1) := by decide +kernel
theorem dX12_spentAsOrdered_57 : decode cX12_spentAsOrdered 57 = .ok (.invokevirtual 339, 3) := by decide +kernel
theorem dX12_spentAsOrdered_60 : decode cX12_spentAsOrdered 60 = .ok (.istore_n 3, 1) := by decide +kernel
theorem dX12_spentAsOrdered_61 : decode cX12_spentAsOrdered 61 = .ok (.iinc 2 1, 3) := by decide +kernel
theorem dX12_spentAsOrdered_64 : decode cX12_spentAsOrdered 64 = .ok (.goto (-33), 3) := by decide +kernel
theorem dX12_spentAsOrdered_67 : decode cX12_spentAsOrdered 67 = .ok (.aload_n 0, 1) := by decide +kernel
theorem dX12_spentAsOrdered_68 : decode cX12_spentAsOrdered 68 = .ok (.invokevirtual 357, 3) := by decide +kernel
theorem dX12_spentAsOrdered_71 : decode cX12_spentAsOrdered 71 = .ok (.aload_n 0, 1) := by decide +kernel
theorem dX12_spentAsOrdered_72 : decode cX12_spentAsOrdered 72 = .ok (.getfield 117, 3) := by decide +kernel
theorem dX12_spentAsOrdered_75 : decode cX12_spentAsOrdered 75 = .ok (.ireturn, 1) := by decide +kernel
theorem dX12_order_0 : decode cX12_order 0 = .ok (.aload_n 0, 1) := by decide +kernel
theorem dX12_order_1 : decode cX12_order 1 = .ok (.iload_n 1, 1) := by decide +kernel
theorem dX12_order_2 : decode cX12_order 2 = .ok (.invokevirtual 250, 3) := by decide +kernel
theorem dX12_order_5 : decode cX12_order 5 = .ok (.ifCond .eq 13, 3) := by decide +kernel
theorem dX12_order_8 : decode cX12_order 8 = .ok (.aload_n 0, 1) := by decide +kernel
theorem dX12_order_9 : decode cX12_order 9 = .ok (.iload_n 2, 1) := by decide +kernel
theorem dX12_order_10 : decode cX12_order 10 = .ok (.iconst (-1), 1) := by decide +kernel
theorem dX12_order_11 : decode cX12_order 11 = .ok (.iconst 4, 1) := by decide +kernel
theorem dX12_order_12 : decode cX12_order 12 = .ok (.invokevirtual 242, 3) := by decide +kernel
theorem dX12_order_15 : decode cX12_order 15 = .ok (.ifCond .ne 5, 3) := by decide +kernel
theorem dX12_order_18 : decode cX12_order 18 = .ok (.iconst (-1), 1) := by decide +kernel
theorem dX12_order_19 : decode cX12_order 19 = .ok (.ireturn, 1) := by decide +kernel
theorem dX12_order_20 : decode cX12_order 20 = .ok (.aload_n 0, 1) := by decide +kernel
theorem dX12_order_21 : decode cX12_order 21 = .ok (.getfield 7, 3) := by decide +kernel
theorem dX12_order_24 : decode cX12_order 24 = .ok (.iconst 5, 1) := by decide +kernel
theorem dX12_order_25 : decode cX12_order 25 = .ok (.if_icmp .le 6, 3) := by decide +kernel
theorem dX12_order_28 : decode cX12_order 28 = .ok (.bipush (-9), 2) := by decide +kernel
theorem dX12_order_30 : decode cX12_order 30 = .ok (.ireturn, 1) := by decide +kernel
theorem dX12_order_31 : decode cX12_order 31 = .ok (.iconst (-1), 1) := by decide +kernel
theorem dX12_order_32 : decode cX12_order 32 = .ok (.istore_n 3, 1) := by decide +kernel
theorem dX12_order_33 : decode cX12_order 33 = .ok (.iconst 0, 1) := by decide +kernel
theorem dX12_order_34 : decode cX12_order 34 = .ok (.istore 4, 2) := by decide +kernel
theorem dX12_order_36 : decode cX12_order 36 = .ok (.aload_n 0, 1) := by decide +kernel
theorem dX12_order_37 : decode cX12_order 37 = .ok (.iload 4, 2) := by decide +kernel
theorem dX12_order_39 : decode cX12_order 39 = .ok (.invokevirtual 366, 3) := by decide +kernel
theorem dX12_order_42 : decode cX12_order 42 = .ok (.ifCond .eq 57, 3) := by decide +kernel
theorem dX12_order_45 : decode cX12_order 45 = .ok (.aload_n 0, 1) := by decide +kernel
theorem dX12_order_46 : decode cX12_order 46 = .ok (.iload_n 1, 1) := by decide +kernel
theorem dX12_order_47 : decode cX12_order 47 = .ok (.invokevirtual 369, 3) := by decide +kernel
theorem dX12_order_50 : decode cX12_order 50 = .ok (.istore 5, 2) := by decide +kernel
theorem dX12_order_52 : decode cX12_order 52 = .ok (.iload 5, 2) := by decide +kernel
theorem dX12_order_54 : decode cX12_order 54 = .ok (.iload_n 3, 1) := by decide +kernel
theorem dX12_order_55 : decode cX12_order 55 = .ok (.if_icmp .gt 6, 3) := by decide +kernel
theorem dX12_order_58 : decode cX12_order 58 = .ok (.goto 35, 3) := by decide +kernel
theorem dX12_order_61 : decode cX12_order 61 = .ok (.iload 5, 2) := by decide +kernel
theorem dX12_order_63 : decode cX12_order 63 = .ok (.istore_n 3, 1) := by decide +kernel
theorem dX12_order_64 : decode cX12_order 64 = .ok (.iconst 0, 1) := by decide +kernel
theorem dX12_order_65 : decode cX12_order 65 = .ok (.istore 6, 2) := by decide +kernel
theorem dX12_order_67 : decode cX12_order 67 = .ok (.iload 6, 2) := by decide +kernel
theorem dX12_order_69 : decode cX12_order 69 = .ok (.iconst 5, 1) := by decide +kernel
theorem dX12_order_70 : decode cX12_order 70 = .ok (.if_icmp .ge 23, 3) := by decide +kernel
theorem dX12_order_73 : decode cX12_order 73 = .ok (.aload_n 0, 1) := by decide +kernel
theorem dX12_order_74 : decode cX12_order 74 = .ok (.getfield 147, 3) := by decide +kernel
theorem dX12_order_77 : decode cX12_order 77 = .ok (.iload 6, 2) := by decide +kernel
theorem dX12_order_79 : decode cX12_order 79 = .ok (.aload_n 0, 1) := by decide +kernel
theorem dX12_order_80 : decode cX12_order 80 = .ok (.getfield 144, 3) := by decide +kernel
theorem dX12_order_83 : decode cX12_order 83 = .ok (.iload 6, 2) := by decide +kernel
theorem dX12_order_85 : decode cX12_order 85 = .ok (.iaload, 1) := by decide +kernel
theorem dX12_order_86 : decode cX12_order 86 = .ok (.iastore, 1) := by decide +kernel
theorem dX12_order_87 : decode cX12_order 87 = .ok (.iinc 6 1, 3) := by decide +kernel
theorem dX12_order_90 : decode cX12_order 90 = .ok (.goto (-23), 3) := by decide +kernel
theorem dX12_order_93 : decode cX12_order 93 = .ok (.iinc 4 1, 3) := by decide +kernel
theorem dX12_order_96 : decode cX12_order 96 = .ok (.goto (-60), 3) := by decide +kernel
theorem dX12_order_99 : decode cX12_order 99 = .ok (.iload_n 2, 1) := by decide +kernel
theorem dX12_order_100 : decode cX12_order 100 = .ok (.ifCond .ge 7, 3) := by decide +kernel
theorem dX12_order_103 : decode cX12_order 103 = .ok (.iload_n 3, 1) := by decide +kernel
theorem dX12_order_104 : decode cX12_order 104 = .ok (.goto 22, 3) := by decide +kernel
theorem dX12_order_107 : decode cX12_order 107 = .ok (.iload_n 2, 1) := by decide +kernel
theorem dX12_order_108 : decode cX12_order 108 = .ok (.aload_n 0, 1) := by decide +kernel
theorem dX12_order_109 : decode cX12_order 109 = .ok (.getfield 7, 3) := by decide +kernel
theorem dX12_order_112 : decode cX12_order 112 = .ok (.if_icmp .ge 12, 3) := by decide +kernel
theorem dX12_order_115 : decode cX12_order 115 = .ok (.aload_n 0, 1) := by decide +kernel
theorem dX12_order_116 : decode cX12_order 116 = .ok (.getfield 147, 3) := by decide +kernel
theorem dX12_order_119 : decode cX12_order 119 = .ok (.iload_n 2, 1) := by decide +kernel
theorem dX12_order_120 : decode cX12_order 120 = .ok (.iaload, 1) := by decide +kernel
theorem dX12_order_121 : decode cX12_order 121 = .ok (.goto 5, 3) := by decide +kernel
theorem dX12_order_124 : decode cX12_order 124 = .ok (.bipush (-5), 2) := by decide +kernel
theorem dX12_order_126 : decode cX12_order 126 = .ok (.ireturn, 1) := by decide +kernel
theorem dX12_coupons_0 : decode cX12_coupons 0 = .ok (.aload_n 0, 1) := by decide +kernel
theorem dX12_coupons_1 : decode cX12_coupons 1 = .ok (.iload_n 1, 1) := by decide +kernel
theorem dX12_coupons_2 : decode cX12_coupons 2 = .ok (.invokevirtual 250, 3) := by decide +kernel
theorem dX12_coupons_5 : decode cX12_coupons 5 = .ok (.ifCond .ne 5, 3) := by decide +kernel
theorem dX12_coupons_8 : decode cX12_coupons 8 = .ok (.iconst (-1), 1) := by decide +kernel
theorem dX12_coupons_9 : decode cX12_coupons 9 = .ok (.ireturn, 1) := by decide +kernel
theorem dX12_coupons_10 : decode cX12_coupons 10 = .ok (.bipush (-5), 2) := by decide +kernel
theorem dX12_coupons_12 : decode cX12_coupons 12 = .ok (.istore_n 2, 1) := by decide +kernel
theorem dX12_coupons_13 : decode cX12_coupons 13 = .ok (.iconst 0, 1) := by decide +kernel
theorem dX12_coupons_14 : decode cX12_coupons 14 = .ok (.istore_n 3, 1) := by decide +kernel
theorem dX12_coupons_15 : decode cX12_coupons 15 = .ok (.iload_n 3, 1) := by decide +kernel
theorem dX12_coupons_16 : decode cX12_coupons 16 = .ok (.bipush 21, 2) := by decide +kernel
theorem dX12_coupons_18 : decode cX12_coupons 18 = .ok (.if_icmp .ge 33, 3) := by decide +kernel
theorem dX12_coupons_21 : decode cX12_coupons 21 = .ok (.iload_n 2, 1) := by decide +kernel
theorem dX12_coupons_22 : decode cX12_coupons 22 = .ok (.ifCond .ge 29, 3) := by decide +kernel
theorem dX12_coupons_25 : decode cX12_coupons 25 = .ok (.aload_n 0, 1) := by decide +kernel
theorem dX12_coupons_26 : decode cX12_coupons 26 = .ok (.iload_n 3, 1) := by decide +kernel
theorem dX12_coupons_27 : decode cX12_coupons 27 = .ok (.putfield 111, 3) := by decide +kernel
theorem dX12_coupons_30 : decode cX12_coupons 30 = .ok (.aload_n 0, 1) := by decide +kernel
theorem dX12_coupons_31 : decode cX12_coupons 31 = .ok (.iload_n 1, 1) := by decide +kernel
theorem dX12_coupons_32 : decode cX12_coupons 32 = .ok (.invokevirtual 360, 3) := by decide +kernel
theorem dX12_coupons_35 : decode cX12_coupons 35 = .ok (.ifCond .ge 8, 3) := by decide +kernel
theorem dX12_coupons_38 : decode cX12_coupons 38 = .ok (.bipush (-5), 2) := by decide +kernel
theorem dX12_coupons_40 : decode cX12_coupons 40 = .ok (.goto 4, 3) := by decide +kernel
theorem dX12_coupons_43 : decode cX12_coupons 43 = .ok (.iload_n 3, 1) := by decide +kernel
theorem dX12_coupons_44 : decode cX12_coupons 44 = .ok (.istore_n 2, 1) := by decide +kernel
theorem dX12_coupons_45 : decode cX12_coupons 45 = .ok (.iinc 3 1, 3) := by decide +kernel
theorem dX12_coupons_48 : decode cX12_coupons 48 = .ok (.goto (-33), 3) := by decide +kernel
theorem dX12_coupons_51 : decode cX12_coupons 51 = .ok (.aload_n 0, 1) := by decide +kernel
theorem dX12_coupons_52 : decode cX12_coupons 52 = .ok (.iconst (-1), 1) := by decide +kernel
theorem dX12_coupons_53 : decode cX12_coupons 53 = .ok (.putfield 111, 3) := by decide +kernel
theorem dX12_coupons_56 : decode cX12_coupons 56 = .ok (.iload_n 2, 1) := by decide +kernel
theorem dX12_coupons_57 : decode cX12_coupons 57 = .ok (.ireturn, 1) := by decide +kernel
theorem dX12_evenings_0 : decode cX12_evenings 0 = .ok (.aload_n 0, 1) := by decide +kernel
theorem dX12_evenings_1 : decode cX12_evenings 1 = .ok (.iload_n 1, 1) := by decide +kernel
theorem dX12_evenings_2 : decode cX12_evenings 2 = .ok (.invokevirtual 250, 3) := by decide +kernel
theorem dX12_evenings_5 : decode cX12_evenings 5 = .ok (.ifCond .eq 13, 3) := by decide +kernel
theorem dX12_evenings_8 : decode cX12_evenings 8 = .ok (.aload_n 0, 1) := by decide +kernel
theorem dX12_evenings_9 : decode cX12_evenings 9 = .ok (.iload_n 3, 1) := by decide +kernel
theorem dX12_evenings_10 : decode cX12_evenings 10 = .ok (.iconst 0, 1) := by decide +kernel
theorem dX12_evenings_11 : decode cX12_evenings 11 = .ok (.iconst 2, 1) := by decide +kernel
theorem dX12_evenings_12 : decode cX12_evenings 12 = .ok (.invokevirtual 242, 3) := by decide +kernel
theorem dX12_evenings_15 : decode cX12_evenings 15 = .ok (.ifCond .ne 5, 3) := by decide +kernel
theorem dX12_evenings_18 : decode cX12_evenings 18 = .ok (.iconst (-1), 1) := by decide +kernel
theorem dX12_evenings_19 : decode cX12_evenings 19 = .ok (.ireturn, 1) := by decide +kernel
theorem dX12_evenings_20 : decode cX12_evenings 20 = .ok (.aload_n 0, 1) := by decide +kernel
theorem dX12_evenings_21 : decode cX12_evenings 21 = .ok (.iload_n 2, 1) := by decide +kernel
theorem dX12_evenings_22 : decode cX12_evenings 22 = .ok (.iconst 1, 1) := by decide +kernel
theorem dX12_evenings_23 : decode cX12_evenings 23 = .ok (.bipush 10, 2) := by decide +kernel
theorem dX12_evenings_25 : decode cX12_evenings 25 = .ok (.invokevirtual 242, 3) := by decide +kernel
theorem dX12_evenings_28 : decode cX12_evenings 28 = .ok (.ifCond .ne 6, 3) := by decide +kernel
theorem dX12_evenings_31 : decode cX12_evenings 31 = .ok (.bipush (-2), 2) := by decide +kernel
theorem dX12_evenings_33 : decode cX12_evenings 33 = .ok (.ireturn, 1) := by decide +kernel
theorem dX12_evenings_34 : decode cX12_evenings 34 = .ok (.aload_n 0, 1) := by decide +kernel
theorem dX12_evenings_35 : decode cX12_evenings 35 = .ok (.invokevirtual 351, 3) := by decide +kernel
theorem dX12_evenings_38 : decode cX12_evenings 38 = .ok (.iconst 0, 1) := by decide +kernel
theorem dX12_evenings_39 : decode cX12_evenings 39 = .ok (.istore 4, 2) := by decide +kernel
theorem dX12_evenings_41 : decode cX12_evenings 41 = .ok (.iconst 0, 1) := by decide +kernel
theorem dX12_evenings_42 : decode cX12_evenings 42 = .ok (.istore 5, 2) := by decide +kernel
theorem dX12_evenings_44 : decode cX12_evenings 44 = .ok (.iconst 0, 1) := by decide +kernel
theorem dX12_evenings_45 : decode cX12_evenings 45 = .ok (.istore 6, 2) := by decide +kernel
theorem dX12_evenings_47 : decode cX12_evenings 47 = .ok (.iload 6, 2) := by decide +kernel
theorem dX12_evenings_49 : decode cX12_evenings 49 = .ok (.iload_n 2, 1) := by decide +kernel
theorem dX12_evenings_50 : decode cX12_evenings 50 = .ok (.if_icmp .ge 46, 3) := by decide +kernel
theorem dX12_evenings_53 : decode cX12_evenings 53 = .ok (.aload_n 0, 1) := by decide +kernel
theorem dX12_evenings_54 : decode cX12_evenings 54 = .ok (.iload_n 1, 1) := by decide +kernel
theorem dX12_evenings_55 : decode cX12_evenings 55 = .ok (.bipush 60, 2) := by decide +kernel
theorem dX12_evenings_57 : decode cX12_evenings 57 = .ok (.invokevirtual 354, 3) := by decide +kernel
theorem dX12_evenings_60 : decode cX12_evenings 60 = .ok (.istore 7, 2) := by decide +kernel
theorem dX12_evenings_62 : decode cX12_evenings 62 = .ok (.iload 4, 2) := by decide +kernel
theorem dX12_evenings_64 : decode cX12_evenings 64 = .ok (.aload_n 0, 1) := by decide +kernel
theorem dX12_evenings_65 : decode cX12_evenings 65 = .ok (.invokevirtual 333, 3) := by decide +kernel
theorem dX12_evenings_68 : decode cX12_evenings 68 = .ok (.iconst 2, 1) := by decide +kernel
theorem dX12_evenings_69 : decode cX12_evenings 69 = .ok (.if_icmp .ne 7, 3) := by decide +kernel
theorem dX12_evenings_72 : decode cX12_evenings 72 = .ok (.iconst 1, 1) := by decide +kernel
theorem dX12_evenings_73 : decode cX12_evenings 73 = .ok (.goto 4, 3) := by decide +kernel
theorem dX12_evenings_76 : decode cX12_evenings 76 = .ok (.iconst 0, 1) := by decide +kernel
theorem dX12_evenings_77 : decode cX12_evenings 77 = .ok (.iadd, 1) := by decide +kernel
theorem dX12_evenings_78 : decode cX12_evenings 78 = .ok (.istore 4, 2) := by decide +kernel
theorem dX12_evenings_80 : decode cX12_evenings 80 = .ok (.aload_n 0, 1) := by decide +kernel
theorem dX12_evenings_81 : decode cX12_evenings 81 = .ok (.getfield 19, 3) := by decide +kernel
theorem dX12_evenings_84 : decode cX12_evenings 84 = .ok (.istore 5, 2) := by decide +kernel
theorem dX12_evenings_86 : decode cX12_evenings 86 = .ok (.aload_n 0, 1) := by decide +kernel
theorem dX12_evenings_87 : decode cX12_evenings 87 = .ok (.invokevirtual 348, 3) := by decide +kernel
theorem dX12_evenings_90 : decode cX12_evenings 90 = .ok (.iinc 6 1, 3) := by decide +kernel
theorem dX12_evenings_93 : decode cX12_evenings 93 = .ok (.goto (-46), 3) := by decide +kernel
theorem dX12_evenings_96 : decode cX12_evenings 96 = .ok (.iconst 0, 1) := by decide +kernel
theorem dX12_evenings_97 : decode cX12_evenings 97 = .ok (.istore 6, 2) := by decide +kernel
theorem dX12_evenings_99 : decode cX12_evenings 99 = .ok (.iconst 0, 1) := by decide +kernel
theorem dX12_evenings_100 : decode cX12_evenings 100 = .ok (.istore 7, 2) := by decide +kernel
theorem dX12_evenings_102 : decode cX12_evenings 102 = .ok (.iload 7, 2) := by decide +kernel
theorem dX12_evenings_104 : decode cX12_evenings 104 = .ok (.aload_n 0, 1) := by decide +kernel
theorem dX12_evenings_105 : decode cX12_evenings 105 = .ok (.getfield 7, 3) := by decide +kernel
theorem dX12_evenings_108 : decode cX12_evenings 108 = .ok (.if_icmp .ge 21, 3) := by decide +kernel
theorem dX12_evenings_111 : decode cX12_evenings 111 = .ok (.iload 6, 2) := by decide +kernel
theorem dX12_evenings_113 : decode cX12_evenings 113 = .ok (.aload_n 0, 1) := by decide +kernel
theorem dX12_evenings_114 : decode cX12_evenings 114 = .ok (.getfield 41, 3) := by decide +kernel
theorem dX12_evenings_117 : decode cX12_evenings 117 = .ok (.iload 7, 2) := by decide +kernel
theorem dX12_evenings_119 : decode cX12_evenings 119 = .ok (.iaload, 1) := by decide +kernel
theorem dX12_evenings_120 : decode cX12_evenings 120 = .ok (.iadd, 1) := by decide +kernel
theorem dX12_evenings_121 : decode cX12_evenings 121 = .ok (.istore 6, 2) := by decide +kernel
theorem dX12_evenings_123 : decode cX12_evenings 123 = .ok (.iinc 7 1, 3) := by decide +kernel
theorem dX12_evenings_126 : decode cX12_evenings 126 = .ok (.goto (-24), 3) := by decide +kernel
theorem dX12_evenings_129 : decode cX12_evenings 129 = .ok (.aload_n 0, 1) := by decide +kernel
theorem dX12_evenings_130 : decode cX12_evenings 130 = .ok (.invokevirtual 357, 3) := by decide +kernel
theorem dX12_evenings_133 : decode cX12_evenings 133 = .ok (.iload_n 3, 1) := by decide +kernel
theorem dX12_evenings_134 : decode cX12_evenings 134 = .ok (.ifCond .ne 8, 3) := by decide +kernel
theorem dX12_evenings_137 : decode cX12_evenings 137 = .ok (.iload 5, 2) := by decide +kernel
theorem dX12_evenings_139 : decode cX12_evenings 139 = .ok (.goto 15, 3) := by decide +kernel
theorem dX12_evenings_142 : decode cX12_evenings 142 = .ok (.iload_n 3, 1) := by decide +kernel
theorem dX12_evenings_143 : decode cX12_evenings 143 = .ok (.iconst 1, 1) := by decide +kernel
theorem dX12_evenings_144 : decode cX12_evenings 144 = .ok (.if_icmp .ne 8, 3) := by decide +kernel
theorem dX12_evenings_147 : decode cX12_evenings 147 = .ok (.iload 4, 2) := by decide +kernel
theorem dX12_evenings_149 : decode cX12_evenings 149 = .ok (.goto 5, 3) := by decide +kernel
theorem dX12_evenings_152 : decode cX12_evenings 152 = .ok (.iload 6, 2) := by decide +kernel
theorem dX12_evenings_154 : decode cX12_evenings 154 = .ok (.ireturn, 1) := by decide +kernel
theorem dX12_hear_0 : decode cX12_hear 0 = .ok (.aload_n 0, 1) := by decide +kernel
theorem dX12_hear_1 : decode cX12_hear 1 = .ok (.getfield 150, 3) := by decide +kernel
theorem dX12_hear_4 : decode cX12_hear 4 = .ok (.bipush 8, 2) := by decide +kernel
theorem dX12_hear_6 : decode cX12_hear 6 = .ok (.if_icmp .ne 6, 3) := by decide +kernel
theorem dX12_hear_9 : decode cX12_hear 9 = .ok (.bipush (-4), 2) := by decide +kernel
theorem dX12_hear_11 : decode cX12_hear 11 = .ok (.ireturn, 1) := by decide +kernel
theorem dX12_hear_12 : decode cX12_hear 12 = .ok (.aload_n 0, 1) := by decide +kernel
theorem dX12_hear_13 : decode cX12_hear 13 = .ok (.getfield 153, 3) := by decide +kernel
theorem dX12_hear_16 : decode cX12_hear 16 = .ok (.aload_n 0, 1) := by decide +kernel
theorem dX12_hear_17 : decode cX12_hear 17 = .ok (.getfield 150, 3) := by decide +kernel
theorem dX12_hear_20 : decode cX12_hear 20 = .ok (.iload_n 1, 1) := by decide +kernel
theorem dX12_hear_21 : decode cX12_hear 21 = .ok (.bastore, 1) := by decide +kernel
theorem dX12_hear_22 : decode cX12_hear 22 = .ok (.aload_n 0, 1) := by decide +kernel
theorem dX12_hear_23 : decode cX12_hear 23 = .ok (.dup, 1) := by decide +kernel
theorem dX12_hear_24 : decode cX12_hear 24 = .ok (.getfield 150, 3) := by decide +kernel
theorem dX12_hear_27 : decode cX12_hear 27 = .ok (.iconst 1, 1) := by decide +kernel
theorem dX12_hear_28 : decode cX12_hear 28 = .ok (.iadd, 1) := by decide +kernel
theorem dX12_hear_29 : decode cX12_hear 29 = .ok (.putfield 150, 3) := by decide +kernel
theorem dX12_hear_32 : decode cX12_hear 32 = .ok (.aload_n 0, 1) := by decide +kernel
theorem dX12_hear_33 : decode cX12_hear 33 = .ok (.getfield 150, 3) := by decide +kernel
theorem dX12_hear_36 : decode cX12_hear 36 = .ok (.ireturn, 1) := by decide +kernel
theorem dX12_hush_0 : decode cX12_hush 0 = .ok (.aload_n 0, 1) := by decide +kernel
theorem dX12_hush_1 : decode cX12_hush 1 = .ok (.getfield 150, 3) := by decide +kernel
theorem dX12_hush_4 : decode cX12_hush 4 = .ok (.istore_n 1, 1) := by decide +kernel
theorem dX12_hush_5 : decode cX12_hush 5 = .ok (.aload_n 0, 1) := by decide +kernel
theorem dX12_hush_6 : decode cX12_hush 6 = .ok (.iconst 0, 1) := by decide +kernel
theorem dX12_hush_7 : decode cX12_hush 7 = .ok (.putfield 150, 3) := by decide +kernel
theorem dX12_hush_10 : decode cX12_hush 10 = .ok (.iload_n 1, 1) := by decide +kernel
theorem dX12_hush_11 : decode cX12_hush 11 = .ok (.ireturn, 1) := by decide +kernel
theorem dX12_isHeard_0 : decode cX12_isHeard 0 = .ok (.aload_n 0, 1) := by decide +kernel
theorem dX12_isHeard_1 : decode cX12_isHeard 1 = .ok (.invokevirtual 351, 3) := by decide +kernel
theorem dX12_isHeard_4 : decode cX12_isHeard 4 = .ok (.iconst 1, 1) := by decide +kernel
theorem dX12_isHeard_5 : decode cX12_isHeard 5 = .ok (.istore_n 2, 1) := by decide +kernel
theorem dX12_isHeard_6 : decode cX12_isHeard 6 = .ok (.iconst 0, 1) := by decide +kernel
theorem dX12_isHeard_7 : decode cX12_isHeard 7 = .ok (.istore_n 3, 1) := by decide +kernel
theorem dX12_isHeard_8 : decode cX12_isHeard 8 = .ok (.iload_n 3, 1) := by decide +kernel
theorem dX12_isHeard_9 : decode cX12_isHeard 9 = .ok (.aload_n 0, 1) := by decide +kernel
theorem dX12_isHeard_10 : decode cX12_isHeard 10 = .ok (.getfield 150, 3) := by decide +kernel
theorem dX12_isHeard_13 : decode cX12_isHeard 13 = .ok (.if_icmp .ge 40, 3) := by decide +kernel
theorem dX12_isHeard_16 : decode cX12_isHeard 16 = .ok (.iload_n 2, 1) := by decide +kernel
theorem dX12_isHeard_17 : decode cX12_isHeard 17 = .ok (.ifCond .eq 36, 3) := by decide +kernel
theorem dX12_isHeard_20 : decode cX12_isHeard 20 = .ok (.aload_n 0, 1) := by decide +kernel
theorem dX12_isHeard_21 : decode cX12_isHeard 21 = .ok (.invokevirtual 342, 3) := by decide +kernel
theorem dX12_isHeard_24 : decode cX12_isHeard 24 = .ok (.ifCond .ne 21, 3) := by decide +kernel
theorem dX12_isHeard_27 : decode cX12_isHeard 27 = .ok (.aload_n 0, 1) := by decide +kernel
theorem dX12_isHeard_28 : decode cX12_isHeard 28 = .ok (.iload_n 1, 1) := by decide +kernel
theorem dX12_isHeard_29 : decode cX12_isHeard 29 = .ok (.invokevirtual 345, 3) := by decide +kernel
theorem dX12_isHeard_32 : decode cX12_isHeard 32 = .ok (.aload_n 0, 1) := by decide +kernel
theorem dX12_isHeard_33 : decode cX12_isHeard 33 = .ok (.getfield 153, 3) := by decide +kernel
theorem dX12_isHeard_36 : decode cX12_isHeard 36 = .ok (.iload_n 3, 1) := by decide +kernel
theorem dX12_isHeard_37 : decode cX12_isHeard 37 = .ok (.baload, 1) := by decide +kernel
theorem dX12_isHeard_38 : decode cX12_isHeard 38 = .ok (.if_icmp .ne 7, 3) := by decide +kernel
theorem dX12_isHeard_41 : decode cX12_isHeard 41 = .ok (.iconst 1, 1) := by decide +kernel
theorem dX12_isHeard_42 : decode cX12_isHeard 42 = .ok (.goto 4, 3) := by decide +kernel
theorem dX12_isHeard_45 : decode cX12_isHeard 45 = .ok (.iconst 0, 1) := by decide +kernel
theorem dX12_isHeard_46 : decode cX12_isHeard 46 = .ok (.istore_n 2, 1) := by decide +kernel
theorem dX12_isHeard_47 : decode cX12_isHeard 47 = .ok (.iinc 3 1, 3) := by decide +kernel
theorem dX12_isHeard_50 : decode cX12_isHeard 50 = .ok (.goto (-42), 3) := by decide +kernel
theorem dX12_isHeard_53 : decode cX12_isHeard 53 = .ok (.aload_n 0, 1) := by decide +kernel
theorem dX12_isHeard_54 : decode cX12_isHeard 54 = .ok (.invokevirtual 357, 3) := by decide +kernel
theorem dX12_isHeard_57 : decode cX12_isHeard 57 = .ok (.iload_n 2, 1) := by decide +kernel
theorem dX12_isHeard_58 : decode cX12_isHeard 58 = .ok (.ireturn, 1) := by decide +kernel
theorem dX12_who_0 : decode cX12_who 0 = .ok (.iconst 0, 1) := by decide +kernel
theorem dX12_who_1 : decode cX12_who 1 = .ok (.istore_n 1, 1) := by decide +kernel
theorem dX12_who_2 : decode cX12_who 2 = .ok (.iconst 0, 1) := by decide +kernel
theorem dX12_who_3 : decode cX12_who 3 = .ok (.istore_n 2, 1) := by decide +kernel
theorem dX12_who_4 : decode cX12_who 4 = .ok (.iload_n 2, 1) := by decide +kernel
theorem dX12_who_5 : decode cX12_who 5 = .ok (.aload_n 0, 1) := by decide +kernel
theorem dX12_who_6 : decode cX12_who 6 = .ok (.getfield 13, 3) := by decide +kernel
theorem dX12_who_9 : decode cX12_who 9 = .ok (.if_icmp .ge 27, 3) := by decide +kernel
theorem dX12_who_12 : decode cX12_who 12 = .ok (.iload_n 1, 1) := by decide +kernel
theorem dX12_who_13 : decode cX12_who 13 = .ok (.aload_n 0, 1) := by decide +kernel
theorem dX12_who_14 : decode cX12_who 14 = .ok (.iload_n 2, 1) := by decide +kernel
theorem dX12_who_15 : decode cX12_who 15 = .ok (.invokevirtual 372, 3) := by decide +kernel
theorem dX12_who_18 : decode cX12_who 18 = .ok (.ifCond .eq 9, 3) := by decide +kernel
theorem dX12_who_21 : decode cX12_who 21 = .ok (.iconst 1, 1) := by decide +kernel
theorem dX12_who_22 : decode cX12_who 22 = .ok (.iload_n 2, 1) := by decide +kernel
theorem dX12_who_23 : decode cX12_who 23 = .ok (.ishl, 1) := by decide +kernel
theorem dX12_who_24 : decode cX12_who 24 = .ok (.goto 4, 3) := by decide +kernel
theorem dX12_who_27 : decode cX12_who 27 = .ok (.iconst 0, 1) := by decide +kernel
theorem dX12_who_28 : decode cX12_who 28 = .ok (.ior, 1) := by decide +kernel
theorem dX12_who_29 : decode cX12_who 29 = .ok (.istore_n 1, 1) := by decide +kernel
theorem dX12_who_30 : decode cX12_who 30 = .ok (.iinc 2 1, 3) := by decide +kernel
theorem dX12_who_33 : decode cX12_who 33 = .ok (.goto (-29), 3) := by decide +kernel
theorem dX12_who_36 : decode cX12_who 36 = .ok (.iload_n 1, 1) := by decide +kernel
theorem dX12_who_37 : decode cX12_who 37 = .ok (.ireturn, 1) := by decide +kernel
theorem dX12_divisor_0 : decode cX12_divisor 0 = .ok (.iload_n 1, 1) := by decide +kernel
theorem dX12_divisor_1 : decode cX12_divisor 1 = .ok (.istore_n 3, 1) := by decide +kernel
theorem dX12_divisor_2 : decode cX12_divisor 2 = .ok (.iload_n 2, 1) := by decide +kernel
theorem dX12_divisor_3 : decode cX12_divisor 3 = .ok (.istore 4, 2) := by decide +kernel
theorem dX12_divisor_5 : decode cX12_divisor 5 = .ok (.iload 4, 2) := by decide +kernel
theorem dX12_divisor_7 : decode cX12_divisor 7 = .ok (.ifCond .eq 19, 3) := by decide +kernel
theorem dX12_divisor_10 : decode cX12_divisor 10 = .ok (.iload_n 3, 1) := by decide +kernel
theorem dX12_divisor_11 : decode cX12_divisor 11 = .ok (.iload 4, 2) := by decide +kernel
theorem dX12_divisor_13 : decode cX12_divisor 13 = .ok (.irem, 1) := by decide +kernel
theorem dX12_divisor_14 : decode cX12_divisor 14 = .ok (.istore 5, 2) := by decide +kernel
theorem dX12_divisor_16 : decode cX12_divisor 16 = .ok (.iload 4, 2) := by decide +kernel
theorem dX12_divisor_18 : decode cX12_divisor 18 = .ok (.istore_n 3, 1) := by decide +kernel
theorem dX12_divisor_19 : decode cX12_divisor 19 = .ok (.iload 5, 2) := by decide +kernel
theorem dX12_divisor_21 : decode cX12_divisor 21 = .ok (.istore 4, 2) := by decide +kernel
theorem dX12_divisor_23 : decode cX12_divisor 23 = .ok (.goto (-18), 3) := by decide +kernel
theorem dX12_divisor_26 : decode cX12_divisor 26 = .ok (.iload_n 3, 1) := by decide +kernel
theorem dX12_divisor_27 : decode cX12_divisor 27 = .ok (.ireturn, 1) := by decide +kernel
theorem dX12_lowest_0 : decode cX12_lowest 0 = .ok (.aload_n 0, 1) := by decide +kernel
theorem dX12_lowest_1 : decode cX12_lowest 1 = .ok (.iload_n 1, 1) := by decide +kernel
theorem dX12_lowest_2 : decode cX12_lowest 2 = .ok (.iload_n 2, 1) := by decide +kernel
theorem dX12_lowest_3 : decode cX12_lowest 3 = .ok (.invokevirtual 375, 3) := by decide +kernel
theorem dX12_lowest_6 : decode cX12_lowest 6 = .ok (.istore 4, 2) := by decide +kernel
theorem dX12_lowest_8 : decode cX12_lowest 8 = .ok (.iload_n 3, 1) := by decide +kernel
theorem dX12_lowest_9 : decode cX12_lowest 9 = .ok (.ifCond .ne 11, 3) := by decide +kernel
theorem dX12_lowest_12 : decode cX12_lowest 12 = .ok (.iload_n 1, 1) := by decide +kernel
theorem dX12_lowest_13 : decode cX12_lowest 13 = .ok (.iload 4, 2) := by decide +kernel
theorem dX12_lowest_15 : decode cX12_lowest 15 = .ok (.idiv, 1) := by decide +kernel
theorem dX12_lowest_16 : decode cX12_lowest 16 = .ok (.i2l, 1) := by decide +kernel
theorem dX12_lowest_17 : decode cX12_lowest 17 = .ok (.goto 8, 3) := by decide +kernel
theorem dX12_lowest_20 : decode cX12_lowest 20 = .ok (.iload_n 2, 1) := by decide +kernel
theorem dX12_lowest_21 : decode cX12_lowest 21 = .ok (.iload 4, 2) := by decide +kernel
theorem dX12_lowest_23 : decode cX12_lowest 23 = .ok (.idiv, 1) := by decide +kernel
theorem dX12_lowest_24 : decode cX12_lowest 24 = .ok (.i2l, 1) := by decide +kernel
theorem dX12_lowest_25 : decode cX12_lowest 25 = .ok (.lreturn, 1) := by decide +kernel
theorem dX12_odds_0 : decode cX12_odds 0 = .ok (.aload_n 0, 1) := by decide +kernel
theorem dX12_odds_1 : decode cX12_odds 1 = .ok (.iload_n 1, 1) := by decide +kernel
theorem dX12_odds_2 : decode cX12_odds 2 = .ok (.invokevirtual 250, 3) := by decide +kernel
theorem dX12_odds_5 : decode cX12_odds 5 = .ok (.ifCond .eq 20, 3) := by decide +kernel
theorem dX12_odds_8 : decode cX12_odds 8 = .ok (.aload_n 0, 1) := by decide +kernel
theorem dX12_odds_9 : decode cX12_odds 9 = .ok (.iload_n 2, 1) := by decide +kernel
theorem dX12_odds_10 : decode cX12_odds 10 = .ok (.iconst 0, 1) := by decide +kernel
theorem dX12_odds_11 : decode cX12_odds 11 = .ok (.iconst 1, 1) := by decide +kernel
theorem dX12_odds_12 : decode cX12_odds 12 = .ok (.invokevirtual 242, 3) := by decide +kernel
theorem dX12_odds_15 : decode cX12_odds 15 = .ok (.ifCond .eq 10, 3) := by decide +kernel
theorem dX12_odds_18 : decode cX12_odds 18 = .ok (.aload_n 0, 1) := by decide +kernel
theorem dX12_odds_19 : decode cX12_odds 19 = .ok (.getfield 7, 3) := by decide +kernel
theorem dX12_odds_22 : decode cX12_odds 22 = .ok (.ifCond .ne 7, 3) := by decide +kernel
theorem dX12_odds_25 : decode cX12_odds 25 = .ok (.ldc2_w 378, 3) := by decide +kernel
theorem dX12_odds_28 : decode cX12_odds 28 = .ok (.lreturn, 1) := by decide +kernel
theorem dX12_odds_29 : decode cX12_odds 29 = .ok (.aload_n 0, 1) := by decide +kernel
theorem dX12_odds_30 : decode cX12_odds 30 = .ok (.getfield 31, 3) := by decide +kernel
theorem dX12_odds_33 : decode cX12_odds 33 = .ok (.istore_n 3, 1) := by decide +kernel
theorem dX12_odds_34 : decode cX12_odds 34 = .ok (.iconst 0, 1) := by decide +kernel
theorem dX12_odds_35 : decode cX12_odds 35 = .ok (.istore 4, 2) := by decide +kernel
theorem dX12_odds_37 : decode cX12_odds 37 = .ok (.iconst 0, 1) := by decide +kernel
theorem dX12_odds_38 : decode cX12_odds 38 = .ok (.istore 5, 2) := by decide +kernel
theorem dX12_odds_40 : decode cX12_odds 40 = .ok (.iload 5, 2) := by decide +kernel
theorem dX12_odds_42 : decode cX12_odds 42 = .ok (.aload_n 0, 1) := by decide +kernel
theorem dX12_odds_43 : decode cX12_odds 43 = .ok (.getfield 7, 3) := by decide +kernel
theorem dX12_odds_46 : decode cX12_odds 46 = .ok (.if_icmp .ge 33, 3) := by decide +kernel
theorem dX12_odds_49 : decode cX12_odds 49 = .ok (.aload_n 0, 1) := by decide +kernel
theorem dX12_odds_50 : decode cX12_odds 50 = .ok (.iload 5, 2) := by decide +kernel
theorem dX12_odds_52 : decode cX12_odds 52 = .ok (.putfield 31, 3) := by decide +kernel
theorem dX12_odds_55 : decode cX12_odds 55 = .ok (.iload 4, 2) := by decide +kernel
theorem dX12_odds_57 : decode cX12_odds 57 = .ok (.aload_n 0, 1) := by decide +kernel
theorem dX12_odds_58 : decode cX12_odds 58 = .ok (.iload_n 1, 1) := by decide +kernel
theorem dX12_odds_59 : decode cX12_odds 59 = .ok (.invokevirtual 360, 3) := by decide +kernel
theorem dX12_odds_62 : decode cX12_odds 62 = .ok (.ifCond .ge 7, 3) := by decide +kernel
theorem dX12_odds_65 : decode cX12_odds 65 = .ok (.iconst 0, 1) := by decide +kernel
theorem dX12_odds_66 : decode cX12_odds 66 = .ok (.goto 4, 3) := by decide +kernel
theorem dX12_odds_69 : decode cX12_odds 69 = .ok (.iconst 1, 1) := by decide +kernel
theorem dX12_odds_70 : decode cX12_odds 70 = .ok (.iadd, 1) := by decide +kernel
theorem dX12_odds_71 : decode cX12_odds 71 = .ok (.istore 4, 2) := by decide +kernel
theorem dX12_odds_73 : decode cX12_odds 73 = .ok (.iinc 5 1, 3) := by decide +kernel
theorem dX12_odds_76 : decode cX12_odds 76 = .ok (.goto (-36), 3) := by decide +kernel
theorem dX12_odds_79 : decode cX12_odds 79 = .ok (.aload_n 0, 1) := by decide +kernel
theorem dX12_odds_80 : decode cX12_odds 80 = .ok (.iload_n 3, 1) := by decide +kernel
theorem dX12_odds_81 : decode cX12_odds 81 = .ok (.putfield 31, 3) := by decide +kernel
theorem dX12_odds_84 : decode cX12_odds 84 = .ok (.aload_n 0, 1) := by decide +kernel
theorem dX12_odds_85 : decode cX12_odds 85 = .ok (.iload 4, 2) := by decide +kernel
theorem dX12_odds_87 : decode cX12_odds 87 = .ok (.aload_n 0, 1) := by decide +kernel
theorem dX12_odds_88 : decode cX12_odds 88 = .ok (.getfield 7, 3) := by decide +kernel
theorem dX12_odds_91 : decode cX12_odds 91 = .ok (.iload_n 2, 1) := by decide +kernel
theorem dX12_odds_92 : decode cX12_odds 92 = .ok (.invokevirtual 380, 3) := by decide +kernel
theorem dX12_odds_95 : decode cX12_odds 95 = .ok (.lreturn, 1) := by decide +kernel
theorem dX12_mean_0 : decode cX12_mean 0 = .ok (.aload_n 0, 1) := by decide +kernel
theorem dX12_mean_1 : decode cX12_mean 1 = .ok (.iload_n 1, 1) := by decide +kernel
theorem dX12_mean_2 : decode cX12_mean 2 = .ok (.iconst 0, 1) := by decide +kernel
theorem dX12_mean_3 : decode cX12_mean 3 = .ok (.iconst 1, 1) := by decide +kernel
theorem dX12_mean_4 : decode cX12_mean 4 = .ok (.invokevirtual 242, 3) := by decide +kernel
theorem dX12_mean_7 : decode cX12_mean 7 = .ok (.ifCond .eq 10, 3) := by decide +kernel
theorem dX12_mean_10 : decode cX12_mean 10 = .ok (.aload_n 0, 1) := by decide +kernel
theorem dX12_mean_11 : decode cX12_mean 11 = .ok (.getfield 13, 3) := by decide +kernel
theorem dX12_mean_14 : decode cX12_mean 14 = .ok (.ifCond .ne 7, 3) := by decide +kernel
theorem dX12_mean_17 : decode cX12_mean 17 = .ok (.ldc2_w 378, 3) := by decide +kernel
theorem dX12_mean_20 : decode cX12_mean 20 = .ok (.lreturn, 1) := by decide +kernel
theorem dX12_mean_21 : decode cX12_mean 21 = .ok (.iconst 0, 1) := by decide +kernel
theorem dX12_mean_22 : decode cX12_mean 22 = .ok (.istore_n 2, 1) := by decide +kernel
theorem dX12_mean_23 : decode cX12_mean 23 = .ok (.iconst 0, 1) := by decide +kernel
theorem dX12_mean_24 : decode cX12_mean 24 = .ok (.istore_n 3, 1) := by decide +kernel
theorem dX12_mean_25 : decode cX12_mean 25 = .ok (.iload_n 3, 1) := by decide +kernel
theorem dX12_mean_26 : decode cX12_mean 26 = .ok (.aload_n 0, 1) := by decide +kernel
theorem dX12_mean_27 : decode cX12_mean 27 = .ok (.getfield 13, 3) := by decide +kernel
theorem dX12_mean_30 : decode cX12_mean 30 = .ok (.if_icmp .ge 20, 3) := by decide +kernel
theorem dX12_mean_33 : decode cX12_mean 33 = .ok (.iload_n 2, 1) := by decide +kernel
theorem dX12_mean_34 : decode cX12_mean 34 = .ok (.aload_n 0, 1) := by decide +kernel
theorem dX12_mean_35 : decode cX12_mean 35 = .ok (.iload_n 3, 1) := by decide +kernel
theorem dX12_mean_36 : decode cX12_mean 36 = .ok (.bipush 60, 2) := by decide +kernel
theorem dX12_mean_38 : decode cX12_mean 38 = .ok (.iconst 0, 1) := by decide +kernel
theorem dX12_mean_39 : decode cX12_mean 39 = .ok (.invokevirtual 384, 3) := by decide +kernel
theorem dX12_mean_42 : decode cX12_mean 42 = .ok (.iadd, 1) := by decide +kernel
theorem dX12_mean_43 : decode cX12_mean 43 = .ok (.istore_n 2, 1) := by decide +kernel
theorem dX12_mean_44 : decode cX12_mean 44 = .ok (.iinc 3 1, 3) := by decide +kernel
theorem dX12_mean_47 : decode cX12_mean 47 = .ok (.goto (-22), 3) := by decide +kernel
theorem dX12_mean_50 : decode cX12_mean 50 = .ok (.aload_n 0, 1) := by decide +kernel
theorem dX12_mean_51 : decode cX12_mean 51 = .ok (.iload_n 2, 1) := by decide +kernel
theorem dX12_mean_52 : decode cX12_mean 52 = .ok (.aload_n 0, 1) := by decide +kernel
theorem dX12_mean_53 : decode cX12_mean 53 = .ok (.getfield 13, 3) := by decide +kernel
theorem dX12_mean_56 : decode cX12_mean 56 = .ok (.iload_n 1, 1) := by decide +kernel
theorem dX12_mean_57 : decode cX12_mean 57 = .ok (.invokevirtual 380, 3) := by decide +kernel
theorem dX12_mean_60 : decode cX12_mean 60 = .ok (.lreturn, 1) := by decide +kernel
theorem dX12_book_0 : decode cX12_book 0 = .ok (.iload_n 1, 1) := by decide +kernel
theorem dX12_book_1 : decode cX12_book 1 = .ok (.iconst (-1), 1) := by decide +kernel
theorem dX12_book_2 : decode cX12_book 2 = .ok (.if_icmp .ne 10, 3) := by decide +kernel
theorem dX12_book_5 : decode cX12_book 5 = .ok (.aload_n 0, 1) := by decide +kernel
theorem dX12_book_6 : decode cX12_book 6 = .ok (.iconst 0, 1) := by decide +kernel
theorem dX12_book_7 : decode cX12_book 7 = .ok (.putfield 156, 3) := by decide +kernel
theorem dX12_book_10 : decode cX12_book 10 = .ok (.iconst 0, 1) := by decide +kernel
theorem dX12_book_11 : decode cX12_book 11 = .ok (.ireturn, 1) := by decide +kernel
theorem dX12_book_12 : decode cX12_book 12 = .ok (.aload_n 0, 1) := by decide +kernel
theorem dX12_book_13 : decode cX12_book 13 = .ok (.iload_n 1, 1) := by decide +kernel
theorem dX12_book_14 : decode cX12_book 14 = .ok (.invokevirtual 250, 3) := by decide +kernel
theorem dX12_book_17 : decode cX12_book 17 = .ok (.ifCond .ne 5, 3) := by decide +kernel
theorem dX12_book_20 : decode cX12_book 20 = .ok (.iconst (-1), 1) := by decide +kernel
theorem dX12_book_21 : decode cX12_book 21 = .ok (.ireturn, 1) := by decide +kernel
theorem dX12_book_22 : decode cX12_book 22 = .ok (.aload_n 0, 1) := by decide +kernel
theorem dX12_book_23 : decode cX12_book 23 = .ok (.getfield 156, 3) := by decide +kernel
theorem dX12_book_26 : decode cX12_book 26 = .ok (.bipush 12, 2) := by decide +kernel
theorem dX12_book_28 : decode cX12_book 28 = .ok (.if_icmp .ne 6, 3) := by decide +kernel
theorem dX12_book_31 : decode cX12_book 31 = .ok (.bipush (-4), 2) := by decide +kernel
theorem dX12_book_33 : decode cX12_book 33 = .ok (.ireturn, 1) := by decide +kernel
theorem dX12_book_34 : decode cX12_book 34 = .ok (.aload_n 0, 1) := by decide +kernel
theorem dX12_book_35 : decode cX12_book 35 = .ok (.getfield 159, 3) := by decide +kernel
theorem dX12_book_38 : decode cX12_book 38 = .ok (.aload_n 0, 1) := by decide +kernel
theorem dX12_book_39 : decode cX12_book 39 = .ok (.getfield 156, 3) := by decide +kernel
theorem dX12_book_42 : decode cX12_book 42 = .ok (.iload_n 1, 1) := by decide +kernel
theorem dX12_book_43 : decode cX12_book 43 = .ok (.iastore, 1) := by decide +kernel
theorem dX12_book_44 : decode cX12_book 44 = .ok (.aload_n 0, 1) := by decide +kernel
theorem dX12_book_45 : decode cX12_book 45 = .ok (.dup, 1) := by decide +kernel
theorem dX12_book_46 : decode cX12_book 46 = .ok (.getfield 156, 3) := by decide +kernel
theorem dX12_book_49 : decode cX12_book 49 = .ok (.iconst 1, 1) := by decide +kernel
theorem dX12_book_50 : decode cX12_book 50 = .ok (.iadd, 1) := by decide +kernel
theorem dX12_book_51 : decode cX12_book 51 = .ok (.putfield 156, 3) := by decide +kernel
theorem dX12_book_54 : decode cX12_book 54 = .ok (.aload_n 0, 1) := by decide +kernel
theorem dX12_book_55 : decode cX12_book 55 = .ok (.getfield 156, 3) := by decide +kernel
theorem dX12_book_58 : decode cX12_book 58 = .ok (.ireturn, 1) := by decide +kernel
theorem dX12_looked_0 : decode cX12_looked 0 = .ok (.aload_n 0, 1) := by decide +kernel
theorem dX12_looked_1 : decode cX12_looked 1 = .ok (.invokevirtual 351, 3) := by decide +kernel
theorem dX12_looked_4 : decode cX12_looked 4 = .ok (.bipush (-5), 2) := by decide +kernel
theorem dX12_looked_6 : decode cX12_looked 6 = .ok (.istore_n 1, 1) := by decide +kernel
theorem dX12_looked_7 : decode cX12_looked 7 = .ok (.iconst 0, 1) := by decide +kernel
theorem dX12_looked_8 : decode cX12_looked 8 = .ok (.istore_n 2, 1) := by decide +kernel
theorem dX12_looked_9 : decode cX12_looked 9 = .ok (.iload_n 2, 1) := by decide +kernel
theorem dX12_looked_10 : decode cX12_looked 10 = .ok (.aload_n 0, 1) := by decide +kernel
theorem dX12_looked_11 : decode cX12_looked 11 = .ok (.getfield 156, 3) := by decide +kernel
theorem dX12_looked_14 : decode cX12_looked 14 = .ok (.if_icmp .ge 40, 3) := by decide +kernel
theorem dX12_looked_17 : decode cX12_looked 17 = .ok (.iload_n 1, 1) := by decide +kernel
theorem dX12_looked_18 : decode cX12_looked 18 = .ok (.ifCond .ge 36, 3) := by decide +kernel
theorem dX12_looked_21 : decode cX12_looked 21 = .ok (.aload_n 0, 1) := by decide +kernel
theorem dX12_looked_22 : decode cX12_looked 22 = .ok (.invokevirtual 342, 3) := by decide +kernel
theorem dX12_looked_25 : decode cX12_looked 25 = .ok (.ifCond .ne 21, 3) := by decide +kernel
theorem dX12_looked_28 : decode cX12_looked 28 = .ok (.aload_n 0, 1) := by decide +kernel
theorem dX12_looked_29 : decode cX12_looked 29 = .ok (.aload_n 0, 1) := by decide +kernel
theorem dX12_looked_30 : decode cX12_looked 30 = .ok (.getfield 159, 3) := by decide +kernel
theorem dX12_looked_33 : decode cX12_looked 33 = .ok (.iload_n 2, 1) := by decide +kernel
theorem dX12_looked_34 : decode cX12_looked 34 = .ok (.iaload, 1) := by decide +kernel
theorem dX12_looked_35 : decode cX12_looked 35 = .ok (.invokevirtual 345, 3) := by decide +kernel
theorem dX12_looked_38 : decode cX12_looked 38 = .ok (.ifCond .eq 8, 3) := by decide +kernel
theorem dX12_looked_41 : decode cX12_looked 41 = .ok (.bipush (-5), 2) := by decide +kernel
theorem dX12_looked_43 : decode cX12_looked 43 = .ok (.goto 4, 3) := by decide +kernel
theorem dX12_looked_46 : decode cX12_looked 46 = .ok (.iload_n 2, 1) := by decide +kernel
theorem dX12_looked_47 : decode cX12_looked 47 = .ok (.istore_n 1, 1) := by decide +kernel
theorem dX12_looked_48 : decode cX12_looked 48 = .ok (.iinc 2 1, 3) := by decide +kernel
theorem dX12_looked_51 : decode cX12_looked 51 = .ok (.goto (-42), 3) := by decide +kernel
theorem dX12_looked_54 : decode cX12_looked 54 = .ok (.aload_n 0, 1) := by decide +kernel
theorem dX12_looked_55 : decode cX12_looked 55 = .ok (.invokevirtual 357, 3) := by decide +kernel
theorem dX12_looked_58 : decode cX12_looked 58 = .ok (.iload_n 1, 1) := by decide +kernel
theorem dX12_looked_59 : decode cX12_looked 59 = .ok (.ireturn, 1) := by decide +kernel
theorem dX12_judge_0 : decode cX12_judge 0 = .ok (.aload_n 0, 1) := by decide +kernel
theorem dX12_judge_1 : decode cX12_judge 1 = .ok (.iload_n 1, 1) := by decide +kernel
theorem dX12_judge_2 : decode cX12_judge 2 = .ok (.invokevirtual 387, 3) := by decide +kernel
theorem dX12_judge_5 : decode cX12_judge 5 = .ok (.ifCond .ne 5, 3) := by decide +kernel
theorem dX12_judge_8 : decode cX12_judge 8 = .ok (.iconst (-1), 1) := by decide +kernel
theorem dX12_judge_9 : decode cX12_judge 9 = .ok (.ireturn, 1) := by decide +kernel
theorem dX12_judge_10 : decode cX12_judge 10 = .ok (.aload_n 0, 1) := by decide +kernel
theorem dX12_judge_11 : decode cX12_judge 11 = .ok (.getfield 229, 3) := by decide +kernel
theorem dX12_judge_14 : decode cX12_judge 14 = .ok (.iload_n 1, 1) := by decide +kernel
theorem dX12_judge_15 : decode cX12_judge 15 = .ok (.iaload, 1) := by decide +kernel
theorem dX12_judge_16 : decode cX12_judge 16 = .ok (.ifCond .lt 16, 3) := by decide +kernel
theorem dX12_judge_19 : decode cX12_judge 19 = .ok (.aload_n 0, 1) := by decide +kernel
theorem dX12_judge_20 : decode cX12_judge 20 = .ok (.getfield 229, 3) := by decide +kernel
theorem dX12_judge_23 : decode cX12_judge 23 = .ok (.iload_n 1, 1) := by decide +kernel
theorem dX12_judge_24 : decode cX12_judge 24 = .ok (.iaload, 1) := by decide +kernel
theorem dX12_judge_25 : decode cX12_judge 25 = .ok (.iconst 3, 1) := by decide +kernel
theorem dX12_judge_26 : decode cX12_judge 26 = .ok (.if_icmp .eq 6, 3) := by decide +kernel
theorem dX12_judge_29 : decode cX12_judge 29 = .ok (.bipush (-12), 2) := by decide +kernel
theorem dX12_judge_31 : decode cX12_judge 31 = .ok (.ireturn, 1) := by decide +kernel
theorem dX12_judge_32 : decode cX12_judge 32 = .ok (.iconst 0, 1) := by decide +kernel
theorem dX12_judge_33 : decode cX12_judge 33 = .ok (.istore_n 3, 1) := by decide +kernel
theorem dX12_judge_34 : decode cX12_judge 34 = .ok (.iload_n 3, 1) := by decide +kernel
theorem dX12_judge_35 : decode cX12_judge 35 = .ok (.aload_n 0, 1) := by decide +kernel
theorem dX12_judge_36 : decode cX12_judge 36 = .ok (.getfield 7, 3) := by decide +kernel
theorem dX12_judge_39 : decode cX12_judge 39 = .ok (.if_icmp .ge 67, 3) := by decide +kernel
theorem dX12_judge_42 : decode cX12_judge 42 = .ok (.aload_n 0, 1) := by decide +kernel
theorem dX12_judge_43 : decode cX12_judge 43 = .ok (.getfield 229, 3) := by decide +kernel
theorem dX12_judge_46 : decode cX12_judge 46 = .ok (.iload_n 1, 1) := by decide +kernel
theorem dX12_judge_47 : decode cX12_judge 47 = .ok (.iaload, 1) := by decide +kernel
theorem dX12_judge_48 : decode cX12_judge 48 = .ok (.ifCond .lt 21, 3) := by decide +kernel
theorem dX12_judge_51 : decode cX12_judge 51 = .ok (.iload_n 2, 1) := by decide +kernel
theorem dX12_judge_52 : decode cX12_judge 52 = .ok (.ifCond .lt 17, 3) := by decide +kernel
theorem dX12_judge_55 : decode cX12_judge 55 = .ok (.iload_n 2, 1) := by decide +kernel
theorem dX12_judge_56 : decode cX12_judge 56 = .ok (.aload_n 0, 1) := by decide +kernel
theorem dX12_judge_57 : decode cX12_judge 57 = .ok (.getfield 232, 3) := by decide +kernel
theorem dX12_judge_60 : decode cX12_judge 60 = .ok (.iload_n 1, 1) := by decide +kernel
theorem dX12_judge_61 : decode cX12_judge 61 = .ok (.iaload, 1) := by decide +kernel
theorem dX12_judge_62 : decode cX12_judge 62 = .ok (.iload_n 3, 1) := by decide +kernel
theorem dX12_judge_63 : decode cX12_judge 63 = .ok (.isub, 1) := by decide +kernel
theorem dX12_judge_64 : decode cX12_judge 64 = .ok (.iconst 1, 1) := by decide +kernel
theorem dX12_judge_65 : decode cX12_judge 65 = .ok (.isub, 1) := by decide +kernel
theorem dX12_judge_66 : decode cX12_judge 66 = .ok (.if_icmp .le 8, 3) := by decide +kernel
theorem dX12_judge_69 : decode cX12_judge 69 = .ok (.bipush 100, 2) := by decide +kernel
theorem dX12_judge_71 : decode cX12_judge 71 = .ok (.iload_n 3, 1) := by decide +kernel
theorem dX12_judge_72 : decode cX12_judge 72 = .ok (.iadd, 1) := by decide +kernel
theorem dX12_judge_73 : decode cX12_judge 73 = .ok (.ireturn, 1) := by decide +kernel
theorem dX12_judge_74 : decode cX12_judge 74 = .ok (.aload_n 0, 1) := by decide +kernel
theorem dX12_judge_75 : decode cX12_judge 75 = .ok (.getfield 235, 3) := by decide +kernel
theorem dX12_judge_78 : decode cX12_judge 78 = .ok (.bipush 60, 2) := by decide +kernel
theorem dX12_judge_80 : decode cX12_judge 80 = .ok (.iload_n 1, 1) := by decide +kernel
theorem dX12_judge_81 : decode cX12_judge 81 = .ok (.imul, 1) := by decide +kernel
theorem dX12_judge_82 : decode cX12_judge 82 = .ok (.iload_n 2, 1) := by decide +kernel
theorem dX12_judge_83 : decode cX12_judge 83 = .ok (.iadd, 1) := by decide +kernel
theorem dX12_judge_84 : decode cX12_judge 84 = .ok (.iload_n 3, 1) := by decide +kernel
theorem dX12_judge_85 : decode cX12_judge 85 = .ok (.iadd, 1) := by decide +kernel
theorem dX12_judge_86 : decode cX12_judge 86 = .ok (.laload, 1) := by decide +kernel
theorem dX12_judge_87 : decode cX12_judge 87 = .ok (.aload_n 0, 1) := by decide +kernel
theorem dX12_judge_88 : decode cX12_judge 88 = .ok (.getfield 41, 3) := by decide +kernel
theorem dX12_judge_91 : decode cX12_judge 91 = .ok (.iload_n 3, 1) := by decide +kernel
theorem dX12_judge_92 : decode cX12_judge 92 = .ok (.iaload, 1) := by decide +kernel
theorem dX12_judge_93 : decode cX12_judge 93 = .ok (.i2l, 1) := by decide +kernel
theorem dX12_judge_94 : decode cX12_judge 94 = .ok (.lcmp, 1) := by decide +kernel
theorem dX12_judge_95 : decode cX12_judge 95 = .ok (.ifCond .eq 5, 3) := by decide +kernel
theorem dX12_judge_98 : decode cX12_judge 98 = .ok (.iload_n 3, 1) := by decide +kernel
theorem dX12_judge_99 : decode cX12_judge 99 = .ok (.ireturn, 1) := by decide +kernel
theorem dX12_judge_100 : decode cX12_judge 100 = .ok (.iinc 3 1, 3) := by decide +kernel
theorem dX12_judge_103 : decode cX12_judge 103 = .ok (.goto (-69), 3) := by decide +kernel
theorem dX12_judge_106 : decode cX12_judge 106 = .ok (.bipush (-5), 2) := by decide +kernel
theorem dX12_judge_108 : decode cX12_judge 108 = .ok (.ireturn, 1) := by decide +kernel
theorem dX12_image_0 : decode cX12_image 0 = .ok (.aload_n 0, 1) := by decide +kernel
theorem dX12_image_1 : decode cX12_image 1 = .ok (.iconst 1, 1) := by decide +kernel
theorem dX12_image_2 : decode cX12_image 2 = .ok (.putfield 162, 3) := by decide +kernel
theorem dX12_image_5 : decode cX12_image 5 = .ok (.aload_n 0, 1) := by decide +kernel
theorem dX12_image_6 : decode cX12_image 6 = .ok (.aload_n 0, 1) := by decide +kernel
theorem dX12_image_7 : decode cX12_image 7 = .ok (.getfield 56, 3) := by decide +kernel
theorem dX12_image_10 : decode cX12_image 10 = .ok (.putfield 166, 3) := by decide +kernel
theorem dX12_image_13 : decode cX12_image 13 = .ok (.aload_n 0, 1) := by decide +kernel
theorem dX12_image_14 : decode cX12_image 14 = .ok (.aload_n 0, 1) := by decide +kernel
theorem dX12_image_15 : decode cX12_image 15 = .ok (.getfield 7, 3) := by decide +kernel
theorem dX12_image_18 : decode cX12_image 18 = .ok (.putfield 169, 3) := by decide +kernel
theorem dX12_image_21 : decode cX12_image 21 = .ok (.aload_n 0, 1) := by decide +kernel
theorem dX12_image_22 : decode cX12_image 22 = .ok (.aload_n 0, 1) := by decide +kernel
theorem dX12_image_23 : decode cX12_image 23 = .ok (.getfield 13, 3) := by decide +kernel
theorem dX12_image_26 : decode cX12_image 26 = .ok (.putfield 172, 3) := by decide +kernel
theorem dX12_image_29 : decode cX12_image 29 = .ok (.aload_n 0, 1) := by decide +kernel
theorem dX12_image_30 : decode cX12_image 30 = .ok (.aload_n 0, 1) := by decide +kernel
theorem dX12_image_31 : decode cX12_image 31 = .ok (.getfield 16, 3) := by decide +kernel
theorem dX12_image_34 : decode cX12_image 34 = .ok (.putfield 175, 3) := by decide +kernel
theorem dX12_image_37 : decode cX12_image 37 = .ok (.aload_n 0, 1) := by decide +kernel
theorem dX12_image_38 : decode cX12_image 38 = .ok (.aload_n 0, 1) := by decide +kernel
theorem dX12_image_39 : decode cX12_image 39 = .ok (.getfield 19, 3) := by decide +kernel
theorem dX12_image_42 : decode cX12_image 42 = .ok (.putfield 178, 3) := by decide +kernel
theorem dX12_image_45 : decode cX12_image 45 = .ok (.aload_n 0, 1) := by decide +kernel
theorem dX12_image_46 : decode cX12_image 46 = .ok (.aload_n 0, 1) := by decide +kernel
theorem dX12_image_47 : decode cX12_image 47 = .ok (.getfield 22, 3) := by decide +kernel
theorem dX12_image_50 : decode cX12_image 50 = .ok (.putfield 181, 3) := by decide +kernel
theorem dX12_image_53 : decode cX12_image 53 = .ok (.aload_n 0, 1) := by decide +kernel
theorem dX12_image_54 : decode cX12_image 54 = .ok (.aload_n 0, 1) := by decide +kernel
theorem dX12_image_55 : decode cX12_image 55 = .ok (.getfield 25, 3) := by decide +kernel
theorem dX12_image_58 : decode cX12_image 58 = .ok (.putfield 184, 3) := by decide +kernel
theorem dX12_image_61 : decode cX12_image 61 = .ok (.aload_n 0, 1) := by decide +kernel
theorem dX12_image_62 : decode cX12_image 62 = .ok (.aload_n 0, 1) := by decide +kernel
theorem dX12_image_63 : decode cX12_image 63 = .ok (.getfield 28, 3) := by decide +kernel
theorem dX12_image_66 : decode cX12_image 66 = .ok (.putfield 187, 3) := by decide +kernel
theorem dX12_image_69 : decode cX12_image 69 = .ok (.aload_n 0, 1) := by decide +kernel
theorem dX12_image_70 : decode cX12_image 70 = .ok (.aload_n 0, 1) := by decide +kernel
theorem dX12_image_71 : decode cX12_image 71 = .ok (.getfield 31, 3) := by decide +kernel
theorem dX12_image_74 : decode cX12_image 74 = .ok (.putfield 190, 3) := by decide +kernel
theorem dX12_image_77 : decode cX12_image 77 = .ok (.aload_n 0, 1) := by decide +kernel
theorem dX12_image_78 : decode cX12_image 78 = .ok (.aload_n 0, 1) := by decide +kernel
theorem dX12_image_79 : decode cX12_image 79 = .ok (.getfield 150, 3) := by decide +kernel
theorem dX12_image_82 : decode cX12_image 82 = .ok (.putfield 193, 3) := by decide +kernel
theorem dX12_image_85 : decode cX12_image 85 = .ok (.aload_n 0, 1) := by decide +kernel
theorem dX12_image_86 : decode cX12_image 86 = .ok (.aload_n 0, 1) := by decide +kernel
theorem dX12_image_87 : decode cX12_image 87 = .ok (.getfield 156, 3) := by decide +kernel
theorem dX12_image_90 : decode cX12_image 90 = .ok (.putfield 196, 3) := by decide +kernel
theorem dX12_image_93 : decode cX12_image 93 = .ok (.iconst 0, 1) := by decide +kernel
theorem dX12_image_94 : decode cX12_image 94 = .ok (.istore_n 1, 1) := by decide +kernel
theorem dX12_image_95 : decode cX12_image 95 = .ok (.iload_n 1, 1) := by decide +kernel
theorem dX12_image_96 : decode cX12_image 96 = .ok (.bipush 7, 2) := by decide +kernel
theorem dX12_image_98 : decode cX12_image 98 = .ok (.if_icmp .ge 45, 3) := by decide +kernel
theorem dX12_image_101 : decode cX12_image 101 = .ok (.aload_n 0, 1) := by decide +kernel
theorem dX12_image_102 : decode cX12_image 102 = .ok (.getfield 199, 3) := by decide +kernel
theorem dX12_image_105 : decode cX12_image 105 = .ok (.iload_n 1, 1) := by decide +kernel
theorem dX12_image_106 : decode cX12_image 106 = .ok (.aload_n 0, 1) := by decide +kernel
theorem dX12_image_107 : decode cX12_image 107 = .ok (.getfield 34, 3) := by decide +kernel
theorem dX12_image_110 : decode cX12_image 110 = .ok (.iload_n 1, 1) := by decide +kernel
theorem dX12_image_111 : decode cX12_image 111 = .ok (.iaload, 1) := by decide +kernel
theorem dX12_image_112 : decode cX12_image 112 = .ok (.iastore, 1) := by decide +kernel
theorem dX12_image_113 : decode cX12_image 113 = .ok (.aload_n 0, 1) := by decide +kernel
theorem dX12_image_114 : decode cX12_image 114 = .ok (.getfield 202, 3) := by decide +kernel
theorem dX12_image_117 : decode cX12_image 117 = .ok (.iload_n 1, 1) := by decide +kernel
theorem dX12_image_118 : decode cX12_image 118 = .ok (.aload_n 0, 1) := by decide +kernel
theorem dX12_image_119 : decode cX12_image 119 = .ok (.getfield 38, 3) := by decide +kernel
theorem dX12_image_122 : decode cX12_image 122 = .ok (.iload_n 1, 1) := by decide +kernel
theorem dX12_image_123 : decode cX12_image 123 = .ok (.iaload, 1) := by decide +kernel
theorem dX12_image_124 : decode cX12_image 124 = .ok (.iastore, 1) := by decide +kernel
theorem dX12_image_125 : decode cX12_image 125 = .ok (.aload_n 0, 1) := by decide +kernel
theorem dX12_image_126 : decode cX12_image 126 = .ok (.getfield 205, 3) := by decide +kernel
theorem dX12_image_129 : decode cX12_image 129 = .ok (.iload_n 1, 1) := by decide +kernel
theorem dX12_image_130 : decode cX12_image 130 = .ok (.aload_n 0, 1) := by decide +kernel
theorem dX12_image_131 : decode cX12_image 131 = .ok (.getfield 41, 3) := by decide +kernel
theorem dX12_image_134 : decode cX12_image 134 = .ok (.iload_n 1, 1) := by decide +kernel
theorem dX12_image_135 : decode cX12_image 135 = .ok (.iaload, 1) := by decide +kernel
theorem dX12_image_136 : decode cX12_image 136 = .ok (.iastore, 1) := by decide +kernel
theorem dX12_image_137 : decode cX12_image 137 = .ok (.iinc 1 1, 3) := by decide +kernel
theorem dX12_image_140 : decode cX12_image 140 = .ok (.goto (-45), 3) := by decide +kernel
theorem dX12_image_143 : decode cX12_image 143 = .ok (.iconst 0, 1) := by decide +kernel
theorem dX12_image_144 : decode cX12_image 144 = .ok (.istore_n 1, 1) := by decide +kernel
theorem dX12_image_145 : decode cX12_image 145 = .ok (.iload_n 1, 1) := by decide +kernel
theorem dX12_image_146 : decode cX12_image 146 = .ok (.iconst 4, 1) := by decide +kernel
theorem dX12_image_147 : decode cX12_image 147 = .ok (.if_icmp .ge 33, 3) := by decide +kernel
theorem dX12_image_150 : decode cX12_image 150 = .ok (.aload_n 0, 1) := by decide +kernel
theorem dX12_image_151 : decode cX12_image 151 = .ok (.getfield 208, 3) := by decide +kernel
theorem dX12_image_154 : decode cX12_image 154 = .ok (.iload_n 1, 1) := by decide +kernel
theorem dX12_image_155 : decode cX12_image 155 = .ok (.aload_n 0, 1) := by decide +kernel
theorem dX12_image_156 : decode cX12_image 156 = .ok (.getfield 44, 3) := by decide +kernel
theorem dX12_image_159 : decode cX12_image 159 = .ok (.iload_n 1, 1) := by decide +kernel
theorem dX12_image_160 : decode cX12_image 160 = .ok (.iaload, 1) := by decide +kernel
theorem dX12_image_161 : decode cX12_image 161 = .ok (.iastore, 1) := by decide +kernel
theorem dX12_image_162 : decode cX12_image 162 = .ok (.aload_n 0, 1) := by decide +kernel
theorem dX12_image_163 : decode cX12_image 163 = .ok (.getfield 211, 3) := by decide +kernel
theorem dX12_image_166 : decode cX12_image 166 = .ok (.iload_n 1, 1) := by decide +kernel
theorem dX12_image_167 : decode cX12_image 167 = .ok (.aload_n 0, 1) := by decide +kernel
theorem dX12_image_168 : decode cX12_image 168 = .ok (.getfield 47, 3) := by decide +kernel
theorem dX12_image_171 : decode cX12_image 171 = .ok (.iload_n 1, 1) := by decide +kernel
theorem dX12_image_172 : decode cX12_image 172 = .ok (.iaload, 1) := by decide +kernel
theorem dX12_image_173 : decode cX12_image 173 = .ok (.iastore, 1) := by decide +kernel
theorem dX12_image_174 : decode cX12_image 174 = .ok (.iinc 1 1, 3) := by decide +kernel
theorem dX12_image_177 : decode cX12_image 177 = .ok (.goto (-32), 3) := by decide +kernel
theorem dX12_image_180 : decode cX12_image 180 = .ok (.iconst 0, 1) := by decide +kernel
theorem dX12_image_181 : decode cX12_image 181 = .ok (.istore_n 1, 1) := by decide +kernel
theorem dX12_image_182 : decode cX12_image 182 = .ok (.iload_n 1, 1) := by decide +kernel
theorem dX12_image_183 : decode cX12_image 183 = .ok (.bipush 16, 2) := by decide +kernel
theorem dX12_image_185 : decode cX12_image 185 = .ok (.if_icmp .ge 21, 3) := by decide +kernel
theorem dX12_image_188 : decode cX12_image 188 = .ok (.aload_n 0, 1) := by decide +kernel
theorem dX12_image_189 : decode cX12_image 189 = .ok (.getfield 214, 3) := by decide +kernel
theorem dX12_image_192 : decode cX12_image 192 = .ok (.iload_n 1, 1) := by decide +kernel
theorem dX12_image_193 : decode cX12_image 193 = .ok (.aload_n 0, 1) := by decide +kernel
theorem dX12_image_194 : decode cX12_image 194 = .ok (.getfield 50, 3) := by decide +kernel
theorem dX12_image_197 : decode cX12_image 197 = .ok (.iload_n 1, 1) := by decide +kernel
theorem dX12_image_198 : decode cX12_image 198 = .ok (.iaload, 1) := by decide +kernel
theorem dX12_image_199 : decode cX12_image 199 = .ok (.iastore, 1) := by decide +kernel
theorem dX12_image_200 : decode cX12_image 200 = .ok (.iinc 1 1, 3) := by decide +kernel
theorem dX12_image_203 : decode cX12_image 203 = .ok (.goto (-21), 3) := by decide +kernel
theorem dX12_image_206 : decode cX12_image 206 = .ok (.iconst 0, 1) := by decide +kernel
theorem dX12_image_207 : decode cX12_image 207 = .ok (.istore_n 1, 1) := by decide +kernel
theorem dX12_image_208 : decode cX12_image 208 = .ok (.iload_n 1, 1) := by decide +kernel
theorem dX12_image_209 : decode cX12_image 209 = .ok (.bipush 8, 2) := by decide +kernel
theorem dX12_image_211 : decode cX12_image 211 = .ok (.if_icmp .ge 21, 3) := by decide +kernel
theorem dX12_image_214 : decode cX12_image 214 = .ok (.aload_n 0, 1) := by decide +kernel
theorem dX12_image_215 : decode cX12_image 215 = .ok (.getfield 220, 3) := by decide +kernel
theorem dX12_image_218 : decode cX12_image 218 = .ok (.iload_n 1, 1) := by decide +kernel
theorem dX12_image_219 : decode cX12_image 219 = .ok (.aload_n 0, 1) := by decide +kernel
theorem dX12_image_220 : decode cX12_image 220 = .ok (.getfield 153, 3) := by decide +kernel
theorem dX12_image_223 : decode cX12_image 223 = .ok (.iload_n 1, 1) := by decide +kernel
theorem dX12_image_224 : decode cX12_image 224 = .ok (.baload, 1) := by decide +kernel
theorem dX12_image_225 : decode cX12_image 225 = .ok (.bastore, 1) := by decide +kernel
theorem dX12_image_226 : decode cX12_image 226 = .ok (.iinc 1 1, 3) := by decide +kernel
theorem dX12_image_229 : decode cX12_image 229 = .ok (.goto (-21), 3) := by decide +kernel
theorem dX12_image_232 : decode cX12_image 232 = .ok (.iconst 0, 1) := by decide +kernel
theorem dX12_image_233 : decode cX12_image 233 = .ok (.istore_n 1, 1) := by decide +kernel
theorem dX12_image_234 : decode cX12_image 234 = .ok (.iload_n 1, 1) := by decide +kernel
theorem dX12_image_235 : decode cX12_image 235 = .ok (.bipush 12, 2) := by decide +kernel
theorem dX12_image_237 : decode cX12_image 237 = .ok (.if_icmp .ge 21, 3) := by decide +kernel
theorem dX12_image_240 : decode cX12_image 240 = .ok (.aload_n 0, 1) := by decide +kernel
theorem dX12_image_241 : decode cX12_image 241 = .ok (.getfield 217, 3) := by decide +kernel
theorem dX12_image_244 : decode cX12_image 244 = .ok (.iload_n 1, 1) := by decide +kernel
theorem dX12_image_245 : decode cX12_image 245 = .ok (.aload_n 0, 1) := by decide +kernel
theorem dX12_image_246 : decode cX12_image 246 = .ok (.getfield 159, 3) := by decide +kernel
theorem dX12_image_249 : decode cX12_image 249 = .ok (.iload_n 1, 1) := by decide +kernel
theorem dX12_image_250 : decode cX12_image 250 = .ok (.iaload, 1) := by decide +kernel
theorem dX12_image_251 : decode cX12_image 251 = .ok (.iastore, 1) := by decide +kernel
theorem dX12_image_252 : decode cX12_image 252 = .ok (.iinc 1 1, 3) := by decide +kernel
theorem dX12_image_255 : decode cX12_image 255 = .ok (.goto (-21), 3) := by decide +kernel
theorem dX12_image_258 : decode cX12_image 258 = .ok (.aload_n 0, 1) := by decide +kernel
theorem dX12_image_259 : decode cX12_image 259 = .ok (.getfield 13, 3) := by decide +kernel
theorem dX12_image_262 : decode cX12_image 262 = .ok (.ireturn, 1) := by decide +kernel
theorem dX12_undo_0 : decode cX12_undo 0 = .ok (.aload_n 0, 1) := by decide +kernel
theorem dX12_undo_1 : decode cX12_undo 1 = .ok (.getfield 162, 3) := by decide +kernel
theorem dX12_undo_4 : decode cX12_undo 4 = .ok (.ifCond .ne 6, 3) := by decide +kernel
theorem dX12_undo_7 : decode cX12_undo 7 = .ok (.bipush (-3), 2) := by decide +kernel
theorem dX12_undo_9 : decode cX12_undo 9 = .ok (.ireturn, 1) := by decide +kernel
theorem dX12_undo_10 : decode cX12_undo 10 = .ok (.aload_n 0, 1) := by decide +kernel
theorem dX12_undo_11 : decode cX12_undo 11 = .ok (.aload_n 0, 1) := by decide +kernel
theorem dX12_undo_12 : decode cX12_undo 12 = .ok (.getfield 166, 3) := by decide +kernel
theorem dX12_undo_15 : decode cX12_undo 15 = .ok (.putfield 56, 3) := by decide +kernel
theorem dX12_undo_18 : decode cX12_undo 18 = .ok (.aload_n 0, 1) := by decide +kernel
theorem dX12_undo_19 : decode cX12_undo 19 = .ok (.aload_n 0, 1) := by decide +kernel
theorem dX12_undo_20 : decode cX12_undo 20 = .ok (.getfield 169, 3) := by decide +kernel
theorem dX12_undo_23 : decode cX12_undo 23 = .ok (.putfield 7, 3) := by decide +kernel
theorem dX12_undo_26 : decode cX12_undo 26 = .ok (.aload_n 0, 1) := by decide +kernel
theorem dX12_undo_27 : decode cX12_undo 27 = .ok (.aload_n 0, 1) := by decide +kernel
theorem dX12_undo_28 : decode cX12_undo 28 = .ok (.getfield 172, 3) := by decide +kernel
theorem dX12_undo_31 : decode cX12_undo 31 = .ok (.putfield 13, 3) := by decide +kernel
theorem dX12_undo_34 : decode cX12_undo 34 = .ok (.aload_n 0, 1) := by decide +kernel
theorem dX12_undo_35 : decode cX12_undo 35 = .ok (.aload_n 0, 1) := by decide +kernel
theorem dX12_undo_36 : decode cX12_undo 36 = .ok (.getfield 175, 3) := by decide +kernel
theorem dX12_undo_39 : decode cX12_undo 39 = .ok (.putfield 16, 3) := by decide +kernel
theorem dX12_undo_42 : decode cX12_undo 42 = .ok (.aload_n 0, 1) := by decide +kernel
theorem dX12_undo_43 : decode cX12_undo 43 = .ok (.aload_n 0, 1) := by decide +kernel
theorem dX12_undo_44 : decode cX12_undo 44 = .ok (.getfield 178, 3) := by decide +kernel
theorem dX12_undo_47 : decode cX12_undo 47 = .ok (.putfield 19, 3) := by decide +kernel
theorem dX12_undo_50 : decode cX12_undo 50 = .ok (.aload_n 0, 1) := by decide +kernel
theorem dX12_undo_51 : decode cX12_undo 51 = .ok (.aload_n 0, 1) := by decide +kernel
theorem dX12_undo_52 : decode cX12_undo 52 = .ok (.getfield 181, 3) := by decide +kernel
theorem dX12_undo_55 : decode cX12_undo 55 = .ok (.putfield 22, 3) := by decide +kernel
theorem dX12_undo_58 : decode cX12_undo 58 = .ok (.aload_n 0, 1) := by decide +kernel
theorem dX12_undo_59 : decode cX12_undo 59 = .ok (.aload_n 0, 1) := by decide +kernel
theorem dX12_undo_60 : decode cX12_undo 60 = .ok (.getfield 184, 3) := by decide +kernel
theorem dX12_undo_63 : decode cX12_undo 63 = .ok (.putfield 25, 3) := by decide +kernel
theorem dX12_undo_66 : decode cX12_undo 66 = .ok (.aload_n 0, 1) := by decide +kernel
theorem dX12_undo_67 : decode cX12_undo 67 = .ok (.aload_n 0, 1) := by decide +kernel
theorem dX12_undo_68 : decode cX12_undo 68 = .ok (.getfield 187, 3) := by decide +kernel
theorem dX12_undo_71 : decode cX12_undo 71 = .ok (.putfield 28, 3) := by decide +kernel
theorem dX12_undo_74 : decode cX12_undo 74 = .ok (.aload_n 0, 1) := by decide +kernel
theorem dX12_undo_75 : decode cX12_undo 75 = .ok (.aload_n 0, 1) := by decide +kernel
theorem dX12_undo_76 : decode cX12_undo 76 = .ok (.getfield 190, 3) := by decide +kernel
theorem dX12_undo_79 : decode cX12_undo 79 = .ok (.putfield 31, 3) := by decide +kernel
theorem dX12_undo_82 : decode cX12_undo 82 = .ok (.aload_n 0, 1) := by decide +kernel
theorem dX12_undo_83 : decode cX12_undo 83 = .ok (.aload_n 0, 1) := by decide +kernel
theorem dX12_undo_84 : decode cX12_undo 84 = .ok (.getfield 193, 3) := by decide +kernel
theorem dX12_undo_87 : decode cX12_undo 87 = .ok (.putfield 150, 3) := by decide +kernel
theorem dX12_undo_90 : decode cX12_undo 90 = .ok (.aload_n 0, 1) := by decide +kernel
theorem dX12_undo_91 : decode cX12_undo 91 = .ok (.aload_n 0, 1) := by decide +kernel
theorem dX12_undo_92 : decode cX12_undo 92 = .ok (.getfield 196, 3) := by decide +kernel
theorem dX12_undo_95 : decode cX12_undo 95 = .ok (.putfield 156, 3) := by decide +kernel
theorem dX12_undo_98 : decode cX12_undo 98 = .ok (.iconst 0, 1) := by decide +kernel
theorem dX12_undo_99 : decode cX12_undo 99 = .ok (.istore_n 1, 1) := by decide +kernel
theorem dX12_undo_100 : decode cX12_undo 100 = .ok (.iload_n 1, 1) := by decide +kernel
theorem dX12_undo_101 : decode cX12_undo 101 = .ok (.bipush 7, 2) := by decide +kernel
theorem dX12_undo_103 : decode cX12_undo 103 = .ok (.if_icmp .ge 45, 3) := by decide +kernel
theorem dX12_undo_106 : decode cX12_undo 106 = .ok (.aload_n 0, 1) := by decide +kernel
theorem dX12_undo_107 : decode cX12_undo 107 = .ok (.getfield 34, 3) := by decide +kernel
theorem dX12_undo_110 : decode cX12_undo 110 = .ok (.iload_n 1, 1) := by decide +kernel
theorem dX12_undo_111 : decode cX12_undo 111 = .ok (.aload_n 0, 1) := by decide +kernel
theorem dX12_undo_112 : decode cX12_undo 112 = .ok (.getfield 199, 3) := by decide +kernel
theorem dX12_undo_115 : decode cX12_undo 115 = .ok (.iload_n 1, 1) := by decide +kernel
theorem dX12_undo_116 : decode cX12_undo 116 = .ok (.iaload, 1) := by decide +kernel
theorem dX12_undo_117 : decode cX12_undo 117 = .ok (.iastore, 1) := by decide +kernel
theorem dX12_undo_118 : decode cX12_undo 118 = .ok (.aload_n 0, 1) := by decide +kernel
theorem dX12_undo_119 : decode cX12_undo 119 = .ok (.getfield 38, 3) := by decide +kernel
theorem dX12_undo_122 : decode cX12_undo 122 = .ok (.iload_n 1, 1) := by decide +kernel
theorem dX12_undo_123 : decode cX12_undo 123 = .ok (.aload_n 0, 1) := by decide +kernel
theorem dX12_undo_124 : decode cX12_undo 124 = .ok (.getfield 202, 3) := by decide +kernel
theorem dX12_undo_127 : decode cX12_undo 127 = .ok (.iload_n 1, 1) := by decide +kernel
theorem dX12_undo_128 : decode cX12_undo 128 = .ok (.iaload, 1) := by decide +kernel
theorem dX12_undo_129 : decode cX12_undo 129 = .ok (.iastore, 1) := by decide +kernel
theorem dX12_undo_130 : decode cX12_undo 130 = .ok (.aload_n 0, 1) := by decide +kernel
theorem dX12_undo_131 : decode cX12_undo 131 = .ok (.getfield 41, 3) := by decide +kernel
theorem dX12_undo_134 : decode cX12_undo 134 = .ok (.iload_n 1, 1) := by decide +kernel
theorem dX12_undo_135 : decode cX12_undo 135 = .ok (.aload_n 0, 1) := by decide +kernel
theorem dX12_undo_136 : decode cX12_undo 136 = .ok (.getfield 205, 3) := by decide +kernel
theorem dX12_undo_139 : decode cX12_undo 139 = .ok (.iload_n 1, 1) := by decide +kernel
theorem dX12_undo_140 : decode cX12_undo 140 = .ok (.iaload, 1) := by decide +kernel
theorem dX12_undo_141 : decode cX12_undo 141 = .ok (.iastore, 1) := by decide +kernel
theorem dX12_undo_142 : decode cX12_undo 142 = .ok (.iinc 1 1, 3) := by decide +kernel
theorem dX12_undo_145 : decode cX12_undo 145 = .ok (.goto (-45), 3) := by decide +kernel
theorem dX12_undo_148 : decode cX12_undo 148 = .ok (.iconst 0, 1) := by decide +kernel
theorem dX12_undo_149 : decode cX12_undo 149 = .ok (.istore_n 1, 1) := by decide +kernel
theorem dX12_undo_150 : decode cX12_undo 150 = .ok (.iload_n 1, 1) := by decide +kernel
theorem dX12_undo_151 : decode cX12_undo 151 = .ok (.iconst 4, 1) := by decide +kernel
theorem dX12_undo_152 : decode cX12_undo 152 = .ok (.if_icmp .ge 33, 3) := by decide +kernel
theorem dX12_undo_155 : decode cX12_undo 155 = .ok (.aload_n 0, 1) := by decide +kernel
theorem dX12_undo_156 : decode cX12_undo 156 = .ok (.getfield 44, 3) := by decide +kernel
theorem dX12_undo_159 : decode cX12_undo 159 = .ok (.iload_n 1, 1) := by decide +kernel
theorem dX12_undo_160 : decode cX12_undo 160 = .ok (.aload_n 0, 1) := by decide +kernel
theorem dX12_undo_161 : decode cX12_undo 161 = .ok (.getfield 208, 3) := by decide +kernel
theorem dX12_undo_164 : decode cX12_undo 164 = .ok (.iload_n 1, 1) := by decide +kernel
theorem dX12_undo_165 : decode cX12_undo 165 = .ok (.iaload, 1) := by decide +kernel
theorem dX12_undo_166 : decode cX12_undo 166 = .ok (.iastore, 1) := by decide +kernel
theorem dX12_undo_167 : decode cX12_undo 167 = .ok (.aload_n 0, 1) := by decide +kernel
theorem dX12_undo_168 : decode cX12_undo 168 = .ok (.getfield 47, 3) := by decide +kernel
theorem dX12_undo_171 : decode cX12_undo 171 = .ok (.iload_n 1, 1) := by decide +kernel
theorem dX12_undo_172 : decode cX12_undo 172 = .ok (.aload_n 0, 1) := by decide +kernel
theorem dX12_undo_173 : decode cX12_undo 173 = .ok (.getfield 211, 3) := by decide +kernel
theorem dX12_undo_176 : decode cX12_undo 176 = .ok (.iload_n 1, 1) := by decide +kernel
theorem dX12_undo_177 : decode cX12_undo 177 = .ok (.iaload, 1) := by decide +kernel
theorem dX12_undo_178 : decode cX12_undo 178 = .ok (.iastore, 1) := by decide +kernel
theorem dX12_undo_179 : decode cX12_undo 179 = .ok (.iinc 1 1, 3) := by decide +kernel
theorem dX12_undo_182 : decode cX12_undo 182 = .ok (.goto (-32), 3) := by decide +kernel
theorem dX12_undo_185 : decode cX12_undo 185 = .ok (.iconst 0, 1) := by decide +kernel
theorem dX12_undo_186 : decode cX12_undo 186 = .ok (.istore_n 1, 1) := by decide +kernel
theorem dX12_undo_187 : decode cX12_undo 187 = .ok (.iload_n 1, 1) := by decide +kernel
theorem dX12_undo_188 : decode cX12_undo 188 = .ok (.bipush 16, 2) := by decide +kernel
theorem dX12_undo_190 : decode cX12_undo 190 = .ok (.if_icmp .ge 21, 3) := by decide +kernel
theorem dX12_undo_193 : decode cX12_undo 193 = .ok (.aload_n 0, 1) := by decide +kernel
theorem dX12_undo_194 : decode cX12_undo 194 = .ok (.getfield 50, 3) := by decide +kernel
theorem dX12_undo_197 : decode cX12_undo 197 = .ok (.iload_n 1, 1) := by decide +kernel
theorem dX12_undo_198 : decode cX12_undo 198 = .ok (.aload_n 0, 1) := by decide +kernel
theorem dX12_undo_199 : decode cX12_undo 199 = .ok (.getfield 214, 3) := by decide +kernel
theorem dX12_undo_202 : decode cX12_undo 202 = .ok (.iload_n 1, 1) := by decide +kernel
theorem dX12_undo_203 : decode cX12_undo 203 = .ok (.iaload, 1) := by decide +kernel
theorem dX12_undo_204 : decode cX12_undo 204 = .ok (.iastore, 1) := by decide +kernel
theorem dX12_undo_205 : decode cX12_undo 205 = .ok (.iinc 1 1, 3) := by decide +kernel
theorem dX12_undo_208 : decode cX12_undo 208 = .ok (.goto (-21), 3) := by decide +kernel
theorem dX12_undo_211 : decode cX12_undo 211 = .ok (.iconst 0, 1) := by decide +kernel
theorem dX12_undo_212 : decode cX12_undo 212 = .ok (.istore_n 1, 1) := by decide +kernel
theorem dX12_undo_213 : decode cX12_undo 213 = .ok (.iload_n 1, 1) := by decide +kernel
theorem dX12_undo_214 : decode cX12_undo 214 = .ok (.bipush 8, 2) := by decide +kernel
theorem dX12_undo_216 : decode cX12_undo 216 = .ok (.if_icmp .ge 21, 3) := by decide +kernel
theorem dX12_undo_219 : decode cX12_undo 219 = .ok (.aload_n 0, 1) := by decide +kernel
theorem dX12_undo_220 : decode cX12_undo 220 = .ok (.getfield 153, 3) := by decide +kernel
theorem dX12_undo_223 : decode cX12_undo 223 = .ok (.iload_n 1, 1) := by decide +kernel
theorem dX12_undo_224 : decode cX12_undo 224 = .ok (.aload_n 0, 1) := by decide +kernel
theorem dX12_undo_225 : decode cX12_undo 225 = .ok (.getfield 220, 3) := by decide +kernel
theorem dX12_undo_228 : decode cX12_undo 228 = .ok (.iload_n 1, 1) := by decide +kernel
theorem dX12_undo_229 : decode cX12_undo 229 = .ok (.baload, 1) := by decide +kernel
theorem dX12_undo_230 : decode cX12_undo 230 = .ok (.bastore, 1) := by decide +kernel
theorem dX12_undo_231 : decode cX12_undo 231 = .ok (.iinc 1 1, 3) := by decide +kernel
theorem dX12_undo_234 : decode cX12_undo 234 = .ok (.goto (-21), 3) := by decide +kernel
theorem dX12_undo_237 : decode cX12_undo 237 = .ok (.iconst 0, 1) := by decide +kernel
theorem dX12_undo_238 : decode cX12_undo 238 = .ok (.istore_n 1, 1) := by decide +kernel
theorem dX12_undo_239 : decode cX12_undo 239 = .ok (.iload_n 1, 1) := by decide +kernel
theorem dX12_undo_240 : decode cX12_undo 240 = .ok (.bipush 12, 2) := by decide +kernel
theorem dX12_undo_242 : decode cX12_undo 242 = .ok (.if_icmp .ge 21, 3) := by decide +kernel
theorem dX12_undo_245 : decode cX12_undo 245 = .ok (.aload_n 0, 1) := by decide +kernel
theorem dX12_undo_246 : decode cX12_undo 246 = .ok (.getfield 159, 3) := by decide +kernel
theorem dX12_undo_249 : decode cX12_undo 249 = .ok (.iload_n 1, 1) := by decide +kernel
theorem dX12_undo_250 : decode cX12_undo 250 = .ok (.aload_n 0, 1) := by decide +kernel
theorem dX12_undo_251 : decode cX12_undo 251 = .ok (.getfield 217, 3) := by decide +kernel
theorem dX12_undo_254 : decode cX12_undo 254 = .ok (.iload_n 1, 1) := by decide +kernel
theorem dX12_undo_255 : decode cX12_undo 255 = .ok (.iaload, 1) := by decide +kernel
theorem dX12_undo_256 : decode cX12_undo 256 = .ok (.iastore, 1) := by decide +kernel
theorem dX12_undo_257 : decode cX12_undo 257 = .ok (.iinc 1 1, 3) := by decide +kernel
theorem dX12_undo_260 : decode cX12_undo 260 = .ok (.goto (-21), 3) := by decide +kernel
theorem dX12_undo_263 : decode cX12_undo 263 = .ok (.aload_n 0, 1) := by decide +kernel
theorem dX12_undo_264 : decode cX12_undo 264 = .ok (.getfield 13, 3) := by decide +kernel
theorem dX12_undo_267 : decode cX12_undo 267 = .ok (.ireturn, 1) := by decide +kernel
theorem dX12_body_0 : decode cX12_body 0 = .ok (.aload_n 0, 1) := by decide +kernel
theorem dX12_body_1 : decode cX12_body 1 = .ok (.getfield 223, 3) := by decide +kernel
theorem dX12_body_4 : decode cX12_body 4 = .ok (.bipush 20, 2) := by decide +kernel
theorem dX12_body_6 : decode cX12_body 6 = .ok (.if_icmp .ge 13, 3) := by decide +kernel
theorem dX12_body_9 : decode cX12_body 9 = .ok (.aload_n 0, 1) := by decide +kernel
theorem dX12_body_10 : decode cX12_body 10 = .ok (.getfield 226, 3) := by decide +kernel
theorem dX12_body_13 : decode cX12_body 13 = .ok (.aload_n 0, 1) := by decide +kernel
theorem dX12_body_14 : decode cX12_body 14 = .ok (.getfield 223, 3) := by decide +kernel
theorem dX12_body_17 : decode cX12_body 17 = .ok (.iload_n 1, 1) := by decide +kernel
theorem dX12_body_18 : decode cX12_body 18 = .ok (.iastore, 1) := by decide +kernel
theorem dX12_body_19 : decode cX12_body 19 = .ok (.aload_n 0, 1) := by decide +kernel
theorem dX12_body_20 : decode cX12_body 20 = .ok (.dup, 1) := by decide +kernel
theorem dX12_body_21 : decode cX12_body 21 = .ok (.getfield 223, 3) := by decide +kernel
theorem dX12_body_24 : decode cX12_body 24 = .ok (.iconst 1, 1) := by decide +kernel
theorem dX12_body_25 : decode cX12_body 25 = .ok (.iadd, 1) := by decide +kernel
theorem dX12_body_26 : decode cX12_body 26 = .ok (.putfield 223, 3) := by decide +kernel
theorem dX12_body_29 : decode cX12_body 29 = .ok (.return_, 1) := by decide +kernel
theorem dX12_parentHears_0 : decode cX12_parentHears 0 = .ok (.aload_n 0, 1) := by decide +kernel
theorem dX12_parentHears_1 : decode cX12_parentHears 1 = .ok (.bipush 10, 2) := by decide +kernel
theorem dX12_parentHears_3 : decode cX12_parentHears 3 = .ok (.invokevirtual 390, 3) := by decide +kernel
theorem dX12_parentHears_6 : decode cX12_parentHears 6 = .ok (.iload_n 2, 1) := by decide +kernel
theorem dX12_parentHears_7 : decode cX12_parentHears 7 = .ok (.iload_n 1, 1) := by decide +kernel
theorem dX12_parentHears_8 : decode cX12_parentHears 8 = .ok (.iadd, 1) := by decide +kernel
theorem dX12_parentHears_9 : decode cX12_parentHears 9 = .ok (.ireturn, 1) := by decide +kernel
theorem dX12_hearsAct_0 : decode cX12_hearsAct 0 = .ok (.aload_n 0, 1) := by decide +kernel
theorem dX12_hearsAct_1 : decode cX12_hearsAct 1 = .ok (.getfield 44, 3) := by decide +kernel
theorem dX12_hearsAct_4 : decode cX12_hearsAct 4 = .ok (.iload_n 1, 1) := by decide +kernel
theorem dX12_hearsAct_5 : decode cX12_hearsAct 5 = .ok (.iaload, 1) := by decide +kernel
theorem dX12_hearsAct_6 : decode cX12_hearsAct 6 = .ok (.tableswitch 83 2 6 #[34, 83, 49, 34, 63], 34) := by decide +kernel
theorem dX12_hearsAct_40 : decode cX12_hearsAct 40 = .ok (.aload_n 0, 1) := by decide +kernel
theorem dX12_hearsAct_41 : decode cX12_hearsAct 41 = .ok (.bipush 30, 2) := by decide +kernel
theorem dX12_hearsAct_43 : decode cX12_hearsAct 43 = .ok (.invokevirtual 390, 3) := by decide +kernel
theorem dX12_hearsAct_46 : decode cX12_hearsAct 46 = .ok (.aload_n 0, 1) := by decide +kernel
theorem dX12_hearsAct_47 : decode cX12_hearsAct 47 = .ok (.iload_n 1, 1) := by decide +kernel
theorem dX12_hearsAct_48 : decode cX12_hearsAct 48 = .ok (.iload_n 2, 1) := by decide +kernel
theorem dX12_hearsAct_49 : decode cX12_hearsAct 49 = .ok (.iconst 3, 1) := by decide +kernel
theorem dX12_hearsAct_50 : decode cX12_hearsAct 50 = .ok (.imul, 1) := by decide +kernel
theorem dX12_hearsAct_51 : decode cX12_hearsAct 51 = .ok (.invokevirtual 393, 3) := by decide +kernel
theorem dX12_hearsAct_54 : decode cX12_hearsAct 54 = .ok (.ireturn, 1) := by decide +kernel
theorem dX12_hearsAct_55 : decode cX12_hearsAct 55 = .ok (.aload_n 0, 1) := by decide +kernel
theorem dX12_hearsAct_56 : decode cX12_hearsAct 56 = .ok (.bipush 50, 2) := by decide +kernel
theorem dX12_hearsAct_58 : decode cX12_hearsAct 58 = .ok (.invokevirtual 390, 3) := by decide +kernel
theorem dX12_hearsAct_61 : decode cX12_hearsAct 61 = .ok (.aload_n 0, 1) := by decide +kernel
theorem dX12_hearsAct_62 : decode cX12_hearsAct 62 = .ok (.iload_n 1, 1) := by decide +kernel
theorem dX12_hearsAct_63 : decode cX12_hearsAct 63 = .ok (.iload_n 2, 1) := by decide +kernel
theorem dX12_hearsAct_64 : decode cX12_hearsAct 64 = .ok (.invokevirtual 393, 3) := by decide +kernel
theorem dX12_hearsAct_67 : decode cX12_hearsAct 67 = .ok (.ineg, 1) := by decide +kernel
theorem dX12_hearsAct_68 : decode cX12_hearsAct 68 = .ok (.ireturn, 1) := by decide +kernel
theorem dX12_hearsAct_69 : decode cX12_hearsAct 69 = .ok (.aload_n 0, 1) := by decide +kernel
theorem dX12_hearsAct_70 : decode cX12_hearsAct 70 = .ok (.bipush 71, 2) := by decide +kernel
theorem dX12_hearsAct_72 : decode cX12_hearsAct 72 = .ok (.invokevirtual 390, 3) := by decide +kernel
theorem dX12_hearsAct_75 : decode cX12_hearsAct 75 = .ok (.aload_n 0, 1) := by decide +kernel
theorem dX12_hearsAct_76 : decode cX12_hearsAct 76 = .ok (.iload_n 1, 1) := by decide +kernel
theorem dX12_hearsAct_77 : decode cX12_hearsAct 77 = .ok (.iload_n 2, 1) := by decide +kernel
theorem dX12_hearsAct_78 : decode cX12_hearsAct 78 = .ok (.invokevirtual 393, 3) := by decide +kernel
theorem dX12_hearsAct_81 : decode cX12_hearsAct 81 = .ok (.aload_n 0, 1) := by decide +kernel
theorem dX12_hearsAct_82 : decode cX12_hearsAct 82 = .ok (.getfield 47, 3) := by decide +kernel
theorem dX12_hearsAct_85 : decode cX12_hearsAct 85 = .ok (.iload_n 1, 1) := by decide +kernel
theorem dX12_hearsAct_86 : decode cX12_hearsAct 86 = .ok (.iaload, 1) := by decide +kernel
theorem dX12_hearsAct_87 : decode cX12_hearsAct 87 = .ok (.ixor, 1) := by decide +kernel
theorem dX12_hearsAct_88 : decode cX12_hearsAct 88 = .ok (.ireturn, 1) := by decide +kernel
theorem dX12_hearsAct_89 : decode cX12_hearsAct 89 = .ok (.aload_n 0, 1) := by decide +kernel
theorem dX12_hearsAct_90 : decode cX12_hearsAct 90 = .ok (.iload_n 1, 1) := by decide +kernel
theorem dX12_hearsAct_91 : decode cX12_hearsAct 91 = .ok (.iload_n 2, 1) := by decide +kernel
theorem dX12_hearsAct_92 : decode cX12_hearsAct 92 = .ok (.invokevirtual 393, 3) := by decide +kernel
theorem dX12_hearsAct_95 : decode cX12_hearsAct 95 = .ok (.ireturn, 1) := by decide +kernel
theorem dX12_parentGives_0 : decode cX12_parentGives 0 = .ok (.aload_n 0, 1) := by decide +kernel
theorem dX12_parentGives_1 : decode cX12_parentGives 1 = .ok (.bipush 11, 2) := by decide +kernel
theorem dX12_parentGives_3 : decode cX12_parentGives 3 = .ok (.invokevirtual 390, 3) := by decide +kernel
theorem dX12_parentGives_6 : decode cX12_parentGives 6 = .ok (.aload_n 0, 1) := by decide +kernel
theorem dX12_parentGives_7 : decode cX12_parentGives 7 = .ok (.iload_n 1, 1) := by decide +kernel
theorem dX12_parentGives_8 : decode cX12_parentGives 8 = .ok (.iload_n 2, 1) := by decide +kernel
theorem dX12_parentGives_9 : decode cX12_parentGives 9 = .ok (.invokevirtual 396, 3) := by decide +kernel
theorem dX12_parentGives_12 : decode cX12_parentGives 12 = .ok (.aload_n 0, 1) := by decide +kernel
theorem dX12_parentGives_13 : decode cX12_parentGives 13 = .ok (.getfield 47, 3) := by decide +kernel
theorem dX12_parentGives_16 : decode cX12_parentGives 16 = .ok (.iload_n 1, 1) := by decide +kernel
theorem dX12_parentGives_17 : decode cX12_parentGives 17 = .ok (.iaload, 1) := by decide +kernel
theorem dX12_parentGives_18 : decode cX12_parentGives 18 = .ok (.isub, 1) := by decide +kernel
theorem dX12_parentGives_19 : decode cX12_parentGives 19 = .ok (.ireturn, 1) := by decide +kernel
theorem dX12_softGives_0 : decode cX12_softGives 0 = .ok (.aload_n 0, 1) := by decide +kernel
theorem dX12_softGives_1 : decode cX12_softGives 1 = .ok (.bipush 20, 2) := by decide +kernel
theorem dX12_softGives_3 : decode cX12_softGives 3 = .ok (.invokevirtual 390, 3) := by decide +kernel
theorem dX12_softGives_6 : decode cX12_softGives 6 = .ok (.aload_n 0, 1) := by decide +kernel
theorem dX12_softGives_7 : decode cX12_softGives 7 = .ok (.iload_n 1, 1) := by decide +kernel
theorem dX12_softGives_8 : decode cX12_softGives 8 = .ok (.iload_n 2, 1) := by decide +kernel
theorem dX12_softGives_9 : decode cX12_softGives 9 = .ok (.invokevirtual 399, 3) := by decide +kernel
theorem dX12_softGives_12 : decode cX12_softGives 12 = .ok (.bipush 6, 2) := by decide +kernel
theorem dX12_softGives_14 : decode cX12_softGives 14 = .ok (.ixor, 1) := by decide +kernel
theorem dX12_softGives_15 : decode cX12_softGives 15 = .ok (.ireturn, 1) := by decide +kernel
theorem dX12_givesAct_0 : decode cX12_givesAct 0 = .ok (.aload_n 0, 1) := by decide +kernel
theorem dX12_givesAct_1 : decode cX12_givesAct 1 = .ok (.getfield 44, 3) := by decide +kernel
theorem dX12_givesAct_4 : decode cX12_givesAct 4 = .ok (.iload_n 1, 1) := by decide +kernel
theorem dX12_givesAct_5 : decode cX12_givesAct 5 = .ok (.iaload, 1) := by decide +kernel
theorem dX12_givesAct_6 : decode cX12_givesAct 6 = .ok (.lookupswitch 78 #[(1, 34), (4, 41), (6, 56)], 34) := by decide +kernel
theorem dX12_givesAct_40 : decode cX12_givesAct 40 = .ok (.aload_n 0, 1) := by decide +kernel
theorem dX12_givesAct_41 : decode cX12_givesAct 41 = .ok (.iload_n 1, 1) := by decide +kernel
theorem dX12_givesAct_42 : decode cX12_givesAct 42 = .ok (.iload_n 2, 1) := by decide +kernel
theorem dX12_givesAct_43 : decode cX12_givesAct 43 = .ok (.invokevirtual 402, 3) := by decide +kernel
theorem dX12_givesAct_46 : decode cX12_givesAct 46 = .ok (.ireturn, 1) := by decide +kernel
theorem dX12_givesAct_47 : decode cX12_givesAct 47 = .ok (.aload_n 0, 1) := by decide +kernel
theorem dX12_givesAct_48 : decode cX12_givesAct 48 = .ok (.bipush 51, 2) := by decide +kernel
theorem dX12_givesAct_50 : decode cX12_givesAct 50 = .ok (.invokevirtual 390, 3) := by decide +kernel
theorem dX12_givesAct_53 : decode cX12_givesAct 53 = .ok (.aload_n 0, 1) := by decide +kernel
theorem dX12_givesAct_54 : decode cX12_givesAct 54 = .ok (.iload_n 1, 1) := by decide +kernel
theorem dX12_givesAct_55 : decode cX12_givesAct 55 = .ok (.iload_n 2, 1) := by decide +kernel
theorem dX12_givesAct_56 : decode cX12_givesAct 56 = .ok (.iconst 1, 1) := by decide +kernel
theorem dX12_givesAct_57 : decode cX12_givesAct 57 = .ok (.iadd, 1) := by decide +kernel
theorem dX12_givesAct_58 : decode cX12_givesAct 58 = .ok (.invokevirtual 402, 3) := by decide +kernel
theorem dX12_givesAct_61 : decode cX12_givesAct 61 = .ok (.ireturn, 1) := by decide +kernel
theorem dX12_givesAct_62 : decode cX12_givesAct 62 = .ok (.aload_n 0, 1) := by decide +kernel
theorem dX12_givesAct_63 : decode cX12_givesAct 63 = .ok (.bipush 70, 2) := by decide +kernel
theorem dX12_givesAct_65 : decode cX12_givesAct 65 = .ok (.invokevirtual 390, 3) := by decide +kernel
theorem dX12_givesAct_68 : decode cX12_givesAct 68 = .ok (.aload_n 0, 1) := by decide +kernel
theorem dX12_givesAct_69 : decode cX12_givesAct 69 = .ok (.iload_n 1, 1) := by decide +kernel
theorem dX12_givesAct_70 : decode cX12_givesAct 70 = .ok (.iload_n 2, 1) := by decide +kernel
theorem dX12_givesAct_71 : decode cX12_givesAct 71 = .ok (.invokevirtual 399, 3) := by decide +kernel
theorem dX12_givesAct_74 : decode cX12_givesAct 74 = .ok (.istore_n 3, 1) := by decide +kernel
theorem dX12_givesAct_75 : decode cX12_givesAct 75 = .ok (.iload_n 3, 1) := by decide +kernel
theorem dX12_givesAct_76 : decode cX12_givesAct 76 = .ok (.aload_n 0, 1) := by decide +kernel
theorem dX12_givesAct_77 : decode cX12_givesAct 77 = .ok (.iload_n 1, 1) := by decide +kernel
theorem dX12_givesAct_78 : decode cX12_givesAct 78 = .ok (.iconst 2, 1) := by decide +kernel
theorem dX12_givesAct_79 : decode cX12_givesAct 79 = .ok (.invokevirtual 393, 3) := by decide +kernel
theorem dX12_givesAct_82 : decode cX12_givesAct 82 = .ok (.iadd, 1) := by decide +kernel
theorem dX12_givesAct_83 : decode cX12_givesAct 83 = .ok (.ireturn, 1) := by decide +kernel
theorem dX12_givesAct_84 : decode cX12_givesAct 84 = .ok (.aload_n 0, 1) := by decide +kernel
theorem dX12_givesAct_85 : decode cX12_givesAct 85 = .ok (.iload_n 1, 1) := by decide +kernel
theorem dX12_givesAct_86 : decode cX12_givesAct 86 = .ok (.iload_n 2, 1) := by decide +kernel
theorem dX12_givesAct_87 : decode cX12_givesAct 87 = .ok (.invokevirtual 399, 3) := by decide +kernel
theorem dX12_givesAct_90 : decode cX12_givesAct 90 = .ok (.ireturn, 1) := by decide +kernel
theorem dX12_parentTells_0 : decode cX12_parentTells 0 = .ok (.aload_n 0, 1) := by decide +kernel
theorem dX12_parentTells_1 : decode cX12_parentTells 1 = .ok (.bipush 12, 2) := by decide +kernel
theorem dX12_parentTells_3 : decode cX12_parentTells 3 = .ok (.invokevirtual 390, 3) := by decide +kernel
theorem dX12_parentTells_6 : decode cX12_parentTells 6 = .ok (.aload_n 0, 1) := by decide +kernel
theorem dX12_parentTells_7 : decode cX12_parentTells 7 = .ok (.iload_n 1, 1) := by decide +kernel
theorem dX12_parentTells_8 : decode cX12_parentTells 8 = .ok (.iload_n 2, 1) := by decide +kernel
theorem dX12_parentTells_9 : decode cX12_parentTells 9 = .ok (.invokevirtual 405, 3) := by decide +kernel
theorem dX12_parentTells_12 : decode cX12_parentTells 12 = .ok (.iconst 2, 1) := by decide +kernel
theorem dX12_parentTells_13 : decode cX12_parentTells 13 = .ok (.imul, 1) := by decide +kernel
theorem dX12_parentTells_14 : decode cX12_parentTells 14 = .ok (.ireturn, 1) := by decide +kernel
theorem dX12_tellsAct_0 : decode cX12_tellsAct 0 = .ok (.aload_n 0, 1) := by decide +kernel
theorem dX12_tellsAct_1 : decode cX12_tellsAct 1 = .ok (.getfield 44, 3) := by decide +kernel
theorem dX12_tellsAct_4 : decode cX12_tellsAct 4 = .ok (.iload_n 1, 1) := by decide +kernel
theorem dX12_tellsAct_5 : decode cX12_tellsAct 5 = .ok (.iaload, 1) := by decide +kernel
theorem dX12_tellsAct_6 : decode cX12_tellsAct 6 = .ok (.tableswitch 67 3 6 #[30, 67, 52, 30], 30) := by decide +kernel
theorem dX12_tellsAct_36 : decode cX12_tellsAct 36 = .ok (.aload_n 0, 1) := by decide +kernel
theorem dX12_tellsAct_37 : decode cX12_tellsAct 37 = .ok (.bipush 40, 2) := by decide +kernel
theorem dX12_tellsAct_39 : decode cX12_tellsAct 39 = .ok (.invokevirtual 390, 3) := by decide +kernel
theorem dX12_tellsAct_42 : decode cX12_tellsAct 42 = .ok (.aload_n 0, 1) := by decide +kernel
theorem dX12_tellsAct_43 : decode cX12_tellsAct 43 = .ok (.iload_n 1, 1) := by decide +kernel
theorem dX12_tellsAct_44 : decode cX12_tellsAct 44 = .ok (.iload_n 2, 1) := by decide +kernel
theorem dX12_tellsAct_45 : decode cX12_tellsAct 45 = .ok (.invokevirtual 408, 3) := by decide +kernel
theorem dX12_tellsAct_48 : decode cX12_tellsAct 48 = .ok (.istore_n 3, 1) := by decide +kernel
theorem dX12_tellsAct_49 : decode cX12_tellsAct 49 = .ok (.iload_n 3, 1) := by decide +kernel
theorem dX12_tellsAct_50 : decode cX12_tellsAct 50 = .ok (.aload_n 0, 1) := by decide +kernel
theorem dX12_tellsAct_51 : decode cX12_tellsAct 51 = .ok (.iload_n 1, 1) := by decide +kernel
theorem dX12_tellsAct_52 : decode cX12_tellsAct 52 = .ok (.iconst 1, 1) := by decide +kernel
theorem dX12_tellsAct_53 : decode cX12_tellsAct 53 = .ok (.invokevirtual 405, 3) := by decide +kernel
theorem dX12_tellsAct_56 : decode cX12_tellsAct 56 = .ok (.iadd, 1) := by decide +kernel
theorem dX12_tellsAct_57 : decode cX12_tellsAct 57 = .ok (.ireturn, 1) := by decide +kernel
theorem dX12_tellsAct_58 : decode cX12_tellsAct 58 = .ok (.aload_n 0, 1) := by decide +kernel
theorem dX12_tellsAct_59 : decode cX12_tellsAct 59 = .ok (.bipush 60, 2) := by decide +kernel
theorem dX12_tellsAct_61 : decode cX12_tellsAct 61 = .ok (.invokevirtual 390, 3) := by decide +kernel
theorem dX12_tellsAct_64 : decode cX12_tellsAct 64 = .ok (.aload_n 0, 1) := by decide +kernel
theorem dX12_tellsAct_65 : decode cX12_tellsAct 65 = .ok (.iload_n 1, 1) := by decide +kernel
theorem dX12_tellsAct_66 : decode cX12_tellsAct 66 = .ok (.iload_n 2, 1) := by decide +kernel
theorem dX12_tellsAct_67 : decode cX12_tellsAct 67 = .ok (.iload_n 1, 1) := by decide +kernel
theorem dX12_tellsAct_68 : decode cX12_tellsAct 68 = .ok (.isub, 1) := by decide +kernel
theorem dX12_tellsAct_69 : decode cX12_tellsAct 69 = .ok (.invokevirtual 408, 3) := by decide +kernel
theorem dX12_tellsAct_72 : decode cX12_tellsAct 72 = .ok (.ireturn, 1) := by decide +kernel
theorem dX12_tellsAct_73 : decode cX12_tellsAct 73 = .ok (.aload_n 0, 1) := by decide +kernel
theorem dX12_tellsAct_74 : decode cX12_tellsAct 74 = .ok (.iload_n 1, 1) := by decide +kernel
theorem dX12_tellsAct_75 : decode cX12_tellsAct 75 = .ok (.iload_n 2, 1) := by decide +kernel
theorem dX12_tellsAct_76 : decode cX12_tellsAct 76 = .ok (.invokevirtual 408, 3) := by decide +kernel
theorem dX12_tellsAct_79 : decode cX12_tellsAct 79 = .ok (.ireturn, 1) := by decide +kernel
theorem dX12_act_0 : decode cX12_act 0 = .ok (.aload_n 0, 1) := by decide +kernel
theorem dX12_act_1 : decode cX12_act 1 = .ok (.iconst 0, 1) := by decide +kernel
theorem dX12_act_2 : decode cX12_act 2 = .ok (.putfield 223, 3) := by decide +kernel
theorem dX12_act_5 : decode cX12_act 5 = .ok (.aload_n 0, 1) := by decide +kernel
theorem dX12_act_6 : decode cX12_act 6 = .ok (.iload_n 1, 1) := by decide +kernel
theorem dX12_act_7 : decode cX12_act 7 = .ok (.invokevirtual 250, 3) := by decide +kernel
theorem dX12_act_10 : decode cX12_act 10 = .ok (.ifCond .eq 13, 3) := by decide +kernel
theorem dX12_act_13 : decode cX12_act 13 = .ok (.aload_n 0, 1) := by decide +kernel
theorem dX12_act_14 : decode cX12_act 14 = .ok (.iload_n 2, 1) := by decide +kernel
theorem dX12_act_15 : decode cX12_act 15 = .ok (.iconst 0, 1) := by decide +kernel
theorem dX12_act_16 : decode cX12_act 16 = .ok (.iconst 2, 1) := by decide +kernel
theorem dX12_act_17 : decode cX12_act 17 = .ok (.invokevirtual 242, 3) := by decide +kernel
theorem dX12_act_20 : decode cX12_act 20 = .ok (.ifCond .ne 5, 3) := by decide +kernel
theorem dX12_act_23 : decode cX12_act 23 = .ok (.iconst 0, 1) := by decide +kernel
theorem dX12_act_24 : decode cX12_act 24 = .ok (.ireturn, 1) := by decide +kernel
theorem dX12_act_25 : decode cX12_act 25 = .ok (.iload_n 2, 1) := by decide +kernel
theorem dX12_act_26 : decode cX12_act 26 = .ok (.ifCond .ne 12, 3) := by decide +kernel
theorem dX12_act_29 : decode cX12_act 29 = .ok (.aload_n 0, 1) := by decide +kernel
theorem dX12_act_30 : decode cX12_act 30 = .ok (.iload_n 1, 1) := by decide +kernel
theorem dX12_act_31 : decode cX12_act 31 = .ok (.iload_n 3, 1) := by decide +kernel
theorem dX12_act_32 : decode cX12_act 32 = .ok (.invokevirtual 396, 3) := by decide +kernel
theorem dX12_act_35 : decode cX12_act 35 = .ok (.goto 23, 3) := by decide +kernel
theorem dX12_act_38 : decode cX12_act 38 = .ok (.iload_n 2, 1) := by decide +kernel
theorem dX12_act_39 : decode cX12_act 39 = .ok (.iconst 1, 1) := by decide +kernel
theorem dX12_act_40 : decode cX12_act 40 = .ok (.if_icmp .ne 12, 3) := by decide +kernel
theorem dX12_act_43 : decode cX12_act 43 = .ok (.aload_n 0, 1) := by decide +kernel
theorem dX12_act_44 : decode cX12_act 44 = .ok (.iload_n 1, 1) := by decide +kernel
theorem dX12_act_45 : decode cX12_act 45 = .ok (.iload_n 3, 1) := by decide +kernel
theorem dX12_act_46 : decode cX12_act 46 = .ok (.invokevirtual 405, 3) := by decide +kernel
theorem dX12_act_49 : decode cX12_act 49 = .ok (.goto 9, 3) := by decide +kernel
theorem dX12_act_52 : decode cX12_act 52 = .ok (.aload_n 0, 1) := by decide +kernel
theorem dX12_act_53 : decode cX12_act 53 = .ok (.iload_n 1, 1) := by decide +kernel
theorem dX12_act_54 : decode cX12_act 54 = .ok (.iload_n 3, 1) := by decide +kernel
theorem dX12_act_55 : decode cX12_act 55 = .ok (.invokevirtual 411, 3) := by decide +kernel
theorem dX12_act_58 : decode cX12_act 58 = .ok (.ireturn, 1) := by decide +kernel
theorem dX12_trace_0 : decode cX12_trace 0 = .ok (.aload_n 0, 1) := by decide +kernel
theorem dX12_trace_1 : decode cX12_trace 1 = .ok (.iload_n 1, 1) := by decide +kernel
theorem dX12_trace_2 : decode cX12_trace 2 = .ok (.iconst 0, 1) := by decide +kernel
theorem dX12_trace_3 : decode cX12_trace 3 = .ok (.bipush 19, 2) := by decide +kernel
theorem dX12_trace_5 : decode cX12_trace 5 = .ok (.invokevirtual 242, 3) := by decide +kernel
theorem dX12_trace_8 : decode cX12_trace 8 = .ok (.ifCond .eq 20, 3) := by decide +kernel
theorem dX12_trace_11 : decode cX12_trace 11 = .ok (.iload_n 1, 1) := by decide +kernel
theorem dX12_trace_12 : decode cX12_trace 12 = .ok (.aload_n 0, 1) := by decide +kernel
theorem dX12_trace_13 : decode cX12_trace 13 = .ok (.getfield 223, 3) := by decide +kernel
theorem dX12_trace_16 : decode cX12_trace 16 = .ok (.if_icmp .ge 12, 3) := by decide +kernel
theorem dX12_trace_19 : decode cX12_trace 19 = .ok (.aload_n 0, 1) := by decide +kernel
theorem dX12_trace_20 : decode cX12_trace 20 = .ok (.getfield 226, 3) := by decide +kernel
theorem dX12_trace_23 : decode cX12_trace 23 = .ok (.iload_n 1, 1) := by decide +kernel
theorem dX12_trace_24 : decode cX12_trace 24 = .ok (.iaload, 1) := by decide +kernel
theorem dX12_trace_25 : decode cX12_trace 25 = .ok (.goto 4, 3) := by decide +kernel
theorem dX12_trace_28 : decode cX12_trace 28 = .ok (.iconst (-1), 1) := by decide +kernel
theorem dX12_trace_29 : decode cX12_trace 29 = .ok (.ireturn, 1) := by decide +kernel
theorem dX12_taken_0 : decode cX12_taken 0 = .ok (.aload_n 0, 1) := by decide +kernel
theorem dX12_taken_1 : decode cX12_taken 1 = .ok (.iload_n 2, 1) := by decide +kernel
theorem dX12_taken_2 : decode cX12_taken 2 = .ok (.iconst 0, 1) := by decide +kernel
theorem dX12_taken_3 : decode cX12_taken 3 = .ok (.bipush 6, 2) := by decide +kernel
theorem dX12_taken_5 : decode cX12_taken 5 = .ok (.invokevirtual 242, 3) := by decide +kernel
theorem dX12_taken_8 : decode cX12_taken 8 = .ok (.ifCond .ne 6, 3) := by decide +kernel
theorem dX12_taken_11 : decode cX12_taken 11 = .ok (.bipush (-2), 2) := by decide +kernel
theorem dX12_taken_13 : decode cX12_taken 13 = .ok (.ireturn, 1) := by decide +kernel
theorem dX12_taken_14 : decode cX12_taken 14 = .ok (.aload_n 0, 1) := by decide +kernel
theorem dX12_taken_15 : decode cX12_taken 15 = .ok (.iload_n 1, 1) := by decide +kernel
theorem dX12_taken_16 : decode cX12_taken 16 = .ok (.invokevirtual 250, 3) := by decide +kernel
theorem dX12_taken_19 : decode cX12_taken 19 = .ok (.ifCond .ne 6, 3) := by decide +kernel
theorem dX12_taken_22 : decode cX12_taken 22 = .ok (.bipush (-11), 2) := by decide +kernel
theorem dX12_taken_24 : decode cX12_taken 24 = .ok (.ireturn, 1) := by decide +kernel
theorem dX12_taken_25 : decode cX12_taken 25 = .ok (.aload_n 0, 1) := by decide +kernel
theorem dX12_taken_26 : decode cX12_taken 26 = .ok (.getfield 44, 3) := by decide +kernel
theorem dX12_taken_29 : decode cX12_taken 29 = .ok (.iload_n 1, 1) := by decide +kernel
theorem dX12_taken_30 : decode cX12_taken 30 = .ok (.iaload, 1) := by decide +kernel
theorem dX12_taken_31 : decode cX12_taken 31 = .ok (.istore_n 3, 1) := by decide +kernel
theorem dX12_taken_32 : decode cX12_taken 32 = .ok (.iload_n 2, 1) := by decide +kernel
theorem dX12_taken_33 : decode cX12_taken 33 = .ok (.ifCond .eq 39, 3) := by decide +kernel
theorem dX12_taken_36 : decode cX12_taken 36 = .ok (.iload_n 3, 1) := by decide +kernel
theorem dX12_taken_37 : decode cX12_taken 37 = .ok (.iload_n 2, 1) := by decide +kernel
theorem dX12_taken_38 : decode cX12_taken 38 = .ok (.if_icmp .eq 34, 3) := by decide +kernel
theorem dX12_taken_41 : decode cX12_taken 41 = .ok (.iload_n 2, 1) := by decide +kernel
theorem dX12_taken_42 : decode cX12_taken 42 = .ok (.iconst 1, 1) := by decide +kernel
theorem dX12_taken_43 : decode cX12_taken 43 = .ok (.if_icmp .ne 8, 3) := by decide +kernel
theorem dX12_taken_46 : decode cX12_taken 46 = .ok (.iload_n 3, 1) := by decide +kernel
theorem dX12_taken_47 : decode cX12_taken 47 = .ok (.iconst 4, 1) := by decide +kernel
theorem dX12_taken_48 : decode cX12_taken 48 = .ok (.if_icmp .eq 24, 3) := by decide +kernel
theorem dX12_taken_51 : decode cX12_taken 51 = .ok (.iload_n 2, 1) := by decide +kernel
theorem dX12_taken_52 : decode cX12_taken 52 = .ok (.iconst 2, 1) := by decide +kernel
theorem dX12_taken_53 : decode cX12_taken 53 = .ok (.if_icmp .ne 8, 3) := by decide +kernel
theorem dX12_taken_56 : decode cX12_taken 56 = .ok (.iload_n 3, 1) := by decide +kernel
theorem dX12_taken_57 : decode cX12_taken 57 = .ok (.iconst 5, 1) := by decide +kernel
theorem dX12_taken_58 : decode cX12_taken 58 = .ok (.if_icmp .eq 14, 3) := by decide +kernel
theorem dX12_taken_61 : decode cX12_taken 61 = .ok (.iload_n 2, 1) := by decide +kernel
theorem dX12_taken_62 : decode cX12_taken 62 = .ok (.iconst 3, 1) := by decide +kernel
theorem dX12_taken_63 : decode cX12_taken 63 = .ok (.if_icmp .ne 13, 3) := by decide +kernel
theorem dX12_taken_66 : decode cX12_taken 66 = .ok (.iload_n 3, 1) := by decide +kernel
theorem dX12_taken_67 : decode cX12_taken 67 = .ok (.bipush 6, 2) := by decide +kernel
theorem dX12_taken_69 : decode cX12_taken 69 = .ok (.if_icmp .ne 7, 3) := by decide +kernel
theorem dX12_taken_72 : decode cX12_taken 72 = .ok (.iload_n 3, 1) := by decide +kernel
theorem dX12_taken_73 : decode cX12_taken 73 = .ok (.goto 5, 3) := by decide +kernel
theorem dX12_taken_76 : decode cX12_taken 76 = .ok (.bipush (-12), 2) := by decide +kernel
theorem dX12_taken_78 : decode cX12_taken 78 = .ok (.ireturn, 1) := by decide +kernel
theorem dX12_count_0 : decode cX12_count 0 = .ok (.iload_n 1, 1) := by decide +kernel
theorem dX12_count_1 : decode cX12_count 1 = .ok (.tableswitch 78 0 6 #[43, 48, 53, 58, 63, 68, 73], 43) := by decide +kernel
theorem dX12_count_44 : decode cX12_count 44 = .ok (.aload_n 0, 1) := by decide +kernel
theorem dX12_count_45 : decode cX12_count 45 = .ok (.getfield 13, 3) := by decide +kernel
theorem dX12_count_48 : decode cX12_count 48 = .ok (.ireturn, 1) := by decide +kernel
theorem dX12_count_49 : decode cX12_count 49 = .ok (.aload_n 0, 1) := by decide +kernel
theorem dX12_count_50 : decode cX12_count 50 = .ok (.getfield 7, 3) := by decide +kernel
theorem dX12_count_53 : decode cX12_count 53 = .ok (.ireturn, 1) := by decide +kernel
theorem dX12_count_54 : decode cX12_count 54 = .ok (.aload_n 0, 1) := by decide +kernel
theorem dX12_count_55 : decode cX12_count 55 = .ok (.getfield 53, 3) := by decide +kernel
theorem dX12_count_58 : decode cX12_count 58 = .ok (.ireturn, 1) := by decide +kernel
theorem dX12_count_59 : decode cX12_count 59 = .ok (.aload_n 0, 1) := by decide +kernel
theorem dX12_count_60 : decode cX12_count 60 = .ok (.getfield 150, 3) := by decide +kernel
theorem dX12_count_63 : decode cX12_count 63 = .ok (.ireturn, 1) := by decide +kernel
theorem dX12_count_64 : decode cX12_count 64 = .ok (.aload_n 0, 1) := by decide +kernel
theorem dX12_count_65 : decode cX12_count 65 = .ok (.getfield 156, 3) := by decide +kernel
theorem dX12_count_68 : decode cX12_count 68 = .ok (.ireturn, 1) := by decide +kernel
theorem dX12_count_69 : decode cX12_count 69 = .ok (.aload_n 0, 1) := by decide +kernel
theorem dX12_count_70 : decode cX12_count 70 = .ok (.getfield 59, 3) := by decide +kernel
theorem dX12_count_73 : decode cX12_count 73 = .ok (.ireturn, 1) := by decide +kernel
theorem dX12_count_74 : decode cX12_count 74 = .ok (.aload_n 0, 1) := by decide +kernel
theorem dX12_count_75 : decode cX12_count 75 = .ok (.getfield 223, 3) := by decide +kernel
theorem dX12_count_78 : decode cX12_count 78 = .ok (.ireturn, 1) := by decide +kernel
theorem dX12_count_79 : decode cX12_count 79 = .ok (.bipush (-2), 2) := by decide +kernel
theorem dX12_count_81 : decode cX12_count 81 = .ok (.ireturn, 1) := by decide +kernel
theorem dX12_isTape_0 : decode cX12_isTape 0 = .ok (.aload_n 0, 1) := by decide +kernel
theorem dX12_isTape_1 : decode cX12_isTape 1 = .ok (.iload_n 1, 1) := by decide +kernel
theorem dX12_isTape_2 : decode cX12_isTape 2 = .ok (.iconst 0, 1) := by decide +kernel
theorem dX12_isTape_3 : decode cX12_isTape 3 = .ok (.iconst 5, 1) := by decide +kernel
theorem dX12_isTape_4 : decode cX12_isTape 4 = .ok (.invokevirtual 242, 3) := by decide +kernel
theorem dX12_isTape_7 : decode cX12_isTape 7 = .ok (.ireturn, 1) := by decide +kernel
theorem dX12_tape_0 : decode cX12_tape 0 = .ok (.aload_n 0, 1) := by decide +kernel
theorem dX12_tape_1 : decode cX12_tape 1 = .ok (.iload_n 1, 1) := by decide +kernel
theorem dX12_tape_2 : decode cX12_tape 2 = .ok (.invokevirtual 387, 3) := by decide +kernel
theorem dX12_tape_5 : decode cX12_tape 5 = .ok (.ifCond .ne 5, 3) := by decide +kernel
theorem dX12_tape_8 : decode cX12_tape 8 = .ok (.iconst (-1), 1) := by decide +kernel
theorem dX12_tape_9 : decode cX12_tape 9 = .ok (.ireturn, 1) := by decide +kernel
theorem dX12_tape_10 : decode cX12_tape 10 = .ok (.aload_n 0, 1) := by decide +kernel
theorem dX12_tape_11 : decode cX12_tape 11 = .ok (.iload_n 2, 1) := by decide +kernel
theorem dX12_tape_12 : decode cX12_tape 12 = .ok (.iconst (-1), 1) := by decide +kernel
theorem dX12_tape_13 : decode cX12_tape 13 = .ok (.iconst 4, 1) := by decide +kernel
theorem dX12_tape_14 : decode cX12_tape 14 = .ok (.invokevirtual 242, 3) := by decide +kernel
theorem dX12_tape_17 : decode cX12_tape 17 = .ok (.ifCond .eq 13, 3) := by decide +kernel
theorem dX12_tape_20 : decode cX12_tape 20 = .ok (.iload_n 2, 1) := by decide +kernel
theorem dX12_tape_21 : decode cX12_tape 21 = .ok (.ifCond .lt 12, 3) := by decide +kernel
theorem dX12_tape_24 : decode cX12_tape 24 = .ok (.iload_n 3, 1) := by decide +kernel
theorem dX12_tape_25 : decode cX12_tape 25 = .ok (.bipush 60, 2) := by decide +kernel
theorem dX12_tape_27 : decode cX12_tape 27 = .ok (.if_icmp .le 6, 3) := by decide +kernel
theorem dX12_tape_30 : decode cX12_tape 30 = .ok (.bipush (-2), 2) := by decide +kernel
theorem dX12_tape_32 : decode cX12_tape 32 = .ok (.ireturn, 1) := by decide +kernel
theorem dX12_tape_33 : decode cX12_tape 33 = .ok (.iload_n 2, 1) := by decide +kernel
theorem dX12_tape_34 : decode cX12_tape 34 = .ok (.ifCond .lt 10, 3) := by decide +kernel
theorem dX12_tape_37 : decode cX12_tape 37 = .ok (.iload_n 3, 1) := by decide +kernel
theorem dX12_tape_38 : decode cX12_tape 38 = .ok (.ifCond .ge 6, 3) := by decide +kernel
theorem dX12_tape_41 : decode cX12_tape 41 = .ok (.bipush (-14), 2) := by decide +kernel
theorem dX12_tape_43 : decode cX12_tape 43 = .ok (.ireturn, 1) := by decide +kernel
theorem dX12_tape_44 : decode cX12_tape 44 = .ok (.aload_n 0, 1) := by decide +kernel
theorem dX12_tape_45 : decode cX12_tape 45 = .ok (.getfield 229, 3) := by decide +kernel
theorem dX12_tape_48 : decode cX12_tape 48 = .ok (.iload_n 1, 1) := by decide +kernel
theorem dX12_tape_49 : decode cX12_tape 49 = .ok (.iload_n 2, 1) := by decide +kernel
theorem dX12_tape_50 : decode cX12_tape 50 = .ok (.iastore, 1) := by decide +kernel
theorem dX12_tape_51 : decode cX12_tape 51 = .ok (.aload_n 0, 1) := by decide +kernel
theorem dX12_tape_52 : decode cX12_tape 52 = .ok (.getfield 232, 3) := by decide +kernel
theorem dX12_tape_55 : decode cX12_tape 55 = .ok (.iload_n 1, 1) := by decide +kernel
theorem dX12_tape_56 : decode cX12_tape 56 = .ok (.iload_n 2, 1) := by decide +kernel
theorem dX12_tape_57 : decode cX12_tape 57 = .ok (.ifCond .ge 7, 3) := by decide +kernel
theorem dX12_tape_60 : decode cX12_tape 60 = .ok (.iconst 0, 1) := by decide +kernel
theorem dX12_tape_61 : decode cX12_tape 61 = .ok (.goto 4, 3) := by decide +kernel
theorem dX12_tape_64 : decode cX12_tape 64 = .ok (.iload_n 3, 1) := by decide +kernel
theorem dX12_tape_65 : decode cX12_tape 65 = .ok (.iastore, 1) := by decide +kernel
theorem dX12_tape_66 : decode cX12_tape 66 = .ok (.iconst 0, 1) := by decide +kernel
theorem dX12_tape_67 : decode cX12_tape 67 = .ok (.istore 4, 2) := by decide +kernel
theorem dX12_tape_69 : decode cX12_tape 69 = .ok (.iload 4, 2) := by decide +kernel
theorem dX12_tape_71 : decode cX12_tape 71 = .ok (.bipush 60, 2) := by decide +kernel
theorem dX12_tape_73 : decode cX12_tape 73 = .ok (.if_icmp .ge 22, 3) := by decide +kernel
theorem dX12_tape_76 : decode cX12_tape 76 = .ok (.aload_n 0, 1) := by decide +kernel
theorem dX12_tape_77 : decode cX12_tape 77 = .ok (.getfield 235, 3) := by decide +kernel
theorem dX12_tape_80 : decode cX12_tape 80 = .ok (.bipush 60, 2) := by decide +kernel
theorem dX12_tape_82 : decode cX12_tape 82 = .ok (.iload_n 1, 1) := by decide +kernel
theorem dX12_tape_83 : decode cX12_tape 83 = .ok (.imul, 1) := by decide +kernel
theorem dX12_tape_84 : decode cX12_tape 84 = .ok (.iload 4, 2) := by decide +kernel
theorem dX12_tape_86 : decode cX12_tape 86 = .ok (.iadd, 1) := by decide +kernel
theorem dX12_tape_87 : decode cX12_tape 87 = .ok (.lconst 0, 1) := by decide +kernel
theorem dX12_tape_88 : decode cX12_tape 88 = .ok (.lastore, 1) := by decide +kernel
theorem dX12_tape_89 : decode cX12_tape 89 = .ok (.iinc 4 1, 3) := by decide +kernel
theorem dX12_tape_92 : decode cX12_tape 92 = .ok (.goto (-23), 3) := by decide +kernel
theorem dX12_tape_95 : decode cX12_tape 95 = .ok (.iconst 1, 1) := by decide +kernel
theorem dX12_tape_96 : decode cX12_tape 96 = .ok (.ireturn, 1) := by decide +kernel
theorem dX12_narrow_0 : decode cX12_narrow 0 = .ok (.iload_n 1, 1) := by decide +kernel
theorem dX12_narrow_1 : decode cX12_narrow 1 = .ok (.ifCond .ne 10, 3) := by decide +kernel
theorem dX12_narrow_4 : decode cX12_narrow 4 = .ok (.lload_n 2, 1) := by decide +kernel
theorem dX12_narrow_5 : decode cX12_narrow 5 = .ok (.l2i, 1) := by decide +kernel
theorem dX12_narrow_6 : decode cX12_narrow 6 = .ok (.i2b, 1) := by decide +kernel
theorem dX12_narrow_7 : decode cX12_narrow 7 = .ok (.i2l, 1) := by decide +kernel
theorem dX12_narrow_8 : decode cX12_narrow 8 = .ok (.goto 46, 3) := by decide +kernel
theorem dX12_narrow_11 : decode cX12_narrow 11 = .ok (.iload_n 1, 1) := by decide +kernel
theorem dX12_narrow_12 : decode cX12_narrow 12 = .ok (.iconst 1, 1) := by decide +kernel
theorem dX12_narrow_13 : decode cX12_narrow 13 = .ok (.if_icmp .ne 10, 3) := by decide +kernel
theorem dX12_narrow_16 : decode cX12_narrow 16 = .ok (.lload_n 2, 1) := by decide +kernel
theorem dX12_narrow_17 : decode cX12_narrow 17 = .ok (.l2i, 1) := by decide +kernel
theorem dX12_narrow_18 : decode cX12_narrow 18 = .ok (.i2s, 1) := by decide +kernel
theorem dX12_narrow_19 : decode cX12_narrow 19 = .ok (.i2l, 1) := by decide +kernel
theorem dX12_narrow_20 : decode cX12_narrow 20 = .ok (.goto 34, 3) := by decide +kernel
theorem dX12_narrow_23 : decode cX12_narrow 23 = .ok (.iload_n 1, 1) := by decide +kernel
theorem dX12_narrow_24 : decode cX12_narrow 24 = .ok (.iconst 2, 1) := by decide +kernel
theorem dX12_narrow_25 : decode cX12_narrow 25 = .ok (.if_icmp .ne 9, 3) := by decide +kernel
theorem dX12_narrow_28 : decode cX12_narrow 28 = .ok (.lload_n 2, 1) := by decide +kernel
theorem dX12_narrow_29 : decode cX12_narrow 29 = .ok (.l2i, 1) := by decide +kernel
theorem dX12_narrow_30 : decode cX12_narrow 30 = .ok (.i2l, 1) := by decide +kernel
theorem dX12_narrow_31 : decode cX12_narrow 31 = .ok (.goto 23, 3) := by decide +kernel
theorem dX12_narrow_34 : decode cX12_narrow 34 = .ok (.iload_n 1, 1) := by decide +kernel
theorem dX12_narrow_35 : decode cX12_narrow 35 = .ok (.iconst 4, 1) := by decide +kernel
theorem dX12_narrow_36 : decode cX12_narrow 36 = .ok (.if_icmp .ne 17, 3) := by decide +kernel
theorem dX12_narrow_39 : decode cX12_narrow 39 = .ok (.lload_n 2, 1) := by decide +kernel
theorem dX12_narrow_40 : decode cX12_narrow 40 = .ok (.lconst 0, 1) := by decide +kernel
theorem dX12_narrow_41 : decode cX12_narrow 41 = .ok (.lcmp, 1) := by decide +kernel
theorem dX12_narrow_42 : decode cX12_narrow 42 = .ok (.ifCond .eq 7, 3) := by decide +kernel
theorem dX12_narrow_45 : decode cX12_narrow 45 = .ok (.lconst 1, 1) := by decide +kernel
theorem dX12_narrow_46 : decode cX12_narrow 46 = .ok (.goto 8, 3) := by decide +kernel
theorem dX12_narrow_49 : decode cX12_narrow 49 = .ok (.lconst 0, 1) := by decide +kernel
theorem dX12_narrow_50 : decode cX12_narrow 50 = .ok (.goto 4, 3) := by decide +kernel
theorem dX12_narrow_53 : decode cX12_narrow 53 = .ok (.lload_n 2, 1) := by decide +kernel
theorem dX12_narrow_54 : decode cX12_narrow 54 = .ok (.lreturn, 1) := by decide +kernel
theorem dX12_item_0 : decode cX12_item 0 = .ok (.aload_n 0, 1) := by decide +kernel
theorem dX12_item_1 : decode cX12_item 1 = .ok (.iload_n 1, 1) := by decide +kernel
theorem dX12_item_2 : decode cX12_item 2 = .ok (.invokevirtual 387, 3) := by decide +kernel
theorem dX12_item_5 : decode cX12_item 5 = .ok (.ifCond .ne 5, 3) := by decide +kernel
theorem dX12_item_8 : decode cX12_item 8 = .ok (.iconst (-1), 1) := by decide +kernel
theorem dX12_item_9 : decode cX12_item 9 = .ok (.ireturn, 1) := by decide +kernel
theorem dX12_item_10 : decode cX12_item 10 = .ok (.aload_n 0, 1) := by decide +kernel
theorem dX12_item_11 : decode cX12_item 11 = .ok (.getfield 229, 3) := by decide +kernel
theorem dX12_item_14 : decode cX12_item 14 = .ok (.iload_n 1, 1) := by decide +kernel
theorem dX12_item_15 : decode cX12_item 15 = .ok (.iaload, 1) := by decide +kernel
theorem dX12_item_16 : decode cX12_item 16 = .ok (.ifCond .ge 6, 3) := by decide +kernel
theorem dX12_item_19 : decode cX12_item 19 = .ok (.bipush (-11), 2) := by decide +kernel
theorem dX12_item_21 : decode cX12_item 21 = .ok (.ireturn, 1) := by decide +kernel
theorem dX12_item_22 : decode cX12_item 22 = .ok (.aload_n 0, 1) := by decide +kernel
theorem dX12_item_23 : decode cX12_item 23 = .ok (.iload_n 2, 1) := by decide +kernel
theorem dX12_item_24 : decode cX12_item 24 = .ok (.iconst 0, 1) := by decide +kernel
theorem dX12_item_25 : decode cX12_item 25 = .ok (.aload_n 0, 1) := by decide +kernel
theorem dX12_item_26 : decode cX12_item 26 = .ok (.getfield 232, 3) := by decide +kernel
theorem dX12_item_29 : decode cX12_item 29 = .ok (.iload_n 1, 1) := by decide +kernel
theorem dX12_item_30 : decode cX12_item 30 = .ok (.iaload, 1) := by decide +kernel
theorem dX12_item_31 : decode cX12_item 31 = .ok (.iconst 1, 1) := by decide +kernel
theorem dX12_item_32 : decode cX12_item 32 = .ok (.isub, 1) := by decide +kernel
theorem dX12_item_33 : decode cX12_item 33 = .ok (.invokevirtual 242, 3) := by decide +kernel
theorem dX12_item_36 : decode cX12_item 36 = .ok (.ifCond .ne 6, 3) := by decide +kernel
theorem dX12_item_39 : decode cX12_item 39 = .ok (.bipush (-13), 2) := by decide +kernel
theorem dX12_item_41 : decode cX12_item 41 = .ok (.ireturn, 1) := by decide +kernel
theorem dX12_item_42 : decode cX12_item 42 = .ok (.aload_n 0, 1) := by decide +kernel
theorem dX12_item_43 : decode cX12_item 43 = .ok (.getfield 235, 3) := by decide +kernel
theorem dX12_item_46 : decode cX12_item 46 = .ok (.bipush 60, 2) := by decide +kernel
theorem dX12_item_48 : decode cX12_item 48 = .ok (.iload_n 1, 1) := by decide +kernel
theorem dX12_item_49 : decode cX12_item 49 = .ok (.imul, 1) := by decide +kernel
theorem dX12_item_50 : decode cX12_item 50 = .ok (.iload_n 2, 1) := by decide +kernel
theorem dX12_item_51 : decode cX12_item 51 = .ok (.iadd, 1) := by decide +kernel
theorem dX12_item_52 : decode cX12_item 52 = .ok (.aload_n 0, 1) := by decide +kernel
theorem dX12_item_53 : decode cX12_item 53 = .ok (.aload_n 0, 1) := by decide +kernel
theorem dX12_item_54 : decode cX12_item 54 = .ok (.getfield 229, 3) := by decide +kernel
theorem dX12_item_57 : decode cX12_item 57 = .ok (.iload_n 1, 1) := by decide +kernel
theorem dX12_item_58 : decode cX12_item 58 = .ok (.iaload, 1) := by decide +kernel
theorem dX12_item_59 : decode cX12_item 59 = .ok (.lload_n 3, 1) := by decide +kernel
theorem dX12_item_60 : decode cX12_item 60 = .ok (.invokevirtual 414, 3) := by decide +kernel
theorem dX12_item_63 : decode cX12_item 63 = .ok (.lastore, 1) := by decide +kernel
theorem dX12_item_64 : decode cX12_item 64 = .ok (.iconst 1, 1) := by decide +kernel
theorem dX12_item_65 : decode cX12_item 65 = .ok (.ireturn, 1) := by decide +kernel
theorem dX12_read_0 : decode cX12_read 0 = .ok (.aload_n 0, 1) := by decide +kernel
theorem dX12_read_1 : decode cX12_read 1 = .ok (.iload_n 1, 1) := by decide +kernel
theorem dX12_read_2 : decode cX12_read 2 = .ok (.invokevirtual 387, 3) := by decide +kernel
theorem dX12_read_5 : decode cX12_read 5 = .ok (.ifCond .eq 29, 3) := by decide +kernel
theorem dX12_read_8 : decode cX12_read 8 = .ok (.aload_n 0, 1) := by decide +kernel
theorem dX12_read_9 : decode cX12_read 9 = .ok (.getfield 229, 3) := by decide +kernel
theorem dX12_read_12 : decode cX12_read 12 = .ok (.iload_n 1, 1) := by decide +kernel
theorem dX12_read_13 : decode cX12_read 13 = .ok (.iaload, 1) := by decide +kernel
theorem dX12_read_14 : decode cX12_read 14 = .ok (.ifCond .lt 20, 3) := by decide +kernel
theorem dX12_read_17 : decode cX12_read 17 = .ok (.aload_n 0, 1) := by decide +kernel
theorem dX12_read_18 : decode cX12_read 18 = .ok (.iload_n 2, 1) := by decide +kernel
theorem dX12_read_19 : decode cX12_read 19 = .ok (.iconst 0, 1) := by decide +kernel
theorem dX12_read_20 : decode cX12_read 20 = .ok (.aload_n 0, 1) := by decide +kernel
theorem dX12_read_21 : decode cX12_read 21 = .ok (.getfield 232, 3) := by decide +kernel
theorem dX12_read_24 : decode cX12_read 24 = .ok (.iload_n 1, 1) := by decide +kernel
theorem dX12_read_25 : decode cX12_read 25 = .ok (.iaload, 1) := by decide +kernel
theorem dX12_read_26 : decode cX12_read 26 = .ok (.iconst 1, 1) := by decide +kernel
theorem dX12_read_27 : decode cX12_read 27 = .ok (.isub, 1) := by decide +kernel
theorem dX12_read_28 : decode cX12_read 28 = .ok (.invokevirtual 242, 3) := by decide +kernel
theorem dX12_read_31 : decode cX12_read 31 = .ok (.ifCond .ne 9, 3) := by decide +kernel
theorem dX12_read_34 : decode cX12_read 34 = .ok (.ldc2_w 378, 3) := by decide +kernel
theorem dX12_read_37 : decode cX12_read 37 = .ok (.goto 14, 3) := by decide +kernel
theorem dX12_read_40 : decode cX12_read 40 = .ok (.aload_n 0, 1) := by decide +kernel
theorem dX12_read_41 : decode cX12_read 41 = .ok (.getfield 235, 3) := by decide +kernel
theorem dX12_read_44 : decode cX12_read 44 = .ok (.bipush 60, 2) := by decide +kernel
theorem dX12_read_46 : decode cX12_read 46 = .ok (.iload_n 1, 1) := by decide +kernel
theorem dX12_read_47 : decode cX12_read 47 = .ok (.imul, 1) := by decide +kernel
theorem dX12_read_48 : decode cX12_read 48 = .ok (.iload_n 2, 1) := by decide +kernel
theorem dX12_read_49 : decode cX12_read 49 = .ok (.iadd, 1) := by decide +kernel
theorem dX12_read_50 : decode cX12_read 50 = .ok (.laload, 1) := by decide +kernel
theorem dX12_read_51 : decode cX12_read 51 = .ok (.lreturn, 1) := by decide +kernel
theorem dX12_shift_0 : decode cX12_shift 0 = .ok (.aload_n 0, 1) := by decide +kernel
theorem dX12_shift_1 : decode cX12_shift 1 = .ok (.iload_n 1, 1) := by decide +kernel
theorem dX12_shift_2 : decode cX12_shift 2 = .ok (.invokevirtual 387, 3) := by decide +kernel
theorem dX12_shift_5 : decode cX12_shift 5 = .ok (.ifCond .eq 11, 3) := by decide +kernel
theorem dX12_shift_8 : decode cX12_shift 8 = .ok (.aload_n 0, 1) := by decide +kernel
theorem dX12_shift_9 : decode cX12_shift 9 = .ok (.iload_n 3, 1) := by decide +kernel
theorem dX12_shift_10 : decode cX12_shift 10 = .ok (.invokevirtual 387, 3) := by decide +kernel
theorem dX12_shift_13 : decode cX12_shift 13 = .ok (.ifCond .ne 5, 3) := by decide +kernel
theorem dX12_shift_16 : decode cX12_shift 16 = .ok (.iconst (-1), 1) := by decide +kernel
theorem dX12_shift_17 : decode cX12_shift 17 = .ok (.ireturn, 1) := by decide +kernel
theorem dX12_shift_18 : decode cX12_shift 18 = .ok (.aload_n 0, 1) := by decide +kernel
theorem dX12_shift_19 : decode cX12_shift 19 = .ok (.getfield 229, 3) := by decide +kernel
theorem dX12_shift_22 : decode cX12_shift 22 = .ok (.iload_n 1, 1) := by decide +kernel
theorem dX12_shift_23 : decode cX12_shift 23 = .ok (.iaload, 1) := by decide +kernel
theorem dX12_shift_24 : decode cX12_shift 24 = .ok (.ifCond .lt 12, 3) := by decide +kernel
theorem dX12_shift_27 : decode cX12_shift 27 = .ok (.aload_n 0, 1) := by decide +kernel
theorem dX12_shift_28 : decode cX12_shift 28 = .ok (.getfield 229, 3) := by decide +kernel
theorem dX12_shift_31 : decode cX12_shift 31 = .ok (.iload_n 3, 1) := by decide +kernel
theorem dX12_shift_32 : decode cX12_shift 32 = .ok (.iaload, 1) := by decide +kernel
theorem dX12_shift_33 : decode cX12_shift 33 = .ok (.ifCond .ge 6, 3) := by decide +kernel
theorem dX12_shift_36 : decode cX12_shift 36 = .ok (.bipush (-11), 2) := by decide +kernel
theorem dX12_shift_38 : decode cX12_shift 38 = .ok (.ireturn, 1) := by decide +kernel
theorem dX12_shift_39 : decode cX12_shift 39 = .ok (.aload_n 0, 1) := by decide +kernel
theorem dX12_shift_40 : decode cX12_shift 40 = .ok (.getfield 229, 3) := by decide +kernel
theorem dX12_shift_43 : decode cX12_shift 43 = .ok (.iload_n 1, 1) := by decide +kernel
theorem dX12_shift_44 : decode cX12_shift 44 = .ok (.iaload, 1) := by decide +kernel
theorem dX12_shift_45 : decode cX12_shift 45 = .ok (.aload_n 0, 1) := by decide +kernel
theorem dX12_shift_46 : decode cX12_shift 46 = .ok (.getfield 229, 3) := by decide +kernel
theorem dX12_shift_49 : decode cX12_shift 49 = .ok (.iload_n 3, 1) := by decide +kernel
theorem dX12_shift_50 : decode cX12_shift 50 = .ok (.iaload, 1) := by decide +kernel
theorem dX12_shift_51 : decode cX12_shift 51 = .ok (.if_icmp .eq 6, 3) := by decide +kernel
theorem dX12_shift_54 : decode cX12_shift 54 = .ok (.bipush (-12), 2) := by decide +kernel
theorem dX12_shift_56 : decode cX12_shift 56 = .ok (.ireturn, 1) := by decide +kernel
theorem dX12_shift_57 : decode cX12_shift 57 = .ok (.iload 5, 2) := by decide +kernel
theorem dX12_shift_59 : decode cX12_shift 59 = .ok (.ifCond .lt 39, 3) := by decide +kernel
theorem dX12_shift_62 : decode cX12_shift 62 = .ok (.iload_n 2, 1) := by decide +kernel
theorem dX12_shift_63 : decode cX12_shift 63 = .ok (.ifCond .lt 35, 3) := by decide +kernel
theorem dX12_shift_66 : decode cX12_shift 66 = .ok (.iload 4, 2) := by decide +kernel
theorem dX12_shift_68 : decode cX12_shift 68 = .ok (.ifCond .lt 30, 3) := by decide +kernel
theorem dX12_shift_71 : decode cX12_shift 71 = .ok (.iload_n 2, 1) := by decide +kernel
theorem dX12_shift_72 : decode cX12_shift 72 = .ok (.aload_n 0, 1) := by decide +kernel
theorem dX12_shift_73 : decode cX12_shift 73 = .ok (.getfield 232, 3) := by decide +kernel
theorem dX12_shift_76 : decode cX12_shift 76 = .ok (.iload_n 1, 1) := by decide +kernel
theorem dX12_shift_77 : decode cX12_shift 77 = .ok (.iaload, 1) := by decide +kernel
theorem dX12_shift_78 : decode cX12_shift 78 = .ok (.iload 5, 2) := by decide +kernel
theorem dX12_shift_80 : decode cX12_shift 80 = .ok (.isub, 1) := by decide +kernel
theorem dX12_shift_81 : decode cX12_shift 81 = .ok (.if_icmp .gt 17, 3) := by decide +kernel
theorem dX12_shift_84 : decode cX12_shift 84 = .ok (.iload 4, 2) := by decide +kernel
theorem dX12_shift_86 : decode cX12_shift 86 = .ok (.aload_n 0, 1) := by decide +kernel
theorem dX12_shift_87 : decode cX12_shift 87 = .ok (.getfield 232, 3) := by decide +kernel
theorem dX12_shift_90 : decode cX12_shift 90 = .ok (.iload_n 3, 1) := by decide +kernel
theorem dX12_shift_91 : decode cX12_shift 91 = .ok (.iaload, 1) := by decide +kernel
theorem dX12_shift_92 : decode cX12_shift 92 = .ok (.iload 5, 2) := by decide +kernel
theorem dX12_shift_94 : decode cX12_shift 94 = .ok (.isub, 1) := by decide +kernel
theorem dX12_shift_95 : decode cX12_shift 95 = .ok (.if_icmp .le 6, 3) := by decide +kernel
theorem dX12_shift_98 : decode cX12_shift 98 = .ok (.bipush (-13), 2) := by decide +kernel
theorem dX12_shift_100 : decode cX12_shift 100 = .ok (.ireturn, 1) := by decide +kernel
theorem dX12_shift_101 : decode cX12_shift 101 = .ok (.iconst 0, 1) := by decide +kernel
theorem dX12_shift_102 : decode cX12_shift 102 = .ok (.istore 6, 2) := by decide +kernel
theorem dX12_shift_104 : decode cX12_shift 104 = .ok (.iload 6, 2) := by decide +kernel
theorem dX12_shift_106 : decode cX12_shift 106 = .ok (.iload 5, 2) := by decide +kernel
theorem dX12_shift_108 : decode cX12_shift 108 = .ok (.if_icmp .ge 30, 3) := by decide +kernel
theorem dX12_shift_111 : decode cX12_shift 111 = .ok (.aload_n 0, 1) := by decide +kernel
theorem dX12_shift_112 : decode cX12_shift 112 = .ok (.getfield 239, 3) := by decide +kernel
theorem dX12_shift_115 : decode cX12_shift 115 = .ok (.iload 6, 2) := by decide +kernel
theorem dX12_shift_117 : decode cX12_shift 117 = .ok (.aload_n 0, 1) := by decide +kernel
theorem dX12_shift_118 : decode cX12_shift 118 = .ok (.getfield 235, 3) := by decide +kernel
theorem dX12_shift_121 : decode cX12_shift 121 = .ok (.bipush 60, 2) := by decide +kernel
theorem dX12_shift_123 : decode cX12_shift 123 = .ok (.iload_n 1, 1) := by decide +kernel
theorem dX12_shift_124 : decode cX12_shift 124 = .ok (.imul, 1) := by decide +kernel
theorem dX12_shift_125 : decode cX12_shift 125 = .ok (.iload_n 2, 1) := by decide +kernel
theorem dX12_shift_126 : decode cX12_shift 126 = .ok (.iadd, 1) := by decide +kernel
theorem dX12_shift_127 : decode cX12_shift 127 = .ok (.iload 6, 2) := by decide +kernel
theorem dX12_shift_129 : decode cX12_shift 129 = .ok (.iadd, 1) := by decide +kernel
theorem dX12_shift_130 : decode cX12_shift 130 = .ok (.laload, 1) := by decide +kernel
theorem dX12_shift_131 : decode cX12_shift 131 = .ok (.lastore, 1) := by decide +kernel
theorem dX12_shift_132 : decode cX12_shift 132 = .ok (.iinc 6 1, 3) := by decide +kernel
theorem dX12_shift_135 : decode cX12_shift 135 = .ok (.goto (-31), 3) := by decide +kernel
theorem dX12_shift_138 : decode cX12_shift 138 = .ok (.iconst 0, 1) := by decide +kernel
theorem dX12_shift_139 : decode cX12_shift 139 = .ok (.istore 6, 2) := by decide +kernel
theorem dX12_shift_141 : decode cX12_shift 141 = .ok (.iload 6, 2) := by decide +kernel
theorem dX12_shift_143 : decode cX12_shift 143 = .ok (.iload 5, 2) := by decide +kernel
theorem dX12_shift_145 : decode cX12_shift 145 = .ok (.if_icmp .ge 31, 3) := by decide +kernel
theorem dX12_shift_148 : decode cX12_shift 148 = .ok (.aload_n 0, 1) := by decide +kernel
theorem dX12_shift_149 : decode cX12_shift 149 = .ok (.getfield 235, 3) := by decide +kernel
theorem dX12_shift_152 : decode cX12_shift 152 = .ok (.bipush 60, 2) := by decide +kernel
theorem dX12_shift_154 : decode cX12_shift 154 = .ok (.iload_n 3, 1) := by decide +kernel
theorem dX12_shift_155 : decode cX12_shift 155 = .ok (.imul, 1) := by decide +kernel
theorem dX12_shift_156 : decode cX12_shift 156 = .ok (.iload 4, 2) := by decide +kernel
theorem dX12_shift_158 : decode cX12_shift 158 = .ok (.iadd, 1) := by decide +kernel
theorem dX12_shift_159 : decode cX12_shift 159 = .ok (.iload 6, 2) := by decide +kernel
theorem dX12_shift_161 : decode cX12_shift 161 = .ok (.iadd, 1) := by decide +kernel
theorem dX12_shift_162 : decode cX12_shift 162 = .ok (.aload_n 0, 1) := by decide +kernel
theorem dX12_shift_163 : decode cX12_shift 163 = .ok (.getfield 239, 3) := by decide +kernel
theorem dX12_shift_166 : decode cX12_shift 166 = .ok (.iload 6, 2) := by decide +kernel
theorem dX12_shift_168 : decode cX12_shift 168 = .ok (.laload, 1) := by decide +kernel
theorem dX12_shift_169 : decode cX12_shift 169 = .ok (.lastore, 1) := by decide +kernel
theorem dX12_shift_170 : decode cX12_shift 170 = .ok (.iinc 6 1, 3) := by decide +kernel
theorem dX12_shift_173 : decode cX12_shift 173 = .ok (.goto (-32), 3) := by decide +kernel
theorem dX12_shift_176 : decode cX12_shift 176 = .ok (.iload 5, 2) := by decide +kernel
theorem dX12_shift_178 : decode cX12_shift 178 = .ok (.ireturn, 1) := by decide +kernel
