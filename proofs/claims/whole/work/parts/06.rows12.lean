theorem dX12_init_0 : decode cX12_init 0 = .ok (.aload_n 0, 1) := by decide +kernel
theorem dX12_init_1 : decode cX12_init 1 = .ok (.invokespecial 1, 3) := by decide +kernel
theorem dX12_init_4 : decode cX12_init 4 = .ok (.aload_n 0, 1) := by decide +kernel
theorem dX12_init_5 : decode cX12_init 5 = .ok (.iconst 0, 1) := by decide +kernel
theorem dX12_init_6 : decode cX12_init 6 = .ok (.putfield 7, 3) := by decide +kernel
theorem dX12_init_9 : decode cX12_init 9 = .ok (.aload_n 0, 1) := by decide +kernel
theorem dX12_init_10 : decode cX12_init 10 = .ok (.iconst 0, 1) := by decide +kernel
theorem dX12_init_11 : decode cX12_init 11 = .ok (.putfield 13, 3) := by decide +kernel
theorem dX12_init_14 : decode cX12_init 14 = .ok (.aload_n 0, 1) := by decide +kernel
theorem dX12_init_15 : decode cX12_init 15 = .ok (.bipush 8, 2) := by decide +kernel
theorem dX12_init_17 : decode cX12_init 17 = .ok (.newarray .int, 2) := by decide +kernel
theorem dX12_init_19 : decode cX12_init 19 = .ok (.putfield 16, 3) := by decide +kernel
theorem dX12_init_22 : decode cX12_init 22 = .ok (.aload_n 0, 1) := by decide +kernel
theorem dX12_init_23 : decode cX12_init 23 = .ok (.bipush 8, 2) := by decide +kernel
theorem dX12_init_25 : decode cX12_init 25 = .ok (.newarray .int, 2) := by decide +kernel
theorem dX12_init_27 : decode cX12_init 27 = .ok (.putfield 20, 3) := by decide +kernel
theorem dX12_init_30 : decode cX12_init 30 = .ok (.aload_n 0, 1) := by decide +kernel
theorem dX12_init_31 : decode cX12_init 31 = .ok (.bipush 8, 2) := by decide +kernel
theorem dX12_init_33 : decode cX12_init 33 = .ok (.newarray .int, 2) := by decide +kernel
theorem dX12_init_35 : decode cX12_init 35 = .ok (.putfield 23, 3) := by decide +kernel
theorem dX12_init_38 : decode cX12_init 38 = .ok (.aload_n 0, 1) := by decide +kernel
theorem dX12_init_39 : decode cX12_init 39 = .ok (.bipush 8, 2) := by decide +kernel
theorem dX12_init_41 : decode cX12_init 41 = .ok (.newarray .int, 2) := by decide +kernel
theorem dX12_init_43 : decode cX12_init 43 = .ok (.putfield 26, 3) := by decide +kernel
theorem dX12_init_46 : decode cX12_init 46 = .ok (.aload_n 0, 1) := by decide +kernel
theorem dX12_init_47 : decode cX12_init 47 = .ok (.bipush 8, 2) := by decide +kernel
theorem dX12_init_49 : decode cX12_init 49 = .ok (.newarray .int, 2) := by decide +kernel
theorem dX12_init_51 : decode cX12_init 51 = .ok (.putfield 29, 3) := by decide +kernel
theorem dX12_init_54 : decode cX12_init 54 = .ok (.aload_n 0, 1) := by decide +kernel
theorem dX12_init_55 : decode cX12_init 55 = .ok (.bipush 8, 2) := by decide +kernel
theorem dX12_init_57 : decode cX12_init 57 = .ok (.newarray .int, 2) := by decide +kernel
theorem dX12_init_59 : decode cX12_init 59 = .ok (.putfield 32, 3) := by decide +kernel
theorem dX12_init_62 : decode cX12_init 62 = .ok (.aload_n 0, 1) := by decide +kernel
theorem dX12_init_63 : decode cX12_init 63 = .ok (.bipush 8, 2) := by decide +kernel
theorem dX12_init_65 : decode cX12_init 65 = .ok (.newarray .int, 2) := by decide +kernel
theorem dX12_init_67 : decode cX12_init 67 = .ok (.putfield 35, 3) := by decide +kernel
theorem dX12_init_70 : decode cX12_init 70 = .ok (.aload_n 0, 1) := by decide +kernel
theorem dX12_init_71 : decode cX12_init 71 = .ok (.bipush 8, 2) := by decide +kernel
theorem dX12_init_73 : decode cX12_init 73 = .ok (.newarray .int, 2) := by decide +kernel
theorem dX12_init_75 : decode cX12_init 75 = .ok (.dup, 1) := by decide +kernel
theorem dX12_init_76 : decode cX12_init 76 = .ok (.iconst 0, 1) := by decide +kernel
theorem dX12_init_77 : decode cX12_init 77 = .ok (.iconst (-1), 1) := by decide +kernel
theorem dX12_init_78 : decode cX12_init 78 = .ok (.iastore, 1) := by decide +kernel
theorem dX12_init_79 : decode cX12_init 79 = .ok (.dup, 1) := by decide +kernel
theorem dX12_init_80 : decode cX12_init 80 = .ok (.iconst 1, 1) := by decide +kernel
theorem dX12_init_81 : decode cX12_init 81 = .ok (.iconst (-1), 1) := by decide +kernel
theorem dX12_init_82 : decode cX12_init 82 = .ok (.iastore, 1) := by decide +kernel
theorem dX12_init_83 : decode cX12_init 83 = .ok (.dup, 1) := by decide +kernel
theorem dX12_init_84 : decode cX12_init 84 = .ok (.iconst 2, 1) := by decide +kernel
theorem dX12_init_85 : decode cX12_init 85 = .ok (.iconst (-1), 1) := by decide +kernel
theorem dX12_init_86 : decode cX12_init 86 = .ok (.iastore, 1) := by decide +kernel
theorem dX12_init_87 : decode cX12_init 87 = .ok (.dup, 1) := by decide +kernel
theorem dX12_init_88 : decode cX12_init 88 = .ok (.iconst 3, 1) := by decide +kernel
theorem dX12_init_89 : decode cX12_init 89 = .ok (.iconst (-1), 1) := by decide +kernel
theorem dX12_init_90 : decode cX12_init 90 = .ok (.iastore, 1) := by decide +kernel
theorem dX12_init_91 : decode cX12_init 91 = .ok (.dup, 1) := by decide +kernel
theorem dX12_init_92 : decode cX12_init 92 = .ok (.iconst 4, 1) := by decide +kernel
theorem dX12_init_93 : decode cX12_init 93 = .ok (.iconst (-1), 1) := by decide +kernel
theorem dX12_init_94 : decode cX12_init 94 = .ok (.iastore, 1) := by decide +kernel
theorem dX12_init_95 : decode cX12_init 95 = .ok (.dup, 1) := by decide +kernel
theorem dX12_init_96 : decode cX12_init 96 = .ok (.iconst 5, 1) := by decide +kernel
theorem dX12_init_97 : decode cX12_init 97 = .ok (.iconst (-1), 1) := by decide +kernel
theorem dX12_init_98 : decode cX12_init 98 = .ok (.iastore, 1) := by decide +kernel
theorem dX12_init_99 : decode cX12_init 99 = .ok (.dup, 1) := by decide +kernel
theorem dX12_init_100 : decode cX12_init 100 = .ok (.bipush 6, 2) := by decide +kernel
theorem dX12_init_102 : decode cX12_init 102 = .ok (.iconst (-1), 1) := by decide +kernel
theorem dX12_init_103 : decode cX12_init 103 = .ok (.iastore, 1) := by decide +kernel
theorem dX12_init_104 : decode cX12_init 104 = .ok (.dup, 1) := by decide +kernel
theorem dX12_init_105 : decode cX12_init 105 = .ok (.bipush 7, 2) := by decide +kernel
theorem dX12_init_107 : decode cX12_init 107 = .ok (.iconst (-1), 1) := by decide +kernel
theorem dX12_init_108 : decode cX12_init 108 = .ok (.iastore, 1) := by decide +kernel
theorem dX12_init_109 : decode cX12_init 109 = .ok (.putfield 38, 3) := by decide +kernel
theorem dX12_init_112 : decode cX12_init 112 = .ok (.aload_n 0, 1) := by decide +kernel
theorem dX12_init_113 : decode cX12_init 113 = .ok (.bipush 8, 2) := by decide +kernel
theorem dX12_init_115 : decode cX12_init 115 = .ok (.newarray .boolean, 2) := by decide +kernel
theorem dX12_init_117 : decode cX12_init 117 = .ok (.putfield 41, 3) := by decide +kernel
theorem dX12_init_120 : decode cX12_init 120 = .ok (.aload_n 0, 1) := by decide +kernel
theorem dX12_init_121 : decode cX12_init 121 = .ok (.bipush 64, 2) := by decide +kernel
theorem dX12_init_123 : decode cX12_init 123 = .ok (.newarray .boolean, 2) := by decide +kernel
theorem dX12_init_125 : decode cX12_init 125 = .ok (.putfield 45, 3) := by decide +kernel
theorem dX12_init_128 : decode cX12_init 128 = .ok (.aload_n 0, 1) := by decide +kernel
theorem dX12_init_129 : decode cX12_init 129 = .ok (.iconst 0, 1) := by decide +kernel
theorem dX12_init_130 : decode cX12_init 130 = .ok (.putfield 48, 3) := by decide +kernel
theorem dX12_init_133 : decode cX12_init 133 = .ok (.aload_n 0, 1) := by decide +kernel
theorem dX12_init_134 : decode cX12_init 134 = .ok (.iconst (-1), 1) := by decide +kernel
theorem dX12_init_135 : decode cX12_init 135 = .ok (.putfield 51, 3) := by decide +kernel
theorem dX12_init_138 : decode cX12_init 138 = .ok (.aload_n 0, 1) := by decide +kernel
theorem dX12_init_139 : decode cX12_init 139 = .ok (.iconst 0, 1) := by decide +kernel
theorem dX12_init_140 : decode cX12_init 140 = .ok (.putfield 54, 3) := by decide +kernel
theorem dX12_init_143 : decode cX12_init 143 = .ok (.aload_n 0, 1) := by decide +kernel
theorem dX12_init_144 : decode cX12_init 144 = .ok (.iconst 0, 1) := by decide +kernel
theorem dX12_init_145 : decode cX12_init 145 = .ok (.putfield 57, 3) := by decide +kernel
theorem dX12_init_148 : decode cX12_init 148 = .ok (.aload_n 0, 1) := by decide +kernel
theorem dX12_init_149 : decode cX12_init 149 = .ok (.iconst 0, 1) := by decide +kernel
theorem dX12_init_150 : decode cX12_init 150 = .ok (.putfield 60, 3) := by decide +kernel
theorem dX12_init_153 : decode cX12_init 153 = .ok (.aload_n 0, 1) := by decide +kernel
theorem dX12_init_154 : decode cX12_init 154 = .ok (.bipush 100, 2) := by decide +kernel
theorem dX12_init_156 : decode cX12_init 156 = .ok (.newarray .int, 2) := by decide +kernel
theorem dX12_init_158 : decode cX12_init 158 = .ok (.putfield 63, 3) := by decide +kernel
theorem dX12_init_161 : decode cX12_init 161 = .ok (.aload_n 0, 1) := by decide +kernel
theorem dX12_init_162 : decode cX12_init 162 = .ok (.bipush 6, 2) := by decide +kernel
theorem dX12_init_164 : decode cX12_init 164 = .ok (.newarray .int, 2) := by decide +kernel
theorem dX12_init_166 : decode cX12_init 166 = .ok (.putfield 66, 3) := by decide +kernel
theorem dX12_init_169 : decode cX12_init 169 = .ok (.aload_n 0, 1) := by decide +kernel
theorem dX12_init_170 : decode cX12_init 170 = .ok (.bipush 60, 2) := by decide +kernel
theorem dX12_init_172 : decode cX12_init 172 = .ok (.newarray .int, 2) := by decide +kernel
theorem dX12_init_174 : decode cX12_init 174 = .ok (.putfield 69, 3) := by decide +kernel
theorem dX12_init_177 : decode cX12_init 177 = .ok (.aload_n 0, 1) := by decide +kernel
theorem dX12_init_178 : decode cX12_init 178 = .ok (.bipush 60, 2) := by decide +kernel
theorem dX12_init_180 : decode cX12_init 180 = .ok (.newarray .int, 2) := by decide +kernel
theorem dX12_init_182 : decode cX12_init 182 = .ok (.putfield 72, 3) := by decide +kernel
theorem dX12_init_185 : decode cX12_init 185 = .ok (.aload_n 0, 1) := by decide +kernel
theorem dX12_init_186 : decode cX12_init 186 = .ok (.bipush 60, 2) := by decide +kernel
theorem dX12_init_188 : decode cX12_init 188 = .ok (.newarray .int, 2) := by decide +kernel
theorem dX12_init_190 : decode cX12_init 190 = .ok (.putfield 75, 3) := by decide +kernel
theorem dX12_init_193 : decode cX12_init 193 = .ok (.aload_n 0, 1) := by decide +kernel
theorem dX12_init_194 : decode cX12_init 194 = .ok (.bipush 60, 2) := by decide +kernel
theorem dX12_init_196 : decode cX12_init 196 = .ok (.newarray .int, 2) := by decide +kernel
theorem dX12_init_198 : decode cX12_init 198 = .ok (.putfield 78, 3) := by decide +kernel
theorem dX12_init_201 : decode cX12_init 201 = .ok (.aload_n 0, 1) := by decide +kernel
theorem dX12_init_202 : decode cX12_init 202 = .ok (.sipush 600, 3) := by decide +kernel
theorem dX12_init_205 : decode cX12_init 205 = .ok (.newarray .int, 2) := by decide +kernel
theorem dX12_init_207 : decode cX12_init 207 = .ok (.putfield 81, 3) := by decide +kernel
theorem dX12_init_210 : decode cX12_init 210 = .ok (.aload_n 0, 1) := by decide +kernel
theorem dX12_init_211 : decode cX12_init 211 = .ok (.bipush 101, 2) := by decide +kernel
theorem dX12_init_213 : decode cX12_init 213 = .ok (.newarray .int, 2) := by decide +kernel
theorem dX12_init_215 : decode cX12_init 215 = .ok (.putfield 84, 3) := by decide +kernel
theorem dX12_init_218 : decode cX12_init 218 = .ok (.aload_n 0, 1) := by decide +kernel
theorem dX12_init_219 : decode cX12_init 219 = .ok (.iconst 0, 1) := by decide +kernel
theorem dX12_init_220 : decode cX12_init 220 = .ok (.putfield 87, 3) := by decide +kernel
theorem dX12_init_223 : decode cX12_init 223 = .ok (.aload_n 0, 1) := by decide +kernel
theorem dX12_init_224 : decode cX12_init 224 = .ok (.iconst 0, 1) := by decide +kernel
theorem dX12_init_225 : decode cX12_init 225 = .ok (.putfield 90, 3) := by decide +kernel
theorem dX12_init_228 : decode cX12_init 228 = .ok (.aload_n 0, 1) := by decide +kernel
theorem dX12_init_229 : decode cX12_init 229 = .ok (.iconst 0, 1) := by decide +kernel
theorem dX12_init_230 : decode cX12_init 230 = .ok (.putfield 93, 3) := by decide +kernel
theorem dX12_init_233 : decode cX12_init 233 = .ok (.aload_n 0, 1) := by decide +kernel
theorem dX12_init_234 : decode cX12_init 234 = .ok (.bipush 16, 2) := by decide +kernel
theorem dX12_init_236 : decode cX12_init 236 = .ok (.newarray .int, 2) := by decide +kernel
theorem dX12_init_238 : decode cX12_init 238 = .ok (.dup, 1) := by decide +kernel
theorem dX12_init_239 : decode cX12_init 239 = .ok (.iconst 0, 1) := by decide +kernel
theorem dX12_init_240 : decode cX12_init 240 = .ok (.bipush 108, 2) := by decide +kernel
theorem dX12_init_242 : decode cX12_init 242 = .ok (.iastore, 1) := by decide +kernel
theorem dX12_init_243 : decode cX12_init 243 = .ok (.dup, 1) := by decide +kernel
theorem dX12_init_244 : decode cX12_init 244 = .ok (.iconst 1, 1) := by decide +kernel
theorem dX12_init_245 : decode cX12_init 245 = .ok (.bipush 101, 2) := by decide +kernel
theorem dX12_init_247 : decode cX12_init 247 = .ok (.iastore, 1) := by decide +kernel
theorem dX12_init_248 : decode cX12_init 248 = .ok (.dup, 1) := by decide +kernel
theorem dX12_init_249 : decode cX12_init 249 = .ok (.iconst 2, 1) := by decide +kernel
theorem dX12_init_250 : decode cX12_init 250 = .ok (.bipush 97, 2) := by decide +kernel
theorem dX12_init_252 : decode cX12_init 252 = .ok (.iastore, 1) := by decide +kernel
theorem dX12_init_253 : decode cX12_init 253 = .ok (.dup, 1) := by decide +kernel
theorem dX12_init_254 : decode cX12_init 254 = .ok (.iconst 3, 1) := by decide +kernel
theorem dX12_init_255 : decode cX12_init 255 = .ok (.bipush 114, 2) := by decide +kernel
theorem dX12_init_257 : decode cX12_init 257 = .ok (.iastore, 1) := by decide +kernel
theorem dX12_init_258 : decode cX12_init 258 = .ok (.dup, 1) := by decide +kernel
theorem dX12_init_259 : decode cX12_init 259 = .ok (.iconst 4, 1) := by decide +kernel
theorem dX12_init_260 : decode cX12_init 260 = .ok (.bipush 110, 2) := by decide +kernel
theorem dX12_init_262 : decode cX12_init 262 = .ok (.iastore, 1) := by decide +kernel
theorem dX12_init_263 : decode cX12_init 263 = .ok (.dup, 1) := by decide +kernel
theorem dX12_init_264 : decode cX12_init 264 = .ok (.iconst 5, 1) := by decide +kernel
theorem dX12_init_265 : decode cX12_init 265 = .ok (.bipush 108, 2) := by decide +kernel
theorem dX12_init_267 : decode cX12_init 267 = .ok (.iastore, 1) := by decide +kernel
theorem dX12_init_268 : decode cX12_init 268 = .ok (.dup, 1) := by decide +kernel
theorem dX12_init_269 : decode cX12_init 269 = .ok (.bipush 6, 2) := by decide +kernel
theorem dX12_init_271 : decode cX12_init 271 = .ok (.bipush 111, 2) := by decide +kernel
theorem dX12_init_273 : decode cX12_init 273 = .ok (.iastore, 1) := by decide +kernel
theorem dX12_init_274 : decode cX12_init 274 = .ok (.dup, 1) := by decide +kernel
theorem dX12_init_275 : decode cX12_init 275 = .ok (.bipush 7, 2) := by decide +kernel
theorem dX12_init_277 : decode cX12_init 277 = .ok (.bipush 117, 2) := by decide +kernel
theorem dX12_init_279 : decode cX12_init 279 = .ok (.iastore, 1) := by decide +kernel
theorem dX12_init_280 : decode cX12_init 280 = .ok (.dup, 1) := by decide +kernel
theorem dX12_init_281 : decode cX12_init 281 = .ok (.bipush 8, 2) := by decide +kernel
theorem dX12_init_283 : decode cX12_init 283 = .ok (.bipush 100, 2) := by decide +kernel
theorem dX12_init_285 : decode cX12_init 285 = .ok (.iastore, 1) := by decide +kernel
theorem dX12_init_286 : decode cX12_init 286 = .ok (.dup, 1) := by decide +kernel
theorem dX12_init_287 : decode cX12_init 287 = .ok (.bipush 9, 2) := by decide +kernel
theorem dX12_init_289 : decode cX12_init 289 = .ok (.bipush 98, 2) := by decide +kernel
theorem dX12_init_291 : decode cX12_init 291 = .ok (.iastore, 1) := by decide +kernel
theorem dX12_init_292 : decode cX12_init 292 = .ok (.dup, 1) := by decide +kernel
theorem dX12_init_293 : decode cX12_init 293 = .ok (.bipush 10, 2) := by decide +kernel
theorem dX12_init_295 : decode cX12_init 295 = .ok (.bipush 97, 2) := by decide +kernel
theorem dX12_init_297 : decode cX12_init 297 = .ok (.iastore, 1) := by decide +kernel
theorem dX12_init_298 : decode cX12_init 298 = .ok (.dup, 1) := by decide +kernel
theorem dX12_init_299 : decode cX12_init 299 = .ok (.bipush 11, 2) := by decide +kernel
theorem dX12_init_301 : decode cX12_init 301 = .ok (.bipush 114, 2) := by decide +kernel
theorem dX12_init_303 : decode cX12_init 303 = .ok (.iastore, 1) := by decide +kernel
theorem dX12_init_304 : decode cX12_init 304 = .ok (.dup, 1) := by decide +kernel
theorem dX12_init_305 : decode cX12_init 305 = .ok (.bipush 12, 2) := by decide +kernel
theorem dX12_init_307 : decode cX12_init 307 = .ok (.bipush 104, 2) := by decide +kernel
theorem dX12_init_309 : decode cX12_init 309 = .ok (.iastore, 1) := by decide +kernel
theorem dX12_init_310 : decode cX12_init 310 = .ok (.dup, 1) := by decide +kernel
theorem dX12_init_311 : decode cX12_init 311 = .ok (.bipush 13, 2) := by decide +kernel
theorem dX12_init_313 : decode cX12_init 313 = .ok (.bipush 117, 2) := by decide +kernel
theorem dX12_init_315 : decode cX12_init 315 = .ok (.iastore, 1) := by decide +kernel
theorem dX12_init_316 : decode cX12_init 316 = .ok (.dup, 1) := by decide +kernel
theorem dX12_init_317 : decode cX12_init 317 = .ok (.bipush 14, 2) := by decide +kernel
theorem dX12_init_319 : decode cX12_init 319 = .ok (.bipush 115, 2) := by decide +kernel
theorem dX12_init_321 : decode cX12_init 321 = .ok (.iastore, 1) := by decide +kernel
theorem dX12_init_322 : decode cX12_init 322 = .ok (.dup, 1) := by decide +kernel
theorem dX12_init_323 : decode cX12_init 323 = .ok (.bipush 15, 2) := by decide +kernel
theorem dX12_init_325 : decode cX12_init 325 = .ok (.bipush 104, 2) := by decide +kernel
theorem dX12_init_327 : decode cX12_init 327 = .ok (.iastore, 1) := by decide +kernel
theorem dX12_init_328 : decode cX12_init 328 = .ok (.putfield 96, 3) := by decide +kernel
theorem dX12_init_331 : decode cX12_init 331 = .ok (.aload_n 0, 1) := by decide +kernel
theorem dX12_init_332 : decode cX12_init 332 = .ok (.bipush 100, 2) := by decide +kernel
theorem dX12_init_334 : decode cX12_init 334 = .ok (.newarray .boolean, 2) := by decide +kernel
theorem dX12_init_336 : decode cX12_init 336 = .ok (.putfield 99, 3) := by decide +kernel
theorem dX12_init_339 : decode cX12_init 339 = .ok (.aload_n 0, 1) := by decide +kernel
theorem dX12_init_340 : decode cX12_init 340 = .ok (.sipush 128, 3) := by decide +kernel
theorem dX12_init_343 : decode cX12_init 343 = .ok (.newarray .int, 2) := by decide +kernel
theorem dX12_init_345 : decode cX12_init 345 = .ok (.putfield 102, 3) := by decide +kernel
theorem dX12_init_348 : decode cX12_init 348 = .ok (.aload_n 0, 1) := by decide +kernel
theorem dX12_init_349 : decode cX12_init 349 = .ok (.sipush 128, 3) := by decide +kernel
theorem dX12_init_352 : decode cX12_init 352 = .ok (.newarray .boolean, 2) := by decide +kernel
theorem dX12_init_354 : decode cX12_init 354 = .ok (.putfield 105, 3) := by decide +kernel
theorem dX12_init_357 : decode cX12_init 357 = .ok (.aload_n 0, 1) := by decide +kernel
theorem dX12_init_358 : decode cX12_init 358 = .ok (.bipush 8, 2) := by decide +kernel
theorem dX12_init_360 : decode cX12_init 360 = .ok (.newarray .int, 2) := by decide +kernel
theorem dX12_init_362 : decode cX12_init 362 = .ok (.putfield 108, 3) := by decide +kernel
theorem dX12_init_365 : decode cX12_init 365 = .ok (.aload_n 0, 1) := by decide +kernel
theorem dX12_init_366 : decode cX12_init 366 = .ok (.bipush 8, 2) := by decide +kernel
theorem dX12_init_368 : decode cX12_init 368 = .ok (.newarray .int, 2) := by decide +kernel
theorem dX12_init_370 : decode cX12_init 370 = .ok (.putfield 111, 3) := by decide +kernel
theorem dX12_init_373 : decode cX12_init 373 = .ok (.aload_n 0, 1) := by decide +kernel
theorem dX12_init_374 : decode cX12_init 374 = .ok (.iconst 0, 1) := by decide +kernel
theorem dX12_init_375 : decode cX12_init 375 = .ok (.putfield 114, 3) := by decide +kernel
theorem dX12_init_378 : decode cX12_init 378 = .ok (.aload_n 0, 1) := by decide +kernel
theorem dX12_init_379 : decode cX12_init 379 = .ok (.iconst 0, 1) := by decide +kernel
theorem dX12_init_380 : decode cX12_init 380 = .ok (.putfield 117, 3) := by decide +kernel
theorem dX12_init_383 : decode cX12_init 383 = .ok (.aload_n 0, 1) := by decide +kernel
theorem dX12_init_384 : decode cX12_init 384 = .ok (.iconst 0, 1) := by decide +kernel
theorem dX12_init_385 : decode cX12_init 385 = .ok (.putfield 120, 3) := by decide +kernel
theorem dX12_init_388 : decode cX12_init 388 = .ok (.aload_n 0, 1) := by decide +kernel
theorem dX12_init_389 : decode cX12_init 389 = .ok (.iconst (-1), 1) := by decide +kernel
theorem dX12_init_390 : decode cX12_init 390 = .ok (.putfield 124, 3) := by decide +kernel
theorem dX12_init_393 : decode cX12_init 393 = .ok (.aload_n 0, 1) := by decide +kernel
theorem dX12_init_394 : decode cX12_init 394 = .ok (.iconst 0, 1) := by decide +kernel
theorem dX12_init_395 : decode cX12_init 395 = .ok (.putfield 127, 3) := by decide +kernel
theorem dX12_init_398 : decode cX12_init 398 = .ok (.aload_n 0, 1) := by decide +kernel
theorem dX12_init_399 : decode cX12_init 399 = .ok (.iconst 0, 1) := by decide +kernel
theorem dX12_init_400 : decode cX12_init 400 = .ok (.putfield 130, 3) := by decide +kernel
theorem dX12_init_403 : decode cX12_init 403 = .ok (.aload_n 0, 1) := by decide +kernel
theorem dX12_init_404 : decode cX12_init 404 = .ok (.bipush 8, 2) := by decide +kernel
theorem dX12_init_406 : decode cX12_init 406 = .ok (.newarray .int, 2) := by decide +kernel
theorem dX12_init_408 : decode cX12_init 408 = .ok (.putfield 133, 3) := by decide +kernel
theorem dX12_init_411 : decode cX12_init 411 = .ok (.aload_n 0, 1) := by decide +kernel
theorem dX12_init_412 : decode cX12_init 412 = .ok (.bipush 8, 2) := by decide +kernel
theorem dX12_init_414 : decode cX12_init 414 = .ok (.newarray .int, 2) := by decide +kernel
theorem dX12_init_416 : decode cX12_init 416 = .ok (.putfield 136, 3) := by decide +kernel
theorem dX12_init_419 : decode cX12_init 419 = .ok (.aload_n 0, 1) := by decide +kernel
theorem dX12_init_420 : decode cX12_init 420 = .ok (.bipush 8, 2) := by decide +kernel
theorem dX12_init_422 : decode cX12_init 422 = .ok (.newarray .int, 2) := by decide +kernel
theorem dX12_init_424 : decode cX12_init 424 = .ok (.putfield 139, 3) := by decide +kernel
theorem dX12_init_427 : decode cX12_init 427 = .ok (.aload_n 0, 1) := by decide +kernel
theorem dX12_init_428 : decode cX12_init 428 = .ok (.bipush 8, 2) := by decide +kernel
theorem dX12_init_430 : decode cX12_init 430 = .ok (.newarray .boolean, 2) := by decide +kernel
theorem dX12_init_432 : decode cX12_init 432 = .ok (.putfield 142, 3) := by decide +kernel
theorem dX12_init_435 : decode cX12_init 435 = .ok (.aload_n 0, 1) := by decide +kernel
theorem dX12_init_436 : decode cX12_init 436 = .ok (.bipush 64, 2) := by decide +kernel
theorem dX12_init_438 : decode cX12_init 438 = .ok (.newarray .boolean, 2) := by decide +kernel
theorem dX12_init_440 : decode cX12_init 440 = .ok (.putfield 145, 3) := by decide +kernel
theorem dX12_init_443 : decode cX12_init 443 = .ok (.aload_n 0, 1) := by decide +kernel
theorem dX12_init_444 : decode cX12_init 444 = .ok (.iconst 0, 1) := by decide +kernel
theorem dX12_init_445 : decode cX12_init 445 = .ok (.putfield 148, 3) := by decide +kernel
theorem dX12_init_448 : decode cX12_init 448 = .ok (.aload_n 0, 1) := by decide +kernel
theorem dX12_init_449 : decode cX12_init 449 = .ok (.bipush 20, 2) := by decide +kernel
theorem dX12_init_451 : decode cX12_init 451 = .ok (.newarray .int, 2) := by decide +kernel
theorem dX12_init_453 : decode cX12_init 453 = .ok (.putfield 151, 3) := by decide +kernel
theorem dX12_init_456 : decode cX12_init 456 = .ok (.aload_n 0, 1) := by decide +kernel
theorem dX12_init_457 : decode cX12_init 457 = .ok (.bipush 6, 2) := by decide +kernel
theorem dX12_init_459 : decode cX12_init 459 = .ok (.newarray .int, 2) := by decide +kernel
theorem dX12_init_461 : decode cX12_init 461 = .ok (.dup, 1) := by decide +kernel
theorem dX12_init_462 : decode cX12_init 462 = .ok (.iconst 0, 1) := by decide +kernel
theorem dX12_init_463 : decode cX12_init 463 = .ok (.iconst (-1), 1) := by decide +kernel
theorem dX12_init_464 : decode cX12_init 464 = .ok (.iastore, 1) := by decide +kernel
theorem dX12_init_465 : decode cX12_init 465 = .ok (.dup, 1) := by decide +kernel
theorem dX12_init_466 : decode cX12_init 466 = .ok (.iconst 1, 1) := by decide +kernel
theorem dX12_init_467 : decode cX12_init 467 = .ok (.iconst (-1), 1) := by decide +kernel
theorem dX12_init_468 : decode cX12_init 468 = .ok (.iastore, 1) := by decide +kernel
theorem dX12_init_469 : decode cX12_init 469 = .ok (.dup, 1) := by decide +kernel
theorem dX12_init_470 : decode cX12_init 470 = .ok (.iconst 2, 1) := by decide +kernel
theorem dX12_init_471 : decode cX12_init 471 = .ok (.iconst (-1), 1) := by decide +kernel
theorem dX12_init_472 : decode cX12_init 472 = .ok (.iastore, 1) := by decide +kernel
theorem dX12_init_473 : decode cX12_init 473 = .ok (.dup, 1) := by decide +kernel
theorem dX12_init_474 : decode cX12_init 474 = .ok (.iconst 3, 1) := by decide +kernel
theorem dX12_init_475 : decode cX12_init 475 = .ok (.iconst (-1), 1) := by decide +kernel
theorem dX12_init_476 : decode cX12_init 476 = .ok (.iastore, 1) := by decide +kernel
theorem dX12_init_477 : decode cX12_init 477 = .ok (.dup, 1) := by decide +kernel
theorem dX12_init_478 : decode cX12_init 478 = .ok (.iconst 4, 1) := by decide +kernel
theorem dX12_init_479 : decode cX12_init 479 = .ok (.iconst (-1), 1) := by decide +kernel
theorem dX12_init_480 : decode cX12_init 480 = .ok (.iastore, 1) := by decide +kernel
theorem dX12_init_481 : decode cX12_init 481 = .ok (.dup, 1) := by decide +kernel
theorem dX12_init_482 : decode cX12_init 482 = .ok (.iconst 5, 1) := by decide +kernel
theorem dX12_init_483 : decode cX12_init 483 = .ok (.iconst (-1), 1) := by decide +kernel
theorem dX12_init_484 : decode cX12_init 484 = .ok (.iastore, 1) := by decide +kernel
theorem dX12_init_485 : decode cX12_init 485 = .ok (.putfield 154, 3) := by decide +kernel
theorem dX12_init_488 : decode cX12_init 488 = .ok (.aload_n 0, 1) := by decide +kernel
theorem dX12_init_489 : decode cX12_init 489 = .ok (.bipush 6, 2) := by decide +kernel
theorem dX12_init_491 : decode cX12_init 491 = .ok (.newarray .int, 2) := by decide +kernel
theorem dX12_init_493 : decode cX12_init 493 = .ok (.putfield 157, 3) := by decide +kernel
theorem dX12_init_496 : decode cX12_init 496 = .ok (.aload_n 0, 1) := by decide +kernel
theorem dX12_init_497 : decode cX12_init 497 = .ok (.sipush 360, 3) := by decide +kernel
theorem dX12_init_500 : decode cX12_init 500 = .ok (.newarray .long, 2) := by decide +kernel
theorem dX12_init_502 : decode cX12_init 502 = .ok (.putfield 160, 3) := by decide +kernel
theorem dX12_init_505 : decode cX12_init 505 = .ok (.aload_n 0, 1) := by decide +kernel
theorem dX12_init_506 : decode cX12_init 506 = .ok (.bipush 60, 2) := by decide +kernel
theorem dX12_init_508 : decode cX12_init 508 = .ok (.newarray .long, 2) := by decide +kernel
theorem dX12_init_510 : decode cX12_init 510 = .ok (.putfield 164, 3) := by decide +kernel
theorem dX12_init_513 : decode cX12_init 513 = .ok (.return_, 1) := by decide +kernel
theorem dX12_in_0 : decode cX12_in 0 = .ok (.iload_n 1, 1) := by decide +kernel
theorem dX12_in_1 : decode cX12_in 1 = .ok (.iload_n 2, 1) := by decide +kernel
theorem dX12_in_2 : decode cX12_in 2 = .ok (.if_icmp .lt 12, 3) := by decide +kernel
theorem dX12_in_5 : decode cX12_in 5 = .ok (.iload_n 1, 1) := by decide +kernel
theorem dX12_in_6 : decode cX12_in 6 = .ok (.iload_n 3, 1) := by decide +kernel
theorem dX12_in_7 : decode cX12_in 7 = .ok (.if_icmp .gt 7, 3) := by decide +kernel
theorem dX12_in_10 : decode cX12_in 10 = .ok (.iconst 1, 1) := by decide +kernel
theorem dX12_in_11 : decode cX12_in 11 = .ok (.goto 4, 3) := by decide +kernel
theorem dX12_in_14 : decode cX12_in 14 = .ok (.iconst 0, 1) := by decide +kernel
theorem dX12_in_15 : decode cX12_in 15 = .ok (.ireturn, 1) := by decide +kernel
theorem dX12_has_0 : decode cX12_has 0 = .ok (.iload_n 1, 1) := by decide +kernel
theorem dX12_has_1 : decode cX12_has 1 = .ok (.iload_n 2, 1) := by decide +kernel
theorem dX12_has_2 : decode cX12_has 2 = .ok (.ishr, 1) := by decide +kernel
theorem dX12_has_3 : decode cX12_has 3 = .ok (.iconst 1, 1) := by decide +kernel
theorem dX12_has_4 : decode cX12_has 4 = .ok (.iand, 1) := by decide +kernel
theorem dX12_has_5 : decode cX12_has 5 = .ok (.iconst 1, 1) := by decide +kernel
theorem dX12_has_6 : decode cX12_has 6 = .ok (.if_icmp .ne 7, 3) := by decide +kernel
theorem dX12_has_9 : decode cX12_has 9 = .ok (.iconst 1, 1) := by decide +kernel
theorem dX12_has_10 : decode cX12_has 10 = .ok (.goto 4, 3) := by decide +kernel
theorem dX12_has_13 : decode cX12_has 13 = .ok (.iconst 0, 1) := by decide +kernel
theorem dX12_has_14 : decode cX12_has 14 = .ok (.ireturn, 1) := by decide +kernel
theorem dX12_ones_0 : decode cX12_ones 0 = .ok (.iconst 0, 1) := by decide +kernel
theorem dX12_ones_1 : decode cX12_ones 1 = .ok (.istore_n 2, 1) := by decide +kernel
theorem dX12_ones_2 : decode cX12_ones 2 = .ok (.iload_n 1, 1) := by decide +kernel
theorem dX12_ones_3 : decode cX12_ones 3 = .ok (.istore_n 3, 1) := by decide +kernel
theorem dX12_ones_4 : decode cX12_ones 4 = .ok (.iload_n 3, 1) := by decide +kernel
theorem dX12_ones_5 : decode cX12_ones 5 = .ok (.ifCond .eq 15, 3) := by decide +kernel
theorem dX12_ones_8 : decode cX12_ones 8 = .ok (.iinc 2 1, 3) := by decide +kernel
theorem dX12_ones_11 : decode cX12_ones 11 = .ok (.iload_n 3, 1) := by decide +kernel
theorem dX12_ones_12 : decode cX12_ones 12 = .ok (.iload_n 3, 1) := by decide +kernel
theorem dX12_ones_13 : decode cX12_ones 13 = .ok (.iconst 1, 1) := by decide +kernel
theorem dX12_ones_14 : decode cX12_ones 14 = .ok (.isub, 1) := by decide +kernel
theorem dX12_ones_15 : decode cX12_ones 15 = .ok (.iand, 1) := by decide +kernel
theorem dX12_ones_16 : decode cX12_ones 16 = .ok (.istore_n 3, 1) := by decide +kernel
theorem dX12_ones_17 : decode cX12_ones 17 = .ok (.goto (-13), 3) := by decide +kernel
theorem dX12_ones_20 : decode cX12_ones 20 = .ok (.iload_n 2, 1) := by decide +kernel
theorem dX12_ones_21 : decode cX12_ones 21 = .ok (.ireturn, 1) := by decide +kernel
set_option maxRecDepth 20000 in
theorem ggX12_isPupil_X12_in : GoodIn wsX12_isPupil wsX12_in := goodIn_r _ [6] (by decide +kernel) (by decide +kernel)
set_option maxRecDepth 20000 in
theorem gX12_isPupil_X12_in : GoodIn wsX12_isPupil (wsV RX12 167 RX12 yX12_in wsX12_in) := goodIn_app (goodIn_of _ (by decide +kernel)) ggX12_isPupil_X12_in
theorem dX12_isPupil_0 : decode cX12_isPupil 0 = .ok (.aload_n 0, 1) := by decide +kernel
theorem dX12_isPupil_1 : decode cX12_isPupil 1 = .ok (.iload_n 1, 1) := by decide +kernel
theorem dX12_isPupil_2 : decode cX12_isPupil 2 = .ok (.iconst 0, 1) := by decide +kernel
theorem dX12_isPupil_3 : decode cX12_isPupil 3 = .ok (.aload_n 0, 1) := by decide +kernel
theorem dX12_isPupil_4 : decode cX12_isPupil 4 = .ok (.getfield 7, 3) := by decide +kernel
theorem dX12_isPupil_7 : decode cX12_isPupil 7 = .ok (.iconst 1, 1) := by decide +kernel
theorem dX12_isPupil_8 : decode cX12_isPupil 8 = .ok (.isub, 1) := by decide +kernel
theorem dX12_isPupil_9 : decode cX12_isPupil 9 = .ok (.invokevirtual 167, 3) := by decide +kernel
theorem dX12_isPupil_12 : decode cX12_isPupil 12 = .ok (.ireturn, 1) := by decide +kernel
set_option maxRecDepth 20000 in
theorem ggX12_isSeat_X12_in : GoodIn wsX12_isSeat wsX12_in := goodIn_r _ [5] (by decide +kernel) (by decide +kernel)
set_option maxRecDepth 20000 in
theorem gX12_isSeat_X12_in : GoodIn wsX12_isSeat (wsV RX12 167 RX12 yX12_in wsX12_in) := goodIn_app (goodIn_of _ (by decide +kernel)) ggX12_isSeat_X12_in
theorem dX12_isSeat_0 : decode cX12_isSeat 0 = .ok (.aload_n 0, 1) := by decide +kernel
theorem dX12_isSeat_1 : decode cX12_isSeat 1 = .ok (.iload_n 1, 1) := by decide +kernel
theorem dX12_isSeat_2 : decode cX12_isSeat 2 = .ok (.iconst 0, 1) := by decide +kernel
theorem dX12_isSeat_3 : decode cX12_isSeat 3 = .ok (.bipush 7, 2) := by decide +kernel
theorem dX12_isSeat_5 : decode cX12_isSeat 5 = .ok (.invokevirtual 167, 3) := by decide +kernel
theorem dX12_isSeat_8 : decode cX12_isSeat 8 = .ok (.ireturn, 1) := by decide +kernel
set_option maxRecDepth 20000 in
theorem ggX12_pupil_X12_in : GoodIn wsX12_pupil wsX12_in := goodIn_r _ [15] (by decide +kernel) (by decide +kernel)
set_option maxRecDepth 20000 in
theorem gX12_pupil_X12_in : GoodIn wsX12_pupil (wsV RX12 167 RX12 yX12_in wsX12_in) := goodIn_app (goodIn_of _ (by decide +kernel)) ggX12_pupil_X12_in
theorem dX12_pupil_0 : decode cX12_pupil 0 = .ok (.aload_n 0, 1) := by decide +kernel
theorem dX12_pupil_1 : decode cX12_pupil 1 = .ok (.iload_n 1, 1) := by decide +kernel
theorem dX12_pupil_2 : decode cX12_pupil 2 = .ok (.iconst 0, 1) := by decide +kernel
theorem dX12_pupil_3 : decode cX12_pupil 3 = .ok (.bipush 6, 2) := by decide +kernel
theorem dX12_pupil_5 : decode cX12_pupil 5 = .ok (.invokevirtual 167, 3) := by decide +kernel
theorem dX12_pupil_8 : decode cX12_pupil 8 = .ok (.ifCond .ne 5, 3) := by decide +kernel
theorem dX12_pupil_11 : decode cX12_pupil 11 = .ok (.iconst (-1), 1) := by decide +kernel
theorem dX12_pupil_12 : decode cX12_pupil 12 = .ok (.ireturn, 1) := by decide +kernel
theorem dX12_pupil_13 : decode cX12_pupil 13 = .ok (.aload_n 0, 1) := by decide +kernel
theorem dX12_pupil_14 : decode cX12_pupil 14 = .ok (.iload_n 2, 1) := by decide +kernel
theorem dX12_pupil_15 : decode cX12_pupil 15 = .ok (.iconst 0, 1) := by decide +kernel
theorem dX12_pupil_16 : decode cX12_pupil 16 = .ok (.bipush 9, 2) := by decide +kernel
theorem dX12_pupil_18 : decode cX12_pupil 18 = .ok (.invokevirtual 167, 3) := by decide +kernel
theorem dX12_pupil_21 : decode cX12_pupil 21 = .ok (.ifCond .eq 37, 3) := by decide +kernel
theorem dX12_pupil_24 : decode cX12_pupil 24 = .ok (.aload_n 0, 1) := by decide +kernel
theorem dX12_pupil_25 : decode cX12_pupil 25 = .ok (.iload_n 3, 1) := by decide +kernel
theorem dX12_pupil_26 : decode cX12_pupil 26 = .ok (.iconst 0, 1) := by decide +kernel
theorem dX12_pupil_27 : decode cX12_pupil 27 = .ok (.bipush 9, 2) := by decide +kernel
theorem dX12_pupil_29 : decode cX12_pupil 29 = .ok (.invokevirtual 167, 3) := by decide +kernel
theorem dX12_pupil_32 : decode cX12_pupil 32 = .ok (.ifCond .eq 26, 3) := by decide +kernel
theorem dX12_pupil_35 : decode cX12_pupil 35 = .ok (.aload_n 0, 1) := by decide +kernel
theorem dX12_pupil_36 : decode cX12_pupil 36 = .ok (.iload 4, 2) := by decide +kernel
theorem dX12_pupil_38 : decode cX12_pupil 38 = .ok (.iconst 0, 1) := by decide +kernel
theorem dX12_pupil_39 : decode cX12_pupil 39 = .ok (.bipush 9, 2) := by decide +kernel
theorem dX12_pupil_41 : decode cX12_pupil 41 = .ok (.invokevirtual 167, 3) := by decide +kernel
theorem dX12_pupil_44 : decode cX12_pupil 44 = .ok (.ifCond .eq 14, 3) := by decide +kernel
theorem dX12_pupil_47 : decode cX12_pupil 47 = .ok (.aload_n 0, 1) := by decide +kernel
theorem dX12_pupil_48 : decode cX12_pupil 48 = .ok (.iload 5, 2) := by decide +kernel
theorem dX12_pupil_50 : decode cX12_pupil 50 = .ok (.iconst 0, 1) := by decide +kernel
theorem dX12_pupil_51 : decode cX12_pupil 51 = .ok (.iconst 2, 1) := by decide +kernel
theorem dX12_pupil_52 : decode cX12_pupil 52 = .ok (.invokevirtual 167, 3) := by decide +kernel
theorem dX12_pupil_55 : decode cX12_pupil 55 = .ok (.ifCond .ne 6, 3) := by decide +kernel
theorem dX12_pupil_58 : decode cX12_pupil 58 = .ok (.bipush (-2), 2) := by decide +kernel
theorem dX12_pupil_60 : decode cX12_pupil 60 = .ok (.ireturn, 1) := by decide +kernel
theorem dX12_pupil_61 : decode cX12_pupil 61 = .ok (.aload_n 0, 1) := by decide +kernel
theorem dX12_pupil_62 : decode cX12_pupil 62 = .ok (.getfield 7, 3) := by decide +kernel
theorem dX12_pupil_65 : decode cX12_pupil 65 = .ok (.bipush 8, 2) := by decide +kernel
theorem dX12_pupil_67 : decode cX12_pupil 67 = .ok (.if_icmp .ne 6, 3) := by decide +kernel
theorem dX12_pupil_70 : decode cX12_pupil 70 = .ok (.bipush (-4), 2) := by decide +kernel
theorem dX12_pupil_72 : decode cX12_pupil 72 = .ok (.ireturn, 1) := by decide +kernel
theorem dX12_pupil_73 : decode cX12_pupil 73 = .ok (.aload_n 0, 1) := by decide +kernel
theorem dX12_pupil_74 : decode cX12_pupil 74 = .ok (.getfield 7, 3) := by decide +kernel
theorem dX12_pupil_77 : decode cX12_pupil 77 = .ok (.istore 6, 2) := by decide +kernel
theorem dX12_pupil_79 : decode cX12_pupil 79 = .ok (.aload_n 0, 1) := by decide +kernel
theorem dX12_pupil_80 : decode cX12_pupil 80 = .ok (.getfield 16, 3) := by decide +kernel
theorem dX12_pupil_83 : decode cX12_pupil 83 = .ok (.iload 6, 2) := by decide +kernel
theorem dX12_pupil_85 : decode cX12_pupil 85 = .ok (.iload_n 1, 1) := by decide +kernel
theorem dX12_pupil_86 : decode cX12_pupil 86 = .ok (.iastore, 1) := by decide +kernel
theorem dX12_pupil_87 : decode cX12_pupil 87 = .ok (.aload_n 0, 1) := by decide +kernel
theorem dX12_pupil_88 : decode cX12_pupil 88 = .ok (.getfield 20, 3) := by decide +kernel
theorem dX12_pupil_91 : decode cX12_pupil 91 = .ok (.iload 6, 2) := by decide +kernel
theorem dX12_pupil_93 : decode cX12_pupil 93 = .ok (.iload_n 2, 1) := by decide +kernel
theorem dX12_pupil_94 : decode cX12_pupil 94 = .ok (.iastore, 1) := by decide +kernel
theorem dX12_pupil_95 : decode cX12_pupil 95 = .ok (.aload_n 0, 1) := by decide +kernel
theorem dX12_pupil_96 : decode cX12_pupil 96 = .ok (.getfield 23, 3) := by decide +kernel
theorem dX12_pupil_99 : decode cX12_pupil 99 = .ok (.iload 6, 2) := by decide +kernel
theorem dX12_pupil_101 : decode cX12_pupil 101 = .ok (.iload_n 3, 1) := by decide +kernel
theorem dX12_pupil_102 : decode cX12_pupil 102 = .ok (.iastore, 1) := by decide +kernel
theorem dX12_pupil_103 : decode cX12_pupil 103 = .ok (.aload_n 0, 1) := by decide +kernel
theorem dX12_pupil_104 : decode cX12_pupil 104 = .ok (.getfield 26, 3) := by decide +kernel
theorem dX12_pupil_107 : decode cX12_pupil 107 = .ok (.iload 6, 2) := by decide +kernel
theorem dX12_pupil_109 : decode cX12_pupil 109 = .ok (.iload 4, 2) := by decide +kernel
theorem dX12_pupil_111 : decode cX12_pupil 111 = .ok (.iastore, 1) := by decide +kernel
theorem dX12_pupil_112 : decode cX12_pupil 112 = .ok (.aload_n 0, 1) := by decide +kernel
theorem dX12_pupil_113 : decode cX12_pupil 113 = .ok (.getfield 29, 3) := by decide +kernel
theorem dX12_pupil_116 : decode cX12_pupil 116 = .ok (.iload 6, 2) := by decide +kernel
theorem dX12_pupil_118 : decode cX12_pupil 118 = .ok (.iload 5, 2) := by decide +kernel
theorem dX12_pupil_120 : decode cX12_pupil 120 = .ok (.iastore, 1) := by decide +kernel
theorem dX12_pupil_121 : decode cX12_pupil 121 = .ok (.aload_n 0, 1) := by decide +kernel
theorem dX12_pupil_122 : decode cX12_pupil 122 = .ok (.getfield 32, 3) := by decide +kernel
theorem dX12_pupil_125 : decode cX12_pupil 125 = .ok (.iload 6, 2) := by decide +kernel
theorem dX12_pupil_127 : decode cX12_pupil 127 = .ok (.iconst (-1), 1) := by decide +kernel
theorem dX12_pupil_128 : decode cX12_pupil 128 = .ok (.iastore, 1) := by decide +kernel
theorem dX12_pupil_129 : decode cX12_pupil 129 = .ok (.aload_n 0, 1) := by decide +kernel
theorem dX12_pupil_130 : decode cX12_pupil 130 = .ok (.getfield 41, 3) := by decide +kernel
theorem dX12_pupil_133 : decode cX12_pupil 133 = .ok (.iload 6, 2) := by decide +kernel
theorem dX12_pupil_135 : decode cX12_pupil 135 = .ok (.iconst 0, 1) := by decide +kernel
theorem dX12_pupil_136 : decode cX12_pupil 136 = .ok (.bastore, 1) := by decide +kernel
theorem dX12_pupil_137 : decode cX12_pupil 137 = .ok (.iconst 0, 1) := by decide +kernel
theorem dX12_pupil_138 : decode cX12_pupil 138 = .ok (.istore 7, 2) := by decide +kernel
theorem dX12_pupil_140 : decode cX12_pupil 140 = .ok (.aload_n 0, 1) := by decide +kernel
theorem dX12_pupil_141 : decode cX12_pupil 141 = .ok (.getfield 38, 3) := by decide +kernel
theorem dX12_pupil_144 : decode cX12_pupil 144 = .ok (.iload 7, 2) := by decide +kernel
theorem dX12_pupil_146 : decode cX12_pupil 146 = .ok (.iaload, 1) := by decide +kernel
theorem dX12_pupil_147 : decode cX12_pupil 147 = .ok (.ifCond .lt 9, 3) := by decide +kernel
theorem dX12_pupil_150 : decode cX12_pupil 150 = .ok (.iinc 7 1, 3) := by decide +kernel
theorem dX12_pupil_153 : decode cX12_pupil 153 = .ok (.goto (-13), 3) := by decide +kernel
theorem dX12_pupil_156 : decode cX12_pupil 156 = .ok (.aload_n 0, 1) := by decide +kernel
theorem dX12_pupil_157 : decode cX12_pupil 157 = .ok (.getfield 35, 3) := by decide +kernel
theorem dX12_pupil_160 : decode cX12_pupil 160 = .ok (.iload 6, 2) := by decide +kernel
theorem dX12_pupil_162 : decode cX12_pupil 162 = .ok (.iload 7, 2) := by decide +kernel
theorem dX12_pupil_164 : decode cX12_pupil 164 = .ok (.iastore, 1) := by decide +kernel
theorem dX12_pupil_165 : decode cX12_pupil 165 = .ok (.aload_n 0, 1) := by decide +kernel
theorem dX12_pupil_166 : decode cX12_pupil 166 = .ok (.getfield 38, 3) := by decide +kernel
theorem dX12_pupil_169 : decode cX12_pupil 169 = .ok (.iload 7, 2) := by decide +kernel
theorem dX12_pupil_171 : decode cX12_pupil 171 = .ok (.iload 6, 2) := by decide +kernel
theorem dX12_pupil_173 : decode cX12_pupil 173 = .ok (.iastore, 1) := by decide +kernel
theorem dX12_pupil_174 : decode cX12_pupil 174 = .ok (.aload_n 0, 1) := by decide +kernel
theorem dX12_pupil_175 : decode cX12_pupil 175 = .ok (.dup, 1) := by decide +kernel
theorem dX12_pupil_176 : decode cX12_pupil 176 = .ok (.getfield 7, 3) := by decide +kernel
theorem dX12_pupil_179 : decode cX12_pupil 179 = .ok (.iconst 1, 1) := by decide +kernel
theorem dX12_pupil_180 : decode cX12_pupil 180 = .ok (.iadd, 1) := by decide +kernel
theorem dX12_pupil_181 : decode cX12_pupil 181 = .ok (.putfield 7, 3) := by decide +kernel
theorem dX12_pupil_184 : decode cX12_pupil 184 = .ok (.iload 6, 2) := by decide +kernel
theorem dX12_pupil_186 : decode cX12_pupil 186 = .ok (.ireturn, 1) := by decide +kernel
set_option maxRecDepth 20000 in
theorem ggX12_of_X12_isPupil : GoodIn wsX12_of wsX12_isPupil := goodIn_r _ [14, 15, 16, 17, 18, 13, 19, 20, 21, 22, 23, 24, 25, 26, 27, 28, 29, 30, 31, 32, 33, 34, 35, 36, 37, 38, 39, 40, 41, 42, 43, 44, 45, 46, 47, 48, 49, 50, 51, 52, 53, 54, 55, 56, 57, 58, 59, 60, 61, 62, 63, 64, 65, 66, 67, 68, 69, 70] (by decide +kernel) (by decide +kernel)
set_option maxRecDepth 20000 in
theorem gX12_of_X12_isPupil : GoodIn wsX12_of (wsV RX12 171 RX12 yX12_isPupil wsX12_isPupil) := goodIn_app (goodIn_of _ (by decide +kernel)) ggX12_of_X12_isPupil
theorem dX12_of_0 : decode cX12_of 0 = .ok (.aload_n 0, 1) := by decide +kernel
theorem dX12_of_1 : decode cX12_of 1 = .ok (.iload_n 1, 1) := by decide +kernel
theorem dX12_of_2 : decode cX12_of 2 = .ok (.invokevirtual 171, 3) := by decide +kernel
theorem dX12_of_5 : decode cX12_of 5 = .ok (.ifCond .ne 5, 3) := by decide +kernel
theorem dX12_of_8 : decode cX12_of 8 = .ok (.iconst (-1), 1) := by decide +kernel
theorem dX12_of_9 : decode cX12_of 9 = .ok (.ireturn, 1) := by decide +kernel
theorem dX12_of_10 : decode cX12_of 10 = .ok (.aload_n 0, 1) := by decide +kernel
theorem dX12_of_11 : decode cX12_of 11 = .ok (.getfield 38, 3) := by decide +kernel
theorem dX12_of_14 : decode cX12_of 14 = .ok (.aload_n 0, 1) := by decide +kernel
theorem dX12_of_15 : decode cX12_of 15 = .ok (.getfield 35, 3) := by decide +kernel
theorem dX12_of_18 : decode cX12_of 18 = .ok (.iload_n 1, 1) := by decide +kernel
theorem dX12_of_19 : decode cX12_of 19 = .ok (.iaload, 1) := by decide +kernel
theorem dX12_of_20 : decode cX12_of 20 = .ok (.iconst 1, 1) := by decide +kernel
theorem dX12_of_21 : decode cX12_of 21 = .ok (.ixor, 1) := by decide +kernel
theorem dX12_of_22 : decode cX12_of 22 = .ok (.iaload, 1) := by decide +kernel
theorem dX12_of_23 : decode cX12_of 23 = .ok (.istore_n 3, 1) := by decide +kernel
theorem dX12_of_24 : decode cX12_of 24 = .ok (.iload_n 2, 1) := by decide +kernel
theorem dX12_of_25 : decode cX12_of 25 = .ok (.tableswitch 140 0 8 #[51, 58, 65, 72, 79, 86, 101, 122, 129], 51) := by decide +kernel
theorem dX12_of_76 : decode cX12_of 76 = .ok (.aload_n 0, 1) := by decide +kernel
theorem dX12_of_77 : decode cX12_of 77 = .ok (.getfield 16, 3) := by decide +kernel
theorem dX12_of_80 : decode cX12_of 80 = .ok (.iload_n 1, 1) := by decide +kernel
theorem dX12_of_81 : decode cX12_of 81 = .ok (.iaload, 1) := by decide +kernel
theorem dX12_of_82 : decode cX12_of 82 = .ok (.ireturn, 1) := by decide +kernel
theorem dX12_of_83 : decode cX12_of 83 = .ok (.aload_n 0, 1) := by decide +kernel
theorem dX12_of_84 : decode cX12_of 84 = .ok (.getfield 20, 3) := by decide +kernel
theorem dX12_of_87 : decode cX12_of 87 = .ok (.iload_n 1, 1) := by decide +kernel
theorem dX12_of_88 : decode cX12_of 88 = .ok (.iaload, 1) := by decide +kernel
theorem dX12_of_89 : decode cX12_of 89 = .ok (.ireturn, 1) := by decide +kernel
theorem dX12_of_90 : decode cX12_of 90 = .ok (.aload_n 0, 1) := by decide +kernel
theorem dX12_of_91 : decode cX12_of 91 = .ok (.getfield 23, 3) := by decide +kernel
theorem dX12_of_94 : decode cX12_of 94 = .ok (.iload_n 1, 1) := by decide +kernel
theorem dX12_of_95 : decode cX12_of 95 = .ok (.iaload, 1) := by decide +kernel
theorem dX12_of_96 : decode cX12_of 96 = .ok (.ireturn, 1) := by decide +kernel
theorem dX12_of_97 : decode cX12_of 97 = .ok (.aload_n 0, 1) := by decide +kernel
theorem dX12_of_98 : decode cX12_of 98 = .ok (.getfield 26, 3) := by decide +kernel
theorem dX12_of_101 : decode cX12_of 101 = .ok (.iload_n 1, 1) := by decide +kernel
theorem dX12_of_102 : decode cX12_of 102 = .ok (.iaload, 1) := by decide +kernel
theorem dX12_of_103 : decode cX12_of 103 = .ok (.ireturn, 1) := by decide +kernel
theorem dX12_of_104 : decode cX12_of 104 = .ok (.aload_n 0, 1) := by decide +kernel
theorem dX12_of_105 : decode cX12_of 105 = .ok (.getfield 29, 3) := by decide +kernel
theorem dX12_of_108 : decode cX12_of 108 = .ok (.iload_n 1, 1) := by decide +kernel
theorem dX12_of_109 : decode cX12_of 109 = .ok (.iaload, 1) := by decide +kernel
theorem dX12_of_110 : decode cX12_of 110 = .ok (.ireturn, 1) := by decide +kernel
theorem dX12_of_111 : decode cX12_of 111 = .ok (.aload_n 0, 1) := by decide +kernel
theorem dX12_of_112 : decode cX12_of 112 = .ok (.getfield 41, 3) := by decide +kernel
theorem dX12_of_115 : decode cX12_of 115 = .ok (.iload_n 1, 1) := by decide +kernel
theorem dX12_of_116 : decode cX12_of 116 = .ok (.baload, 1) := by decide +kernel
theorem dX12_of_117 : decode cX12_of 117 = .ok (.ifCond .eq 7, 3) := by decide +kernel
theorem dX12_of_120 : decode cX12_of 120 = .ok (.iconst 1, 1) := by decide +kernel
theorem dX12_of_121 : decode cX12_of 121 = .ok (.goto 4, 3) := by decide +kernel
theorem dX12_of_124 : decode cX12_of 124 = .ok (.iconst 0, 1) := by decide +kernel
theorem dX12_of_125 : decode cX12_of 125 = .ok (.ireturn, 1) := by decide +kernel
theorem dX12_of_126 : decode cX12_of 126 = .ok (.aload_n 0, 1) := by decide +kernel
theorem dX12_of_127 : decode cX12_of 127 = .ok (.getfield 32, 3) := by decide +kernel
theorem dX12_of_130 : decode cX12_of 130 = .ok (.iload_n 1, 1) := by decide +kernel
theorem dX12_of_131 : decode cX12_of 131 = .ok (.iaload, 1) := by decide +kernel
theorem dX12_of_132 : decode cX12_of 132 = .ok (.ifCond .ge 8, 3) := by decide +kernel
theorem dX12_of_135 : decode cX12_of 135 = .ok (.bipush (-5), 2) := by decide +kernel
theorem dX12_of_137 : decode cX12_of 137 = .ok (.goto 9, 3) := by decide +kernel
theorem dX12_of_140 : decode cX12_of 140 = .ok (.aload_n 0, 1) := by decide +kernel
theorem dX12_of_141 : decode cX12_of 141 = .ok (.getfield 32, 3) := by decide +kernel
theorem dX12_of_144 : decode cX12_of 144 = .ok (.iload_n 1, 1) := by decide +kernel
theorem dX12_of_145 : decode cX12_of 145 = .ok (.iaload, 1) := by decide +kernel
theorem dX12_of_146 : decode cX12_of 146 = .ok (.ireturn, 1) := by decide +kernel
theorem dX12_of_147 : decode cX12_of 147 = .ok (.aload_n 0, 1) := by decide +kernel
theorem dX12_of_148 : decode cX12_of 148 = .ok (.getfield 35, 3) := by decide +kernel
theorem dX12_of_151 : decode cX12_of 151 = .ok (.iload_n 1, 1) := by decide +kernel
theorem dX12_of_152 : decode cX12_of 152 = .ok (.iaload, 1) := by decide +kernel
theorem dX12_of_153 : decode cX12_of 153 = .ok (.ireturn, 1) := by decide +kernel
theorem dX12_of_154 : decode cX12_of 154 = .ok (.iload_n 3, 1) := by decide +kernel
theorem dX12_of_155 : decode cX12_of 155 = .ok (.ifCond .ge 8, 3) := by decide +kernel
theorem dX12_of_158 : decode cX12_of 158 = .ok (.bipush (-5), 2) := by decide +kernel
theorem dX12_of_160 : decode cX12_of 160 = .ok (.goto 4, 3) := by decide +kernel
theorem dX12_of_163 : decode cX12_of 163 = .ok (.iload_n 3, 1) := by decide +kernel
theorem dX12_of_164 : decode cX12_of 164 = .ok (.ireturn, 1) := by decide +kernel
theorem dX12_of_165 : decode cX12_of 165 = .ok (.iconst (-1), 1) := by decide +kernel
theorem dX12_of_166 : decode cX12_of 166 = .ok (.ireturn, 1) := by decide +kernel
set_option maxRecDepth 20000 in
theorem ggX12_front_X12_isPupil : GoodIn wsX12_front wsX12_isPupil := goodIn_r _ [6, 7, 8, 9, 10, 5, 11, 12, 13, 14, 15, 16, 17, 18, 19, 20, 21, 22, 23, 24, 25, 26, 27, 28, 29, 30, 31, 32, 33, 34, 35, 36, 37, 38, 39, 40, 41, 42, 43, 44, 45, 46, 47, 48, 49, 50, 51, 52, 53, 54, 55, 56, 57, 58, 59, 60, 61, 62] (by decide +kernel) (by decide +kernel)
set_option maxRecDepth 20000 in
theorem gX12_front_X12_isPupil : GoodIn wsX12_front (wsV RX12 171 RX12 yX12_isPupil wsX12_isPupil) := goodIn_app (goodIn_of _ (by decide +kernel)) ggX12_front_X12_isPupil
theorem dX12_front_0 : decode cX12_front 0 = .ok (.aload_n 0, 1) := by decide +kernel
theorem dX12_front_1 : decode cX12_front 1 = .ok (.iload_n 1, 1) := by decide +kernel
theorem dX12_front_2 : decode cX12_front 2 = .ok (.invokevirtual 171, 3) := by decide +kernel
theorem dX12_front_5 : decode cX12_front 5 = .ok (.ifCond .ne 5, 3) := by decide +kernel
theorem dX12_front_8 : decode cX12_front 8 = .ok (.iconst (-1), 1) := by decide +kernel
theorem dX12_front_9 : decode cX12_front 9 = .ok (.ireturn, 1) := by decide +kernel
theorem dX12_front_10 : decode cX12_front 10 = .ok (.aload_n 0, 1) := by decide +kernel
theorem dX12_front_11 : decode cX12_front 11 = .ok (.getfield 41, 3) := by decide +kernel
theorem dX12_front_14 : decode cX12_front 14 = .ok (.iload_n 1, 1) := by decide +kernel
theorem dX12_front_15 : decode cX12_front 15 = .ok (.baload, 1) := by decide +kernel
theorem dX12_front_16 : decode cX12_front 16 = .ok (.ifCond .eq 7, 3) := by decide +kernel
theorem dX12_front_19 : decode cX12_front 19 = .ok (.iconst 1, 1) := by decide +kernel
theorem dX12_front_20 : decode cX12_front 20 = .ok (.goto 4, 3) := by decide +kernel
theorem dX12_front_23 : decode cX12_front 23 = .ok (.iconst 0, 1) := by decide +kernel
theorem dX12_front_24 : decode cX12_front 24 = .ok (.istore_n 3, 1) := by decide +kernel
theorem dX12_front_25 : decode cX12_front 25 = .ok (.aload_n 0, 1) := by decide +kernel
theorem dX12_front_26 : decode cX12_front 26 = .ok (.getfield 41, 3) := by decide +kernel
theorem dX12_front_29 : decode cX12_front 29 = .ok (.iload_n 1, 1) := by decide +kernel
theorem dX12_front_30 : decode cX12_front 30 = .ok (.iload_n 2, 1) := by decide +kernel
theorem dX12_front_31 : decode cX12_front 31 = .ok (.bastore, 1) := by decide +kernel
theorem dX12_front_32 : decode cX12_front 32 = .ok (.iload_n 3, 1) := by decide +kernel
theorem dX12_front_33 : decode cX12_front 33 = .ok (.ireturn, 1) := by decide +kernel
set_option maxRecDepth 20000 in
theorem ggX12_name_X12_isPupil : GoodIn wsX12_name wsX12_isPupil := goodIn_r _ [6, 7, 8, 9, 10, 5, 11, 12, 13, 14, 15, 16, 17, 18, 19, 20, 21, 22, 23, 24, 25, 26, 27, 28, 29, 30, 31, 32, 33, 34, 35, 36, 37, 38, 39, 40, 41, 42, 43, 44, 45, 46, 47, 48, 49, 50, 51, 52, 53, 54, 55, 56, 57, 58, 59, 60, 61, 62] (by decide +kernel) (by decide +kernel)
set_option maxRecDepth 20000 in
theorem gX12_name_X12_isPupil : GoodIn wsX12_name (wsV RX12 171 RX12 yX12_isPupil wsX12_isPupil) := goodIn_app (goodIn_of _ (by decide +kernel)) ggX12_name_X12_isPupil
theorem dX12_name_0 : decode cX12_name 0 = .ok (.aload_n 0, 1) := by decide +kernel
theorem dX12_name_1 : decode cX12_name 1 = .ok (.iload_n 1, 1) := by decide +kernel
theorem dX12_name_2 : decode cX12_name 2 = .ok (.invokevirtual 171, 3) := by decide +kernel
theorem dX12_name_5 : decode cX12_name 5 = .ok (.ifCond .eq 16, 3) := by decide +kernel
theorem dX12_name_8 : decode cX12_name 8 = .ok (.iload_n 2, 1) := by decide +kernel
theorem dX12_name_9 : decode cX12_name 9 = .ok (.iconst (-1), 1) := by decide +kernel
theorem dX12_name_10 : decode cX12_name 10 = .ok (.if_icmp .eq 13, 3) := by decide +kernel
theorem dX12_name_13 : decode cX12_name 13 = .ok (.aload_n 0, 1) := by decide +kernel
theorem dX12_name_14 : decode cX12_name 14 = .ok (.iload_n 2, 1) := by decide +kernel
theorem dX12_name_15 : decode cX12_name 15 = .ok (.invokevirtual 171, 3) := by decide +kernel
theorem dX12_name_18 : decode cX12_name 18 = .ok (.ifCond .ne 5, 3) := by decide +kernel
theorem dX12_name_21 : decode cX12_name 21 = .ok (.iconst (-1), 1) := by decide +kernel
theorem dX12_name_22 : decode cX12_name 22 = .ok (.ireturn, 1) := by decide +kernel
theorem dX12_name_23 : decode cX12_name 23 = .ok (.iload_n 1, 1) := by decide +kernel
theorem dX12_name_24 : decode cX12_name 24 = .ok (.iload_n 2, 1) := by decide +kernel
theorem dX12_name_25 : decode cX12_name 25 = .ok (.if_icmp .ne 6, 3) := by decide +kernel
theorem dX12_name_28 : decode cX12_name 28 = .ok (.bipush (-2), 2) := by decide +kernel
theorem dX12_name_30 : decode cX12_name 30 = .ok (.ireturn, 1) := by decide +kernel
theorem dX12_name_31 : decode cX12_name 31 = .ok (.aload_n 0, 1) := by decide +kernel
theorem dX12_name_32 : decode cX12_name 32 = .ok (.getfield 32, 3) := by decide +kernel
theorem dX12_name_35 : decode cX12_name 35 = .ok (.iload_n 1, 1) := by decide +kernel
theorem dX12_name_36 : decode cX12_name 36 = .ok (.iaload, 1) := by decide +kernel
theorem dX12_name_37 : decode cX12_name 37 = .ok (.istore_n 3, 1) := by decide +kernel
theorem dX12_name_38 : decode cX12_name 38 = .ok (.aload_n 0, 1) := by decide +kernel
theorem dX12_name_39 : decode cX12_name 39 = .ok (.getfield 32, 3) := by decide +kernel
theorem dX12_name_42 : decode cX12_name 42 = .ok (.iload_n 1, 1) := by decide +kernel
theorem dX12_name_43 : decode cX12_name 43 = .ok (.iload_n 2, 1) := by decide +kernel
theorem dX12_name_44 : decode cX12_name 44 = .ok (.iastore, 1) := by decide +kernel
theorem dX12_name_45 : decode cX12_name 45 = .ok (.iload_n 3, 1) := by decide +kernel
theorem dX12_name_46 : decode cX12_name 46 = .ok (.ifCond .ge 8, 3) := by decide +kernel
theorem dX12_name_49 : decode cX12_name 49 = .ok (.bipush (-5), 2) := by decide +kernel
theorem dX12_name_51 : decode cX12_name 51 = .ok (.goto 4, 3) := by decide +kernel
theorem dX12_name_54 : decode cX12_name 54 = .ok (.iload_n 3, 1) := by decide +kernel
theorem dX12_name_55 : decode cX12_name 55 = .ok (.ireturn, 1) := by decide +kernel
set_option maxRecDepth 20000 in
theorem ggX12_sit_X12_isPupil : GoodIn wsX12_sit wsX12_isPupil := goodIn_r _ [7, 8, 9, 10, 11, 6, 12, 17, 18, 19, 20, 21, 22, 23, 24, 25, 26, 27, 28, 29, 30, 31, 32, 33, 34, 35, 36, 37, 38, 39, 40, 41, 42, 43, 44, 45, 46, 47, 48, 49, 50, 51, 52, 53, 54, 55, 56, 57, 58, 59, 60, 61, 62, 63, 64, 65, 66, 67] (by decide +kernel) (by decide +kernel)
set_option maxRecDepth 20000 in
theorem gX12_sit_X12_isPupil : GoodIn wsX12_sit (wsV RX12 171 RX12 yX12_isPupil wsX12_isPupil) := goodIn_app (goodIn_of _ (by decide +kernel)) ggX12_sit_X12_isPupil
set_option maxRecDepth 20000 in
theorem ggX12_sit_X12_isSeat : GoodIn wsX12_sit wsX12_isSeat := goodIn_r _ [16, 9, 10, 11, 6, 12] (by decide +kernel) (by decide +kernel)
set_option maxRecDepth 20000 in
theorem gX12_sit_X12_isSeat : GoodIn wsX12_sit (wsV RX12 175 RX12 yX12_isSeat wsX12_isSeat) := goodIn_app (goodIn_of _ (by decide +kernel)) ggX12_sit_X12_isSeat
theorem dX12_sit_0 : decode cX12_sit 0 = .ok (.aload_n 0, 1) := by decide +kernel
theorem dX12_sit_1 : decode cX12_sit 1 = .ok (.iload_n 1, 1) := by decide +kernel
theorem dX12_sit_2 : decode cX12_sit 2 = .ok (.invokevirtual 171, 3) := by decide +kernel
theorem dX12_sit_5 : decode cX12_sit 5 = .ok (.ifCond .eq 11, 3) := by decide +kernel
theorem dX12_sit_8 : decode cX12_sit 8 = .ok (.aload_n 0, 1) := by decide +kernel
theorem dX12_sit_9 : decode cX12_sit 9 = .ok (.iload_n 2, 1) := by decide +kernel
theorem dX12_sit_10 : decode cX12_sit 10 = .ok (.invokevirtual 175, 3) := by decide +kernel
theorem dX12_sit_13 : decode cX12_sit 13 = .ok (.ifCond .ne 5, 3) := by decide +kernel
theorem dX12_sit_16 : decode cX12_sit 16 = .ok (.iconst (-1), 1) := by decide +kernel
theorem dX12_sit_17 : decode cX12_sit 17 = .ok (.ireturn, 1) := by decide +kernel
theorem dX12_sit_18 : decode cX12_sit 18 = .ok (.aload_n 0, 1) := by decide +kernel
theorem dX12_sit_19 : decode cX12_sit 19 = .ok (.getfield 35, 3) := by decide +kernel
theorem dX12_sit_22 : decode cX12_sit 22 = .ok (.iload_n 1, 1) := by decide +kernel
theorem dX12_sit_23 : decode cX12_sit 23 = .ok (.iaload, 1) := by decide +kernel
theorem dX12_sit_24 : decode cX12_sit 24 = .ok (.istore_n 3, 1) := by decide +kernel
theorem dX12_sit_25 : decode cX12_sit 25 = .ok (.aload_n 0, 1) := by decide +kernel
theorem dX12_sit_26 : decode cX12_sit 26 = .ok (.getfield 38, 3) := by decide +kernel
theorem dX12_sit_29 : decode cX12_sit 29 = .ok (.iload_n 2, 1) := by decide +kernel
theorem dX12_sit_30 : decode cX12_sit 30 = .ok (.iaload, 1) := by decide +kernel
theorem dX12_sit_31 : decode cX12_sit 31 = .ok (.istore 4, 2) := by decide +kernel
theorem dX12_sit_33 : decode cX12_sit 33 = .ok (.aload_n 0, 1) := by decide +kernel
theorem dX12_sit_34 : decode cX12_sit 34 = .ok (.getfield 38, 3) := by decide +kernel
theorem dX12_sit_37 : decode cX12_sit 37 = .ok (.iload_n 3, 1) := by decide +kernel
theorem dX12_sit_38 : decode cX12_sit 38 = .ok (.iload 4, 2) := by decide +kernel
theorem dX12_sit_40 : decode cX12_sit 40 = .ok (.iastore, 1) := by decide +kernel
theorem dX12_sit_41 : decode cX12_sit 41 = .ok (.iload 4, 2) := by decide +kernel
theorem dX12_sit_43 : decode cX12_sit 43 = .ok (.ifCond .lt 11, 3) := by decide +kernel
theorem dX12_sit_46 : decode cX12_sit 46 = .ok (.aload_n 0, 1) := by decide +kernel
theorem dX12_sit_47 : decode cX12_sit 47 = .ok (.getfield 35, 3) := by decide +kernel
theorem dX12_sit_50 : decode cX12_sit 50 = .ok (.iload 4, 2) := by decide +kernel
theorem dX12_sit_52 : decode cX12_sit 52 = .ok (.iload_n 3, 1) := by decide +kernel
theorem dX12_sit_53 : decode cX12_sit 53 = .ok (.iastore, 1) := by decide +kernel
theorem dX12_sit_54 : decode cX12_sit 54 = .ok (.aload_n 0, 1) := by decide +kernel
theorem dX12_sit_55 : decode cX12_sit 55 = .ok (.getfield 38, 3) := by decide +kernel
theorem dX12_sit_58 : decode cX12_sit 58 = .ok (.iload_n 2, 1) := by decide +kernel
theorem dX12_sit_59 : decode cX12_sit 59 = .ok (.iload_n 1, 1) := by decide +kernel
theorem dX12_sit_60 : decode cX12_sit 60 = .ok (.iastore, 1) := by decide +kernel
theorem dX12_sit_61 : decode cX12_sit 61 = .ok (.aload_n 0, 1) := by decide +kernel
theorem dX12_sit_62 : decode cX12_sit 62 = .ok (.getfield 35, 3) := by decide +kernel
theorem dX12_sit_65 : decode cX12_sit 65 = .ok (.iload_n 1, 1) := by decide +kernel
theorem dX12_sit_66 : decode cX12_sit 66 = .ok (.iload_n 2, 1) := by decide +kernel
theorem dX12_sit_67 : decode cX12_sit 67 = .ok (.iastore, 1) := by decide +kernel
theorem dX12_sit_68 : decode cX12_sit 68 = .ok (.iload_n 3, 1) := by decide +kernel
theorem dX12_sit_69 : decode cX12_sit 69 = .ok (.ireturn, 1) := by decide +kernel
set_option maxRecDepth 20000 in
theorem ggX12_feed_X12_in : GoodIn wsX12_feed wsX12_in := goodIn_r _ [7] (by decide +kernel) (by decide +kernel)
set_option maxRecDepth 20000 in
theorem gX12_feed_X12_in : GoodIn wsX12_feed (wsV RX12 167 RX12 yX12_in wsX12_in) := goodIn_app (goodIn_of _ (by decide +kernel)) ggX12_feed_X12_in
theorem dX12_feed_0 : decode cX12_feed 0 = .ok (.aload_n 0, 1) := by decide +kernel
theorem dX12_feed_1 : decode cX12_feed 1 = .ok (.iload_n 1, 1) := by decide +kernel
theorem dX12_feed_2 : decode cX12_feed 2 = .ok (.iconst 0, 1) := by decide +kernel
theorem dX12_feed_3 : decode cX12_feed 3 = .ok (.bipush 127, 2) := by decide +kernel
theorem dX12_feed_5 : decode cX12_feed 5 = .ok (.invokevirtual 167, 3) := by decide +kernel
theorem dX12_feed_8 : decode cX12_feed 8 = .ok (.ifCond .ne 6, 3) := by decide +kernel
theorem dX12_feed_11 : decode cX12_feed 11 = .ok (.bipush (-2), 2) := by decide +kernel
theorem dX12_feed_13 : decode cX12_feed 13 = .ok (.ireturn, 1) := by decide +kernel
theorem dX12_feed_14 : decode cX12_feed 14 = .ok (.aload_n 0, 1) := by decide +kernel
theorem dX12_feed_15 : decode cX12_feed 15 = .ok (.getfield 54, 3) := by decide +kernel
theorem dX12_feed_18 : decode cX12_feed 18 = .ok (.bipush 100, 2) := by decide +kernel
theorem dX12_feed_20 : decode cX12_feed 20 = .ok (.if_icmp .ne 6, 3) := by decide +kernel
theorem dX12_feed_23 : decode cX12_feed 23 = .ok (.bipush (-4), 2) := by decide +kernel
theorem dX12_feed_25 : decode cX12_feed 25 = .ok (.ireturn, 1) := by decide +kernel
theorem dX12_feed_26 : decode cX12_feed 26 = .ok (.aload_n 0, 1) := by decide +kernel
theorem dX12_feed_27 : decode cX12_feed 27 = .ok (.getfield 63, 3) := by decide +kernel
theorem dX12_feed_30 : decode cX12_feed 30 = .ok (.aload_n 0, 1) := by decide +kernel
theorem dX12_feed_31 : decode cX12_feed 31 = .ok (.getfield 54, 3) := by decide +kernel
theorem dX12_feed_34 : decode cX12_feed 34 = .ok (.iload_n 1, 1) := by decide +kernel
theorem dX12_feed_35 : decode cX12_feed 35 = .ok (.iastore, 1) := by decide +kernel
theorem dX12_feed_36 : decode cX12_feed 36 = .ok (.aload_n 0, 1) := by decide +kernel
theorem dX12_feed_37 : decode cX12_feed 37 = .ok (.dup, 1) := by decide +kernel
theorem dX12_feed_38 : decode cX12_feed 38 = .ok (.getfield 54, 3) := by decide +kernel
theorem dX12_feed_41 : decode cX12_feed 41 = .ok (.iconst 1, 1) := by decide +kernel
theorem dX12_feed_42 : decode cX12_feed 42 = .ok (.iadd, 1) := by decide +kernel
theorem dX12_feed_43 : decode cX12_feed 43 = .ok (.putfield 54, 3) := by decide +kernel
theorem dX12_feed_46 : decode cX12_feed 46 = .ok (.aload_n 0, 1) := by decide +kernel
theorem dX12_feed_47 : decode cX12_feed 47 = .ok (.getfield 54, 3) := by decide +kernel
theorem dX12_feed_50 : decode cX12_feed 50 = .ok (.ireturn, 1) := by decide +kernel
theorem dX12_next_0 : decode cX12_next 0 = .ok (.aload_n 0, 1) := by decide +kernel
theorem dX12_next_1 : decode cX12_next 1 = .ok (.getfield 57, 3) := by decide +kernel
theorem dX12_next_4 : decode cX12_next 4 = .ok (.aload_n 0, 1) := by decide +kernel
theorem dX12_next_5 : decode cX12_next 5 = .ok (.getfield 54, 3) := by decide +kernel
theorem dX12_next_8 : decode cX12_next 8 = .ok (.if_icmp .ge 15, 3) := by decide +kernel
theorem dX12_next_11 : decode cX12_next 11 = .ok (.aload_n 0, 1) := by decide +kernel
theorem dX12_next_12 : decode cX12_next 12 = .ok (.getfield 63, 3) := by decide +kernel
theorem dX12_next_15 : decode cX12_next 15 = .ok (.aload_n 0, 1) := by decide +kernel
theorem dX12_next_16 : decode cX12_next 16 = .ok (.getfield 57, 3) := by decide +kernel
theorem dX12_next_19 : decode cX12_next 19 = .ok (.iaload, 1) := by decide +kernel
theorem dX12_next_20 : decode cX12_next 20 = .ok (.goto 4, 3) := by decide +kernel
theorem dX12_next_23 : decode cX12_next 23 = .ok (.iconst (-1), 1) := by decide +kernel
theorem dX12_next_24 : decode cX12_next 24 = .ok (.ireturn, 1) := by decide +kernel
theorem dX12_second_0 : decode cX12_second 0 = .ok (.aload_n 0, 1) := by decide +kernel
theorem dX12_second_1 : decode cX12_second 1 = .ok (.getfield 57, 3) := by decide +kernel
theorem dX12_second_4 : decode cX12_second 4 = .ok (.iconst 1, 1) := by decide +kernel
theorem dX12_second_5 : decode cX12_second 5 = .ok (.iadd, 1) := by decide +kernel
theorem dX12_second_6 : decode cX12_second 6 = .ok (.aload_n 0, 1) := by decide +kernel
theorem dX12_second_7 : decode cX12_second 7 = .ok (.getfield 54, 3) := by decide +kernel
theorem dX12_second_10 : decode cX12_second 10 = .ok (.if_icmp .ge 17, 3) := by decide +kernel
theorem dX12_second_13 : decode cX12_second 13 = .ok (.aload_n 0, 1) := by decide +kernel
theorem dX12_second_14 : decode cX12_second 14 = .ok (.getfield 63, 3) := by decide +kernel
theorem dX12_second_17 : decode cX12_second 17 = .ok (.aload_n 0, 1) := by decide +kernel
theorem dX12_second_18 : decode cX12_second 18 = .ok (.getfield 57, 3) := by decide +kernel
theorem dX12_second_21 : decode cX12_second 21 = .ok (.iconst 1, 1) := by decide +kernel
theorem dX12_second_22 : decode cX12_second 22 = .ok (.iadd, 1) := by decide +kernel
theorem dX12_second_23 : decode cX12_second 23 = .ok (.iaload, 1) := by decide +kernel
theorem dX12_second_24 : decode cX12_second 24 = .ok (.goto 4, 3) := by decide +kernel
theorem dX12_second_27 : decode cX12_second 27 = .ok (.iconst (-1), 1) := by decide +kernel
theorem dX12_second_28 : decode cX12_second 28 = .ok (.ireturn, 1) := by decide +kernel
set_option maxRecDepth 20000 in
theorem ggX12_takes_X12_next : GoodIn wsX12_takes wsX12_next := goodIn_r _ [6, 1, 7, 8, 9, 10, 11, 12, 13, 14, 15, 16, 17, 18, 19, 20, 21, 22, 23, 24, 25, 26, 27, 28, 29, 30, 31, 32, 33, 34, 35, 36, 37, 38, 39, 40, 41, 42, 43, 44, 45, 46, 47, 48, 49, 50, 51, 52, 53, 54, 55, 56, 57, 58, 59] (by decide +kernel) (by decide +kernel)
set_option maxRecDepth 20000 in
theorem gX12_takes_X12_next : GoodIn wsX12_takes (wsV RX12 178 RX12 yX12_next wsX12_next) := goodIn_app (goodIn_of _ (by decide +kernel)) ggX12_takes_X12_next
theorem dX12_takes_0 : decode cX12_takes 0 = .ok (.aload_n 0, 1) := by decide +kernel
theorem dX12_takes_1 : decode cX12_takes 1 = .ok (.invokevirtual 178, 3) := by decide +kernel
theorem dX12_takes_4 : decode cX12_takes 4 = .ok (.iload_n 1, 1) := by decide +kernel
theorem dX12_takes_5 : decode cX12_takes 5 = .ok (.if_icmp .eq 5, 3) := by decide +kernel
theorem dX12_takes_8 : decode cX12_takes 8 = .ok (.iconst 0, 1) := by decide +kernel
theorem dX12_takes_9 : decode cX12_takes 9 = .ok (.ireturn, 1) := by decide +kernel
theorem dX12_takes_10 : decode cX12_takes 10 = .ok (.aload_n 0, 1) := by decide +kernel
theorem dX12_takes_11 : decode cX12_takes 11 = .ok (.dup, 1) := by decide +kernel
theorem dX12_takes_12 : decode cX12_takes 12 = .ok (.getfield 57, 3) := by decide +kernel
theorem dX12_takes_15 : decode cX12_takes 15 = .ok (.iconst 1, 1) := by decide +kernel
theorem dX12_takes_16 : decode cX12_takes 16 = .ok (.iadd, 1) := by decide +kernel
theorem dX12_takes_17 : decode cX12_takes 17 = .ok (.putfield 57, 3) := by decide +kernel
theorem dX12_takes_20 : decode cX12_takes 20 = .ok (.iconst 1, 1) := by decide +kernel
theorem dX12_takes_21 : decode cX12_takes 21 = .ok (.ireturn, 1) := by decide +kernel
set_option maxRecDepth 20000 in
theorem ggX12_takesWord_X12_takes : GoodIn wsX12_takesWord wsX12_takes := goodIn_r _ [6, 7, 8, 9, 10, 5, 11, 12, 13, 14, 15, 16, 17, 18, 19, 20, 21, 22, 23, 24, 25, 26, 27, 28, 29, 30, 31, 32, 33, 34, 35, 36, 37, 38, 39, 40, 41, 42, 43, 44, 45, 46, 47, 48, 49, 50, 51, 52, 53, 54, 55, 56, 57, 58, 59, 60, 61, 62, 63, 64] (by decide +kernel) (by decide +kernel)
set_option maxRecDepth 20000 in
theorem gX12_takesWord_X12_takes : GoodIn wsX12_takesWord (wsV RX12 182 RX12 yX12_takes wsX12_takes) := goodIn_app (goodIn_of _ (by decide +kernel)) ggX12_takesWord_X12_takes
theorem dX12_takesWord_0 : decode cX12_takesWord 0 = .ok (.iconst 0, 1) := by decide +kernel
theorem dX12_takesWord_1 : decode cX12_takesWord 1 = .ok (.istore_n 3, 1) := by decide +kernel
theorem dX12_takesWord_2 : decode cX12_takesWord 2 = .ok (.iload_n 3, 1) := by decide +kernel
theorem dX12_takesWord_3 : decode cX12_takesWord 3 = .ok (.iload_n 2, 1) := by decide +kernel
theorem dX12_takesWord_4 : decode cX12_takesWord 4 = .ok (.if_icmp .ge 26, 3) := by decide +kernel
theorem dX12_takesWord_7 : decode cX12_takesWord 7 = .ok (.aload_n 0, 1) := by decide +kernel
theorem dX12_takesWord_8 : decode cX12_takesWord 8 = .ok (.aload_n 0, 1) := by decide +kernel
theorem dX12_takesWord_9 : decode cX12_takesWord 9 = .ok (.getfield 96, 3) := by decide +kernel
theorem dX12_takesWord_12 : decode cX12_takesWord 12 = .ok (.iload_n 1, 1) := by decide +kernel
theorem dX12_takesWord_13 : decode cX12_takesWord 13 = .ok (.iload_n 3, 1) := by decide +kernel
theorem dX12_takesWord_14 : decode cX12_takesWord 14 = .ok (.iadd, 1) := by decide +kernel
theorem dX12_takesWord_15 : decode cX12_takesWord 15 = .ok (.iaload, 1) := by decide +kernel
theorem dX12_takesWord_16 : decode cX12_takesWord 16 = .ok (.invokevirtual 182, 3) := by decide +kernel
theorem dX12_takesWord_19 : decode cX12_takesWord 19 = .ok (.ifCond .ne 5, 3) := by decide +kernel
theorem dX12_takesWord_22 : decode cX12_takesWord 22 = .ok (.iconst 0, 1) := by decide +kernel
theorem dX12_takesWord_23 : decode cX12_takesWord 23 = .ok (.ireturn, 1) := by decide +kernel
theorem dX12_takesWord_24 : decode cX12_takesWord 24 = .ok (.iinc 3 1, 3) := by decide +kernel
theorem dX12_takesWord_27 : decode cX12_takesWord 27 = .ok (.goto (-25), 3) := by decide +kernel
theorem dX12_takesWord_30 : decode cX12_takesWord 30 = .ok (.aload_n 0, 1) := by decide +kernel
theorem dX12_takesWord_31 : decode cX12_takesWord 31 = .ok (.bipush 32, 2) := by decide +kernel
theorem dX12_takesWord_33 : decode cX12_takesWord 33 = .ok (.invokevirtual 182, 3) := by decide +kernel
theorem dX12_takesWord_36 : decode cX12_takesWord 36 = .ok (.ireturn, 1) := by decide +kernel
set_option maxRecDepth 20000 in
theorem ggX12_isDigit_X12_next : GoodIn wsX12_isDigit wsX12_next := goodIn_r _ [5, 6, 7, 8, 13, 14, 15, 16, 17, 18, 19, 20, 21, 22, 23, 24, 25, 26, 27, 28, 29, 30, 31, 32, 33, 34, 35, 36, 37, 38, 39, 40, 41, 42, 43, 44, 45, 46, 47, 48, 49, 50, 51, 52, 53, 54, 55, 56, 57, 58, 59, 60, 61, 62, 63] (by decide +kernel) (by decide +kernel)
set_option maxRecDepth 20000 in
theorem gX12_isDigit_X12_next : GoodIn wsX12_isDigit (wsV RX12 178 RX12 yX12_next wsX12_next) := goodIn_app (goodIn_of _ (by decide +kernel)) ggX12_isDigit_X12_next
set_option maxRecDepth 20000 in
theorem ggX12_isDigit_X12_in : GoodIn wsX12_isDigit wsX12_in := goodIn_r _ [12] (by decide +kernel) (by decide +kernel)
set_option maxRecDepth 20000 in
theorem gX12_isDigit_X12_in : GoodIn wsX12_isDigit (wsV RX12 167 RX12 yX12_in wsX12_in) := goodIn_app (goodIn_of _ (by decide +kernel)) ggX12_isDigit_X12_in
theorem dX12_isDigit_0 : decode cX12_isDigit 0 = .ok (.aload_n 0, 1) := by decide +kernel
theorem dX12_isDigit_1 : decode cX12_isDigit 1 = .ok (.aload_n 0, 1) := by decide +kernel
theorem dX12_isDigit_2 : decode cX12_isDigit 2 = .ok (.invokevirtual 178, 3) := by decide +kernel
theorem dX12_isDigit_5 : decode cX12_isDigit 5 = .ok (.bipush 48, 2) := by decide +kernel
theorem dX12_isDigit_7 : decode cX12_isDigit 7 = .ok (.bipush 57, 2) := by decide +kernel
theorem dX12_isDigit_9 : decode cX12_isDigit 9 = .ok (.invokevirtual 167, 3) := by decide +kernel
theorem dX12_isDigit_12 : decode cX12_isDigit 12 = .ok (.ireturn, 1) := by decide +kernel
set_option maxRecDepth 20000 in
theorem ggX12_takesNumber_X12_isDigit : GoodIn wsX12_takesNumber wsX12_isDigit := goodIn_r _ [7, 8, 9, 10, 6, 11, 2, 12, 13, 14, 15, 16, 17, 18, 19, 20, 21, 22, 23, 24, 25, 26, 27, 28, 29, 30, 31, 32, 33, 34, 35, 36, 37, 38, 39, 40, 41, 42, 43, 44, 45, 46, 47, 48, 49, 50, 51, 52, 53, 54, 55, 56, 57, 58, 59, 60, 61, 62, 63, 64, 65, 66, 67, 68] (by decide +kernel) (by decide +kernel)
set_option maxRecDepth 20000 in
theorem gX12_takesNumber_X12_isDigit : GoodIn wsX12_takesNumber (wsV RX12 185 RX12 yX12_isDigit wsX12_isDigit) := goodIn_app (goodIn_of _ (by decide +kernel)) ggX12_takesNumber_X12_isDigit
set_option maxRecDepth 20000 in
theorem ggX12_takesNumber_X12_next : GoodIn wsX12_takesNumber wsX12_next := goodIn_r _ [11, 2, 12, 13, 18, 19, 20, 21, 22, 23, 24, 25, 26, 27, 28, 29, 30, 31, 32, 33, 34, 35, 36, 37, 38, 39, 40, 41, 42, 43, 44, 45, 46, 47, 48, 49, 50, 51, 52, 53, 54, 55, 56, 57, 58, 59, 60, 61, 62, 63, 64, 65, 66, 67, 68] (by decide +kernel) (by decide +kernel)
set_option maxRecDepth 20000 in
theorem gX12_takesNumber_X12_next : GoodIn wsX12_takesNumber (wsV RX12 178 RX12 yX12_next wsX12_next) := goodIn_app (goodIn_of _ (by decide +kernel)) ggX12_takesNumber_X12_next
theorem dX12_takesNumber_0 : decode cX12_takesNumber 0 = .ok (.aload_n 0, 1) := by decide +kernel
theorem dX12_takesNumber_1 : decode cX12_takesNumber 1 = .ok (.invokevirtual 185, 3) := by decide +kernel
theorem dX12_takesNumber_4 : decode cX12_takesNumber 4 = .ok (.ifCond .ne 5, 3) := by decide +kernel
theorem dX12_takesNumber_7 : decode cX12_takesNumber 7 = .ok (.iconst 0, 1) := by decide +kernel
theorem dX12_takesNumber_8 : decode cX12_takesNumber 8 = .ok (.ireturn, 1) := by decide +kernel
theorem dX12_takesNumber_9 : decode cX12_takesNumber 9 = .ok (.aload_n 0, 1) := by decide +kernel
theorem dX12_takesNumber_10 : decode cX12_takesNumber 10 = .ok (.iconst 0, 1) := by decide +kernel
theorem dX12_takesNumber_11 : decode cX12_takesNumber 11 = .ok (.putfield 60, 3) := by decide +kernel
theorem dX12_takesNumber_14 : decode cX12_takesNumber 14 = .ok (.iconst 0, 1) := by decide +kernel
theorem dX12_takesNumber_15 : decode cX12_takesNumber 15 = .ok (.istore_n 1, 1) := by decide +kernel
theorem dX12_takesNumber_16 : decode cX12_takesNumber 16 = .ok (.iload_n 1, 1) := by decide +kernel
theorem dX12_takesNumber_17 : decode cX12_takesNumber 17 = .ok (.iconst 2, 1) := by decide +kernel
theorem dX12_takesNumber_18 : decode cX12_takesNumber 18 = .ok (.if_icmp .ge 45, 3) := by decide +kernel
theorem dX12_takesNumber_21 : decode cX12_takesNumber 21 = .ok (.aload_n 0, 1) := by decide +kernel
theorem dX12_takesNumber_22 : decode cX12_takesNumber 22 = .ok (.invokevirtual 185, 3) := by decide +kernel
theorem dX12_takesNumber_25 : decode cX12_takesNumber 25 = .ok (.ifCond .eq 38, 3) := by decide +kernel
theorem dX12_takesNumber_28 : decode cX12_takesNumber 28 = .ok (.aload_n 0, 1) := by decide +kernel
theorem dX12_takesNumber_29 : decode cX12_takesNumber 29 = .ok (.bipush 10, 2) := by decide +kernel
theorem dX12_takesNumber_31 : decode cX12_takesNumber 31 = .ok (.aload_n 0, 1) := by decide +kernel
theorem dX12_takesNumber_32 : decode cX12_takesNumber 32 = .ok (.getfield 60, 3) := by decide +kernel
theorem dX12_takesNumber_35 : decode cX12_takesNumber 35 = .ok (.imul, 1) := by decide +kernel
theorem dX12_takesNumber_36 : decode cX12_takesNumber 36 = .ok (.aload_n 0, 1) := by decide +kernel
theorem dX12_takesNumber_37 : decode cX12_takesNumber 37 = .ok (.invokevirtual 178, 3) := by decide +kernel
theorem dX12_takesNumber_40 : decode cX12_takesNumber 40 = .ok (.iadd, 1) := by decide +kernel
theorem dX12_takesNumber_41 : decode cX12_takesNumber 41 = .ok (.bipush 48, 2) := by decide +kernel
theorem dX12_takesNumber_43 : decode cX12_takesNumber 43 = .ok (.isub, 1) := by decide +kernel
theorem dX12_takesNumber_44 : decode cX12_takesNumber 44 = .ok (.putfield 60, 3) := by decide +kernel
theorem dX12_takesNumber_47 : decode cX12_takesNumber 47 = .ok (.aload_n 0, 1) := by decide +kernel
theorem dX12_takesNumber_48 : decode cX12_takesNumber 48 = .ok (.dup, 1) := by decide +kernel
theorem dX12_takesNumber_49 : decode cX12_takesNumber 49 = .ok (.getfield 57, 3) := by decide +kernel
theorem dX12_takesNumber_52 : decode cX12_takesNumber 52 = .ok (.iconst 1, 1) := by decide +kernel
theorem dX12_takesNumber_53 : decode cX12_takesNumber 53 = .ok (.iadd, 1) := by decide +kernel
theorem dX12_takesNumber_54 : decode cX12_takesNumber 54 = .ok (.putfield 57, 3) := by decide +kernel
theorem dX12_takesNumber_57 : decode cX12_takesNumber 57 = .ok (.iinc 1 1, 3) := by decide +kernel
theorem dX12_takesNumber_60 : decode cX12_takesNumber 60 = .ok (.goto (-44), 3) := by decide +kernel
theorem dX12_takesNumber_63 : decode cX12_takesNumber 63 = .ok (.iconst 1, 1) := by decide +kernel
theorem dX12_takesNumber_64 : decode cX12_takesNumber 64 = .ok (.ireturn, 1) := by decide +kernel
theorem dX12_put_0 : decode cX12_put 0 = .ok (.aload_n 0, 1) := by decide +kernel
theorem dX12_put_1 : decode cX12_put 1 = .ok (.getfield 81, 3) := by decide +kernel
theorem dX12_put_4 : decode cX12_put 4 = .ok (.aload_n 0, 1) := by decide +kernel
theorem dX12_put_5 : decode cX12_put 5 = .ok (.getfield 87, 3) := by decide +kernel
theorem dX12_put_8 : decode cX12_put 8 = .ok (.iload_n 1, 1) := by decide +kernel
theorem dX12_put_9 : decode cX12_put 9 = .ok (.iastore, 1) := by decide +kernel
theorem dX12_put_10 : decode cX12_put 10 = .ok (.aload_n 0, 1) := by decide +kernel
theorem dX12_put_11 : decode cX12_put 11 = .ok (.dup, 1) := by decide +kernel
theorem dX12_put_12 : decode cX12_put 12 = .ok (.getfield 87, 3) := by decide +kernel
theorem dX12_put_15 : decode cX12_put 15 = .ok (.iconst 1, 1) := by decide +kernel
theorem dX12_put_16 : decode cX12_put 16 = .ok (.iadd, 1) := by decide +kernel
theorem dX12_put_17 : decode cX12_put 17 = .ok (.putfield 87, 3) := by decide +kernel
theorem dX12_put_20 : decode cX12_put 20 = .ok (.return_, 1) := by decide +kernel
set_option maxRecDepth 20000 in
theorem ggX12_whole_X12_put : GoodIn wsX12_whole wsX12_put := goodIn_r _ [8, 9, 10, 11, 12, 13, 14, 15, 16, 17, 18, 19, 20, 21, 22, 23, 24, 25, 26, 27, 28, 29, 30, 31, 32, 33, 34, 35, 36, 37, 38, 39, 40, 41, 42, 43, 44, 45, 46, 47, 48, 49, 50, 51, 52, 53, 54, 55, 56, 57, 58, 59, 60, 61] (by decide +kernel) (by decide +kernel)
set_option maxRecDepth 20000 in
theorem gX12_whole_X12_put : GoodIn wsX12_whole (wsV RX12 189 RX12 yX12_put wsX12_put) := goodIn_app (goodIn_of _ (by decide +kernel)) ggX12_whole_X12_put
theorem dX12_whole_0 : decode cX12_whole 0 = .ok (.aload_n 0, 1) := by decide +kernel
theorem dX12_whole_1 : decode cX12_whole 1 = .ok (.getfield 90, 3) := by decide +kernel
theorem dX12_whole_4 : decode cX12_whole 4 = .ok (.ifCond .le 48, 3) := by decide +kernel
theorem dX12_whole_7 : decode cX12_whole 7 = .ok (.aload_n 0, 1) := by decide +kernel
theorem dX12_whole_8 : decode cX12_whole 8 = .ok (.getfield 84, 3) := by decide +kernel
theorem dX12_whole_11 : decode cX12_whole 11 = .ok (.aload_n 0, 1) := by decide +kernel
theorem dX12_whole_12 : decode cX12_whole 12 = .ok (.getfield 90, 3) := by decide +kernel
theorem dX12_whole_15 : decode cX12_whole 15 = .ok (.iconst 1, 1) := by decide +kernel
theorem dX12_whole_16 : decode cX12_whole 16 = .ok (.isub, 1) := by decide +kernel
theorem dX12_whole_17 : decode cX12_whole 17 = .ok (.iaload, 1) := by decide +kernel
theorem dX12_whole_18 : decode cX12_whole 18 = .ok (.bipush 33, 2) := by decide +kernel
theorem dX12_whole_20 : decode cX12_whole 20 = .ok (.if_icmp .ne 32, 3) := by decide +kernel
theorem dX12_whole_23 : decode cX12_whole 23 = .ok (.aload_n 0, 1) := by decide +kernel
theorem dX12_whole_24 : decode cX12_whole 24 = .ok (.bipush (-33), 2) := by decide +kernel
theorem dX12_whole_26 : decode cX12_whole 26 = .ok (.invokevirtual 189, 3) := by decide +kernel
theorem dX12_whole_29 : decode cX12_whole 29 = .ok (.aload_n 0, 1) := by decide +kernel
theorem dX12_whole_30 : decode cX12_whole 30 = .ok (.dup, 1) := by decide +kernel
theorem dX12_whole_31 : decode cX12_whole 31 = .ok (.getfield 90, 3) := by decide +kernel
theorem dX12_whole_34 : decode cX12_whole 34 = .ok (.iconst 1, 1) := by decide +kernel
theorem dX12_whole_35 : decode cX12_whole 35 = .ok (.isub, 1) := by decide +kernel
theorem dX12_whole_36 : decode cX12_whole 36 = .ok (.putfield 90, 3) := by decide +kernel
theorem dX12_whole_39 : decode cX12_whole 39 = .ok (.aload_n 0, 1) := by decide +kernel
theorem dX12_whole_40 : decode cX12_whole 40 = .ok (.dup, 1) := by decide +kernel
theorem dX12_whole_41 : decode cX12_whole 41 = .ok (.getfield 93, 3) := by decide +kernel
theorem dX12_whole_44 : decode cX12_whole 44 = .ok (.iconst 1, 1) := by decide +kernel
theorem dX12_whole_45 : decode cX12_whole 45 = .ok (.isub, 1) := by decide +kernel
theorem dX12_whole_46 : decode cX12_whole 46 = .ok (.putfield 93, 3) := by decide +kernel
theorem dX12_whole_49 : decode cX12_whole 49 = .ok (.goto (-49), 3) := by decide +kernel
theorem dX12_whole_52 : decode cX12_whole 52 = .ok (.return_, 1) := by decide +kernel
set_option maxRecDepth 20000 in
theorem ggX12_settle_X12_put : GoodIn wsX12_settle wsX12_put := goodIn_r _ [7, 8, 9, 10, 11, 12, 13, 14, 15, 16, 17, 18, 19, 20, 21, 22, 23, 24, 25, 26, 27, 28, 29, 30, 31, 32, 33, 34, 35, 36, 37, 38, 39, 40, 41, 42, 43, 44, 45, 46, 47, 48, 49, 50, 51, 52, 53, 54, 55, 56, 57, 58, 59, 60] (by decide +kernel) (by decide +kernel)
set_option maxRecDepth 20000 in
theorem gX12_settle_X12_put : GoodIn wsX12_settle (wsV RX12 189 RX12 yX12_put wsX12_put) := goodIn_app (goodIn_of _ (by decide +kernel)) ggX12_settle_X12_put
theorem dX12_settle_0 : decode cX12_settle 0 = .ok (.aload_n 0, 1) := by decide +kernel
theorem dX12_settle_1 : decode cX12_settle 1 = .ok (.getfield 90, 3) := by decide +kernel
theorem dX12_settle_4 : decode cX12_settle 4 = .ok (.ifCond .le 68, 3) := by decide +kernel
theorem dX12_settle_7 : decode cX12_settle 7 = .ok (.aload_n 0, 1) := by decide +kernel
theorem dX12_settle_8 : decode cX12_settle 8 = .ok (.getfield 84, 3) := by decide +kernel
theorem dX12_settle_11 : decode cX12_settle 11 = .ok (.aload_n 0, 1) := by decide +kernel
theorem dX12_settle_12 : decode cX12_settle 12 = .ok (.getfield 90, 3) := by decide +kernel
theorem dX12_settle_15 : decode cX12_settle 15 = .ok (.iconst 1, 1) := by decide +kernel
theorem dX12_settle_16 : decode cX12_settle 16 = .ok (.isub, 1) := by decide +kernel
theorem dX12_settle_17 : decode cX12_settle 17 = .ok (.iaload, 1) := by decide +kernel
theorem dX12_settle_18 : decode cX12_settle 18 = .ok (.bipush 38, 2) := by decide +kernel
theorem dX12_settle_20 : decode cX12_settle 20 = .ok (.if_icmp .eq 25, 3) := by decide +kernel
theorem dX12_settle_23 : decode cX12_settle 23 = .ok (.aload_n 0, 1) := by decide +kernel
theorem dX12_settle_24 : decode cX12_settle 24 = .ok (.getfield 84, 3) := by decide +kernel
theorem dX12_settle_27 : decode cX12_settle 27 = .ok (.aload_n 0, 1) := by decide +kernel
theorem dX12_settle_28 : decode cX12_settle 28 = .ok (.getfield 90, 3) := by decide +kernel
theorem dX12_settle_31 : decode cX12_settle 31 = .ok (.iconst 1, 1) := by decide +kernel
theorem dX12_settle_32 : decode cX12_settle 32 = .ok (.isub, 1) := by decide +kernel
theorem dX12_settle_33 : decode cX12_settle 33 = .ok (.iaload, 1) := by decide +kernel
theorem dX12_settle_34 : decode cX12_settle 34 = .ok (.bipush 124, 2) := by decide +kernel
theorem dX12_settle_36 : decode cX12_settle 36 = .ok (.if_icmp .ne 36, 3) := by decide +kernel
theorem dX12_settle_39 : decode cX12_settle 39 = .ok (.iload_n 1, 1) := by decide +kernel
theorem dX12_settle_40 : decode cX12_settle 40 = .ok (.bipush 38, 2) := by decide +kernel
theorem dX12_settle_42 : decode cX12_settle 42 = .ok (.if_icmp .eq 30, 3) := by decide +kernel
theorem dX12_settle_45 : decode cX12_settle 45 = .ok (.aload_n 0, 1) := by decide +kernel
theorem dX12_settle_46 : decode cX12_settle 46 = .ok (.dup, 1) := by decide +kernel
theorem dX12_settle_47 : decode cX12_settle 47 = .ok (.getfield 90, 3) := by decide +kernel
theorem dX12_settle_50 : decode cX12_settle 50 = .ok (.iconst 1, 1) := by decide +kernel
theorem dX12_settle_51 : decode cX12_settle 51 = .ok (.isub, 1) := by decide +kernel
theorem dX12_settle_52 : decode cX12_settle 52 = .ok (.putfield 90, 3) := by decide +kernel
theorem dX12_settle_55 : decode cX12_settle 55 = .ok (.aload_n 0, 1) := by decide +kernel
theorem dX12_settle_56 : decode cX12_settle 56 = .ok (.aload_n 0, 1) := by decide +kernel
theorem dX12_settle_57 : decode cX12_settle 57 = .ok (.getfield 84, 3) := by decide +kernel
theorem dX12_settle_60 : decode cX12_settle 60 = .ok (.aload_n 0, 1) := by decide +kernel
theorem dX12_settle_61 : decode cX12_settle 61 = .ok (.getfield 90, 3) := by decide +kernel
theorem dX12_settle_64 : decode cX12_settle 64 = .ok (.iaload, 1) := by decide +kernel
theorem dX12_settle_65 : decode cX12_settle 65 = .ok (.ineg, 1) := by decide +kernel
theorem dX12_settle_66 : decode cX12_settle 66 = .ok (.invokevirtual 189, 3) := by decide +kernel
theorem dX12_settle_69 : decode cX12_settle 69 = .ok (.goto (-69), 3) := by decide +kernel
theorem dX12_settle_72 : decode cX12_settle 72 = .ok (.return_, 1) := by decide +kernel
theorem dX12_place_0 : decode cX12_place 0 = .ok (.iload_n 1, 1) := by decide +kernel
theorem dX12_place_1 : decode cX12_place 1 = .ok (.tableswitch 122 97 119 #[107, 109, 122, 122, 122, 122, 122, 122, 122, 113, 111, 122, 122, 122, 122, 122, 122, 119, 122, 115, 122, 122, 117], 107) := by decide +kernel
theorem dX12_place_108 : decode cX12_place 108 = .ok (.iconst 0, 1) := by decide +kernel
theorem dX12_place_109 : decode cX12_place 109 = .ok (.ireturn, 1) := by decide +kernel
theorem dX12_place_110 : decode cX12_place 110 = .ok (.iconst 1, 1) := by decide +kernel
theorem dX12_place_111 : decode cX12_place 111 = .ok (.ireturn, 1) := by decide +kernel
theorem dX12_place_112 : decode cX12_place 112 = .ok (.iconst 2, 1) := by decide +kernel
theorem dX12_place_113 : decode cX12_place 113 = .ok (.ireturn, 1) := by decide +kernel
theorem dX12_place_114 : decode cX12_place 114 = .ok (.iconst 3, 1) := by decide +kernel
theorem dX12_place_115 : decode cX12_place 115 = .ok (.ireturn, 1) := by decide +kernel
theorem dX12_place_116 : decode cX12_place 116 = .ok (.iconst 4, 1) := by decide +kernel
theorem dX12_place_117 : decode cX12_place 117 = .ok (.ireturn, 1) := by decide +kernel
theorem dX12_place_118 : decode cX12_place 118 = .ok (.iconst 5, 1) := by decide +kernel
theorem dX12_place_119 : decode cX12_place 119 = .ok (.ireturn, 1) := by decide +kernel
theorem dX12_place_120 : decode cX12_place 120 = .ok (.bipush 6, 2) := by decide +kernel
theorem dX12_place_122 : decode cX12_place 122 = .ok (.ireturn, 1) := by decide +kernel
theorem dX12_place_123 : decode cX12_place 123 = .ok (.iconst (-1), 1) := by decide +kernel
theorem dX12_place_124 : decode cX12_place 124 = .ok (.ireturn, 1) := by decide +kernel
set_option maxRecDepth 20000 in
theorem ggX12_takesTest_X12_next : GoodIn wsX12_takesTest wsX12_next := goodIn_r _ [7, 1, 8, 9, 39, 40, 41, 42, 43, 44, 45, 46, 47, 48, 49, 50, 51, 52, 53, 54, 55, 56, 57, 58, 59, 60, 61, 62, 63, 64, 65, 66, 67, 68, 69, 70, 71, 72, 73, 74, 75, 76, 77, 78, 79, 80, 81, 82, 83, 84, 85, 86, 87, 88, 89] (by decide +kernel) (by decide +kernel)
set_option maxRecDepth 20000 in
theorem gX12_takesTest_X12_next : GoodIn wsX12_takesTest (wsV RX12 178 RX12 yX12_next wsX12_next) := goodIn_app (goodIn_of _ (by decide +kernel)) ggX12_takesTest_X12_next
set_option maxRecDepth 20000 in
theorem ggX12_takesTest_X12_place : GoodIn wsX12_takesTest wsX12_place := goodIn_r _ [13] (by decide +kernel) (by decide +kernel)
set_option maxRecDepth 20000 in
theorem gX12_takesTest_X12_place : GoodIn wsX12_takesTest (wsV RX12 193 RX12 yX12_place wsX12_place) := goodIn_app (goodIn_of _ (by decide +kernel)) ggX12_takesTest_X12_place
set_option maxRecDepth 20000 in
theorem ggX12_takesTest_X12_in : GoodIn wsX12_takesTest wsX12_in := goodIn_r _ [17] (by decide +kernel) (by decide +kernel)
set_option maxRecDepth 20000 in
theorem gX12_takesTest_X12_in : GoodIn wsX12_takesTest (wsV RX12 167 RX12 yX12_in wsX12_in) := goodIn_app (goodIn_of _ (by decide +kernel)) ggX12_takesTest_X12_in
set_option maxRecDepth 20000 in
theorem ggX12_takesTest_X12_takesNumber : GoodIn wsX12_takesTest wsX12_takesNumber := goodIn_r _ [21, 2, 1, 22, 23, 24, 6, 25, 3, 4, 5, 7, 8, 9, 14, 15, 16, 17, 39, 40, 41, 42, 43, 44, 45, 46, 47, 48, 49, 50, 51, 52, 53, 54, 55, 56, 57, 58, 59, 60, 61, 62, 63, 64, 65, 66, 67, 68, 69, 70, 71, 72, 73, 74, 75, 76, 77, 78, 79, 80, 81, 82, 83, 84, 85, 86, 87, 88, 89] (by decide +kernel) (by decide +kernel)
set_option maxRecDepth 20000 in
theorem gX12_takesTest_X12_takesNumber : GoodIn wsX12_takesTest (wsV RX12 197 RX12 yX12_takesNumber wsX12_takesNumber) := goodIn_app (goodIn_of _ (by decide +kernel)) ggX12_takesTest_X12_takesNumber
set_option maxRecDepth 20000 in
theorem ggX12_takesTest_X12_put : GoodIn wsX12_takesTest wsX12_put := goodIn_r _ [29, 30, 31, 39, 40, 41, 42, 43, 44, 45, 46, 47, 48, 49, 50, 51, 52, 53, 54, 55, 56, 57, 58, 59, 60, 61, 62, 63, 64, 65, 66, 67, 68, 69, 70, 71, 72, 73, 74, 75, 76, 77, 78, 79, 80, 81, 82, 83, 84, 85, 86, 87, 88, 89] (by decide +kernel) (by decide +kernel)
set_option maxRecDepth 20000 in
theorem gX12_takesTest_X12_put : GoodIn wsX12_takesTest (wsV RX12 189 RX12 yX12_put wsX12_put) := goodIn_app (goodIn_of _ (by decide +kernel)) ggX12_takesTest_X12_put
set_option maxRecDepth 20000 in
theorem ggX12_takesTest_X12_whole : GoodIn wsX12_takesTest wsX12_whole := goodIn_r _ [35, 36, 37, 38, 26, 27, 28, 6, 29, 30, 31, 39, 40, 41, 42, 43, 44, 45, 46, 47, 48, 49, 50, 51, 52, 53, 54, 55, 56, 57, 58, 59, 60, 61, 62, 63, 64, 65, 66, 67, 68, 69, 70, 71, 72, 73, 74, 75, 76, 77, 78, 79, 80, 81, 82, 83, 84, 85, 86, 87, 88, 89] (by decide +kernel) (by decide +kernel)
set_option maxRecDepth 20000 in
theorem gX12_takesTest_X12_whole : GoodIn wsX12_takesTest (wsV RX12 200 RX12 yX12_whole wsX12_whole) := goodIn_app (goodIn_of _ (by decide +kernel)) ggX12_takesTest_X12_whole
theorem dX12_takesTest_0 : decode cX12_takesTest 0 = .ok (.aload_n 0, 1) := by decide +kernel
theorem dX12_takesTest_1 : decode cX12_takesTest 1 = .ok (.aload_n 0, 1) := by decide +kernel
theorem dX12_takesTest_2 : decode cX12_takesTest 2 = .ok (.invokevirtual 178, 3) := by decide +kernel
theorem dX12_takesTest_5 : decode cX12_takesTest 5 = .ok (.invokevirtual 193, 3) := by decide +kernel
theorem dX12_takesTest_8 : decode cX12_takesTest 8 = .ok (.istore_n 1, 1) := by decide +kernel
theorem dX12_takesTest_9 : decode cX12_takesTest 9 = .ok (.iload_n 1, 1) := by decide +kernel
theorem dX12_takesTest_10 : decode cX12_takesTest 10 = .ok (.ifCond .ge 5, 3) := by decide +kernel
theorem dX12_takesTest_13 : decode cX12_takesTest 13 = .ok (.iconst 0, 1) := by decide +kernel
theorem dX12_takesTest_14 : decode cX12_takesTest 14 = .ok (.ireturn, 1) := by decide +kernel
theorem dX12_takesTest_15 : decode cX12_takesTest 15 = .ok (.aload_n 0, 1) := by decide +kernel
theorem dX12_takesTest_16 : decode cX12_takesTest 16 = .ok (.dup, 1) := by decide +kernel
theorem dX12_takesTest_17 : decode cX12_takesTest 17 = .ok (.getfield 57, 3) := by decide +kernel
theorem dX12_takesTest_20 : decode cX12_takesTest 20 = .ok (.iconst 1, 1) := by decide +kernel
theorem dX12_takesTest_21 : decode cX12_takesTest 21 = .ok (.iadd, 1) := by decide +kernel
theorem dX12_takesTest_22 : decode cX12_takesTest 22 = .ok (.putfield 57, 3) := by decide +kernel
theorem dX12_takesTest_25 : decode cX12_takesTest 25 = .ok (.aload_n 0, 1) := by decide +kernel
theorem dX12_takesTest_26 : decode cX12_takesTest 26 = .ok (.invokevirtual 178, 3) := by decide +kernel
theorem dX12_takesTest_29 : decode cX12_takesTest 29 = .ok (.istore_n 2, 1) := by decide +kernel
theorem dX12_takesTest_30 : decode cX12_takesTest 30 = .ok (.aload_n 0, 1) := by decide +kernel
theorem dX12_takesTest_31 : decode cX12_takesTest 31 = .ok (.iload_n 2, 1) := by decide +kernel
theorem dX12_takesTest_32 : decode cX12_takesTest 32 = .ok (.bipush 60, 2) := by decide +kernel
theorem dX12_takesTest_34 : decode cX12_takesTest 34 = .ok (.bipush 62, 2) := by decide +kernel
theorem dX12_takesTest_36 : decode cX12_takesTest 36 = .ok (.invokevirtual 167, 3) := by decide +kernel
theorem dX12_takesTest_39 : decode cX12_takesTest 39 = .ok (.ifCond .ne 5, 3) := by decide +kernel
theorem dX12_takesTest_42 : decode cX12_takesTest 42 = .ok (.iconst 0, 1) := by decide +kernel
theorem dX12_takesTest_43 : decode cX12_takesTest 43 = .ok (.ireturn, 1) := by decide +kernel
theorem dX12_takesTest_44 : decode cX12_takesTest 44 = .ok (.aload_n 0, 1) := by decide +kernel
theorem dX12_takesTest_45 : decode cX12_takesTest 45 = .ok (.dup, 1) := by decide +kernel
theorem dX12_takesTest_46 : decode cX12_takesTest 46 = .ok (.getfield 57, 3) := by decide +kernel
theorem dX12_takesTest_49 : decode cX12_takesTest 49 = .ok (.iconst 1, 1) := by decide +kernel
theorem dX12_takesTest_50 : decode cX12_takesTest 50 = .ok (.iadd, 1) := by decide +kernel
theorem dX12_takesTest_51 : decode cX12_takesTest 51 = .ok (.putfield 57, 3) := by decide +kernel
theorem dX12_takesTest_54 : decode cX12_takesTest 54 = .ok (.aload_n 0, 1) := by decide +kernel
theorem dX12_takesTest_55 : decode cX12_takesTest 55 = .ok (.invokevirtual 197, 3) := by decide +kernel
theorem dX12_takesTest_58 : decode cX12_takesTest 58 = .ok (.ifCond .ne 5, 3) := by decide +kernel
theorem dX12_takesTest_61 : decode cX12_takesTest 61 = .ok (.iconst 0, 1) := by decide +kernel
theorem dX12_takesTest_62 : decode cX12_takesTest 62 = .ok (.ireturn, 1) := by decide +kernel
theorem dX12_takesTest_63 : decode cX12_takesTest 63 = .ok (.aload_n 0, 1) := by decide +kernel
theorem dX12_takesTest_64 : decode cX12_takesTest 64 = .ok (.sipush 1000, 3) := by decide +kernel
theorem dX12_takesTest_67 : decode cX12_takesTest 67 = .ok (.iload_n 1, 1) := by decide +kernel
theorem dX12_takesTest_68 : decode cX12_takesTest 68 = .ok (.imul, 1) := by decide +kernel
theorem dX12_takesTest_69 : decode cX12_takesTest 69 = .ok (.bipush 100, 2) := by decide +kernel
theorem dX12_takesTest_71 : decode cX12_takesTest 71 = .ok (.iload_n 2, 1) := by decide +kernel
theorem dX12_takesTest_72 : decode cX12_takesTest 72 = .ok (.bipush 60, 2) := by decide +kernel
theorem dX12_takesTest_74 : decode cX12_takesTest 74 = .ok (.isub, 1) := by decide +kernel
theorem dX12_takesTest_75 : decode cX12_takesTest 75 = .ok (.imul, 1) := by decide +kernel
theorem dX12_takesTest_76 : decode cX12_takesTest 76 = .ok (.iadd, 1) := by decide +kernel
theorem dX12_takesTest_77 : decode cX12_takesTest 77 = .ok (.aload_n 0, 1) := by decide +kernel
theorem dX12_takesTest_78 : decode cX12_takesTest 78 = .ok (.getfield 60, 3) := by decide +kernel
theorem dX12_takesTest_81 : decode cX12_takesTest 81 = .ok (.iadd, 1) := by decide +kernel
theorem dX12_takesTest_82 : decode cX12_takesTest 82 = .ok (.invokevirtual 189, 3) := by decide +kernel
theorem dX12_takesTest_85 : decode cX12_takesTest 85 = .ok (.aload_n 0, 1) := by decide +kernel
theorem dX12_takesTest_86 : decode cX12_takesTest 86 = .ok (.invokevirtual 200, 3) := by decide +kernel
theorem dX12_takesTest_89 : decode cX12_takesTest 89 = .ok (.iconst 1, 1) := by decide +kernel
theorem dX12_takesTest_90 : decode cX12_takesTest 90 = .ok (.ireturn, 1) := by decide +kernel
set_option maxRecDepth 20000 in
theorem ggX12_takesE_X12_next : GoodIn wsX12_takesE wsX12_next := goodIn_r _ [12, 6, 13, 14, 49, 50, 51, 52, 53, 54, 55, 56, 57, 58, 59, 60, 61, 62, 63, 64, 65, 66, 67, 68, 69, 70, 71, 72, 73, 74, 75, 76, 77, 78, 79, 80, 81, 82, 83, 84, 85, 86, 87, 88, 89, 90, 91, 92, 93, 94, 95, 96, 97, 98, 99] (by decide +kernel) (by decide +kernel)
set_option maxRecDepth 20000 in
theorem gX12_takesE_X12_next : GoodIn wsX12_takesE (wsV RX12 178 RX12 yX12_next wsX12_next) := goodIn_app (goodIn_of _ (by decide +kernel)) ggX12_takesE_X12_next
set_option maxRecDepth 20000 in
theorem ggX12_takesE_X12_takesTest : GoodIn wsX12_takesE wsX12_takesTest := goodIn_r _ [18, 6, 19, 8, 9, 10, 11, 12, 13, 14, 20, 21, 22, 23, 24, 25, 26, 27, 28, 29, 30, 31, 32, 33, 34, 35, 36, 37, 38, 39, 40, 4, 41, 42, 43, 44, 1, 5, 2, 49, 50, 51, 52, 53, 54, 55, 56, 57, 58, 59, 60, 61, 62, 63, 64, 65, 66, 67, 68, 69, 70, 71, 72, 73, 74, 75, 76, 77, 78, 79, 80, 81, 82, 83, 84, 85, 86, 87, 88, 89, 90, 91, 92, 93, 94, 95, 96, 97, 98, 99] (by decide +kernel) (by decide +kernel)
set_option maxRecDepth 20000 in
theorem gX12_takesE_X12_takesTest : GoodIn wsX12_takesE (wsV RX12 203 RX12 yX12_takesTest wsX12_takesTest) := goodIn_app (goodIn_of _ (by decide +kernel)) ggX12_takesE_X12_takesTest
set_option maxRecDepth 20000 in
theorem ggX12_takesE_X12_settle : GoodIn wsX12_takesE wsX12_settle := goodIn_r _ [48, 1, 5, 36, 37, 38, 11, 39, 40, 4, 49, 50, 51, 52, 53, 54, 55, 56, 57, 58, 59, 60, 61, 62, 63, 64, 65, 66, 67, 68, 69, 70, 71, 72, 73, 74, 75, 76, 77, 78, 79, 80, 81, 82, 83, 84, 85, 86, 87, 88, 89, 90, 91, 92, 93, 94, 95, 96, 97, 98, 99] (by decide +kernel) (by decide +kernel)
set_option maxRecDepth 20000 in
theorem gX12_takesE_X12_settle : GoodIn wsX12_takesE (wsV RX12 206 RX12 yX12_settle wsX12_settle) := goodIn_app (goodIn_of _ (by decide +kernel)) ggX12_takesE_X12_settle
set_option maxRecDepth 20000 in
theorem ggX12_takesE_X12_whole : GoodIn wsX12_takesE wsX12_whole := goodIn_r _ [44, 1, 5, 2, 36, 37, 38, 11, 39, 40, 4, 49, 50, 51, 52, 53, 54, 55, 56, 57, 58, 59, 60, 61, 62, 63, 64, 65, 66, 67, 68, 69, 70, 71, 72, 73, 74, 75, 76, 77, 78, 79, 80, 81, 82, 83, 84, 85, 86, 87, 88, 89, 90, 91, 92, 93, 94, 95, 96, 97, 98, 99] (by decide +kernel) (by decide +kernel)
set_option maxRecDepth 20000 in
theorem gX12_takesE_X12_whole : GoodIn wsX12_takesE (wsV RX12 200 RX12 yX12_whole wsX12_whole) := goodIn_app (goodIn_of _ (by decide +kernel)) ggX12_takesE_X12_whole
theorem dX12_takesE_0 : decode cX12_takesE 0 = .ok (.aload_n 0, 1) := by decide +kernel
theorem dX12_takesE_1 : decode cX12_takesE 1 = .ok (.iconst 0, 1) := by decide +kernel
theorem dX12_takesE_2 : decode cX12_takesE 2 = .ok (.putfield 90, 3) := by decide +kernel
theorem dX12_takesE_5 : decode cX12_takesE 5 = .ok (.aload_n 0, 1) := by decide +kernel
theorem dX12_takesE_6 : decode cX12_takesE 6 = .ok (.iconst 0, 1) := by decide +kernel
theorem dX12_takesE_7 : decode cX12_takesE 7 = .ok (.putfield 93, 3) := by decide +kernel
theorem dX12_takesE_10 : decode cX12_takesE 10 = .ok (.aload_n 0, 1) := by decide +kernel
theorem dX12_takesE_11 : decode cX12_takesE 11 = .ok (.getfield 75, 3) := by decide +kernel
theorem dX12_takesE_14 : decode cX12_takesE 14 = .ok (.iload_n 1, 1) := by decide +kernel
theorem dX12_takesE_15 : decode cX12_takesE 15 = .ok (.aload_n 0, 1) := by decide +kernel
theorem dX12_takesE_16 : decode cX12_takesE 16 = .ok (.getfield 87, 3) := by decide +kernel
theorem dX12_takesE_19 : decode cX12_takesE 19 = .ok (.iastore, 1) := by decide +kernel
theorem dX12_takesE_20 : decode cX12_takesE 20 = .ok (.iconst 1, 1) := by decide +kernel
theorem dX12_takesE_21 : decode cX12_takesE 21 = .ok (.istore_n 2, 1) := by decide +kernel
theorem dX12_takesE_22 : decode cX12_takesE 22 = .ok (.aload_n 0, 1) := by decide +kernel
theorem dX12_takesE_23 : decode cX12_takesE 23 = .ok (.invokevirtual 178, 3) := by decide +kernel
theorem dX12_takesE_26 : decode cX12_takesE 26 = .ok (.istore_n 3, 1) := by decide +kernel
theorem dX12_takesE_27 : decode cX12_takesE 27 = .ok (.iload_n 2, 1) := by decide +kernel
theorem dX12_takesE_28 : decode cX12_takesE 28 = .ok (.ifCond .eq 82, 3) := by decide +kernel
theorem dX12_takesE_31 : decode cX12_takesE 31 = .ok (.iload_n 3, 1) := by decide +kernel
theorem dX12_takesE_32 : decode cX12_takesE 32 = .ok (.bipush 33, 2) := by decide +kernel
theorem dX12_takesE_34 : decode cX12_takesE 34 = .ok (.if_icmp .eq 9, 3) := by decide +kernel
theorem dX12_takesE_37 : decode cX12_takesE 37 = .ok (.iload_n 3, 1) := by decide +kernel
theorem dX12_takesE_38 : decode cX12_takesE 38 = .ok (.bipush 40, 2) := by decide +kernel
theorem dX12_takesE_40 : decode cX12_takesE 40 = .ok (.if_icmp .ne 56, 3) := by decide +kernel
theorem dX12_takesE_43 : decode cX12_takesE 43 = .ok (.aload_n 0, 1) := by decide +kernel
theorem dX12_takesE_44 : decode cX12_takesE 44 = .ok (.getfield 93, 3) := by decide +kernel
theorem dX12_takesE_47 : decode cX12_takesE 47 = .ok (.iconst 4, 1) := by decide +kernel
theorem dX12_takesE_48 : decode cX12_takesE 48 = .ok (.if_icmp .ne 5, 3) := by decide +kernel
theorem dX12_takesE_51 : decode cX12_takesE 51 = .ok (.iconst 0, 1) := by decide +kernel
theorem dX12_takesE_52 : decode cX12_takesE 52 = .ok (.ireturn, 1) := by decide +kernel
theorem dX12_takesE_53 : decode cX12_takesE 53 = .ok (.aload_n 0, 1) := by decide +kernel
theorem dX12_takesE_54 : decode cX12_takesE 54 = .ok (.dup, 1) := by decide +kernel
theorem dX12_takesE_55 : decode cX12_takesE 55 = .ok (.getfield 93, 3) := by decide +kernel
theorem dX12_takesE_58 : decode cX12_takesE 58 = .ok (.iconst 1, 1) := by decide +kernel
theorem dX12_takesE_59 : decode cX12_takesE 59 = .ok (.iadd, 1) := by decide +kernel
theorem dX12_takesE_60 : decode cX12_takesE 60 = .ok (.putfield 93, 3) := by decide +kernel
theorem dX12_takesE_63 : decode cX12_takesE 63 = .ok (.aload_n 0, 1) := by decide +kernel
theorem dX12_takesE_64 : decode cX12_takesE 64 = .ok (.getfield 84, 3) := by decide +kernel
theorem dX12_takesE_67 : decode cX12_takesE 67 = .ok (.aload_n 0, 1) := by decide +kernel
theorem dX12_takesE_68 : decode cX12_takesE 68 = .ok (.getfield 90, 3) := by decide +kernel
theorem dX12_takesE_71 : decode cX12_takesE 71 = .ok (.iload_n 3, 1) := by decide +kernel
theorem dX12_takesE_72 : decode cX12_takesE 72 = .ok (.iastore, 1) := by decide +kernel
theorem dX12_takesE_73 : decode cX12_takesE 73 = .ok (.aload_n 0, 1) := by decide +kernel
theorem dX12_takesE_74 : decode cX12_takesE 74 = .ok (.dup, 1) := by decide +kernel
theorem dX12_takesE_75 : decode cX12_takesE 75 = .ok (.getfield 90, 3) := by decide +kernel
theorem dX12_takesE_78 : decode cX12_takesE 78 = .ok (.iconst 1, 1) := by decide +kernel
theorem dX12_takesE_79 : decode cX12_takesE 79 = .ok (.iadd, 1) := by decide +kernel
theorem dX12_takesE_80 : decode cX12_takesE 80 = .ok (.putfield 90, 3) := by decide +kernel
theorem dX12_takesE_83 : decode cX12_takesE 83 = .ok (.aload_n 0, 1) := by decide +kernel
theorem dX12_takesE_84 : decode cX12_takesE 84 = .ok (.dup, 1) := by decide +kernel
theorem dX12_takesE_85 : decode cX12_takesE 85 = .ok (.getfield 57, 3) := by decide +kernel
theorem dX12_takesE_88 : decode cX12_takesE 88 = .ok (.iconst 1, 1) := by decide +kernel
theorem dX12_takesE_89 : decode cX12_takesE 89 = .ok (.iadd, 1) := by decide +kernel
theorem dX12_takesE_90 : decode cX12_takesE 90 = .ok (.putfield 57, 3) := by decide +kernel
theorem dX12_takesE_93 : decode cX12_takesE 93 = .ok (.goto (-71), 3) := by decide +kernel
theorem dX12_takesE_96 : decode cX12_takesE 96 = .ok (.aload_n 0, 1) := by decide +kernel
theorem dX12_takesE_97 : decode cX12_takesE 97 = .ok (.invokevirtual 203, 3) := by decide +kernel
theorem dX12_takesE_100 : decode cX12_takesE 100 = .ok (.ifCond .eq 8, 3) := by decide +kernel
theorem dX12_takesE_103 : decode cX12_takesE 103 = .ok (.iconst 0, 1) := by decide +kernel
theorem dX12_takesE_104 : decode cX12_takesE 104 = .ok (.istore_n 2, 1) := by decide +kernel
theorem dX12_takesE_105 : decode cX12_takesE 105 = .ok (.goto (-83), 3) := by decide +kernel
theorem dX12_takesE_108 : decode cX12_takesE 108 = .ok (.iconst 0, 1) := by decide +kernel
theorem dX12_takesE_109 : decode cX12_takesE 109 = .ok (.ireturn, 1) := by decide +kernel
theorem dX12_takesE_110 : decode cX12_takesE 110 = .ok (.iload_n 3, 1) := by decide +kernel
theorem dX12_takesE_111 : decode cX12_takesE 111 = .ok (.bipush 38, 2) := by decide +kernel
theorem dX12_takesE_113 : decode cX12_takesE 113 = .ok (.if_icmp .eq 9, 3) := by decide +kernel
theorem dX12_takesE_116 : decode cX12_takesE 116 = .ok (.iload_n 3, 1) := by decide +kernel
theorem dX12_takesE_117 : decode cX12_takesE 117 = .ok (.bipush 124, 2) := by decide +kernel
theorem dX12_takesE_119 : decode cX12_takesE 119 = .ok (.if_icmp .ne 43, 3) := by decide +kernel
theorem dX12_takesE_122 : decode cX12_takesE 122 = .ok (.aload_n 0, 1) := by decide +kernel
theorem dX12_takesE_123 : decode cX12_takesE 123 = .ok (.iload_n 3, 1) := by decide +kernel
theorem dX12_takesE_124 : decode cX12_takesE 124 = .ok (.invokevirtual 206, 3) := by decide +kernel
theorem dX12_takesE_127 : decode cX12_takesE 127 = .ok (.aload_n 0, 1) := by decide +kernel
theorem dX12_takesE_128 : decode cX12_takesE 128 = .ok (.getfield 84, 3) := by decide +kernel
theorem dX12_takesE_131 : decode cX12_takesE 131 = .ok (.aload_n 0, 1) := by decide +kernel
theorem dX12_takesE_132 : decode cX12_takesE 132 = .ok (.getfield 90, 3) := by decide +kernel
theorem dX12_takesE_135 : decode cX12_takesE 135 = .ok (.iload_n 3, 1) := by decide +kernel
theorem dX12_takesE_136 : decode cX12_takesE 136 = .ok (.iastore, 1) := by decide +kernel
theorem dX12_takesE_137 : decode cX12_takesE 137 = .ok (.aload_n 0, 1) := by decide +kernel
theorem dX12_takesE_138 : decode cX12_takesE 138 = .ok (.dup, 1) := by decide +kernel
theorem dX12_takesE_139 : decode cX12_takesE 139 = .ok (.getfield 90, 3) := by decide +kernel
theorem dX12_takesE_142 : decode cX12_takesE 142 = .ok (.iconst 1, 1) := by decide +kernel
theorem dX12_takesE_143 : decode cX12_takesE 143 = .ok (.iadd, 1) := by decide +kernel
theorem dX12_takesE_144 : decode cX12_takesE 144 = .ok (.putfield 90, 3) := by decide +kernel
theorem dX12_takesE_147 : decode cX12_takesE 147 = .ok (.iconst 1, 1) := by decide +kernel
theorem dX12_takesE_148 : decode cX12_takesE 148 = .ok (.istore_n 2, 1) := by decide +kernel
theorem dX12_takesE_149 : decode cX12_takesE 149 = .ok (.aload_n 0, 1) := by decide +kernel
theorem dX12_takesE_150 : decode cX12_takesE 150 = .ok (.dup, 1) := by decide +kernel
theorem dX12_takesE_151 : decode cX12_takesE 151 = .ok (.getfield 57, 3) := by decide +kernel
theorem dX12_takesE_154 : decode cX12_takesE 154 = .ok (.iconst 1, 1) := by decide +kernel
theorem dX12_takesE_155 : decode cX12_takesE 155 = .ok (.iadd, 1) := by decide +kernel
theorem dX12_takesE_156 : decode cX12_takesE 156 = .ok (.putfield 57, 3) := by decide +kernel
theorem dX12_takesE_159 : decode cX12_takesE 159 = .ok (.goto (-137), 3) := by decide +kernel
theorem dX12_takesE_162 : decode cX12_takesE 162 = .ok (.aload_n 0, 1) := by decide +kernel
theorem dX12_takesE_163 : decode cX12_takesE 163 = .ok (.bipush 124, 2) := by decide +kernel
theorem dX12_takesE_165 : decode cX12_takesE 165 = .ok (.invokevirtual 206, 3) := by decide +kernel
theorem dX12_takesE_168 : decode cX12_takesE 168 = .ok (.aload_n 0, 1) := by decide +kernel
theorem dX12_takesE_169 : decode cX12_takesE 169 = .ok (.getfield 78, 3) := by decide +kernel
theorem dX12_takesE_172 : decode cX12_takesE 172 = .ok (.iload_n 1, 1) := by decide +kernel
theorem dX12_takesE_173 : decode cX12_takesE 173 = .ok (.aload_n 0, 1) := by decide +kernel
theorem dX12_takesE_174 : decode cX12_takesE 174 = .ok (.getfield 87, 3) := by decide +kernel
theorem dX12_takesE_177 : decode cX12_takesE 177 = .ok (.iastore, 1) := by decide +kernel
theorem dX12_takesE_178 : decode cX12_takesE 178 = .ok (.aload_n 0, 1) := by decide +kernel
theorem dX12_takesE_179 : decode cX12_takesE 179 = .ok (.getfield 90, 3) := by decide +kernel
theorem dX12_takesE_182 : decode cX12_takesE 182 = .ok (.ifCond .ne 5, 3) := by decide +kernel
theorem dX12_takesE_185 : decode cX12_takesE 185 = .ok (.iconst 1, 1) := by decide +kernel
theorem dX12_takesE_186 : decode cX12_takesE 186 = .ok (.ireturn, 1) := by decide +kernel
theorem dX12_takesE_187 : decode cX12_takesE 187 = .ok (.iload_n 3, 1) := by decide +kernel
theorem dX12_takesE_188 : decode cX12_takesE 188 = .ok (.bipush 41, 2) := by decide +kernel
theorem dX12_takesE_190 : decode cX12_takesE 190 = .ok (.if_icmp .eq 5, 3) := by decide +kernel
theorem dX12_takesE_193 : decode cX12_takesE 193 = .ok (.iconst 0, 1) := by decide +kernel
theorem dX12_takesE_194 : decode cX12_takesE 194 = .ok (.ireturn, 1) := by decide +kernel
theorem dX12_takesE_195 : decode cX12_takesE 195 = .ok (.aload_n 0, 1) := by decide +kernel
theorem dX12_takesE_196 : decode cX12_takesE 196 = .ok (.dup, 1) := by decide +kernel
theorem dX12_takesE_197 : decode cX12_takesE 197 = .ok (.getfield 90, 3) := by decide +kernel
theorem dX12_takesE_200 : decode cX12_takesE 200 = .ok (.iconst 1, 1) := by decide +kernel
theorem dX12_takesE_201 : decode cX12_takesE 201 = .ok (.isub, 1) := by decide +kernel
theorem dX12_takesE_202 : decode cX12_takesE 202 = .ok (.putfield 90, 3) := by decide +kernel
theorem dX12_takesE_205 : decode cX12_takesE 205 = .ok (.aload_n 0, 1) := by decide +kernel
theorem dX12_takesE_206 : decode cX12_takesE 206 = .ok (.dup, 1) := by decide +kernel
theorem dX12_takesE_207 : decode cX12_takesE 207 = .ok (.getfield 93, 3) := by decide +kernel
theorem dX12_takesE_210 : decode cX12_takesE 210 = .ok (.iconst 1, 1) := by decide +kernel
theorem dX12_takesE_211 : decode cX12_takesE 211 = .ok (.isub, 1) := by decide +kernel
theorem dX12_takesE_212 : decode cX12_takesE 212 = .ok (.putfield 93, 3) := by decide +kernel
theorem dX12_takesE_215 : decode cX12_takesE 215 = .ok (.aload_n 0, 1) := by decide +kernel
theorem dX12_takesE_216 : decode cX12_takesE 216 = .ok (.dup, 1) := by decide +kernel
theorem dX12_takesE_217 : decode cX12_takesE 217 = .ok (.getfield 57, 3) := by decide +kernel
theorem dX12_takesE_220 : decode cX12_takesE 220 = .ok (.iconst 1, 1) := by decide +kernel
theorem dX12_takesE_221 : decode cX12_takesE 221 = .ok (.iadd, 1) := by decide +kernel
theorem dX12_takesE_222 : decode cX12_takesE 222 = .ok (.putfield 57, 3) := by decide +kernel
theorem dX12_takesE_225 : decode cX12_takesE 225 = .ok (.aload_n 0, 1) := by decide +kernel
theorem dX12_takesE_226 : decode cX12_takesE 226 = .ok (.invokevirtual 200, 3) := by decide +kernel
theorem dX12_takesE_229 : decode cX12_takesE 229 = .ok (.goto (-207), 3) := by decide +kernel
set_option maxRecDepth 20000 in
theorem ggX12_takesHead_X12_second : GoodIn wsX12_takesHead wsX12_second := goodIn_r _ [6, 7, 8, 9, 23, 24, 25, 26, 27, 28, 29, 30, 31, 32, 33, 34, 35, 36, 37, 38, 39, 40, 41, 42, 43, 44, 45, 46, 47, 48, 49, 50, 51, 52, 53, 54, 55, 56, 57, 58, 59, 60, 61, 62, 63, 64, 65, 66, 67, 68, 69, 70, 71, 72, 73] (by decide +kernel) (by decide +kernel)
set_option maxRecDepth 20000 in
theorem gX12_takesHead_X12_second : GoodIn wsX12_takesHead (wsV RX12 209 RX12 yX12_second wsX12_second) := goodIn_app (goodIn_of _ (by decide +kernel)) ggX12_takesHead_X12_second
set_option maxRecDepth 20000 in
theorem ggX12_takesHead_X12_next : GoodIn wsX12_takesHead wsX12_next := goodIn_r _ [13, 7, 8, 9, 23, 24, 25, 26, 27, 28, 29, 30, 31, 32, 33, 34, 35, 36, 37, 38, 39, 40, 41, 42, 43, 44, 45, 46, 47, 48, 49, 50, 51, 52, 53, 54, 55, 56, 57, 58, 59, 60, 61, 62, 63, 64, 65, 66, 67, 68, 69, 70, 71, 72, 73] (by decide +kernel) (by decide +kernel)
set_option maxRecDepth 20000 in
theorem gX12_takesHead_X12_next : GoodIn wsX12_takesHead (wsV RX12 178 RX12 yX12_next wsX12_next) := goodIn_app (goodIn_of _ (by decide +kernel)) ggX12_takesHead_X12_next
set_option maxRecDepth 20000 in
theorem ggX12_takesHead_X12_takesWord : GoodIn wsX12_takesHead wsX12_takesWord := goodIn_r _ [17, 18, 19, 20, 21, 5, 22, 7, 10, 11, 12, 13, 8, 9, 23, 24, 25, 26, 27, 28, 29, 30, 31, 32, 33, 34, 35, 36, 37, 38, 39, 40, 41, 42, 43, 44, 45, 46, 47, 48, 49, 50, 51, 52, 53, 54, 55, 56, 57, 58, 59, 60, 61, 62, 63, 64, 65, 66, 67, 68, 69, 70, 71, 72, 73] (by decide +kernel) (by decide +kernel)
set_option maxRecDepth 20000 in
theorem gX12_takesHead_X12_takesWord : GoodIn wsX12_takesHead (wsV RX12 212 RX12 yX12_takesWord wsX12_takesWord) := goodIn_app (goodIn_of _ (by decide +kernel)) ggX12_takesHead_X12_takesWord
theorem dX12_takesHead_0 : decode cX12_takesHead 0 = .ok (.aload_n 0, 1) := by decide +kernel
theorem dX12_takesHead_1 : decode cX12_takesHead 1 = .ok (.invokevirtual 209, 3) := by decide +kernel
theorem dX12_takesHead_4 : decode cX12_takesHead 4 = .ok (.istore_n 2, 1) := by decide +kernel
theorem dX12_takesHead_5 : decode cX12_takesHead 5 = .ok (.aload_n 0, 1) := by decide +kernel
theorem dX12_takesHead_6 : decode cX12_takesHead 6 = .ok (.invokevirtual 178, 3) := by decide +kernel
theorem dX12_takesHead_9 : decode cX12_takesHead 9 = .ok (.lookupswitch 81 #[(98, 66), (108, 27)], 27) := by decide +kernel
theorem dX12_takesHead_36 : decode cX12_takesHead 36 = .ok (.aload_n 0, 1) := by decide +kernel
theorem dX12_takesHead_37 : decode cX12_takesHead 37 = .ok (.getfield 69, 3) := by decide +kernel
theorem dX12_takesHead_40 : decode cX12_takesHead 40 = .ok (.iload_n 1, 1) := by decide +kernel
theorem dX12_takesHead_41 : decode cX12_takesHead 41 = .ok (.iload_n 2, 1) := by decide +kernel
theorem dX12_takesHead_42 : decode cX12_takesHead 42 = .ok (.bipush 111, 2) := by decide +kernel
theorem dX12_takesHead_44 : decode cX12_takesHead 44 = .ok (.if_icmp .ne 7, 3) := by decide +kernel
theorem dX12_takesHead_47 : decode cX12_takesHead 47 = .ok (.iconst 1, 1) := by decide +kernel
theorem dX12_takesHead_48 : decode cX12_takesHead 48 = .ok (.goto 4, 3) := by decide +kernel
theorem dX12_takesHead_51 : decode cX12_takesHead 51 = .ok (.iconst 0, 1) := by decide +kernel
theorem dX12_takesHead_52 : decode cX12_takesHead 52 = .ok (.iastore, 1) := by decide +kernel
theorem dX12_takesHead_53 : decode cX12_takesHead 53 = .ok (.iload_n 2, 1) := by decide +kernel
theorem dX12_takesHead_54 : decode cX12_takesHead 54 = .ok (.bipush 111, 2) := by decide +kernel
theorem dX12_takesHead_56 : decode cX12_takesHead 56 = .ok (.if_icmp .ne 12, 3) := by decide +kernel
theorem dX12_takesHead_59 : decode cX12_takesHead 59 = .ok (.aload_n 0, 1) := by decide +kernel
theorem dX12_takesHead_60 : decode cX12_takesHead 60 = .ok (.iconst 5, 1) := by decide +kernel
theorem dX12_takesHead_61 : decode cX12_takesHead 61 = .ok (.iconst 4, 1) := by decide +kernel
theorem dX12_takesHead_62 : decode cX12_takesHead 62 = .ok (.invokevirtual 212, 3) := by decide +kernel
theorem dX12_takesHead_65 : decode cX12_takesHead 65 = .ok (.goto 9, 3) := by decide +kernel
theorem dX12_takesHead_68 : decode cX12_takesHead 68 = .ok (.aload_n 0, 1) := by decide +kernel
theorem dX12_takesHead_69 : decode cX12_takesHead 69 = .ok (.iconst 0, 1) := by decide +kernel
theorem dX12_takesHead_70 : decode cX12_takesHead 70 = .ok (.iconst 5, 1) := by decide +kernel
theorem dX12_takesHead_71 : decode cX12_takesHead 71 = .ok (.invokevirtual 212, 3) := by decide +kernel
theorem dX12_takesHead_74 : decode cX12_takesHead 74 = .ok (.ireturn, 1) := by decide +kernel
theorem dX12_takesHead_75 : decode cX12_takesHead 75 = .ok (.aload_n 0, 1) := by decide +kernel
theorem dX12_takesHead_76 : decode cX12_takesHead 76 = .ok (.getfield 69, 3) := by decide +kernel
theorem dX12_takesHead_79 : decode cX12_takesHead 79 = .ok (.iload_n 1, 1) := by decide +kernel
theorem dX12_takesHead_80 : decode cX12_takesHead 80 = .ok (.iconst 2, 1) := by decide +kernel
theorem dX12_takesHead_81 : decode cX12_takesHead 81 = .ok (.iastore, 1) := by decide +kernel
theorem dX12_takesHead_82 : decode cX12_takesHead 82 = .ok (.aload_n 0, 1) := by decide +kernel
theorem dX12_takesHead_83 : decode cX12_takesHead 83 = .ok (.bipush 9, 2) := by decide +kernel
theorem dX12_takesHead_85 : decode cX12_takesHead 85 = .ok (.iconst 3, 1) := by decide +kernel
theorem dX12_takesHead_86 : decode cX12_takesHead 86 = .ok (.invokevirtual 212, 3) := by decide +kernel
theorem dX12_takesHead_89 : decode cX12_takesHead 89 = .ok (.ireturn, 1) := by decide +kernel
theorem dX12_takesHead_90 : decode cX12_takesHead 90 = .ok (.aload_n 0, 1) := by decide +kernel
theorem dX12_takesHead_91 : decode cX12_takesHead 91 = .ok (.getfield 69, 3) := by decide +kernel
theorem dX12_takesHead_94 : decode cX12_takesHead 94 = .ok (.iload_n 1, 1) := by decide +kernel
theorem dX12_takesHead_95 : decode cX12_takesHead 95 = .ok (.iconst 3, 1) := by decide +kernel
theorem dX12_takesHead_96 : decode cX12_takesHead 96 = .ok (.iastore, 1) := by decide +kernel
theorem dX12_takesHead_97 : decode cX12_takesHead 97 = .ok (.aload_n 0, 1) := by decide +kernel
theorem dX12_takesHead_98 : decode cX12_takesHead 98 = .ok (.bipush 12, 2) := by decide +kernel
theorem dX12_takesHead_100 : decode cX12_takesHead 100 = .ok (.iconst 4, 1) := by decide +kernel
theorem dX12_takesHead_101 : decode cX12_takesHead 101 = .ok (.invokevirtual 212, 3) := by decide +kernel
theorem dX12_takesHead_104 : decode cX12_takesHead 104 = .ok (.ireturn, 1) := by decide +kernel
set_option maxRecDepth 20000 in
theorem ggX12_takesClause_X12_takesHead : GoodIn wsX12_takesClause wsX12_takesHead := goodIn_r _ [8, 1, 9, 10, 11, 7, 12, 13, 14, 15, 16, 17, 18, 19, 20, 21, 22, 23, 24, 25, 26, 27, 28, 72, 73, 74, 75, 76, 77, 78, 79, 80, 81, 82, 83, 84, 85, 86, 87, 88, 89, 90, 91, 92, 93, 94, 95, 96, 97, 98, 99, 100, 101, 102, 103, 104, 105, 106, 107, 108, 109, 110, 111, 112, 113, 114, 115, 116, 117, 118, 119, 120, 121, 122] (by decide +kernel) (by decide +kernel)
set_option maxRecDepth 20000 in
theorem gX12_takesClause_X12_takesHead : GoodIn wsX12_takesClause (wsV RX12 216 RX12 yX12_takesHead wsX12_takesHead) := goodIn_app (goodIn_of _ (by decide +kernel)) ggX12_takesClause_X12_takesHead
set_option maxRecDepth 20000 in
theorem ggX12_takesClause_X12_takesE : GoodIn wsX12_takesClause wsX12_takesE := goodIn_r _ [32, 33, 34, 35, 36, 37, 13, 38, 16, 17, 18, 7, 19, 14, 15, 39, 40, 41, 42, 3, 43, 44, 45, 46, 47, 48, 49, 50, 51, 52, 53, 54, 55, 56, 57, 58, 59, 60, 61, 62, 63, 64, 65, 66, 67, 68, 69, 70, 71, 72, 73, 74, 75, 76, 77, 78, 79, 80, 81, 82, 83, 84, 85, 86, 87, 88, 89, 90, 91, 92, 93, 94, 95, 96, 97, 98, 99, 100, 101, 102, 103, 104, 105, 106, 107, 108, 109, 110, 111, 112, 113, 114, 115, 116, 117, 118, 119, 120, 121, 122] (by decide +kernel) (by decide +kernel)
set_option maxRecDepth 20000 in
theorem gX12_takesClause_X12_takesE : GoodIn wsX12_takesClause (wsV RX12 219 RX12 yX12_takesE wsX12_takesE) := goodIn_app (goodIn_of _ (by decide +kernel)) ggX12_takesClause_X12_takesE
set_option maxRecDepth 20000 in
theorem ggX12_takesClause_X12_takesNumber : GoodIn wsX12_takesClause wsX12_takesNumber := goodIn_r _ [54, 3, 13, 55, 56, 57, 7, 58, 16, 17, 18, 19, 14, 15, 47, 48, 49, 50, 72, 73, 74, 75, 76, 77, 78, 79, 80, 81, 82, 83, 84, 85, 86, 87, 88, 89, 90, 91, 92, 93, 94, 95, 96, 97, 98, 99, 100, 101, 102, 103, 104, 105, 106, 107, 108, 109, 110, 111, 112, 113, 114, 115, 116, 117, 118, 119, 120, 121, 122] (by decide +kernel) (by decide +kernel)
set_option maxRecDepth 20000 in
theorem gX12_takesClause_X12_takesNumber : GoodIn wsX12_takesClause (wsV RX12 197 RX12 yX12_takesNumber wsX12_takesNumber) := goodIn_app (goodIn_of _ (by decide +kernel)) ggX12_takesClause_X12_takesNumber
set_option maxRecDepth 20000 in
theorem ggX12_takesClause_X12_takes : GoodIn wsX12_takesClause wsX12_takes := goodIn_r _ [28, 13, 16, 17, 18, 7, 19, 14, 15, 72, 73, 74, 75, 76, 77, 78, 79, 80, 81, 82, 83, 84, 85, 86, 87, 88, 89, 90, 91, 92, 93, 94, 95, 96, 97, 98, 99, 100, 101, 102, 103, 104, 105, 106, 107, 108, 109, 110, 111, 112, 113, 114, 115, 116, 117, 118, 119, 120, 121, 122] (by decide +kernel) (by decide +kernel)
set_option maxRecDepth 20000 in
theorem gX12_takesClause_X12_takes : GoodIn wsX12_takesClause (wsV RX12 182 RX12 yX12_takes wsX12_takes) := goodIn_app (goodIn_of _ (by decide +kernel)) ggX12_takesClause_X12_takes
theorem dX12_takesClause_0 : decode cX12_takesClause 0 = .ok (.aload_n 0, 1) := by decide +kernel
theorem dX12_takesClause_1 : decode cX12_takesClause 1 = .ok (.iload_n 1, 1) := by decide +kernel
theorem dX12_takesClause_2 : decode cX12_takesClause 2 = .ok (.invokevirtual 216, 3) := by decide +kernel
theorem dX12_takesClause_5 : decode cX12_takesClause 5 = .ok (.ifCond .ne 5, 3) := by decide +kernel
theorem dX12_takesClause_8 : decode cX12_takesClause 8 = .ok (.iconst 0, 1) := by decide +kernel
theorem dX12_takesClause_9 : decode cX12_takesClause 9 = .ok (.ireturn, 1) := by decide +kernel
theorem dX12_takesClause_10 : decode cX12_takesClause 10 = .ok (.aload_n 0, 1) := by decide +kernel
theorem dX12_takesClause_11 : decode cX12_takesClause 11 = .ok (.getfield 69, 3) := by decide +kernel
theorem dX12_takesClause_14 : decode cX12_takesClause 14 = .ok (.iload_n 1, 1) := by decide +kernel
theorem dX12_takesClause_15 : decode cX12_takesClause 15 = .ok (.iaload, 1) := by decide +kernel
theorem dX12_takesClause_16 : decode cX12_takesClause 16 = .ok (.iconst 2, 1) := by decide +kernel
theorem dX12_takesClause_17 : decode cX12_takesClause 17 = .ok (.if_icmp .ne 9, 3) := by decide +kernel
theorem dX12_takesClause_20 : decode cX12_takesClause 20 = .ok (.aload_n 0, 1) := by decide +kernel
theorem dX12_takesClause_21 : decode cX12_takesClause 21 = .ok (.iload_n 1, 1) := by decide +kernel
theorem dX12_takesClause_22 : decode cX12_takesClause 22 = .ok (.invokevirtual 219, 3) := by decide +kernel
theorem dX12_takesClause_25 : decode cX12_takesClause 25 = .ok (.ireturn, 1) := by decide +kernel
theorem dX12_takesClause_26 : decode cX12_takesClause 26 = .ok (.aload_n 0, 1) := by decide +kernel
theorem dX12_takesClause_27 : decode cX12_takesClause 27 = .ok (.invokevirtual 197, 3) := by decide +kernel
theorem dX12_takesClause_30 : decode cX12_takesClause 30 = .ok (.ifCond .ne 5, 3) := by decide +kernel
theorem dX12_takesClause_33 : decode cX12_takesClause 33 = .ok (.iconst 0, 1) := by decide +kernel
theorem dX12_takesClause_34 : decode cX12_takesClause 34 = .ok (.ireturn, 1) := by decide +kernel
theorem dX12_takesClause_35 : decode cX12_takesClause 35 = .ok (.aload_n 0, 1) := by decide +kernel
theorem dX12_takesClause_36 : decode cX12_takesClause 36 = .ok (.getfield 72, 3) := by decide +kernel
theorem dX12_takesClause_39 : decode cX12_takesClause 39 = .ok (.iload_n 1, 1) := by decide +kernel
theorem dX12_takesClause_40 : decode cX12_takesClause 40 = .ok (.aload_n 0, 1) := by decide +kernel
theorem dX12_takesClause_41 : decode cX12_takesClause 41 = .ok (.getfield 60, 3) := by decide +kernel
theorem dX12_takesClause_44 : decode cX12_takesClause 44 = .ok (.iastore, 1) := by decide +kernel
theorem dX12_takesClause_45 : decode cX12_takesClause 45 = .ok (.aload_n 0, 1) := by decide +kernel
theorem dX12_takesClause_46 : decode cX12_takesClause 46 = .ok (.getfield 69, 3) := by decide +kernel
theorem dX12_takesClause_49 : decode cX12_takesClause 49 = .ok (.iload_n 1, 1) := by decide +kernel
theorem dX12_takesClause_50 : decode cX12_takesClause 50 = .ok (.iaload, 1) := by decide +kernel
theorem dX12_takesClause_51 : decode cX12_takesClause 51 = .ok (.iconst 3, 1) := by decide +kernel
theorem dX12_takesClause_52 : decode cX12_takesClause 52 = .ok (.if_icmp .eq 20, 3) := by decide +kernel
theorem dX12_takesClause_55 : decode cX12_takesClause 55 = .ok (.aload_n 0, 1) := by decide +kernel
theorem dX12_takesClause_56 : decode cX12_takesClause 56 = .ok (.bipush 32, 2) := by decide +kernel
theorem dX12_takesClause_58 : decode cX12_takesClause 58 = .ok (.invokevirtual 182, 3) := by decide +kernel
theorem dX12_takesClause_61 : decode cX12_takesClause 61 = .ok (.ifCond .eq 15, 3) := by decide +kernel
theorem dX12_takesClause_64 : decode cX12_takesClause 64 = .ok (.aload_n 0, 1) := by decide +kernel
theorem dX12_takesClause_65 : decode cX12_takesClause 65 = .ok (.iload_n 1, 1) := by decide +kernel
theorem dX12_takesClause_66 : decode cX12_takesClause 66 = .ok (.invokevirtual 219, 3) := by decide +kernel
theorem dX12_takesClause_69 : decode cX12_takesClause 69 = .ok (.ifCond .eq 7, 3) := by decide +kernel
theorem dX12_takesClause_72 : decode cX12_takesClause 72 = .ok (.iconst 1, 1) := by decide +kernel
theorem dX12_takesClause_73 : decode cX12_takesClause 73 = .ok (.goto 4, 3) := by decide +kernel
theorem dX12_takesClause_76 : decode cX12_takesClause 76 = .ok (.iconst 0, 1) := by decide +kernel
theorem dX12_takesClause_77 : decode cX12_takesClause 77 = .ok (.ireturn, 1) := by decide +kernel
set_option maxRecDepth 20000 in
theorem ggX12_goesText_X12_takesClause : GoodIn wsX12_goesText wsX12_takesClause := goodIn_r _ [9, 10, 11, 12, 13, 14, 15, 8, 16, 17, 18, 19, 20, 1, 4, 21, 22, 23, 24, 25, 26, 27, 28, 29, 30, 31, 32, 33, 34, 35, 36, 37, 38, 39, 40, 41, 2, 42, 43, 44, 45, 46, 47, 48, 49, 50, 51, 52, 53, 54, 55, 56, 57, 58, 59, 60, 61, 62, 63, 64, 65, 66, 67, 68, 69, 70, 71, 72, 73, 74, 75, 76, 77, 78, 79, 80, 81, 82, 83, 84, 85, 86, 87, 88, 89, 90, 91, 92, 93, 94, 95, 96, 97, 98, 99, 100, 101, 102, 103, 104, 105, 106, 107, 108, 109, 110, 111, 112, 113, 114, 115, 116, 117, 118, 119, 120, 121, 122, 123, 124, 125, 126, 127] (by decide +kernel) (by decide +kernel)
set_option maxRecDepth 20000 in
theorem gX12_goesText_X12_takesClause : GoodIn wsX12_goesText (wsV RX12 222 RX12 yX12_takesClause wsX12_takesClause) := goodIn_app (goodIn_of _ (by decide +kernel)) ggX12_goesText_X12_takesClause
set_option maxRecDepth 20000 in
theorem ggX12_goesText_X12_takes : GoodIn wsX12_goesText wsX12_takes := goodIn_r _ [34, 1, 22, 23, 24, 8, 25, 4, 21, 77, 78, 79, 80, 81, 82, 83, 84, 85, 86, 87, 88, 89, 90, 91, 92, 93, 94, 95, 96, 97, 98, 99, 100, 101, 102, 103, 104, 105, 106, 107, 108, 109, 110, 111, 112, 113, 114, 115, 116, 117, 118, 119, 120, 121, 122, 123, 124, 125, 126, 127] (by decide +kernel) (by decide +kernel)
set_option maxRecDepth 20000 in
theorem gX12_goesText_X12_takes : GoodIn wsX12_goesText (wsV RX12 182 RX12 yX12_takes wsX12_takes) := goodIn_app (goodIn_of _ (by decide +kernel)) ggX12_goesText_X12_takes
theorem dX12_goesText_0 : decode cX12_goesText 0 = .ok (.aload_n 0, 1) := by decide +kernel
theorem dX12_goesText_1 : decode cX12_goesText 1 = .ok (.iconst 0, 1) := by decide +kernel
theorem dX12_goesText_2 : decode cX12_goesText 2 = .ok (.putfield 57, 3) := by decide +kernel
theorem dX12_goesText_5 : decode cX12_goesText 5 = .ok (.aload_n 0, 1) := by decide +kernel
theorem dX12_goesText_6 : decode cX12_goesText 6 = .ok (.bipush 100, 2) := by decide +kernel
theorem dX12_goesText_8 : decode cX12_goesText 8 = .ok (.iload_n 1, 1) := by decide +kernel
theorem dX12_goesText_9 : decode cX12_goesText 9 = .ok (.imul, 1) := by decide +kernel
theorem dX12_goesText_10 : decode cX12_goesText 10 = .ok (.putfield 87, 3) := by decide +kernel
theorem dX12_goesText_13 : decode cX12_goesText 13 = .ok (.iconst 0, 1) := by decide +kernel
theorem dX12_goesText_14 : decode cX12_goesText 14 = .ok (.istore_n 2, 1) := by decide +kernel
theorem dX12_goesText_15 : decode cX12_goesText 15 = .ok (.aload_n 0, 1) := by decide +kernel
theorem dX12_goesText_16 : decode cX12_goesText 16 = .ok (.bipush 10, 2) := by decide +kernel
theorem dX12_goesText_18 : decode cX12_goesText 18 = .ok (.iload_n 1, 1) := by decide +kernel
theorem dX12_goesText_19 : decode cX12_goesText 19 = .ok (.imul, 1) := by decide +kernel
theorem dX12_goesText_20 : decode cX12_goesText 20 = .ok (.iload_n 2, 1) := by decide +kernel
theorem dX12_goesText_21 : decode cX12_goesText 21 = .ok (.iadd, 1) := by decide +kernel
theorem dX12_goesText_22 : decode cX12_goesText 22 = .ok (.invokevirtual 222, 3) := by decide +kernel
theorem dX12_goesText_25 : decode cX12_goesText 25 = .ok (.ifCond .ne 5, 3) := by decide +kernel
theorem dX12_goesText_28 : decode cX12_goesText 28 = .ok (.iconst 0, 1) := by decide +kernel
theorem dX12_goesText_29 : decode cX12_goesText 29 = .ok (.ireturn, 1) := by decide +kernel
theorem dX12_goesText_30 : decode cX12_goesText 30 = .ok (.iinc 2 1, 3) := by decide +kernel
theorem dX12_goesText_33 : decode cX12_goesText 33 = .ok (.aload_n 0, 1) := by decide +kernel
theorem dX12_goesText_34 : decode cX12_goesText 34 = .ok (.getfield 66, 3) := by decide +kernel
theorem dX12_goesText_37 : decode cX12_goesText 37 = .ok (.iload_n 1, 1) := by decide +kernel
theorem dX12_goesText_38 : decode cX12_goesText 38 = .ok (.iload_n 2, 1) := by decide +kernel
theorem dX12_goesText_39 : decode cX12_goesText 39 = .ok (.iastore, 1) := by decide +kernel
theorem dX12_goesText_40 : decode cX12_goesText 40 = .ok (.aload_n 0, 1) := by decide +kernel
theorem dX12_goesText_41 : decode cX12_goesText 41 = .ok (.getfield 57, 3) := by decide +kernel
theorem dX12_goesText_44 : decode cX12_goesText 44 = .ok (.aload_n 0, 1) := by decide +kernel
theorem dX12_goesText_45 : decode cX12_goesText 45 = .ok (.getfield 54, 3) := by decide +kernel
theorem dX12_goesText_48 : decode cX12_goesText 48 = .ok (.if_icmp .ne 5, 3) := by decide +kernel
theorem dX12_goesText_51 : decode cX12_goesText 51 = .ok (.iconst 1, 1) := by decide +kernel
theorem dX12_goesText_52 : decode cX12_goesText 52 = .ok (.ireturn, 1) := by decide +kernel
theorem dX12_goesText_53 : decode cX12_goesText 53 = .ok (.iload_n 2, 1) := by decide +kernel
theorem dX12_goesText_54 : decode cX12_goesText 54 = .ok (.bipush 10, 2) := by decide +kernel
theorem dX12_goesText_56 : decode cX12_goesText 56 = .ok (.if_icmp .eq 12, 3) := by decide +kernel
theorem dX12_goesText_59 : decode cX12_goesText 59 = .ok (.aload_n 0, 1) := by decide +kernel
theorem dX12_goesText_60 : decode cX12_goesText 60 = .ok (.bipush 59, 2) := by decide +kernel
theorem dX12_goesText_62 : decode cX12_goesText 62 = .ok (.invokevirtual 182, 3) := by decide +kernel
theorem dX12_goesText_65 : decode cX12_goesText 65 = .ok (.ifCond .ne (-50), 3) := by decide +kernel
theorem dX12_goesText_68 : decode cX12_goesText 68 = .ok (.iconst 0, 1) := by decide +kernel
theorem dX12_goesText_69 : decode cX12_goesText 69 = .ok (.ireturn, 1) := by decide +kernel
set_option maxRecDepth 20000 in
theorem ggX12_room_X12_goesText : GoodIn wsX12_room wsX12_goesText := goodIn_r _ [9, 3, 10, 11, 2, 12, 13, 14, 8, 15, 16, 17, 18, 19, 20, 21, 22, 23, 24, 25, 26, 27, 28, 29, 30, 31, 32, 33, 34, 35, 36, 37, 38, 39, 40, 41, 42, 43, 44, 45, 46, 47, 48, 49, 50, 51, 52, 53, 54, 55, 56, 57, 58, 59, 60, 61, 62, 63, 64, 65, 66, 67, 68, 69, 70, 71, 72, 73, 74, 75, 76, 77, 78, 79, 80, 81, 82, 83, 84, 85, 86, 87, 88, 89, 90, 91, 92, 93, 94, 95, 96, 97, 98, 99, 100, 101, 102, 103, 104, 105, 106, 107, 108, 109, 110, 111, 112, 113, 114, 115, 116, 117, 118, 119, 120, 121, 122, 123, 124, 125, 126, 127, 128, 129, 130, 131, 132, 133] (by decide +kernel) (by decide +kernel)
set_option maxRecDepth 20000 in
theorem gX12_room_X12_goesText : GoodIn wsX12_room (wsV RX12 225 RX12 yX12_goesText wsX12_goesText) := goodIn_app (goodIn_of _ (by decide +kernel)) ggX12_room_X12_goesText
theorem dX12_room_0 : decode cX12_room 0 = .ok (.aload_n 0, 1) := by decide +kernel
theorem dX12_room_1 : decode cX12_room 1 = .ok (.getfield 48, 3) := by decide +kernel
theorem dX12_room_4 : decode cX12_room 4 = .ok (.bipush 6, 2) := by decide +kernel
theorem dX12_room_6 : decode cX12_room 6 = .ok (.if_icmp .ne 6, 3) := by decide +kernel
theorem dX12_room_9 : decode cX12_room 9 = .ok (.bipush (-4), 2) := by decide +kernel
theorem dX12_room_11 : decode cX12_room 11 = .ok (.ireturn, 1) := by decide +kernel
theorem dX12_room_12 : decode cX12_room 12 = .ok (.aload_n 0, 1) := by decide +kernel
theorem dX12_room_13 : decode cX12_room 13 = .ok (.aload_n 0, 1) := by decide +kernel
theorem dX12_room_14 : decode cX12_room 14 = .ok (.getfield 48, 3) := by decide +kernel
theorem dX12_room_17 : decode cX12_room 17 = .ok (.invokevirtual 225, 3) := by decide +kernel
theorem dX12_room_20 : decode cX12_room 20 = .ok (.istore_n 1, 1) := by decide +kernel
theorem dX12_room_21 : decode cX12_room 21 = .ok (.aload_n 0, 1) := by decide +kernel
theorem dX12_room_22 : decode cX12_room 22 = .ok (.iconst 0, 1) := by decide +kernel
theorem dX12_room_23 : decode cX12_room 23 = .ok (.putfield 54, 3) := by decide +kernel
theorem dX12_room_26 : decode cX12_room 26 = .ok (.iload_n 1, 1) := by decide +kernel
theorem dX12_room_27 : decode cX12_room 27 = .ok (.ifCond .ne 11, 3) := by decide +kernel
theorem dX12_room_30 : decode cX12_room 30 = .ok (.bipush (-10), 2) := by decide +kernel
theorem dX12_room_32 : decode cX12_room 32 = .ok (.aload_n 0, 1) := by decide +kernel
theorem dX12_room_33 : decode cX12_room 33 = .ok (.getfield 57, 3) := by decide +kernel
theorem dX12_room_36 : decode cX12_room 36 = .ok (.isub, 1) := by decide +kernel
theorem dX12_room_37 : decode cX12_room 37 = .ok (.ireturn, 1) := by decide +kernel
theorem dX12_room_38 : decode cX12_room 38 = .ok (.aload_n 0, 1) := by decide +kernel
theorem dX12_room_39 : decode cX12_room 39 = .ok (.aload_n 0, 1) := by decide +kernel
theorem dX12_room_40 : decode cX12_room 40 = .ok (.getfield 48, 3) := by decide +kernel
theorem dX12_room_43 : decode cX12_room 43 = .ok (.putfield 51, 3) := by decide +kernel
theorem dX12_room_46 : decode cX12_room 46 = .ok (.aload_n 0, 1) := by decide +kernel
theorem dX12_room_47 : decode cX12_room 47 = .ok (.dup, 1) := by decide +kernel
theorem dX12_room_48 : decode cX12_room 48 = .ok (.getfield 48, 3) := by decide +kernel
theorem dX12_room_51 : decode cX12_room 51 = .ok (.iconst 1, 1) := by decide +kernel
theorem dX12_room_52 : decode cX12_room 52 = .ok (.iadd, 1) := by decide +kernel
theorem dX12_room_53 : decode cX12_room 53 = .ok (.putfield 48, 3) := by decide +kernel
theorem dX12_room_56 : decode cX12_room 56 = .ok (.aload_n 0, 1) := by decide +kernel
theorem dX12_room_57 : decode cX12_room 57 = .ok (.getfield 51, 3) := by decide +kernel
theorem dX12_room_60 : decode cX12_room 60 = .ok (.ireturn, 1) := by decide +kernel
theorem dX12_first_0 : decode cX12_first 0 = .ok (.aload_n 0, 1) := by decide +kernel
theorem dX12_first_1 : decode cX12_first 1 = .ok (.getfield 51, 3) := by decide +kernel
theorem dX12_first_4 : decode cX12_first 4 = .ok (.ifCond .ge 7, 3) := by decide +kernel
theorem dX12_first_7 : decode cX12_first 7 = .ok (.iconst 0, 1) := by decide +kernel
theorem dX12_first_8 : decode cX12_first 8 = .ok (.goto 10, 3) := by decide +kernel
theorem dX12_first_11 : decode cX12_first 11 = .ok (.bipush 10, 2) := by decide +kernel
theorem dX12_first_13 : decode cX12_first 13 = .ok (.aload_n 0, 1) := by decide +kernel
theorem dX12_first_14 : decode cX12_first 14 = .ok (.getfield 51, 3) := by decide +kernel
theorem dX12_first_17 : decode cX12_first 17 = .ok (.imul, 1) := by decide +kernel
theorem dX12_first_18 : decode cX12_first 18 = .ok (.ireturn, 1) := by decide +kernel
theorem dX12_behind_0 : decode cX12_behind 0 = .ok (.aload_n 0, 1) := by decide +kernel
theorem dX12_behind_1 : decode cX12_behind 1 = .ok (.getfield 51, 3) := by decide +kernel
theorem dX12_behind_4 : decode cX12_behind 4 = .ok (.ifCond .ge 7, 3) := by decide +kernel
theorem dX12_behind_7 : decode cX12_behind 7 = .ok (.iconst 0, 1) := by decide +kernel
theorem dX12_behind_8 : decode cX12_behind 8 = .ok (.goto 20, 3) := by decide +kernel
theorem dX12_behind_11 : decode cX12_behind 11 = .ok (.bipush 10, 2) := by decide +kernel
theorem dX12_behind_13 : decode cX12_behind 13 = .ok (.aload_n 0, 1) := by decide +kernel
theorem dX12_behind_14 : decode cX12_behind 14 = .ok (.getfield 51, 3) := by decide +kernel
theorem dX12_behind_17 : decode cX12_behind 17 = .ok (.imul, 1) := by decide +kernel
theorem dX12_behind_18 : decode cX12_behind 18 = .ok (.aload_n 0, 1) := by decide +kernel
theorem dX12_behind_19 : decode cX12_behind 19 = .ok (.getfield 66, 3) := by decide +kernel
theorem dX12_behind_22 : decode cX12_behind 22 = .ok (.aload_n 0, 1) := by decide +kernel
theorem dX12_behind_23 : decode cX12_behind 23 = .ok (.getfield 51, 3) := by decide +kernel
theorem dX12_behind_26 : decode cX12_behind 26 = .ok (.iaload, 1) := by decide +kernel
theorem dX12_behind_27 : decode cX12_behind 27 = .ok (.iadd, 1) := by decide +kernel
theorem dX12_behind_28 : decode cX12_behind 28 = .ok (.ireturn, 1) := by decide +kernel
set_option maxRecDepth 20000 in
theorem ggX12_hushNow_X12_first : GoodIn wsX12_hushNow wsX12_first := goodIn_r _ [7, 8, 14, 15, 16, 17, 18, 19, 20, 21, 22, 23, 24, 25, 26, 27, 28, 29, 30, 31, 32, 33, 34, 35, 36, 37, 38, 39, 40, 41, 42, 43, 44, 45, 46, 47, 48, 49, 50, 51, 52, 53, 54, 55, 56, 57, 58, 59, 60, 61, 62, 63, 64] (by decide +kernel) (by decide +kernel)
set_option maxRecDepth 20000 in
theorem gX12_hushNow_X12_first : GoodIn wsX12_hushNow (wsV RX12 228 RX12 yX12_first wsX12_first) := goodIn_app (goodIn_of _ (by decide +kernel)) ggX12_hushNow_X12_first
set_option maxRecDepth 20000 in
theorem ggX12_hushNow_X12_behind : GoodIn wsX12_hushNow wsX12_behind := goodIn_r _ [12, 8, 13, 14, 15, 16, 17, 18, 19, 20, 21, 22, 23, 24, 25, 26, 27, 28, 29, 30, 31, 32, 33, 34, 35, 36, 37, 38, 39, 40, 41, 42, 43, 44, 45, 46, 47, 48, 49, 50, 51, 52, 53, 54, 55, 56, 57, 58, 59, 60, 61, 62, 63, 64] (by decide +kernel) (by decide +kernel)
set_option maxRecDepth 20000 in
theorem gX12_hushNow_X12_behind : GoodIn wsX12_hushNow (wsV RX12 231 RX12 yX12_behind wsX12_behind) := goodIn_app (goodIn_of _ (by decide +kernel)) ggX12_hushNow_X12_behind
theorem dX12_hushNow_0 : decode cX12_hushNow 0 = .ok (.iconst 5, 1) := by decide +kernel
theorem dX12_hushNow_1 : decode cX12_hushNow 1 = .ok (.istore_n 1, 1) := by decide +kernel
theorem dX12_hushNow_2 : decode cX12_hushNow 2 = .ok (.aload_n 0, 1) := by decide +kernel
theorem dX12_hushNow_3 : decode cX12_hushNow 3 = .ok (.invokevirtual 228, 3) := by decide +kernel
theorem dX12_hushNow_6 : decode cX12_hushNow 6 = .ok (.istore_n 2, 1) := by decide +kernel
theorem dX12_hushNow_7 : decode cX12_hushNow 7 = .ok (.iload_n 2, 1) := by decide +kernel
theorem dX12_hushNow_8 : decode cX12_hushNow 8 = .ok (.aload_n 0, 1) := by decide +kernel
theorem dX12_hushNow_9 : decode cX12_hushNow 9 = .ok (.invokevirtual 231, 3) := by decide +kernel
theorem dX12_hushNow_12 : decode cX12_hushNow 12 = .ok (.if_icmp .ge 30, 3) := by decide +kernel
theorem dX12_hushNow_15 : decode cX12_hushNow 15 = .ok (.aload_n 0, 1) := by decide +kernel
theorem dX12_hushNow_16 : decode cX12_hushNow 16 = .ok (.getfield 69, 3) := by decide +kernel
theorem dX12_hushNow_19 : decode cX12_hushNow 19 = .ok (.iload_n 2, 1) := by decide +kernel
theorem dX12_hushNow_20 : decode cX12_hushNow 20 = .ok (.iaload, 1) := by decide +kernel
theorem dX12_hushNow_21 : decode cX12_hushNow 21 = .ok (.iconst 3, 1) := by decide +kernel
theorem dX12_hushNow_22 : decode cX12_hushNow 22 = .ok (.if_icmp .ne 12, 3) := by decide +kernel
theorem dX12_hushNow_25 : decode cX12_hushNow 25 = .ok (.aload_n 0, 1) := by decide +kernel
theorem dX12_hushNow_26 : decode cX12_hushNow 26 = .ok (.getfield 72, 3) := by decide +kernel
theorem dX12_hushNow_29 : decode cX12_hushNow 29 = .ok (.iload_n 2, 1) := by decide +kernel
theorem dX12_hushNow_30 : decode cX12_hushNow 30 = .ok (.iaload, 1) := by decide +kernel
theorem dX12_hushNow_31 : decode cX12_hushNow 31 = .ok (.goto 4, 3) := by decide +kernel
theorem dX12_hushNow_34 : decode cX12_hushNow 34 = .ok (.iload_n 1, 1) := by decide +kernel
theorem dX12_hushNow_35 : decode cX12_hushNow 35 = .ok (.istore_n 1, 1) := by decide +kernel
theorem dX12_hushNow_36 : decode cX12_hushNow 36 = .ok (.iinc 2 1, 3) := by decide +kernel
theorem dX12_hushNow_39 : decode cX12_hushNow 39 = .ok (.goto (-32), 3) := by decide +kernel
theorem dX12_hushNow_42 : decode cX12_hushNow 42 = .ok (.iload_n 1, 1) := by decide +kernel
theorem dX12_hushNow_43 : decode cX12_hushNow 43 = .ok (.ireturn, 1) := by decide +kernel
theorem dX12_factOf_0 : decode cX12_factOf 0 = .ok (.iload_n 1, 1) := by decide +kernel
theorem dX12_factOf_1 : decode cX12_factOf 1 = .ok (.tableswitch 143 0 5 #[39, 41, 43, 76, 90, 111], 39) := by decide +kernel
theorem dX12_factOf_40 : decode cX12_factOf 40 = .ok (.iload_n 2, 1) := by decide +kernel
theorem dX12_factOf_41 : decode cX12_factOf 41 = .ok (.ireturn, 1) := by decide +kernel
theorem dX12_factOf_42 : decode cX12_factOf 42 = .ok (.iload_n 3, 1) := by decide +kernel
theorem dX12_factOf_43 : decode cX12_factOf 43 = .ok (.ireturn, 1) := by decide +kernel
theorem dX12_factOf_44 : decode cX12_factOf 44 = .ok (.aload_n 0, 1) := by decide +kernel
theorem dX12_factOf_45 : decode cX12_factOf 45 = .ok (.getfield 26, 3) := by decide +kernel
theorem dX12_factOf_48 : decode cX12_factOf 48 = .ok (.iload_n 3, 1) := by decide +kernel
theorem dX12_factOf_49 : decode cX12_factOf 49 = .ok (.iaload, 1) := by decide +kernel
theorem dX12_factOf_50 : decode cX12_factOf 50 = .ok (.aload_n 0, 1) := by decide +kernel
theorem dX12_factOf_51 : decode cX12_factOf 51 = .ok (.getfield 26, 3) := by decide +kernel
theorem dX12_factOf_54 : decode cX12_factOf 54 = .ok (.iload_n 2, 1) := by decide +kernel
theorem dX12_factOf_55 : decode cX12_factOf 55 = .ok (.iaload, 1) := by decide +kernel
theorem dX12_factOf_56 : decode cX12_factOf 56 = .ok (.if_icmp .le 19, 3) := by decide +kernel
theorem dX12_factOf_59 : decode cX12_factOf 59 = .ok (.aload_n 0, 1) := by decide +kernel
theorem dX12_factOf_60 : decode cX12_factOf 60 = .ok (.getfield 26, 3) := by decide +kernel
theorem dX12_factOf_63 : decode cX12_factOf 63 = .ok (.iload_n 3, 1) := by decide +kernel
theorem dX12_factOf_64 : decode cX12_factOf 64 = .ok (.iaload, 1) := by decide +kernel
theorem dX12_factOf_65 : decode cX12_factOf 65 = .ok (.aload_n 0, 1) := by decide +kernel
theorem dX12_factOf_66 : decode cX12_factOf 66 = .ok (.getfield 26, 3) := by decide +kernel
theorem dX12_factOf_69 : decode cX12_factOf 69 = .ok (.iload_n 2, 1) := by decide +kernel
theorem dX12_factOf_70 : decode cX12_factOf 70 = .ok (.iaload, 1) := by decide +kernel
theorem dX12_factOf_71 : decode cX12_factOf 71 = .ok (.isub, 1) := by decide +kernel
theorem dX12_factOf_72 : decode cX12_factOf 72 = .ok (.goto 4, 3) := by decide +kernel
theorem dX12_factOf_75 : decode cX12_factOf 75 = .ok (.iconst 0, 1) := by decide +kernel
theorem dX12_factOf_76 : decode cX12_factOf 76 = .ok (.ireturn, 1) := by decide +kernel
theorem dX12_factOf_77 : decode cX12_factOf 77 = .ok (.aload_n 0, 1) := by decide +kernel
theorem dX12_factOf_78 : decode cX12_factOf 78 = .ok (.getfield 23, 3) := by decide +kernel
theorem dX12_factOf_81 : decode cX12_factOf 81 = .ok (.iload_n 2, 1) := by decide +kernel
theorem dX12_factOf_82 : decode cX12_factOf 82 = .ok (.iaload, 1) := by decide +kernel
theorem dX12_factOf_83 : decode cX12_factOf 83 = .ok (.aload_n 0, 1) := by decide +kernel
theorem dX12_factOf_84 : decode cX12_factOf 84 = .ok (.getfield 23, 3) := by decide +kernel
theorem dX12_factOf_87 : decode cX12_factOf 87 = .ok (.iload_n 3, 1) := by decide +kernel
theorem dX12_factOf_88 : decode cX12_factOf 88 = .ok (.iaload, 1) := by decide +kernel
theorem dX12_factOf_89 : decode cX12_factOf 89 = .ok (.iadd, 1) := by decide +kernel
theorem dX12_factOf_90 : decode cX12_factOf 90 = .ok (.ireturn, 1) := by decide +kernel
theorem dX12_factOf_91 : decode cX12_factOf 91 = .ok (.aload_n 0, 1) := by decide +kernel
theorem dX12_factOf_92 : decode cX12_factOf 92 = .ok (.getfield 29, 3) := by decide +kernel
theorem dX12_factOf_95 : decode cX12_factOf 95 = .ok (.iload_n 2, 1) := by decide +kernel
theorem dX12_factOf_96 : decode cX12_factOf 96 = .ok (.iaload, 1) := by decide +kernel
theorem dX12_factOf_97 : decode cX12_factOf 97 = .ok (.aload_n 0, 1) := by decide +kernel
theorem dX12_factOf_98 : decode cX12_factOf 98 = .ok (.getfield 29, 3) := by decide +kernel
theorem dX12_factOf_101 : decode cX12_factOf 101 = .ok (.iload_n 3, 1) := by decide +kernel
theorem dX12_factOf_102 : decode cX12_factOf 102 = .ok (.iaload, 1) := by decide +kernel
theorem dX12_factOf_103 : decode cX12_factOf 103 = .ok (.if_icmp .ne 7, 3) := by decide +kernel
theorem dX12_factOf_106 : decode cX12_factOf 106 = .ok (.iconst 1, 1) := by decide +kernel
theorem dX12_factOf_107 : decode cX12_factOf 107 = .ok (.goto 4, 3) := by decide +kernel
theorem dX12_factOf_110 : decode cX12_factOf 110 = .ok (.iconst 0, 1) := by decide +kernel
theorem dX12_factOf_111 : decode cX12_factOf 111 = .ok (.ireturn, 1) := by decide +kernel
theorem dX12_factOf_112 : decode cX12_factOf 112 = .ok (.aload_n 0, 1) := by decide +kernel
theorem dX12_factOf_113 : decode cX12_factOf 113 = .ok (.getfield 32, 3) := by decide +kernel
theorem dX12_factOf_116 : decode cX12_factOf 116 = .ok (.iload_n 2, 1) := by decide +kernel
theorem dX12_factOf_117 : decode cX12_factOf 117 = .ok (.iaload, 1) := by decide +kernel
theorem dX12_factOf_118 : decode cX12_factOf 118 = .ok (.iload_n 3, 1) := by decide +kernel
theorem dX12_factOf_119 : decode cX12_factOf 119 = .ok (.if_icmp .ne 7, 3) := by decide +kernel
theorem dX12_factOf_122 : decode cX12_factOf 122 = .ok (.iconst 1, 1) := by decide +kernel
theorem dX12_factOf_123 : decode cX12_factOf 123 = .ok (.goto 4, 3) := by decide +kernel
theorem dX12_factOf_126 : decode cX12_factOf 126 = .ok (.iconst 0, 1) := by decide +kernel
theorem dX12_factOf_127 : decode cX12_factOf 127 = .ok (.aload_n 0, 1) := by decide +kernel
theorem dX12_factOf_128 : decode cX12_factOf 128 = .ok (.getfield 32, 3) := by decide +kernel
theorem dX12_factOf_131 : decode cX12_factOf 131 = .ok (.iload_n 3, 1) := by decide +kernel
theorem dX12_factOf_132 : decode cX12_factOf 132 = .ok (.iaload, 1) := by decide +kernel
theorem dX12_factOf_133 : decode cX12_factOf 133 = .ok (.iload_n 2, 1) := by decide +kernel
theorem dX12_factOf_134 : decode cX12_factOf 134 = .ok (.if_icmp .ne 7, 3) := by decide +kernel
theorem dX12_factOf_137 : decode cX12_factOf 137 = .ok (.iconst 1, 1) := by decide +kernel
theorem dX12_factOf_138 : decode cX12_factOf 138 = .ok (.goto 4, 3) := by decide +kernel
theorem dX12_factOf_141 : decode cX12_factOf 141 = .ok (.iconst 0, 1) := by decide +kernel
theorem dX12_factOf_142 : decode cX12_factOf 142 = .ok (.iadd, 1) := by decide +kernel
theorem dX12_factOf_143 : decode cX12_factOf 143 = .ok (.ireturn, 1) := by decide +kernel
theorem dX12_factOf_144 : decode cX12_factOf 144 = .ok (.iload 4, 2) := by decide +kernel
theorem dX12_factOf_146 : decode cX12_factOf 146 = .ok (.ireturn, 1) := by decide +kernel
set_option maxRecDepth 20000 in
theorem ggX12_holds_X12_factOf : GoodIn wsX12_holds wsX12_factOf := goodIn_r _ [9, 10, 11, 12, 13, 14, 15, 16, 17, 18, 19, 20, 21, 22, 23, 24, 25, 26, 27, 28, 29, 30, 31, 32, 33, 34, 35, 36, 37, 38, 39, 40, 41, 42, 43, 44, 45, 46, 47, 48, 49, 50, 51, 52, 53, 54, 55, 56, 57, 58, 59, 60, 61, 62, 63, 64] (by decide +kernel) (by decide +kernel)
set_option maxRecDepth 20000 in
theorem gX12_holds_X12_factOf : GoodIn wsX12_holds (wsV RX12 234 RX12 yX12_factOf wsX12_factOf) := goodIn_app (goodIn_of _ (by decide +kernel)) ggX12_holds_X12_factOf
theorem dX12_holds_0 : decode cX12_holds 0 = .ok (.iconst 0, 1) := by decide +kernel
theorem dX12_holds_1 : decode cX12_holds 1 = .ok (.istore 5, 2) := by decide +kernel
theorem dX12_holds_3 : decode cX12_holds 3 = .ok (.aload_n 0, 1) := by decide +kernel
theorem dX12_holds_4 : decode cX12_holds 4 = .ok (.getfield 75, 3) := by decide +kernel
theorem dX12_holds_7 : decode cX12_holds 7 = .ok (.iload_n 1, 1) := by decide +kernel
theorem dX12_holds_8 : decode cX12_holds 8 = .ok (.iaload, 1) := by decide +kernel
theorem dX12_holds_9 : decode cX12_holds 9 = .ok (.istore 6, 2) := by decide +kernel
theorem dX12_holds_11 : decode cX12_holds 11 = .ok (.iload 6, 2) := by decide +kernel
theorem dX12_holds_13 : decode cX12_holds 13 = .ok (.aload_n 0, 1) := by decide +kernel
theorem dX12_holds_14 : decode cX12_holds 14 = .ok (.getfield 78, 3) := by decide +kernel
theorem dX12_holds_17 : decode cX12_holds 17 = .ok (.iload_n 1, 1) := by decide +kernel
theorem dX12_holds_18 : decode cX12_holds 18 = .ok (.iaload, 1) := by decide +kernel
theorem dX12_holds_19 : decode cX12_holds 19 = .ok (.if_icmp .ge 236, 3) := by decide +kernel
theorem dX12_holds_22 : decode cX12_holds 22 = .ok (.aload_n 0, 1) := by decide +kernel
theorem dX12_holds_23 : decode cX12_holds 23 = .ok (.getfield 81, 3) := by decide +kernel
theorem dX12_holds_26 : decode cX12_holds 26 = .ok (.iload 6, 2) := by decide +kernel
theorem dX12_holds_28 : decode cX12_holds 28 = .ok (.iaload, 1) := by decide +kernel
theorem dX12_holds_29 : decode cX12_holds 29 = .ok (.istore 7, 2) := by decide +kernel
theorem dX12_holds_31 : decode cX12_holds 31 = .ok (.iload 7, 2) := by decide +kernel
theorem dX12_holds_33 : decode cX12_holds 33 = .ok (.bipush (-33), 2) := by decide +kernel
theorem dX12_holds_35 : decode cX12_holds 35 = .ok (.if_icmp .ne 32, 3) := by decide +kernel
theorem dX12_holds_38 : decode cX12_holds 38 = .ok (.aload_n 0, 1) := by decide +kernel
theorem dX12_holds_39 : decode cX12_holds 39 = .ok (.getfield 99, 3) := by decide +kernel
theorem dX12_holds_42 : decode cX12_holds 42 = .ok (.iload 5, 2) := by decide +kernel
theorem dX12_holds_44 : decode cX12_holds 44 = .ok (.iconst 1, 1) := by decide +kernel
theorem dX12_holds_45 : decode cX12_holds 45 = .ok (.isub, 1) := by decide +kernel
theorem dX12_holds_46 : decode cX12_holds 46 = .ok (.aload_n 0, 1) := by decide +kernel
theorem dX12_holds_47 : decode cX12_holds 47 = .ok (.getfield 99, 3) := by decide +kernel
theorem dX12_holds_50 : decode cX12_holds 50 = .ok (.iload 5, 2) := by decide +kernel
theorem dX12_holds_52 : decode cX12_holds 52 = .ok (.iconst 1, 1) := by decide +kernel
theorem dX12_holds_53 : decode cX12_holds 53 = .ok (.isub, 1) := by decide +kernel
theorem dX12_holds_54 : decode cX12_holds 54 = .ok (.baload, 1) := by decide +kernel
theorem dX12_holds_55 : decode cX12_holds 55 = .ok (.ifCond .ne 7, 3) := by decide +kernel
theorem dX12_holds_58 : decode cX12_holds 58 = .ok (.iconst 1, 1) := by decide +kernel
theorem dX12_holds_59 : decode cX12_holds 59 = .ok (.goto 4, 3) := by decide +kernel
theorem dX12_holds_62 : decode cX12_holds 62 = .ok (.iconst 0, 1) := by decide +kernel
theorem dX12_holds_63 : decode cX12_holds 63 = .ok (.bastore, 1) := by decide +kernel
theorem dX12_holds_64 : decode cX12_holds 64 = .ok (.goto 185, 3) := by decide +kernel
theorem dX12_holds_67 : decode cX12_holds 67 = .ok (.iload 7, 2) := by decide +kernel
theorem dX12_holds_69 : decode cX12_holds 69 = .ok (.ifCond .ge 82, 3) := by decide +kernel
theorem dX12_holds_72 : decode cX12_holds 72 = .ok (.iinc 5 (-1), 3) := by decide +kernel
theorem dX12_holds_75 : decode cX12_holds 75 = .ok (.aload_n 0, 1) := by decide +kernel
theorem dX12_holds_76 : decode cX12_holds 76 = .ok (.getfield 99, 3) := by decide +kernel
theorem dX12_holds_79 : decode cX12_holds 79 = .ok (.iload 5, 2) := by decide +kernel
theorem dX12_holds_81 : decode cX12_holds 81 = .ok (.iconst 1, 1) := by decide +kernel
theorem dX12_holds_82 : decode cX12_holds 82 = .ok (.isub, 1) := by decide +kernel
theorem dX12_holds_83 : decode cX12_holds 83 = .ok (.iload 7, 2) := by decide +kernel
theorem dX12_holds_85 : decode cX12_holds 85 = .ok (.bipush (-38), 2) := by decide +kernel
theorem dX12_holds_87 : decode cX12_holds 87 = .ok (.if_icmp .ne 33, 3) := by decide +kernel
theorem dX12_holds_90 : decode cX12_holds 90 = .ok (.aload_n 0, 1) := by decide +kernel
theorem dX12_holds_91 : decode cX12_holds 91 = .ok (.getfield 99, 3) := by decide +kernel
theorem dX12_holds_94 : decode cX12_holds 94 = .ok (.iload 5, 2) := by decide +kernel
theorem dX12_holds_96 : decode cX12_holds 96 = .ok (.iconst 1, 1) := by decide +kernel
theorem dX12_holds_97 : decode cX12_holds 97 = .ok (.isub, 1) := by decide +kernel
theorem dX12_holds_98 : decode cX12_holds 98 = .ok (.baload, 1) := by decide +kernel
theorem dX12_holds_99 : decode cX12_holds 99 = .ok (.ifCond .eq 17, 3) := by decide +kernel
theorem dX12_holds_102 : decode cX12_holds 102 = .ok (.aload_n 0, 1) := by decide +kernel
theorem dX12_holds_103 : decode cX12_holds 103 = .ok (.getfield 99, 3) := by decide +kernel
theorem dX12_holds_106 : decode cX12_holds 106 = .ok (.iload 5, 2) := by decide +kernel
theorem dX12_holds_108 : decode cX12_holds 108 = .ok (.baload, 1) := by decide +kernel
theorem dX12_holds_109 : decode cX12_holds 109 = .ok (.ifCond .eq 7, 3) := by decide +kernel
theorem dX12_holds_112 : decode cX12_holds 112 = .ok (.iconst 1, 1) := by decide +kernel
theorem dX12_holds_113 : decode cX12_holds 113 = .ok (.goto 34, 3) := by decide +kernel
theorem dX12_holds_116 : decode cX12_holds 116 = .ok (.iconst 0, 1) := by decide +kernel
theorem dX12_holds_117 : decode cX12_holds 117 = .ok (.goto 30, 3) := by decide +kernel
theorem dX12_holds_120 : decode cX12_holds 120 = .ok (.aload_n 0, 1) := by decide +kernel
theorem dX12_holds_121 : decode cX12_holds 121 = .ok (.getfield 99, 3) := by decide +kernel
theorem dX12_holds_124 : decode cX12_holds 124 = .ok (.iload 5, 2) := by decide +kernel
theorem dX12_holds_126 : decode cX12_holds 126 = .ok (.iconst 1, 1) := by decide +kernel
theorem dX12_holds_127 : decode cX12_holds 127 = .ok (.isub, 1) := by decide +kernel
theorem dX12_holds_128 : decode cX12_holds 128 = .ok (.baload, 1) := by decide +kernel
theorem dX12_holds_129 : decode cX12_holds 129 = .ok (.ifCond .ne 13, 3) := by decide +kernel
theorem dX12_holds_132 : decode cX12_holds 132 = .ok (.aload_n 0, 1) := by decide +kernel
theorem dX12_holds_133 : decode cX12_holds 133 = .ok (.getfield 99, 3) := by decide +kernel
theorem dX12_holds_136 : decode cX12_holds 136 = .ok (.iload 5, 2) := by decide +kernel
theorem dX12_holds_138 : decode cX12_holds 138 = .ok (.baload, 1) := by decide +kernel
theorem dX12_holds_139 : decode cX12_holds 139 = .ok (.ifCond .eq 7, 3) := by decide +kernel
theorem dX12_holds_142 : decode cX12_holds 142 = .ok (.iconst 1, 1) := by decide +kernel
theorem dX12_holds_143 : decode cX12_holds 143 = .ok (.goto 4, 3) := by decide +kernel
theorem dX12_holds_146 : decode cX12_holds 146 = .ok (.iconst 0, 1) := by decide +kernel
theorem dX12_holds_147 : decode cX12_holds 147 = .ok (.bastore, 1) := by decide +kernel
theorem dX12_holds_148 : decode cX12_holds 148 = .ok (.goto 101, 3) := by decide +kernel
theorem dX12_holds_151 : decode cX12_holds 151 = .ok (.aload_n 0, 1) := by decide +kernel
theorem dX12_holds_152 : decode cX12_holds 152 = .ok (.iload 7, 2) := by decide +kernel
theorem dX12_holds_154 : decode cX12_holds 154 = .ok (.sipush 1000, 3) := by decide +kernel
theorem dX12_holds_157 : decode cX12_holds 157 = .ok (.idiv, 1) := by decide +kernel
theorem dX12_holds_158 : decode cX12_holds 158 = .ok (.iload_n 2, 1) := by decide +kernel
theorem dX12_holds_159 : decode cX12_holds 159 = .ok (.iload_n 3, 1) := by decide +kernel
theorem dX12_holds_160 : decode cX12_holds 160 = .ok (.iload 4, 2) := by decide +kernel
theorem dX12_holds_162 : decode cX12_holds 162 = .ok (.invokevirtual 234, 3) := by decide +kernel
theorem dX12_holds_165 : decode cX12_holds 165 = .ok (.istore 8, 2) := by decide +kernel
theorem dX12_holds_167 : decode cX12_holds 167 = .ok (.iload 7, 2) := by decide +kernel
theorem dX12_holds_169 : decode cX12_holds 169 = .ok (.bipush 100, 2) := by decide +kernel
theorem dX12_holds_171 : decode cX12_holds 171 = .ok (.idiv, 1) := by decide +kernel
theorem dX12_holds_172 : decode cX12_holds 172 = .ok (.bipush 10, 2) := by decide +kernel
theorem dX12_holds_174 : decode cX12_holds 174 = .ok (.irem, 1) := by decide +kernel
theorem dX12_holds_175 : decode cX12_holds 175 = .ok (.istore 9, 2) := by decide +kernel
theorem dX12_holds_177 : decode cX12_holds 177 = .ok (.aload_n 0, 1) := by decide +kernel
theorem dX12_holds_178 : decode cX12_holds 178 = .ok (.getfield 99, 3) := by decide +kernel
theorem dX12_holds_181 : decode cX12_holds 181 = .ok (.iload 5, 2) := by decide +kernel
theorem dX12_holds_183 : decode cX12_holds 183 = .ok (.iload 9, 2) := by decide +kernel
theorem dX12_holds_185 : decode cX12_holds 185 = .ok (.ifCond .ne 21, 3) := by decide +kernel
theorem dX12_holds_188 : decode cX12_holds 188 = .ok (.iload 8, 2) := by decide +kernel
theorem dX12_holds_190 : decode cX12_holds 190 = .ok (.iload 7, 2) := by decide +kernel
theorem dX12_holds_192 : decode cX12_holds 192 = .ok (.bipush 100, 2) := by decide +kernel
theorem dX12_holds_194 : decode cX12_holds 194 = .ok (.irem, 1) := by decide +kernel
theorem dX12_holds_195 : decode cX12_holds 195 = .ok (.if_icmp .ge 7, 3) := by decide +kernel
theorem dX12_holds_198 : decode cX12_holds 198 = .ok (.iconst 1, 1) := by decide +kernel
theorem dX12_holds_199 : decode cX12_holds 199 = .ok (.goto 46, 3) := by decide +kernel
theorem dX12_holds_202 : decode cX12_holds 202 = .ok (.iconst 0, 1) := by decide +kernel
theorem dX12_holds_203 : decode cX12_holds 203 = .ok (.goto 42, 3) := by decide +kernel
theorem dX12_holds_206 : decode cX12_holds 206 = .ok (.iload 9, 2) := by decide +kernel
theorem dX12_holds_208 : decode cX12_holds 208 = .ok (.iconst 1, 1) := by decide +kernel
theorem dX12_holds_209 : decode cX12_holds 209 = .ok (.if_icmp .ne 21, 3) := by decide +kernel
theorem dX12_holds_212 : decode cX12_holds 212 = .ok (.iload 8, 2) := by decide +kernel
theorem dX12_holds_214 : decode cX12_holds 214 = .ok (.iload 7, 2) := by decide +kernel
theorem dX12_holds_216 : decode cX12_holds 216 = .ok (.bipush 100, 2) := by decide +kernel
theorem dX12_holds_218 : decode cX12_holds 218 = .ok (.irem, 1) := by decide +kernel
theorem dX12_holds_219 : decode cX12_holds 219 = .ok (.if_icmp .ne 7, 3) := by decide +kernel
theorem dX12_holds_222 : decode cX12_holds 222 = .ok (.iconst 1, 1) := by decide +kernel
theorem dX12_holds_223 : decode cX12_holds 223 = .ok (.goto 22, 3) := by decide +kernel
theorem dX12_holds_226 : decode cX12_holds 226 = .ok (.iconst 0, 1) := by decide +kernel
theorem dX12_holds_227 : decode cX12_holds 227 = .ok (.goto 18, 3) := by decide +kernel
theorem dX12_holds_230 : decode cX12_holds 230 = .ok (.iload 8, 2) := by decide +kernel
theorem dX12_holds_232 : decode cX12_holds 232 = .ok (.iload 7, 2) := by decide +kernel
theorem dX12_holds_234 : decode cX12_holds 234 = .ok (.bipush 100, 2) := by decide +kernel
theorem dX12_holds_236 : decode cX12_holds 236 = .ok (.irem, 1) := by decide +kernel
theorem dX12_holds_237 : decode cX12_holds 237 = .ok (.if_icmp .le 7, 3) := by decide +kernel
theorem dX12_holds_240 : decode cX12_holds 240 = .ok (.iconst 1, 1) := by decide +kernel
theorem dX12_holds_241 : decode cX12_holds 241 = .ok (.goto 4, 3) := by decide +kernel
theorem dX12_holds_244 : decode cX12_holds 244 = .ok (.iconst 0, 1) := by decide +kernel
theorem dX12_holds_245 : decode cX12_holds 245 = .ok (.bastore, 1) := by decide +kernel
theorem dX12_holds_246 : decode cX12_holds 246 = .ok (.iinc 5 1, 3) := by decide +kernel
theorem dX12_holds_249 : decode cX12_holds 249 = .ok (.iinc 6 1, 3) := by decide +kernel
theorem dX12_holds_252 : decode cX12_holds 252 = .ok (.goto (-241), 3) := by decide +kernel
theorem dX12_holds_255 : decode cX12_holds 255 = .ok (.aload_n 0, 1) := by decide +kernel
theorem dX12_holds_256 : decode cX12_holds 256 = .ok (.getfield 99, 3) := by decide +kernel
theorem dX12_holds_259 : decode cX12_holds 259 = .ok (.iconst 0, 1) := by decide +kernel
theorem dX12_holds_260 : decode cX12_holds 260 = .ok (.baload, 1) := by decide +kernel
theorem dX12_holds_261 : decode cX12_holds 261 = .ok (.ireturn, 1) := by decide +kernel
set_option maxRecDepth 20000 in
theorem ggX12_sumOf_X12_first : GoodIn wsX12_sumOf wsX12_first := goodIn_r _ [7, 8, 30, 31, 32, 33, 34, 35, 36, 37, 38, 39, 40, 41, 42, 43, 44, 45, 46, 47, 48, 49, 50, 51, 52, 53, 54, 55, 56, 57, 58, 59, 60, 61, 62, 63, 64, 65, 66, 67, 68, 69, 70, 71, 72, 73, 74, 75, 76, 77, 78, 79, 80] (by decide +kernel) (by decide +kernel)
set_option maxRecDepth 20000 in
theorem gX12_sumOf_X12_first : GoodIn wsX12_sumOf (wsV RX12 228 RX12 yX12_first wsX12_first) := goodIn_app (goodIn_of _ (by decide +kernel)) ggX12_sumOf_X12_first
set_option maxRecDepth 20000 in
theorem ggX12_sumOf_X12_behind : GoodIn wsX12_sumOf wsX12_behind := goodIn_r _ [12, 8, 13, 30, 31, 32, 33, 34, 35, 36, 37, 38, 39, 40, 41, 42, 43, 44, 45, 46, 47, 48, 49, 50, 51, 52, 53, 54, 55, 56, 57, 58, 59, 60, 61, 62, 63, 64, 65, 66, 67, 68, 69, 70, 71, 72, 73, 74, 75, 76, 77, 78, 79, 80] (by decide +kernel) (by decide +kernel)
set_option maxRecDepth 20000 in
theorem gX12_sumOf_X12_behind : GoodIn wsX12_sumOf (wsV RX12 231 RX12 yX12_behind wsX12_behind) := goodIn_app (goodIn_of _ (by decide +kernel)) ggX12_sumOf_X12_behind
set_option maxRecDepth 20000 in
theorem ggX12_sumOf_X12_holds : GoodIn wsX12_sumOf wsX12_holds := goodIn_r _ [17, 18, 19, 20, 21, 22, 23, 24, 6, 25, 26, 27, 28, 29, 30, 31, 32, 33, 34, 35, 36, 37, 38, 39, 40, 41, 42, 43, 44, 45, 46, 47, 48, 49, 50, 51, 52, 53, 54, 55, 56, 57, 58, 59, 60, 61, 62, 63, 64, 65, 66, 67, 68, 69, 70, 71, 72, 73, 74, 75, 76, 77, 78, 79, 80] (by decide +kernel) (by decide +kernel)
set_option maxRecDepth 20000 in
theorem gX12_sumOf_X12_holds : GoodIn wsX12_sumOf (wsV RX12 238 RX12 yX12_holds wsX12_holds) := goodIn_app (goodIn_of _ (by decide +kernel)) ggX12_sumOf_X12_holds
theorem dX12_sumOf_0 : decode cX12_sumOf 0 = .ok (.iconst 0, 1) := by decide +kernel
theorem dX12_sumOf_1 : decode cX12_sumOf 1 = .ok (.istore 5, 2) := by decide +kernel
theorem dX12_sumOf_3 : decode cX12_sumOf 3 = .ok (.aload_n 0, 1) := by decide +kernel
theorem dX12_sumOf_4 : decode cX12_sumOf 4 = .ok (.invokevirtual 228, 3) := by decide +kernel
theorem dX12_sumOf_7 : decode cX12_sumOf 7 = .ok (.istore 6, 2) := by decide +kernel
theorem dX12_sumOf_9 : decode cX12_sumOf 9 = .ok (.iload 6, 2) := by decide +kernel
theorem dX12_sumOf_11 : decode cX12_sumOf 11 = .ok (.aload_n 0, 1) := by decide +kernel
theorem dX12_sumOf_12 : decode cX12_sumOf 12 = .ok (.invokevirtual 231, 3) := by decide +kernel
theorem dX12_sumOf_15 : decode cX12_sumOf 15 = .ok (.if_icmp .ge 49, 3) := by decide +kernel
theorem dX12_sumOf_18 : decode cX12_sumOf 18 = .ok (.iload 5, 2) := by decide +kernel
theorem dX12_sumOf_20 : decode cX12_sumOf 20 = .ok (.aload_n 0, 1) := by decide +kernel
theorem dX12_sumOf_21 : decode cX12_sumOf 21 = .ok (.getfield 69, 3) := by decide +kernel
theorem dX12_sumOf_24 : decode cX12_sumOf 24 = .ok (.iload 6, 2) := by decide +kernel
theorem dX12_sumOf_26 : decode cX12_sumOf 26 = .ok (.iaload, 1) := by decide +kernel
theorem dX12_sumOf_27 : decode cX12_sumOf 27 = .ok (.iload_n 1, 1) := by decide +kernel
theorem dX12_sumOf_28 : decode cX12_sumOf 28 = .ok (.if_icmp .ne 26, 3) := by decide +kernel
theorem dX12_sumOf_31 : decode cX12_sumOf 31 = .ok (.aload_n 0, 1) := by decide +kernel
theorem dX12_sumOf_32 : decode cX12_sumOf 32 = .ok (.iload 6, 2) := by decide +kernel
theorem dX12_sumOf_34 : decode cX12_sumOf 34 = .ok (.iload_n 2, 1) := by decide +kernel
theorem dX12_sumOf_35 : decode cX12_sumOf 35 = .ok (.iload_n 3, 1) := by decide +kernel
theorem dX12_sumOf_36 : decode cX12_sumOf 36 = .ok (.iload 4, 2) := by decide +kernel
theorem dX12_sumOf_38 : decode cX12_sumOf 38 = .ok (.invokevirtual 238, 3) := by decide +kernel
theorem dX12_sumOf_41 : decode cX12_sumOf 41 = .ok (.ifCond .eq 13, 3) := by decide +kernel
theorem dX12_sumOf_44 : decode cX12_sumOf 44 = .ok (.aload_n 0, 1) := by decide +kernel
theorem dX12_sumOf_45 : decode cX12_sumOf 45 = .ok (.getfield 72, 3) := by decide +kernel
theorem dX12_sumOf_48 : decode cX12_sumOf 48 = .ok (.iload 6, 2) := by decide +kernel
theorem dX12_sumOf_50 : decode cX12_sumOf 50 = .ok (.iaload, 1) := by decide +kernel
theorem dX12_sumOf_51 : decode cX12_sumOf 51 = .ok (.goto 4, 3) := by decide +kernel
theorem dX12_sumOf_54 : decode cX12_sumOf 54 = .ok (.iconst 0, 1) := by decide +kernel
theorem dX12_sumOf_55 : decode cX12_sumOf 55 = .ok (.iadd, 1) := by decide +kernel
theorem dX12_sumOf_56 : decode cX12_sumOf 56 = .ok (.istore 5, 2) := by decide +kernel
theorem dX12_sumOf_58 : decode cX12_sumOf 58 = .ok (.iinc 6 1, 3) := by decide +kernel
theorem dX12_sumOf_61 : decode cX12_sumOf 61 = .ok (.goto (-52), 3) := by decide +kernel
theorem dX12_sumOf_64 : decode cX12_sumOf 64 = .ok (.iload 5, 2) := by decide +kernel
theorem dX12_sumOf_66 : decode cX12_sumOf 66 = .ok (.ireturn, 1) := by decide +kernel
set_option maxRecDepth 20000 in
theorem ggX12_isBarred_X12_first : GoodIn wsX12_isBarred wsX12_first := goodIn_r _ [6, 7, 29, 30, 31, 32, 33, 34, 35, 36, 37, 38, 39, 40, 41, 42, 43, 44, 45, 46, 47, 48, 49, 50, 51, 52, 53, 54, 55, 56, 57, 58, 59, 60, 61, 62, 63, 64, 65, 66, 67, 68, 69, 70, 71, 72, 73, 74, 75, 76, 77, 78, 79] (by decide +kernel) (by decide +kernel)
set_option maxRecDepth 20000 in
theorem gX12_isBarred_X12_first : GoodIn wsX12_isBarred (wsV RX12 228 RX12 yX12_first wsX12_first) := goodIn_app (goodIn_of _ (by decide +kernel)) ggX12_isBarred_X12_first
set_option maxRecDepth 20000 in
theorem ggX12_isBarred_X12_behind : GoodIn wsX12_isBarred wsX12_behind := goodIn_r _ [11, 7, 12, 29, 30, 31, 32, 33, 34, 35, 36, 37, 38, 39, 40, 41, 42, 43, 44, 45, 46, 47, 48, 49, 50, 51, 52, 53, 54, 55, 56, 57, 58, 59, 60, 61, 62, 63, 64, 65, 66, 67, 68, 69, 70, 71, 72, 73, 74, 75, 76, 77, 78, 79] (by decide +kernel) (by decide +kernel)
set_option maxRecDepth 20000 in
theorem gX12_isBarred_X12_behind : GoodIn wsX12_isBarred (wsV RX12 231 RX12 yX12_behind wsX12_behind) := goodIn_app (goodIn_of _ (by decide +kernel)) ggX12_isBarred_X12_behind
set_option maxRecDepth 20000 in
theorem ggX12_isBarred_X12_holds : GoodIn wsX12_isBarred wsX12_holds := goodIn_r _ [16, 17, 18, 19, 20, 21, 22, 23, 5, 24, 25, 26, 27, 28, 29, 30, 31, 32, 33, 34, 35, 36, 37, 38, 39, 40, 41, 42, 43, 44, 45, 46, 47, 48, 49, 50, 51, 52, 53, 54, 55, 56, 57, 58, 59, 60, 61, 62, 63, 64, 65, 66, 67, 68, 69, 70, 71, 72, 73, 74, 75, 76, 77, 78, 79] (by decide +kernel) (by decide +kernel)
set_option maxRecDepth 20000 in
theorem gX12_isBarred_X12_holds : GoodIn wsX12_isBarred (wsV RX12 238 RX12 yX12_holds wsX12_holds) := goodIn_app (goodIn_of _ (by decide +kernel)) ggX12_isBarred_X12_holds
theorem dX12_isBarred_0 : decode cX12_isBarred 0 = .ok (.aload_n 0, 1) := by decide +kernel
theorem dX12_isBarred_1 : decode cX12_isBarred 1 = .ok (.invokevirtual 228, 3) := by decide +kernel
theorem dX12_isBarred_4 : decode cX12_isBarred 4 = .ok (.istore 4, 2) := by decide +kernel
theorem dX12_isBarred_6 : decode cX12_isBarred 6 = .ok (.iload 4, 2) := by decide +kernel
theorem dX12_isBarred_8 : decode cX12_isBarred 8 = .ok (.aload_n 0, 1) := by decide +kernel
theorem dX12_isBarred_9 : decode cX12_isBarred 9 = .ok (.invokevirtual 231, 3) := by decide +kernel
theorem dX12_isBarred_12 : decode cX12_isBarred 12 = .ok (.if_icmp .ge 46, 3) := by decide +kernel
theorem dX12_isBarred_15 : decode cX12_isBarred 15 = .ok (.aload_n 0, 1) := by decide +kernel
theorem dX12_isBarred_16 : decode cX12_isBarred 16 = .ok (.getfield 69, 3) := by decide +kernel
theorem dX12_isBarred_19 : decode cX12_isBarred 19 = .ok (.iload 4, 2) := by decide +kernel
theorem dX12_isBarred_21 : decode cX12_isBarred 21 = .ok (.iaload, 1) := by decide +kernel
theorem dX12_isBarred_22 : decode cX12_isBarred 22 = .ok (.iconst 2, 1) := by decide +kernel
theorem dX12_isBarred_23 : decode cX12_isBarred 23 = .ok (.if_icmp .ne 29, 3) := by decide +kernel
theorem dX12_isBarred_26 : decode cX12_isBarred 26 = .ok (.aload_n 0, 1) := by decide +kernel
theorem dX12_isBarred_27 : decode cX12_isBarred 27 = .ok (.iload 4, 2) := by decide +kernel
theorem dX12_isBarred_29 : decode cX12_isBarred 29 = .ok (.iload_n 1, 1) := by decide +kernel
theorem dX12_isBarred_30 : decode cX12_isBarred 30 = .ok (.iload_n 2, 1) := by decide +kernel
theorem dX12_isBarred_31 : decode cX12_isBarred 31 = .ok (.iload_n 3, 1) := by decide +kernel
theorem dX12_isBarred_32 : decode cX12_isBarred 32 = .ok (.invokevirtual 238, 3) := by decide +kernel
theorem dX12_isBarred_35 : decode cX12_isBarred 35 = .ok (.ifCond .ne 15, 3) := by decide +kernel
theorem dX12_isBarred_38 : decode cX12_isBarred 38 = .ok (.aload_n 0, 1) := by decide +kernel
theorem dX12_isBarred_39 : decode cX12_isBarred 39 = .ok (.iload 4, 2) := by decide +kernel
theorem dX12_isBarred_41 : decode cX12_isBarred 41 = .ok (.iload_n 2, 1) := by decide +kernel
theorem dX12_isBarred_42 : decode cX12_isBarred 42 = .ok (.iload_n 1, 1) := by decide +kernel
theorem dX12_isBarred_43 : decode cX12_isBarred 43 = .ok (.iload_n 3, 1) := by decide +kernel
theorem dX12_isBarred_44 : decode cX12_isBarred 44 = .ok (.invokevirtual 238, 3) := by decide +kernel
theorem dX12_isBarred_47 : decode cX12_isBarred 47 = .ok (.ifCond .eq 5, 3) := by decide +kernel
theorem dX12_isBarred_50 : decode cX12_isBarred 50 = .ok (.iconst 1, 1) := by decide +kernel
theorem dX12_isBarred_51 : decode cX12_isBarred 51 = .ok (.ireturn, 1) := by decide +kernel
theorem dX12_isBarred_52 : decode cX12_isBarred 52 = .ok (.iinc 4 1, 3) := by decide +kernel
theorem dX12_isBarred_55 : decode cX12_isBarred 55 = .ok (.goto (-49), 3) := by decide +kernel
theorem dX12_isBarred_58 : decode cX12_isBarred 58 = .ok (.iconst 0, 1) := by decide +kernel
theorem dX12_isBarred_59 : decode cX12_isBarred 59 = .ok (.ireturn, 1) := by decide +kernel
theorem dX12_isNamedBut_0 : decode cX12_isNamedBut 0 = .ok (.iconst 0, 1) := by decide +kernel
theorem dX12_isNamedBut_1 : decode cX12_isNamedBut 1 = .ok (.istore_n 3, 1) := by decide +kernel
theorem dX12_isNamedBut_2 : decode cX12_isNamedBut 2 = .ok (.iload_n 3, 1) := by decide +kernel
theorem dX12_isNamedBut_3 : decode cX12_isNamedBut 3 = .ok (.aload_n 0, 1) := by decide +kernel
theorem dX12_isNamedBut_4 : decode cX12_isNamedBut 4 = .ok (.getfield 7, 3) := by decide +kernel
theorem dX12_isNamedBut_7 : decode cX12_isNamedBut 7 = .ok (.if_icmp .ge 26, 3) := by decide +kernel
theorem dX12_isNamedBut_10 : decode cX12_isNamedBut 10 = .ok (.iload_n 3, 1) := by decide +kernel
theorem dX12_isNamedBut_11 : decode cX12_isNamedBut 11 = .ok (.iload_n 2, 1) := by decide +kernel
theorem dX12_isNamedBut_12 : decode cX12_isNamedBut 12 = .ok (.if_icmp .eq 15, 3) := by decide +kernel
theorem dX12_isNamedBut_15 : decode cX12_isNamedBut 15 = .ok (.aload_n 0, 1) := by decide +kernel
theorem dX12_isNamedBut_16 : decode cX12_isNamedBut 16 = .ok (.getfield 32, 3) := by decide +kernel
theorem dX12_isNamedBut_19 : decode cX12_isNamedBut 19 = .ok (.iload_n 3, 1) := by decide +kernel
theorem dX12_isNamedBut_20 : decode cX12_isNamedBut 20 = .ok (.iaload, 1) := by decide +kernel
theorem dX12_isNamedBut_21 : decode cX12_isNamedBut 21 = .ok (.iload_n 1, 1) := by decide +kernel
theorem dX12_isNamedBut_22 : decode cX12_isNamedBut 22 = .ok (.if_icmp .ne 5, 3) := by decide +kernel
theorem dX12_isNamedBut_25 : decode cX12_isNamedBut 25 = .ok (.iconst 1, 1) := by decide +kernel
theorem dX12_isNamedBut_26 : decode cX12_isNamedBut 26 = .ok (.ireturn, 1) := by decide +kernel
theorem dX12_isNamedBut_27 : decode cX12_isNamedBut 27 = .ok (.iinc 3 1, 3) := by decide +kernel
theorem dX12_isNamedBut_30 : decode cX12_isNamedBut 30 = .ok (.goto (-28), 3) := by decide +kernel
theorem dX12_isNamedBut_33 : decode cX12_isNamedBut 33 = .ok (.iconst 0, 1) := by decide +kernel
theorem dX12_isNamedBut_34 : decode cX12_isNamedBut 34 = .ok (.ireturn, 1) := by decide +kernel
set_option maxRecDepth 20000 in
theorem ggX12_plainWorth_X12_sumOf : GoodIn wsX12_plainWorth wsX12_sumOf := goodIn_r _ [10, 11, 12, 13, 14, 15, 9, 16, 17, 18, 19, 20, 21, 22, 23, 24, 25, 26, 27, 28, 29, 30, 31, 32, 33, 34, 2, 4, 35, 5, 41, 42, 43, 44, 45, 46, 47, 48, 49, 50, 51, 52, 53, 54, 55, 56, 57, 58, 59, 60, 61, 62, 63, 64, 65, 66, 67, 68, 69, 70, 71, 72, 73, 74, 75, 76, 77, 78, 79, 80, 81, 82, 83, 84, 85, 86, 87, 88, 89, 90, 91] (by decide +kernel) (by decide +kernel)
set_option maxRecDepth 20000 in
theorem gX12_plainWorth_X12_sumOf : GoodIn wsX12_plainWorth (wsV RX12 242 RX12 yX12_sumOf wsX12_sumOf) := goodIn_app (goodIn_of _ (by decide +kernel)) ggX12_plainWorth_X12_sumOf
set_option maxRecDepth 20000 in
theorem ggX12_plainWorth_X12_isNamedBut : GoodIn wsX12_plainWorth wsX12_isNamedBut := goodIn_r _ [39, 40, 5, 41, 42, 43, 44, 45, 46, 47, 48, 49, 50, 51, 52, 53, 54, 55, 56, 57, 58, 59, 60, 61, 62, 63, 64, 65, 66, 67, 68, 69, 70, 71, 72, 73, 74, 75, 76, 77, 78, 79, 80, 81, 82, 83, 84, 85, 86, 87, 88, 89, 90, 91] (by decide +kernel) (by decide +kernel)
set_option maxRecDepth 20000 in
theorem gX12_plainWorth_X12_isNamedBut : GoodIn wsX12_plainWorth (wsV RX12 245 RX12 yX12_isNamedBut wsX12_isNamedBut) := goodIn_app (goodIn_of _ (by decide +kernel)) ggX12_plainWorth_X12_isNamedBut
theorem dX12_plainWorth_0 : decode cX12_plainWorth 0 = .ok (.aload_n 0, 1) := by decide +kernel
theorem dX12_plainWorth_1 : decode cX12_plainWorth 1 = .ok (.iconst 0, 1) := by decide +kernel
theorem dX12_plainWorth_2 : decode cX12_plainWorth 2 = .ok (.iload_n 1, 1) := by decide +kernel
theorem dX12_plainWorth_3 : decode cX12_plainWorth 3 = .ok (.iload_n 2, 1) := by decide +kernel
theorem dX12_plainWorth_4 : decode cX12_plainWorth 4 = .ok (.iload_n 3, 1) := by decide +kernel
theorem dX12_plainWorth_5 : decode cX12_plainWorth 5 = .ok (.invokevirtual 242, 3) := by decide +kernel
theorem dX12_plainWorth_8 : decode cX12_plainWorth 8 = .ok (.aload_n 0, 1) := by decide +kernel
theorem dX12_plainWorth_9 : decode cX12_plainWorth 9 = .ok (.iconst 1, 1) := by decide +kernel
theorem dX12_plainWorth_10 : decode cX12_plainWorth 10 = .ok (.iload_n 1, 1) := by decide +kernel
theorem dX12_plainWorth_11 : decode cX12_plainWorth 11 = .ok (.iload_n 2, 1) := by decide +kernel
theorem dX12_plainWorth_12 : decode cX12_plainWorth 12 = .ok (.iload_n 3, 1) := by decide +kernel
theorem dX12_plainWorth_13 : decode cX12_plainWorth 13 = .ok (.invokevirtual 242, 3) := by decide +kernel
theorem dX12_plainWorth_16 : decode cX12_plainWorth 16 = .ok (.isub, 1) := by decide +kernel
theorem dX12_plainWorth_17 : decode cX12_plainWorth 17 = .ok (.istore 4, 2) := by decide +kernel
theorem dX12_plainWorth_19 : decode cX12_plainWorth 19 = .ok (.aload_n 0, 1) := by decide +kernel
theorem dX12_plainWorth_20 : decode cX12_plainWorth 20 = .ok (.getfield 16, 3) := by decide +kernel
theorem dX12_plainWorth_23 : decode cX12_plainWorth 23 = .ok (.iload_n 1, 1) := by decide +kernel
theorem dX12_plainWorth_24 : decode cX12_plainWorth 24 = .ok (.iaload, 1) := by decide +kernel
theorem dX12_plainWorth_25 : decode cX12_plainWorth 25 = .ok (.istore 5, 2) := by decide +kernel
theorem dX12_plainWorth_27 : decode cX12_plainWorth 27 = .ok (.iload 5, 2) := by decide +kernel
theorem dX12_plainWorth_29 : decode cX12_plainWorth 29 = .ok (.iconst 1, 1) := by decide +kernel
theorem dX12_plainWorth_30 : decode cX12_plainWorth 30 = .ok (.if_icmp .eq 9, 3) := by decide +kernel
theorem dX12_plainWorth_33 : decode cX12_plainWorth 33 = .ok (.iload 5, 2) := by decide +kernel
theorem dX12_plainWorth_35 : decode cX12_plainWorth 35 = .ok (.iconst 4, 1) := by decide +kernel
theorem dX12_plainWorth_36 : decode cX12_plainWorth 36 = .ok (.if_icmp .ne 33, 3) := by decide +kernel
theorem dX12_plainWorth_39 : decode cX12_plainWorth 39 = .ok (.iload 4, 2) := by decide +kernel
theorem dX12_plainWorth_41 : decode cX12_plainWorth 41 = .ok (.aload_n 0, 1) := by decide +kernel
theorem dX12_plainWorth_42 : decode cX12_plainWorth 42 = .ok (.getfield 26, 3) := by decide +kernel
theorem dX12_plainWorth_45 : decode cX12_plainWorth 45 = .ok (.iload_n 2, 1) := by decide +kernel
theorem dX12_plainWorth_46 : decode cX12_plainWorth 46 = .ok (.iaload, 1) := by decide +kernel
theorem dX12_plainWorth_47 : decode cX12_plainWorth 47 = .ok (.aload_n 0, 1) := by decide +kernel
theorem dX12_plainWorth_48 : decode cX12_plainWorth 48 = .ok (.getfield 26, 3) := by decide +kernel
theorem dX12_plainWorth_51 : decode cX12_plainWorth 51 = .ok (.iload_n 1, 1) := by decide +kernel
theorem dX12_plainWorth_52 : decode cX12_plainWorth 52 = .ok (.iaload, 1) := by decide +kernel
theorem dX12_plainWorth_53 : decode cX12_plainWorth 53 = .ok (.if_icmp .ge 12, 3) := by decide +kernel
theorem dX12_plainWorth_56 : decode cX12_plainWorth 56 = .ok (.aload_n 0, 1) := by decide +kernel
theorem dX12_plainWorth_57 : decode cX12_plainWorth 57 = .ok (.getfield 20, 3) := by decide +kernel
theorem dX12_plainWorth_60 : decode cX12_plainWorth 60 = .ok (.iload_n 1, 1) := by decide +kernel
theorem dX12_plainWorth_61 : decode cX12_plainWorth 61 = .ok (.iaload, 1) := by decide +kernel
theorem dX12_plainWorth_62 : decode cX12_plainWorth 62 = .ok (.goto 4, 3) := by decide +kernel
theorem dX12_plainWorth_65 : decode cX12_plainWorth 65 = .ok (.iconst 0, 1) := by decide +kernel
theorem dX12_plainWorth_66 : decode cX12_plainWorth 66 = .ok (.iadd, 1) := by decide +kernel
theorem dX12_plainWorth_67 : decode cX12_plainWorth 67 = .ok (.istore 4, 2) := by decide +kernel
theorem dX12_plainWorth_69 : decode cX12_plainWorth 69 = .ok (.iload 5, 2) := by decide +kernel
theorem dX12_plainWorth_71 : decode cX12_plainWorth 71 = .ok (.iconst 4, 1) := by decide +kernel
theorem dX12_plainWorth_72 : decode cX12_plainWorth 72 = .ok (.if_icmp .ne 27, 3) := by decide +kernel
theorem dX12_plainWorth_75 : decode cX12_plainWorth 75 = .ok (.iload 4, 2) := by decide +kernel
theorem dX12_plainWorth_77 : decode cX12_plainWorth 77 = .ok (.aload_n 0, 1) := by decide +kernel
theorem dX12_plainWorth_78 : decode cX12_plainWorth 78 = .ok (.iload_n 1, 1) := by decide +kernel
theorem dX12_plainWorth_79 : decode cX12_plainWorth 79 = .ok (.iload_n 2, 1) := by decide +kernel
theorem dX12_plainWorth_80 : decode cX12_plainWorth 80 = .ok (.invokevirtual 245, 3) := by decide +kernel
theorem dX12_plainWorth_83 : decode cX12_plainWorth 83 = .ok (.ifCond .eq 7, 3) := by decide +kernel
theorem dX12_plainWorth_86 : decode cX12_plainWorth 86 = .ok (.iconst 0, 1) := by decide +kernel
theorem dX12_plainWorth_87 : decode cX12_plainWorth 87 = .ok (.goto 9, 3) := by decide +kernel
theorem dX12_plainWorth_90 : decode cX12_plainWorth 90 = .ok (.aload_n 0, 1) := by decide +kernel
theorem dX12_plainWorth_91 : decode cX12_plainWorth 91 = .ok (.getfield 20, 3) := by decide +kernel
theorem dX12_plainWorth_94 : decode cX12_plainWorth 94 = .ok (.iload_n 1, 1) := by decide +kernel
theorem dX12_plainWorth_95 : decode cX12_plainWorth 95 = .ok (.iaload, 1) := by decide +kernel
theorem dX12_plainWorth_96 : decode cX12_plainWorth 96 = .ok (.iadd, 1) := by decide +kernel
theorem dX12_plainWorth_97 : decode cX12_plainWorth 97 = .ok (.istore 4, 2) := by decide +kernel
theorem dX12_plainWorth_99 : decode cX12_plainWorth 99 = .ok (.iload 5, 2) := by decide +kernel
theorem dX12_plainWorth_101 : decode cX12_plainWorth 101 = .ok (.iconst 2, 1) := by decide +kernel
theorem dX12_plainWorth_102 : decode cX12_plainWorth 102 = .ok (.if_icmp .eq 9, 3) := by decide +kernel
theorem dX12_plainWorth_105 : decode cX12_plainWorth 105 = .ok (.iload 5, 2) := by decide +kernel
theorem dX12_plainWorth_107 : decode cX12_plainWorth 107 = .ok (.iconst 5, 1) := by decide +kernel
theorem dX12_plainWorth_108 : decode cX12_plainWorth 108 = .ok (.if_icmp .ne 14, 3) := by decide +kernel
theorem dX12_plainWorth_111 : decode cX12_plainWorth 111 = .ok (.iload 4, 2) := by decide +kernel
theorem dX12_plainWorth_113 : decode cX12_plainWorth 113 = .ok (.aload_n 0, 1) := by decide +kernel
theorem dX12_plainWorth_114 : decode cX12_plainWorth 114 = .ok (.getfield 23, 3) := by decide +kernel
theorem dX12_plainWorth_117 : decode cX12_plainWorth 117 = .ok (.iload_n 1, 1) := by decide +kernel
theorem dX12_plainWorth_118 : decode cX12_plainWorth 118 = .ok (.iaload, 1) := by decide +kernel
theorem dX12_plainWorth_119 : decode cX12_plainWorth 119 = .ok (.isub, 1) := by decide +kernel
theorem dX12_plainWorth_120 : decode cX12_plainWorth 120 = .ok (.istore 4, 2) := by decide +kernel
theorem dX12_plainWorth_122 : decode cX12_plainWorth 122 = .ok (.iload 5, 2) := by decide +kernel
theorem dX12_plainWorth_124 : decode cX12_plainWorth 124 = .ok (.iconst 3, 1) := by decide +kernel
theorem dX12_plainWorth_125 : decode cX12_plainWorth 125 = .ok (.if_icmp .eq 10, 3) := by decide +kernel
theorem dX12_plainWorth_128 : decode cX12_plainWorth 128 = .ok (.iload 5, 2) := by decide +kernel
theorem dX12_plainWorth_130 : decode cX12_plainWorth 130 = .ok (.bipush 6, 2) := by decide +kernel
theorem dX12_plainWorth_132 : decode cX12_plainWorth 132 = .ok (.if_icmp .ne 28, 3) := by decide +kernel
theorem dX12_plainWorth_135 : decode cX12_plainWorth 135 = .ok (.iload 4, 2) := by decide +kernel
theorem dX12_plainWorth_137 : decode cX12_plainWorth 137 = .ok (.aload_n 0, 1) := by decide +kernel
theorem dX12_plainWorth_138 : decode cX12_plainWorth 138 = .ok (.getfield 32, 3) := by decide +kernel
theorem dX12_plainWorth_141 : decode cX12_plainWorth 141 = .ok (.iload_n 2, 1) := by decide +kernel
theorem dX12_plainWorth_142 : decode cX12_plainWorth 142 = .ok (.iaload, 1) := by decide +kernel
theorem dX12_plainWorth_143 : decode cX12_plainWorth 143 = .ok (.iload_n 1, 1) := by decide +kernel
theorem dX12_plainWorth_144 : decode cX12_plainWorth 144 = .ok (.if_icmp .ne 12, 3) := by decide +kernel
theorem dX12_plainWorth_147 : decode cX12_plainWorth 147 = .ok (.aload_n 0, 1) := by decide +kernel
theorem dX12_plainWorth_148 : decode cX12_plainWorth 148 = .ok (.getfield 20, 3) := by decide +kernel
theorem dX12_plainWorth_151 : decode cX12_plainWorth 151 = .ok (.iload_n 1, 1) := by decide +kernel
theorem dX12_plainWorth_152 : decode cX12_plainWorth 152 = .ok (.iaload, 1) := by decide +kernel
theorem dX12_plainWorth_153 : decode cX12_plainWorth 153 = .ok (.goto 4, 3) := by decide +kernel
theorem dX12_plainWorth_156 : decode cX12_plainWorth 156 = .ok (.iconst 0, 1) := by decide +kernel
theorem dX12_plainWorth_157 : decode cX12_plainWorth 157 = .ok (.iadd, 1) := by decide +kernel
theorem dX12_plainWorth_158 : decode cX12_plainWorth 158 = .ok (.istore 4, 2) := by decide +kernel
theorem dX12_plainWorth_160 : decode cX12_plainWorth 160 = .ok (.iload 5, 2) := by decide +kernel
theorem dX12_plainWorth_162 : decode cX12_plainWorth 162 = .ok (.bipush 6, 2) := by decide +kernel
theorem dX12_plainWorth_164 : decode cX12_plainWorth 164 = .ok (.if_icmp .ne 28, 3) := by decide +kernel
theorem dX12_plainWorth_167 : decode cX12_plainWorth 167 = .ok (.iload 4, 2) := by decide +kernel
theorem dX12_plainWorth_169 : decode cX12_plainWorth 169 = .ok (.aload_n 0, 1) := by decide +kernel
theorem dX12_plainWorth_170 : decode cX12_plainWorth 170 = .ok (.getfield 32, 3) := by decide +kernel
theorem dX12_plainWorth_173 : decode cX12_plainWorth 173 = .ok (.iload_n 1, 1) := by decide +kernel
theorem dX12_plainWorth_174 : decode cX12_plainWorth 174 = .ok (.iaload, 1) := by decide +kernel
theorem dX12_plainWorth_175 : decode cX12_plainWorth 175 = .ok (.iload_n 2, 1) := by decide +kernel
theorem dX12_plainWorth_176 : decode cX12_plainWorth 176 = .ok (.if_icmp .ne 12, 3) := by decide +kernel
theorem dX12_plainWorth_179 : decode cX12_plainWorth 179 = .ok (.aload_n 0, 1) := by decide +kernel
theorem dX12_plainWorth_180 : decode cX12_plainWorth 180 = .ok (.getfield 20, 3) := by decide +kernel
theorem dX12_plainWorth_183 : decode cX12_plainWorth 183 = .ok (.iload_n 1, 1) := by decide +kernel
theorem dX12_plainWorth_184 : decode cX12_plainWorth 184 = .ok (.iaload, 1) := by decide +kernel
theorem dX12_plainWorth_185 : decode cX12_plainWorth 185 = .ok (.goto 4, 3) := by decide +kernel
theorem dX12_plainWorth_188 : decode cX12_plainWorth 188 = .ok (.iconst 0, 1) := by decide +kernel
theorem dX12_plainWorth_189 : decode cX12_plainWorth 189 = .ok (.iadd, 1) := by decide +kernel
theorem dX12_plainWorth_190 : decode cX12_plainWorth 190 = .ok (.istore 4, 2) := by decide +kernel
theorem dX12_plainWorth_192 : decode cX12_plainWorth 192 = .ok (.iload 4, 2) := by decide +kernel
theorem dX12_plainWorth_194 : decode cX12_plainWorth 194 = .ok (.ireturn, 1) := by decide +kernel
set_option maxRecDepth 20000 in
theorem ggX12_layPairs_X12_plainWorth : GoodIn wsX12_layPairs wsX12_plainWorth := goodIn_r _ [8, 9, 10, 11, 12, 13, 14, 15, 16, 7, 17, 18, 19, 20, 21, 22, 23, 24, 25, 26, 27, 28, 29, 30, 31, 32, 33, 34, 35, 36, 37, 38, 39, 40, 41, 42, 43, 44, 45, 46, 1, 51, 52, 53, 54, 55, 56, 57, 58, 59, 60, 61, 62, 63, 64, 65, 66, 67, 68, 69, 70, 71, 72, 73, 74, 75, 76, 77, 78, 79, 80, 81, 82, 83, 84, 85, 86, 87, 88, 89, 90, 91, 92, 93, 94, 95, 96, 97, 98, 99, 100, 101] (by decide +kernel) (by decide +kernel)
set_option maxRecDepth 20000 in
theorem gX12_layPairs_X12_plainWorth : GoodIn wsX12_layPairs (wsV RX12 248 RX12 yX12_plainWorth wsX12_plainWorth) := goodIn_app (goodIn_of _ (by decide +kernel)) ggX12_layPairs_X12_plainWorth
set_option maxRecDepth 20000 in
theorem ggX12_layPairs_X12_isBarred : GoodIn wsX12_layPairs wsX12_isBarred := goodIn_r _ [50, 18, 20, 21, 22, 7, 23, 24, 25, 26, 27, 28, 29, 30, 31, 32, 33, 34, 35, 36, 37, 38, 39, 40, 41, 10, 12, 42, 13, 51, 52, 53, 54, 55, 56, 57, 58, 59, 60, 61, 62, 63, 64, 65, 66, 67, 68, 69, 70, 71, 72, 73, 74, 75, 76, 77, 78, 79, 80, 81, 82, 83, 84, 85, 86, 87, 88, 89, 90, 91, 92, 93, 94, 95, 96, 97, 98, 99, 100, 101] (by decide +kernel) (by decide +kernel)
set_option maxRecDepth 20000 in
theorem gX12_layPairs_X12_isBarred : GoodIn wsX12_layPairs (wsV RX12 252 RX12 yX12_isBarred wsX12_isBarred) := goodIn_app (goodIn_of _ (by decide +kernel)) ggX12_layPairs_X12_isBarred
theorem dX12_layPairs_0 : decode cX12_layPairs 0 = .ok (.iconst 0, 1) := by decide +kernel
theorem dX12_layPairs_1 : decode cX12_layPairs 1 = .ok (.istore_n 1, 1) := by decide +kernel
theorem dX12_layPairs_2 : decode cX12_layPairs 2 = .ok (.iload_n 1, 1) := by decide +kernel
theorem dX12_layPairs_3 : decode cX12_layPairs 3 = .ok (.aload_n 0, 1) := by decide +kernel
theorem dX12_layPairs_4 : decode cX12_layPairs 4 = .ok (.getfield 7, 3) := by decide +kernel
theorem dX12_layPairs_7 : decode cX12_layPairs 7 = .ok (.if_icmp .ge 87, 3) := by decide +kernel
theorem dX12_layPairs_10 : decode cX12_layPairs 10 = .ok (.iconst 0, 1) := by decide +kernel
theorem dX12_layPairs_11 : decode cX12_layPairs 11 = .ok (.istore_n 2, 1) := by decide +kernel
theorem dX12_layPairs_12 : decode cX12_layPairs 12 = .ok (.iload_n 2, 1) := by decide +kernel
theorem dX12_layPairs_13 : decode cX12_layPairs 13 = .ok (.aload_n 0, 1) := by decide +kernel
theorem dX12_layPairs_14 : decode cX12_layPairs 14 = .ok (.getfield 7, 3) := by decide +kernel
theorem dX12_layPairs_17 : decode cX12_layPairs 17 = .ok (.if_icmp .ge 71, 3) := by decide +kernel
theorem dX12_layPairs_20 : decode cX12_layPairs 20 = .ok (.iconst 0, 1) := by decide +kernel
theorem dX12_layPairs_21 : decode cX12_layPairs 21 = .ok (.istore_n 3, 1) := by decide +kernel
theorem dX12_layPairs_22 : decode cX12_layPairs 22 = .ok (.iload_n 3, 1) := by decide +kernel
theorem dX12_layPairs_23 : decode cX12_layPairs 23 = .ok (.iconst 2, 1) := by decide +kernel
theorem dX12_layPairs_24 : decode cX12_layPairs 24 = .ok (.if_icmp .ge 58, 3) := by decide +kernel
theorem dX12_layPairs_27 : decode cX12_layPairs 27 = .ok (.iload_n 1, 1) := by decide +kernel
theorem dX12_layPairs_28 : decode cX12_layPairs 28 = .ok (.iload_n 2, 1) := by decide +kernel
theorem dX12_layPairs_29 : decode cX12_layPairs 29 = .ok (.if_icmp .eq 53, 3) := by decide +kernel
theorem dX12_layPairs_32 : decode cX12_layPairs 32 = .ok (.aload_n 0, 1) := by decide +kernel
theorem dX12_layPairs_33 : decode cX12_layPairs 33 = .ok (.getfield 102, 3) := by decide +kernel
theorem dX12_layPairs_36 : decode cX12_layPairs 36 = .ok (.bipush 16, 2) := by decide +kernel
theorem dX12_layPairs_38 : decode cX12_layPairs 38 = .ok (.iload_n 1, 1) := by decide +kernel
theorem dX12_layPairs_39 : decode cX12_layPairs 39 = .ok (.imul, 1) := by decide +kernel
theorem dX12_layPairs_40 : decode cX12_layPairs 40 = .ok (.iconst 2, 1) := by decide +kernel
theorem dX12_layPairs_41 : decode cX12_layPairs 41 = .ok (.iload_n 2, 1) := by decide +kernel
theorem dX12_layPairs_42 : decode cX12_layPairs 42 = .ok (.imul, 1) := by decide +kernel
theorem dX12_layPairs_43 : decode cX12_layPairs 43 = .ok (.iadd, 1) := by decide +kernel
theorem dX12_layPairs_44 : decode cX12_layPairs 44 = .ok (.iload_n 3, 1) := by decide +kernel
theorem dX12_layPairs_45 : decode cX12_layPairs 45 = .ok (.iadd, 1) := by decide +kernel
theorem dX12_layPairs_46 : decode cX12_layPairs 46 = .ok (.aload_n 0, 1) := by decide +kernel
theorem dX12_layPairs_47 : decode cX12_layPairs 47 = .ok (.iload_n 1, 1) := by decide +kernel
theorem dX12_layPairs_48 : decode cX12_layPairs 48 = .ok (.iload_n 2, 1) := by decide +kernel
theorem dX12_layPairs_49 : decode cX12_layPairs 49 = .ok (.iload_n 3, 1) := by decide +kernel
theorem dX12_layPairs_50 : decode cX12_layPairs 50 = .ok (.invokevirtual 248, 3) := by decide +kernel
theorem dX12_layPairs_53 : decode cX12_layPairs 53 = .ok (.iastore, 1) := by decide +kernel
theorem dX12_layPairs_54 : decode cX12_layPairs 54 = .ok (.aload_n 0, 1) := by decide +kernel
theorem dX12_layPairs_55 : decode cX12_layPairs 55 = .ok (.getfield 105, 3) := by decide +kernel
theorem dX12_layPairs_58 : decode cX12_layPairs 58 = .ok (.bipush 16, 2) := by decide +kernel
theorem dX12_layPairs_60 : decode cX12_layPairs 60 = .ok (.iload_n 1, 1) := by decide +kernel
theorem dX12_layPairs_61 : decode cX12_layPairs 61 = .ok (.imul, 1) := by decide +kernel
theorem dX12_layPairs_62 : decode cX12_layPairs 62 = .ok (.iconst 2, 1) := by decide +kernel
theorem dX12_layPairs_63 : decode cX12_layPairs 63 = .ok (.iload_n 2, 1) := by decide +kernel
theorem dX12_layPairs_64 : decode cX12_layPairs 64 = .ok (.imul, 1) := by decide +kernel
theorem dX12_layPairs_65 : decode cX12_layPairs 65 = .ok (.iadd, 1) := by decide +kernel
theorem dX12_layPairs_66 : decode cX12_layPairs 66 = .ok (.iload_n 3, 1) := by decide +kernel
theorem dX12_layPairs_67 : decode cX12_layPairs 67 = .ok (.iadd, 1) := by decide +kernel
theorem dX12_layPairs_68 : decode cX12_layPairs 68 = .ok (.aload_n 0, 1) := by decide +kernel
theorem dX12_layPairs_69 : decode cX12_layPairs 69 = .ok (.iload_n 1, 1) := by decide +kernel
theorem dX12_layPairs_70 : decode cX12_layPairs 70 = .ok (.iload_n 2, 1) := by decide +kernel
theorem dX12_layPairs_71 : decode cX12_layPairs 71 = .ok (.iload_n 3, 1) := by decide +kernel
theorem dX12_layPairs_72 : decode cX12_layPairs 72 = .ok (.invokevirtual 252, 3) := by decide +kernel
theorem dX12_layPairs_75 : decode cX12_layPairs 75 = .ok (.bastore, 1) := by decide +kernel
theorem dX12_layPairs_76 : decode cX12_layPairs 76 = .ok (.iinc 3 1, 3) := by decide +kernel
theorem dX12_layPairs_79 : decode cX12_layPairs 79 = .ok (.goto (-57), 3) := by decide +kernel
theorem dX12_layPairs_82 : decode cX12_layPairs 82 = .ok (.iinc 2 1, 3) := by decide +kernel
theorem dX12_layPairs_85 : decode cX12_layPairs 85 = .ok (.goto (-73), 3) := by decide +kernel
theorem dX12_layPairs_88 : decode cX12_layPairs 88 = .ok (.iinc 1 1, 3) := by decide +kernel
theorem dX12_layPairs_91 : decode cX12_layPairs 91 = .ok (.goto (-89), 3) := by decide +kernel
theorem dX12_layPairs_94 : decode cX12_layPairs 94 = .ok (.return_, 1) := by decide +kernel
theorem dX12_asIs_0 : decode cX12_asIs 0 = .ok (.iconst 0, 1) := by decide +kernel
theorem dX12_asIs_1 : decode cX12_asIs 1 = .ok (.istore_n 1, 1) := by decide +kernel
theorem dX12_asIs_2 : decode cX12_asIs 2 = .ok (.iload_n 1, 1) := by decide +kernel
theorem dX12_asIs_3 : decode cX12_asIs 3 = .ok (.bipush 8, 2) := by decide +kernel
theorem dX12_asIs_5 : decode cX12_asIs 5 = .ok (.if_icmp .ge 21, 3) := by decide +kernel
theorem dX12_asIs_8 : decode cX12_asIs 8 = .ok (.aload_n 0, 1) := by decide +kernel
theorem dX12_asIs_9 : decode cX12_asIs 9 = .ok (.getfield 108, 3) := by decide +kernel
theorem dX12_asIs_12 : decode cX12_asIs 12 = .ok (.iload_n 1, 1) := by decide +kernel
theorem dX12_asIs_13 : decode cX12_asIs 13 = .ok (.aload_n 0, 1) := by decide +kernel
theorem dX12_asIs_14 : decode cX12_asIs 14 = .ok (.getfield 38, 3) := by decide +kernel
theorem dX12_asIs_17 : decode cX12_asIs 17 = .ok (.iload_n 1, 1) := by decide +kernel
theorem dX12_asIs_18 : decode cX12_asIs 18 = .ok (.iaload, 1) := by decide +kernel
theorem dX12_asIs_19 : decode cX12_asIs 19 = .ok (.iastore, 1) := by decide +kernel
theorem dX12_asIs_20 : decode cX12_asIs 20 = .ok (.iinc 1 1, 3) := by decide +kernel
theorem dX12_asIs_23 : decode cX12_asIs 23 = .ok (.goto (-21), 3) := by decide +kernel
theorem dX12_asIs_26 : decode cX12_asIs 26 = .ok (.return_, 1) := by decide +kernel
theorem dX12_across_0 : decode cX12_across 0 = .ok (.iload_n 1, 1) := by decide +kernel
theorem dX12_across_1 : decode cX12_across 1 = .ok (.iconst 2, 1) := by decide +kernel
theorem dX12_across_2 : decode cX12_across 2 = .ok (.idiv, 1) := by decide +kernel
theorem dX12_across_3 : decode cX12_across 3 = .ok (.iconst 2, 1) := by decide +kernel
theorem dX12_across_4 : decode cX12_across 4 = .ok (.imul, 1) := by decide +kernel
theorem dX12_across_5 : decode cX12_across 5 = .ok (.iconst 2, 1) := by decide +kernel
theorem dX12_across_6 : decode cX12_across 6 = .ok (.ixor, 1) := by decide +kernel
theorem dX12_across_7 : decode cX12_across 7 = .ok (.istore_n 2, 1) := by decide +kernel
theorem dX12_across_8 : decode cX12_across 8 = .ok (.aload_n 0, 1) := by decide +kernel
theorem dX12_across_9 : decode cX12_across 9 = .ok (.getfield 108, 3) := by decide +kernel
theorem dX12_across_12 : decode cX12_across 12 = .ok (.iload_n 2, 1) := by decide +kernel
theorem dX12_across_13 : decode cX12_across 13 = .ok (.iaload, 1) := by decide +kernel
theorem dX12_across_14 : decode cX12_across 14 = .ok (.ifCond .lt 7, 3) := by decide +kernel
theorem dX12_across_17 : decode cX12_across 17 = .ok (.iconst 1, 1) := by decide +kernel
theorem dX12_across_18 : decode cX12_across 18 = .ok (.goto 4, 3) := by decide +kernel
theorem dX12_across_21 : decode cX12_across 21 = .ok (.iconst 0, 1) := by decide +kernel
theorem dX12_across_22 : decode cX12_across 22 = .ok (.aload_n 0, 1) := by decide +kernel
theorem dX12_across_23 : decode cX12_across 23 = .ok (.getfield 108, 3) := by decide +kernel
theorem dX12_across_26 : decode cX12_across 26 = .ok (.iload_n 2, 1) := by decide +kernel
theorem dX12_across_27 : decode cX12_across 27 = .ok (.iconst 1, 1) := by decide +kernel
theorem dX12_across_28 : decode cX12_across 28 = .ok (.iadd, 1) := by decide +kernel
theorem dX12_across_29 : decode cX12_across 29 = .ok (.iaload, 1) := by decide +kernel
theorem dX12_across_30 : decode cX12_across 30 = .ok (.ifCond .lt 7, 3) := by decide +kernel
theorem dX12_across_33 : decode cX12_across 33 = .ok (.iconst 1, 1) := by decide +kernel
theorem dX12_across_34 : decode cX12_across 34 = .ok (.goto 4, 3) := by decide +kernel
theorem dX12_across_37 : decode cX12_across 37 = .ok (.iconst 0, 1) := by decide +kernel
theorem dX12_across_38 : decode cX12_across 38 = .ok (.iadd, 1) := by decide +kernel
theorem dX12_across_39 : decode cX12_across 39 = .ok (.ireturn, 1) := by decide +kernel
set_option maxRecDepth 20000 in
theorem ggX12_worthThere_X12_across : GoodIn wsX12_worthThere wsX12_across := goodIn_r _ [9, 1, 10, 11, 12, 13, 14, 15, 16, 17, 18, 19, 20, 21, 22, 23, 24, 25, 26, 27, 28, 29, 30, 31, 32, 33, 34, 35, 36, 37, 38, 39, 40, 41, 42, 43, 44, 45, 46, 47, 48, 49, 50, 51, 52, 53, 54, 55, 56, 57, 58, 59, 60] (by decide +kernel) (by decide +kernel)
set_option maxRecDepth 20000 in
theorem gX12_worthThere_X12_across : GoodIn wsX12_worthThere (wsV RX12 255 RX12 yX12_across wsX12_across) := goodIn_app (goodIn_of _ (by decide +kernel)) ggX12_worthThere_X12_across
theorem dX12_worthThere_0 : decode cX12_worthThere 0 = .ok (.iconst 0, 1) := by decide +kernel
theorem dX12_worthThere_1 : decode cX12_worthThere 1 = .ok (.istore_n 1, 1) := by decide +kernel
theorem dX12_worthThere_2 : decode cX12_worthThere 2 = .ok (.iconst 0, 1) := by decide +kernel
theorem dX12_worthThere_3 : decode cX12_worthThere 3 = .ok (.istore_n 2, 1) := by decide +kernel
theorem dX12_worthThere_4 : decode cX12_worthThere 4 = .ok (.iload_n 2, 1) := by decide +kernel
theorem dX12_worthThere_5 : decode cX12_worthThere 5 = .ok (.bipush 8, 2) := by decide +kernel
theorem dX12_worthThere_7 : decode cX12_worthThere 7 = .ok (.if_icmp .ge 86, 3) := by decide +kernel
theorem dX12_worthThere_10 : decode cX12_worthThere 10 = .ok (.aload_n 0, 1) := by decide +kernel
theorem dX12_worthThere_11 : decode cX12_worthThere 11 = .ok (.getfield 108, 3) := by decide +kernel
theorem dX12_worthThere_14 : decode cX12_worthThere 14 = .ok (.iload_n 2, 1) := by decide +kernel
theorem dX12_worthThere_15 : decode cX12_worthThere 15 = .ok (.iaload, 1) := by decide +kernel
theorem dX12_worthThere_16 : decode cX12_worthThere 16 = .ok (.istore_n 3, 1) := by decide +kernel
theorem dX12_worthThere_17 : decode cX12_worthThere 17 = .ok (.aload_n 0, 1) := by decide +kernel
theorem dX12_worthThere_18 : decode cX12_worthThere 18 = .ok (.getfield 108, 3) := by decide +kernel
theorem dX12_worthThere_21 : decode cX12_worthThere 21 = .ok (.iload_n 2, 1) := by decide +kernel
theorem dX12_worthThere_22 : decode cX12_worthThere 22 = .ok (.iconst 1, 1) := by decide +kernel
theorem dX12_worthThere_23 : decode cX12_worthThere 23 = .ok (.ixor, 1) := by decide +kernel
theorem dX12_worthThere_24 : decode cX12_worthThere 24 = .ok (.iaload, 1) := by decide +kernel
theorem dX12_worthThere_25 : decode cX12_worthThere 25 = .ok (.istore 4, 2) := by decide +kernel
theorem dX12_worthThere_27 : decode cX12_worthThere 27 = .ok (.iload_n 3, 1) := by decide +kernel
theorem dX12_worthThere_28 : decode cX12_worthThere 28 = .ok (.ifCond .lt 59, 3) := by decide +kernel
theorem dX12_worthThere_31 : decode cX12_worthThere 31 = .ok (.iload 4, 2) := by decide +kernel
theorem dX12_worthThere_33 : decode cX12_worthThere 33 = .ok (.ifCond .ge 6, 3) := by decide +kernel
theorem dX12_worthThere_36 : decode cX12_worthThere 36 = .ok (.goto 51, 3) := by decide +kernel
theorem dX12_worthThere_39 : decode cX12_worthThere 39 = .ok (.iload_n 1, 1) := by decide +kernel
theorem dX12_worthThere_40 : decode cX12_worthThere 40 = .ok (.aload_n 0, 1) := by decide +kernel
theorem dX12_worthThere_41 : decode cX12_worthThere 41 = .ok (.getfield 102, 3) := by decide +kernel
theorem dX12_worthThere_44 : decode cX12_worthThere 44 = .ok (.bipush 16, 2) := by decide +kernel
theorem dX12_worthThere_46 : decode cX12_worthThere 46 = .ok (.iload_n 3, 1) := by decide +kernel
theorem dX12_worthThere_47 : decode cX12_worthThere 47 = .ok (.imul, 1) := by decide +kernel
theorem dX12_worthThere_48 : decode cX12_worthThere 48 = .ok (.iconst 2, 1) := by decide +kernel
theorem dX12_worthThere_49 : decode cX12_worthThere 49 = .ok (.iload 4, 2) := by decide +kernel
theorem dX12_worthThere_51 : decode cX12_worthThere 51 = .ok (.imul, 1) := by decide +kernel
theorem dX12_worthThere_52 : decode cX12_worthThere 52 = .ok (.iadd, 1) := by decide +kernel
theorem dX12_worthThere_53 : decode cX12_worthThere 53 = .ok (.iload_n 2, 1) := by decide +kernel
theorem dX12_worthThere_54 : decode cX12_worthThere 54 = .ok (.iconst 4, 1) := by decide +kernel
theorem dX12_worthThere_55 : decode cX12_worthThere 55 = .ok (.idiv, 1) := by decide +kernel
theorem dX12_worthThere_56 : decode cX12_worthThere 56 = .ok (.iadd, 1) := by decide +kernel
theorem dX12_worthThere_57 : decode cX12_worthThere 57 = .ok (.iaload, 1) := by decide +kernel
theorem dX12_worthThere_58 : decode cX12_worthThere 58 = .ok (.aload_n 0, 1) := by decide +kernel
theorem dX12_worthThere_59 : decode cX12_worthThere 59 = .ok (.getfield 16, 3) := by decide +kernel
theorem dX12_worthThere_62 : decode cX12_worthThere 62 = .ok (.iload_n 3, 1) := by decide +kernel
theorem dX12_worthThere_63 : decode cX12_worthThere 63 = .ok (.iaload, 1) := by decide +kernel
theorem dX12_worthThere_64 : decode cX12_worthThere 64 = .ok (.iconst 5, 1) := by decide +kernel
theorem dX12_worthThere_65 : decode cX12_worthThere 65 = .ok (.if_icmp .ne 18, 3) := by decide +kernel
theorem dX12_worthThere_68 : decode cX12_worthThere 68 = .ok (.aload_n 0, 1) := by decide +kernel
theorem dX12_worthThere_69 : decode cX12_worthThere 69 = .ok (.getfield 20, 3) := by decide +kernel
theorem dX12_worthThere_72 : decode cX12_worthThere 72 = .ok (.iload_n 3, 1) := by decide +kernel
theorem dX12_worthThere_73 : decode cX12_worthThere 73 = .ok (.iaload, 1) := by decide +kernel
theorem dX12_worthThere_74 : decode cX12_worthThere 74 = .ok (.aload_n 0, 1) := by decide +kernel
theorem dX12_worthThere_75 : decode cX12_worthThere 75 = .ok (.iload_n 2, 1) := by decide +kernel
theorem dX12_worthThere_76 : decode cX12_worthThere 76 = .ok (.invokevirtual 255, 3) := by decide +kernel
theorem dX12_worthThere_79 : decode cX12_worthThere 79 = .ok (.imul, 1) := by decide +kernel
theorem dX12_worthThere_80 : decode cX12_worthThere 80 = .ok (.goto 4, 3) := by decide +kernel
theorem dX12_worthThere_83 : decode cX12_worthThere 83 = .ok (.iconst 0, 1) := by decide +kernel
theorem dX12_worthThere_84 : decode cX12_worthThere 84 = .ok (.isub, 1) := by decide +kernel
theorem dX12_worthThere_85 : decode cX12_worthThere 85 = .ok (.iadd, 1) := by decide +kernel
theorem dX12_worthThere_86 : decode cX12_worthThere 86 = .ok (.istore_n 1, 1) := by decide +kernel
theorem dX12_worthThere_87 : decode cX12_worthThere 87 = .ok (.iinc 2 1, 3) := by decide +kernel
theorem dX12_worthThere_90 : decode cX12_worthThere 90 = .ok (.goto (-86), 3) := by decide +kernel
theorem dX12_worthThere_93 : decode cX12_worthThere 93 = .ok (.iload_n 1, 1) := by decide +kernel
theorem dX12_worthThere_94 : decode cX12_worthThere 94 = .ok (.ireturn, 1) := by decide +kernel
theorem dX12_breaksThere_0 : decode cX12_breaksThere 0 = .ok (.iconst 0, 1) := by decide +kernel
theorem dX12_breaksThere_1 : decode cX12_breaksThere 1 = .ok (.istore_n 2, 1) := by decide +kernel
theorem dX12_breaksThere_2 : decode cX12_breaksThere 2 = .ok (.iconst 0, 1) := by decide +kernel
theorem dX12_breaksThere_3 : decode cX12_breaksThere 3 = .ok (.istore_n 3, 1) := by decide +kernel
theorem dX12_breaksThere_4 : decode cX12_breaksThere 4 = .ok (.iload_n 3, 1) := by decide +kernel
theorem dX12_breaksThere_5 : decode cX12_breaksThere 5 = .ok (.bipush 8, 2) := by decide +kernel
theorem dX12_breaksThere_7 : decode cX12_breaksThere 7 = .ok (.if_icmp .ge 110, 3) := by decide +kernel
theorem dX12_breaksThere_10 : decode cX12_breaksThere 10 = .ok (.aload_n 0, 1) := by decide +kernel
theorem dX12_breaksThere_11 : decode cX12_breaksThere 11 = .ok (.getfield 108, 3) := by decide +kernel
theorem dX12_breaksThere_14 : decode cX12_breaksThere 14 = .ok (.iload_n 3, 1) := by decide +kernel
theorem dX12_breaksThere_15 : decode cX12_breaksThere 15 = .ok (.iaload, 1) := by decide +kernel
theorem dX12_breaksThere_16 : decode cX12_breaksThere 16 = .ok (.istore 4, 2) := by decide +kernel
theorem dX12_breaksThere_18 : decode cX12_breaksThere 18 = .ok (.aload_n 0, 1) := by decide +kernel
theorem dX12_breaksThere_19 : decode cX12_breaksThere 19 = .ok (.getfield 108, 3) := by decide +kernel
theorem dX12_breaksThere_22 : decode cX12_breaksThere 22 = .ok (.iload_n 3, 1) := by decide +kernel
theorem dX12_breaksThere_23 : decode cX12_breaksThere 23 = .ok (.iconst 1, 1) := by decide +kernel
theorem dX12_breaksThere_24 : decode cX12_breaksThere 24 = .ok (.ixor, 1) := by decide +kernel
theorem dX12_breaksThere_25 : decode cX12_breaksThere 25 = .ok (.iaload, 1) := by decide +kernel
theorem dX12_breaksThere_26 : decode cX12_breaksThere 26 = .ok (.istore 5, 2) := by decide +kernel
theorem dX12_breaksThere_28 : decode cX12_breaksThere 28 = .ok (.iload_n 2, 1) := by decide +kernel
theorem dX12_breaksThere_29 : decode cX12_breaksThere 29 = .ok (.iload_n 1, 1) := by decide +kernel
theorem dX12_breaksThere_30 : decode cX12_breaksThere 30 = .ok (.ifCond .eq 45, 3) := by decide +kernel
theorem dX12_breaksThere_33 : decode cX12_breaksThere 33 = .ok (.iload_n 3, 1) := by decide +kernel
theorem dX12_breaksThere_34 : decode cX12_breaksThere 34 = .ok (.iconst 2, 1) := by decide +kernel
theorem dX12_breaksThere_35 : decode cX12_breaksThere 35 = .ok (.irem, 1) := by decide +kernel
theorem dX12_breaksThere_36 : decode cX12_breaksThere 36 = .ok (.ifCond .ne 39, 3) := by decide +kernel
theorem dX12_breaksThere_39 : decode cX12_breaksThere 39 = .ok (.iload 4, 2) := by decide +kernel
theorem dX12_breaksThere_41 : decode cX12_breaksThere 41 = .ok (.ifCond .lt 34, 3) := by decide +kernel
theorem dX12_breaksThere_44 : decode cX12_breaksThere 44 = .ok (.iload 5, 2) := by decide +kernel
theorem dX12_breaksThere_46 : decode cX12_breaksThere 46 = .ok (.ifCond .lt 29, 3) := by decide +kernel
theorem dX12_breaksThere_49 : decode cX12_breaksThere 49 = .ok (.aload_n 0, 1) := by decide +kernel
theorem dX12_breaksThere_50 : decode cX12_breaksThere 50 = .ok (.getfield 105, 3) := by decide +kernel
theorem dX12_breaksThere_53 : decode cX12_breaksThere 53 = .ok (.bipush 16, 2) := by decide +kernel
theorem dX12_breaksThere_55 : decode cX12_breaksThere 55 = .ok (.iload 4, 2) := by decide +kernel
theorem dX12_breaksThere_57 : decode cX12_breaksThere 57 = .ok (.imul, 1) := by decide +kernel
theorem dX12_breaksThere_58 : decode cX12_breaksThere 58 = .ok (.iconst 2, 1) := by decide +kernel
theorem dX12_breaksThere_59 : decode cX12_breaksThere 59 = .ok (.iload 5, 2) := by decide +kernel
theorem dX12_breaksThere_61 : decode cX12_breaksThere 61 = .ok (.imul, 1) := by decide +kernel
theorem dX12_breaksThere_62 : decode cX12_breaksThere 62 = .ok (.iadd, 1) := by decide +kernel
theorem dX12_breaksThere_63 : decode cX12_breaksThere 63 = .ok (.iload_n 3, 1) := by decide +kernel
theorem dX12_breaksThere_64 : decode cX12_breaksThere 64 = .ok (.iconst 4, 1) := by decide +kernel
theorem dX12_breaksThere_65 : decode cX12_breaksThere 65 = .ok (.idiv, 1) := by decide +kernel
theorem dX12_breaksThere_66 : decode cX12_breaksThere 66 = .ok (.iadd, 1) := by decide +kernel
theorem dX12_breaksThere_67 : decode cX12_breaksThere 67 = .ok (.baload, 1) := by decide +kernel
theorem dX12_breaksThere_68 : decode cX12_breaksThere 68 = .ok (.ifCond .eq 7, 3) := by decide +kernel
theorem dX12_breaksThere_71 : decode cX12_breaksThere 71 = .ok (.iconst 1, 1) := by decide +kernel
theorem dX12_breaksThere_72 : decode cX12_breaksThere 72 = .ok (.goto 4, 3) := by decide +kernel
theorem dX12_breaksThere_75 : decode cX12_breaksThere 75 = .ok (.iconst 0, 1) := by decide +kernel
theorem dX12_breaksThere_76 : decode cX12_breaksThere 76 = .ok (.iadd, 1) := by decide +kernel
theorem dX12_breaksThere_77 : decode cX12_breaksThere 77 = .ok (.istore_n 2, 1) := by decide +kernel
theorem dX12_breaksThere_78 : decode cX12_breaksThere 78 = .ok (.iload_n 2, 1) := by decide +kernel
theorem dX12_breaksThere_79 : decode cX12_breaksThere 79 = .ok (.iload_n 1, 1) := by decide +kernel
theorem dX12_breaksThere_80 : decode cX12_breaksThere 80 = .ok (.iconst 1, 1) := by decide +kernel
theorem dX12_breaksThere_81 : decode cX12_breaksThere 81 = .ok (.if_icmp .eq 27, 3) := by decide +kernel
theorem dX12_breaksThere_84 : decode cX12_breaksThere 84 = .ok (.iload_n 3, 1) := by decide +kernel
theorem dX12_breaksThere_85 : decode cX12_breaksThere 85 = .ok (.iconst 3, 1) := by decide +kernel
theorem dX12_breaksThere_86 : decode cX12_breaksThere 86 = .ok (.if_icmp .le 22, 3) := by decide +kernel
theorem dX12_breaksThere_89 : decode cX12_breaksThere 89 = .ok (.iload 4, 2) := by decide +kernel
theorem dX12_breaksThere_91 : decode cX12_breaksThere 91 = .ok (.ifCond .lt 17, 3) := by decide +kernel
theorem dX12_breaksThere_94 : decode cX12_breaksThere 94 = .ok (.aload_n 0, 1) := by decide +kernel
theorem dX12_breaksThere_95 : decode cX12_breaksThere 95 = .ok (.getfield 41, 3) := by decide +kernel
theorem dX12_breaksThere_98 : decode cX12_breaksThere 98 = .ok (.iload 4, 2) := by decide +kernel
theorem dX12_breaksThere_100 : decode cX12_breaksThere 100 = .ok (.baload, 1) := by decide +kernel
theorem dX12_breaksThere_101 : decode cX12_breaksThere 101 = .ok (.ifCond .eq 7, 3) := by decide +kernel
theorem dX12_breaksThere_104 : decode cX12_breaksThere 104 = .ok (.iconst 1, 1) := by decide +kernel
theorem dX12_breaksThere_105 : decode cX12_breaksThere 105 = .ok (.goto 4, 3) := by decide +kernel
theorem dX12_breaksThere_108 : decode cX12_breaksThere 108 = .ok (.iconst 0, 1) := by decide +kernel
theorem dX12_breaksThere_109 : decode cX12_breaksThere 109 = .ok (.iadd, 1) := by decide +kernel
theorem dX12_breaksThere_110 : decode cX12_breaksThere 110 = .ok (.istore_n 2, 1) := by decide +kernel
theorem dX12_breaksThere_111 : decode cX12_breaksThere 111 = .ok (.iinc 3 1, 3) := by decide +kernel
theorem dX12_breaksThere_114 : decode cX12_breaksThere 114 = .ok (.goto (-110), 3) := by decide +kernel
theorem dX12_breaksThere_117 : decode cX12_breaksThere 117 = .ok (.iload_n 2, 1) := by decide +kernel
theorem dX12_breaksThere_118 : decode cX12_breaksThere 118 = .ok (.ireturn, 1) := by decide +kernel
set_option maxRecDepth 20000 in
theorem ggX12_pair_X12_isPupil : GoodIn wsX12_pair wsX12_isPupil := goodIn_r _ [10, 11, 12, 13, 14, 9, 15, 70, 71, 72, 73, 74, 75, 76, 77, 78, 79, 80, 81, 82, 83, 84, 85, 86, 87, 88, 89, 90, 91, 92, 93, 94, 95, 96, 97, 98, 99, 100, 101, 102, 103, 104, 105, 106, 107, 108, 109, 110, 111, 112, 113, 114, 115, 116, 117, 118, 119, 120] (by decide +kernel) (by decide +kernel)
set_option maxRecDepth 20000 in
theorem gX12_pair_X12_isPupil : GoodIn wsX12_pair (wsV RX12 171 RX12 yX12_isPupil wsX12_isPupil) := goodIn_app (goodIn_of _ (by decide +kernel)) ggX12_pair_X12_isPupil
set_option maxRecDepth 20000 in
theorem ggX12_pair_X12_in : GoodIn wsX12_pair wsX12_in := goodIn_r _ [15] (by decide +kernel) (by decide +kernel)
set_option maxRecDepth 20000 in
theorem gX12_pair_X12_in : GoodIn wsX12_pair (wsV RX12 167 RX12 yX12_in wsX12_in) := goodIn_app (goodIn_of _ (by decide +kernel)) ggX12_pair_X12_in
set_option maxRecDepth 20000 in
theorem ggX12_pair_X12_asIs : GoodIn wsX12_pair wsX12_asIs := goodIn_r _ [19, 20, 21, 70, 71, 72, 73, 74, 75, 76, 77, 78, 79, 80, 81, 82, 83, 84, 85, 86, 87, 88, 89, 90, 91, 92, 93, 94, 95, 96, 97, 98, 99, 100, 101, 102, 103, 104, 105, 106, 107, 108, 109, 110, 111, 112, 113, 114, 115, 116, 117, 118, 119, 120] (by decide +kernel) (by decide +kernel)
set_option maxRecDepth 20000 in
theorem gX12_pair_X12_asIs : GoodIn wsX12_pair (wsV RX12 260 RX12 yX12_asIs wsX12_asIs) := goodIn_app (goodIn_of _ (by decide +kernel)) ggX12_pair_X12_asIs
set_option maxRecDepth 20000 in
theorem ggX12_pair_X12_sumOf : GoodIn wsX12_pair wsX12_sumOf := goodIn_r _ [25, 26, 27, 28, 29, 30, 9, 31, 32, 33, 34, 35, 36, 37, 38, 39, 40, 41, 42, 43, 44, 45, 46, 47, 48, 49, 50, 51, 52, 53, 70, 71, 72, 73, 74, 75, 76, 77, 78, 79, 80, 81, 82, 83, 84, 85, 86, 87, 88, 89, 90, 91, 92, 93, 94, 95, 96, 97, 98, 99, 100, 101, 102, 103, 104, 105, 106, 107, 108, 109, 110, 111, 112, 113, 114, 115, 116, 117, 118, 119, 120] (by decide +kernel) (by decide +kernel)
set_option maxRecDepth 20000 in
theorem gX12_pair_X12_sumOf : GoodIn wsX12_pair (wsV RX12 242 RX12 yX12_sumOf wsX12_sumOf) := goodIn_app (goodIn_of _ (by decide +kernel)) ggX12_pair_X12_sumOf
set_option maxRecDepth 20000 in
theorem ggX12_pair_X12_isBarred : GoodIn wsX12_pair wsX12_isBarred := goodIn_r _ [57, 26, 28, 29, 30, 9, 31, 32, 33, 34, 35, 36, 37, 38, 39, 40, 41, 42, 43, 44, 45, 46, 47, 48, 49, 50, 51, 52, 53, 70, 71, 72, 73, 74, 75, 76, 77, 78, 79, 80, 81, 82, 83, 84, 85, 86, 87, 88, 89, 90, 91, 92, 93, 94, 95, 96, 97, 98, 99, 100, 101, 102, 103, 104, 105, 106, 107, 108, 109, 110, 111, 112, 113, 114, 115, 116, 117, 118, 119, 120] (by decide +kernel) (by decide +kernel)
set_option maxRecDepth 20000 in
theorem gX12_pair_X12_isBarred : GoodIn wsX12_pair (wsV RX12 252 RX12 yX12_isBarred wsX12_isBarred) := goodIn_app (goodIn_of _ (by decide +kernel)) ggX12_pair_X12_isBarred
set_option maxRecDepth 20000 in
theorem ggX12_pair_X12_plainWorth : GoodIn wsX12_pair wsX12_plainWorth := goodIn_r _ [61, 3, 50, 4, 51, 53, 22, 23, 24, 9, 25, 26, 27, 28, 29, 30, 31, 32, 33, 34, 35, 36, 37, 38, 39, 40, 41, 42, 43, 44, 45, 46, 47, 48, 49, 52, 62, 63, 64, 65, 11, 70, 71, 72, 73, 74, 75, 76, 77, 78, 79, 80, 81, 82, 83, 84, 85, 86, 87, 88, 89, 90, 91, 92, 93, 94, 95, 96, 97, 98, 99, 100, 101, 102, 103, 104, 105, 106, 107, 108, 109, 110, 111, 112, 113, 114, 115, 116, 117, 118, 119, 120] (by decide +kernel) (by decide +kernel)
set_option maxRecDepth 20000 in
theorem gX12_pair_X12_plainWorth : GoodIn wsX12_pair (wsV RX12 248 RX12 yX12_plainWorth wsX12_plainWorth) := goodIn_app (goodIn_of _ (by decide +kernel)) ggX12_pair_X12_plainWorth
set_option maxRecDepth 20000 in
theorem ggX12_pair_X12_across : GoodIn wsX12_pair wsX12_across := goodIn_r _ [69, 20, 70, 71, 72, 73, 74, 75, 76, 77, 78, 79, 80, 81, 82, 83, 84, 85, 86, 87, 88, 89, 90, 91, 92, 93, 94, 95, 96, 97, 98, 99, 100, 101, 102, 103, 104, 105, 106, 107, 108, 109, 110, 111, 112, 113, 114, 115, 116, 117, 118, 119, 120] (by decide +kernel) (by decide +kernel)
set_option maxRecDepth 20000 in
theorem gX12_pair_X12_across : GoodIn wsX12_pair (wsV RX12 255 RX12 yX12_across wsX12_across) := goodIn_app (goodIn_of _ (by decide +kernel)) ggX12_pair_X12_across
theorem dX12_pair_0 : decode cX12_pair 0 = .ok (.aload_n 0, 1) := by decide +kernel
theorem dX12_pair_1 : decode cX12_pair 1 = .ok (.iload_n 1, 1) := by decide +kernel
theorem dX12_pair_2 : decode cX12_pair 2 = .ok (.invokevirtual 171, 3) := by decide +kernel
theorem dX12_pair_5 : decode cX12_pair 5 = .ok (.ifCond .eq 32, 3) := by decide +kernel
theorem dX12_pair_8 : decode cX12_pair 8 = .ok (.aload_n 0, 1) := by decide +kernel
theorem dX12_pair_9 : decode cX12_pair 9 = .ok (.iload_n 2, 1) := by decide +kernel
theorem dX12_pair_10 : decode cX12_pair 10 = .ok (.invokevirtual 171, 3) := by decide +kernel
theorem dX12_pair_13 : decode cX12_pair 13 = .ok (.ifCond .eq 24, 3) := by decide +kernel
theorem dX12_pair_16 : decode cX12_pair 16 = .ok (.aload_n 0, 1) := by decide +kernel
theorem dX12_pair_17 : decode cX12_pair 17 = .ok (.iload_n 3, 1) := by decide +kernel
theorem dX12_pair_18 : decode cX12_pair 18 = .ok (.iconst 0, 1) := by decide +kernel
theorem dX12_pair_19 : decode cX12_pair 19 = .ok (.iconst 1, 1) := by decide +kernel
theorem dX12_pair_20 : decode cX12_pair 20 = .ok (.invokevirtual 167, 3) := by decide +kernel
theorem dX12_pair_23 : decode cX12_pair 23 = .ok (.ifCond .eq 14, 3) := by decide +kernel
theorem dX12_pair_26 : decode cX12_pair 26 = .ok (.aload_n 0, 1) := by decide +kernel
theorem dX12_pair_27 : decode cX12_pair 27 = .ok (.iload 4, 2) := by decide +kernel
theorem dX12_pair_29 : decode cX12_pair 29 = .ok (.iconst 0, 1) := by decide +kernel
theorem dX12_pair_30 : decode cX12_pair 30 = .ok (.iconst 3, 1) := by decide +kernel
theorem dX12_pair_31 : decode cX12_pair 31 = .ok (.invokevirtual 167, 3) := by decide +kernel
theorem dX12_pair_34 : decode cX12_pair 34 = .ok (.ifCond .ne 7, 3) := by decide +kernel
theorem dX12_pair_37 : decode cX12_pair 37 = .ok (.ldc_w 258, 3) := by decide +kernel
theorem dX12_pair_40 : decode cX12_pair 40 = .ok (.ireturn, 1) := by decide +kernel
theorem dX12_pair_41 : decode cX12_pair 41 = .ok (.iload_n 1, 1) := by decide +kernel
theorem dX12_pair_42 : decode cX12_pair 42 = .ok (.iload_n 2, 1) := by decide +kernel
theorem dX12_pair_43 : decode cX12_pair 43 = .ok (.if_icmp .ne 7, 3) := by decide +kernel
theorem dX12_pair_46 : decode cX12_pair 46 = .ok (.ldc_w 259, 3) := by decide +kernel
theorem dX12_pair_49 : decode cX12_pair 49 = .ok (.ireturn, 1) := by decide +kernel
theorem dX12_pair_50 : decode cX12_pair 50 = .ok (.aload_n 0, 1) := by decide +kernel
theorem dX12_pair_51 : decode cX12_pair 51 = .ok (.invokevirtual 260, 3) := by decide +kernel
theorem dX12_pair_54 : decode cX12_pair 54 = .ok (.iload 4, 2) := by decide +kernel
theorem dX12_pair_56 : decode cX12_pair 56 = .ok (.tableswitch 62 0 2 #[28, 37, 46], 28) := by decide +kernel
theorem dX12_pair_84 : decode cX12_pair 84 = .ok (.aload_n 0, 1) := by decide +kernel
theorem dX12_pair_85 : decode cX12_pair 85 = .ok (.iconst 0, 1) := by decide +kernel
theorem dX12_pair_86 : decode cX12_pair 86 = .ok (.iload_n 1, 1) := by decide +kernel
theorem dX12_pair_87 : decode cX12_pair 87 = .ok (.iload_n 2, 1) := by decide +kernel
theorem dX12_pair_88 : decode cX12_pair 88 = .ok (.iload_n 3, 1) := by decide +kernel
theorem dX12_pair_89 : decode cX12_pair 89 = .ok (.invokevirtual 242, 3) := by decide +kernel
theorem dX12_pair_92 : decode cX12_pair 92 = .ok (.ireturn, 1) := by decide +kernel
theorem dX12_pair_93 : decode cX12_pair 93 = .ok (.aload_n 0, 1) := by decide +kernel
theorem dX12_pair_94 : decode cX12_pair 94 = .ok (.iconst 1, 1) := by decide +kernel
theorem dX12_pair_95 : decode cX12_pair 95 = .ok (.iload_n 1, 1) := by decide +kernel
theorem dX12_pair_96 : decode cX12_pair 96 = .ok (.iload_n 2, 1) := by decide +kernel
theorem dX12_pair_97 : decode cX12_pair 97 = .ok (.iload_n 3, 1) := by decide +kernel
theorem dX12_pair_98 : decode cX12_pair 98 = .ok (.invokevirtual 242, 3) := by decide +kernel
theorem dX12_pair_101 : decode cX12_pair 101 = .ok (.ireturn, 1) := by decide +kernel
theorem dX12_pair_102 : decode cX12_pair 102 = .ok (.aload_n 0, 1) := by decide +kernel
theorem dX12_pair_103 : decode cX12_pair 103 = .ok (.iload_n 1, 1) := by decide +kernel
theorem dX12_pair_104 : decode cX12_pair 104 = .ok (.iload_n 2, 1) := by decide +kernel
theorem dX12_pair_105 : decode cX12_pair 105 = .ok (.iload_n 3, 1) := by decide +kernel
theorem dX12_pair_106 : decode cX12_pair 106 = .ok (.invokevirtual 252, 3) := by decide +kernel
theorem dX12_pair_109 : decode cX12_pair 109 = .ok (.ifCond .eq 7, 3) := by decide +kernel
theorem dX12_pair_112 : decode cX12_pair 112 = .ok (.iconst 1, 1) := by decide +kernel
theorem dX12_pair_113 : decode cX12_pair 113 = .ok (.goto 4, 3) := by decide +kernel
theorem dX12_pair_116 : decode cX12_pair 116 = .ok (.iconst 0, 1) := by decide +kernel
theorem dX12_pair_117 : decode cX12_pair 117 = .ok (.ireturn, 1) := by decide +kernel
theorem dX12_pair_118 : decode cX12_pair 118 = .ok (.aload_n 0, 1) := by decide +kernel
theorem dX12_pair_119 : decode cX12_pair 119 = .ok (.iload_n 1, 1) := by decide +kernel
theorem dX12_pair_120 : decode cX12_pair 120 = .ok (.iload_n 2, 1) := by decide +kernel
theorem dX12_pair_121 : decode cX12_pair 121 = .ok (.iload_n 3, 1) := by decide +kernel
theorem dX12_pair_122 : decode cX12_pair 122 = .ok (.invokevirtual 248, 3) := by decide +kernel
theorem dX12_pair_125 : decode cX12_pair 125 = .ok (.aload_n 0, 1) := by decide +kernel
theorem dX12_pair_126 : decode cX12_pair 126 = .ok (.getfield 16, 3) := by decide +kernel
theorem dX12_pair_129 : decode cX12_pair 129 = .ok (.iload_n 1, 1) := by decide +kernel
theorem dX12_pair_130 : decode cX12_pair 130 = .ok (.iaload, 1) := by decide +kernel
theorem dX12_pair_131 : decode cX12_pair 131 = .ok (.iconst 5, 1) := by decide +kernel
theorem dX12_pair_132 : decode cX12_pair 132 = .ok (.if_icmp .ne 23, 3) := by decide +kernel
theorem dX12_pair_135 : decode cX12_pair 135 = .ok (.aload_n 0, 1) := by decide +kernel
theorem dX12_pair_136 : decode cX12_pair 136 = .ok (.getfield 20, 3) := by decide +kernel
theorem dX12_pair_139 : decode cX12_pair 139 = .ok (.iload_n 1, 1) := by decide +kernel
theorem dX12_pair_140 : decode cX12_pair 140 = .ok (.iaload, 1) := by decide +kernel
theorem dX12_pair_141 : decode cX12_pair 141 = .ok (.aload_n 0, 1) := by decide +kernel
theorem dX12_pair_142 : decode cX12_pair 142 = .ok (.aload_n 0, 1) := by decide +kernel
theorem dX12_pair_143 : decode cX12_pair 143 = .ok (.getfield 35, 3) := by decide +kernel
theorem dX12_pair_146 : decode cX12_pair 146 = .ok (.iload_n 1, 1) := by decide +kernel
theorem dX12_pair_147 : decode cX12_pair 147 = .ok (.iaload, 1) := by decide +kernel
theorem dX12_pair_148 : decode cX12_pair 148 = .ok (.invokevirtual 255, 3) := by decide +kernel
theorem dX12_pair_151 : decode cX12_pair 151 = .ok (.imul, 1) := by decide +kernel
theorem dX12_pair_152 : decode cX12_pair 152 = .ok (.goto 4, 3) := by decide +kernel
theorem dX12_pair_155 : decode cX12_pair 155 = .ok (.iconst 0, 1) := by decide +kernel
theorem dX12_pair_156 : decode cX12_pair 156 = .ok (.isub, 1) := by decide +kernel
theorem dX12_pair_157 : decode cX12_pair 157 = .ok (.ireturn, 1) := by decide +kernel
set_option maxRecDepth 20000 in
theorem ggX12_sitting_X12_in : GoodIn wsX12_sitting wsX12_in := goodIn_r _ [6] (by decide +kernel) (by decide +kernel)
set_option maxRecDepth 20000 in
theorem gX12_sitting_X12_in : GoodIn wsX12_sitting (wsV RX12 167 RX12 yX12_in wsX12_in) := goodIn_app (goodIn_of _ (by decide +kernel)) ggX12_sitting_X12_in
set_option maxRecDepth 20000 in
theorem ggX12_sitting_X12_layPairs : GoodIn wsX12_sitting wsX12_layPairs := goodIn_r _ [10, 11, 12, 13, 14, 15, 16, 5, 17, 18, 19, 20, 21, 22, 23, 24, 25, 26, 27, 28, 29, 30, 31, 32, 33, 34, 35, 36, 37, 38, 39, 40, 41, 42, 43, 44, 45, 46, 47, 48, 49, 50, 51, 52, 53, 54, 55, 56, 57, 58, 59, 83, 84, 85, 86, 87, 88, 89, 90, 91, 92, 93, 94, 95, 96, 97, 98, 99, 100, 101, 102, 103, 104, 105, 106, 107, 108, 109, 110, 111, 112, 113, 114, 115, 116, 117, 118, 119, 120, 121, 122, 123, 124, 125, 126, 127, 128, 129, 130, 131, 132, 133] (by decide +kernel) (by decide +kernel)
set_option maxRecDepth 20000 in
theorem gX12_sitting_X12_layPairs : GoodIn wsX12_sitting (wsV RX12 263 RX12 yX12_layPairs wsX12_layPairs) := goodIn_app (goodIn_of _ (by decide +kernel)) ggX12_sitting_X12_layPairs
set_option maxRecDepth 20000 in
theorem ggX12_sitting_X12_asIs : GoodIn wsX12_sitting wsX12_asIs := goodIn_r _ [63, 64, 65, 83, 84, 85, 86, 87, 88, 89, 90, 91, 92, 93, 94, 95, 96, 97, 98, 99, 100, 101, 102, 103, 104, 105, 106, 107, 108, 109, 110, 111, 112, 113, 114, 115, 116, 117, 118, 119, 120, 121, 122, 123, 124, 125, 126, 127, 128, 129, 130, 131, 132, 133] (by decide +kernel) (by decide +kernel)
set_option maxRecDepth 20000 in
theorem gX12_sitting_X12_asIs : GoodIn wsX12_sitting (wsV RX12 260 RX12 yX12_asIs wsX12_asIs) := goodIn_app (goodIn_of _ (by decide +kernel)) ggX12_sitting_X12_asIs
set_option maxRecDepth 20000 in
theorem ggX12_sitting_X12_worthThere : GoodIn wsX12_sitting wsX12_worthThere := goodIn_r _ [69, 64, 12, 18, 20, 70, 71, 72, 5, 73, 83, 84, 85, 86, 87, 88, 89, 90, 91, 92, 93, 94, 95, 96, 97, 98, 99, 100, 101, 102, 103, 104, 105, 106, 107, 108, 109, 110, 111, 112, 113, 114, 115, 116, 117, 118, 119, 120, 121, 122, 123, 124, 125, 126, 127, 128, 129, 130, 131, 132, 133] (by decide +kernel) (by decide +kernel)
set_option maxRecDepth 20000 in
theorem gX12_sitting_X12_worthThere : GoodIn wsX12_sitting (wsV RX12 266 RX12 yX12_worthThere wsX12_worthThere) := goodIn_app (goodIn_of _ (by decide +kernel)) ggX12_sitting_X12_worthThere
set_option maxRecDepth 20000 in
theorem ggX12_sitting_X12_breaksThere : GoodIn wsX12_sitting wsX12_breaksThere := goodIn_r _ [77, 64, 13, 78, 83, 84, 85, 86, 87, 88, 89, 90, 91, 92, 93, 94, 95, 96, 97, 98, 99, 100, 101, 102, 103, 104, 105, 106, 107, 108, 109, 110, 111, 112, 113, 114, 115, 116, 117, 118, 119, 120, 121, 122, 123, 124, 125, 126, 127, 128, 129, 130, 131, 132, 133] (by decide +kernel) (by decide +kernel)
set_option maxRecDepth 20000 in
theorem gX12_sitting_X12_breaksThere : GoodIn wsX12_sitting (wsV RX12 269 RX12 yX12_breaksThere wsX12_breaksThere) := goodIn_app (goodIn_of _ (by decide +kernel)) ggX12_sitting_X12_breaksThere
set_option maxRecDepth 20000 in
theorem ggX12_sitting_X12_hushNow : GoodIn wsX12_sitting wsX12_hushNow := goodIn_r _ [82, 27, 28, 29, 30, 31, 5, 32, 33, 34, 35, 36, 37, 38, 83, 84, 85, 86, 87, 88, 89, 90, 91, 92, 93, 94, 95, 96, 97, 98, 99, 100, 101, 102, 103, 104, 105, 106, 107, 108, 109, 110, 111, 112, 113, 114, 115, 116, 117, 118, 119, 120, 121, 122, 123, 124, 125, 126, 127, 128, 129, 130, 131, 132, 133] (by decide +kernel) (by decide +kernel)
set_option maxRecDepth 20000 in
theorem gX12_sitting_X12_hushNow : GoodIn wsX12_sitting (wsV RX12 272 RX12 yX12_hushNow wsX12_hushNow) := goodIn_app (goodIn_of _ (by decide +kernel)) ggX12_sitting_X12_hushNow
theorem dX12_sitting_0 : decode cX12_sitting 0 = .ok (.aload_n 0, 1) := by decide +kernel
theorem dX12_sitting_1 : decode cX12_sitting 1 = .ok (.iload_n 1, 1) := by decide +kernel
theorem dX12_sitting_2 : decode cX12_sitting 2 = .ok (.iconst 0, 1) := by decide +kernel
theorem dX12_sitting_3 : decode cX12_sitting 3 = .ok (.iconst 2, 1) := by decide +kernel
theorem dX12_sitting_4 : decode cX12_sitting 4 = .ok (.invokevirtual 167, 3) := by decide +kernel
theorem dX12_sitting_7 : decode cX12_sitting 7 = .ok (.ifCond .ne 7, 3) := by decide +kernel
theorem dX12_sitting_10 : decode cX12_sitting 10 = .ok (.ldc_w 258, 3) := by decide +kernel
theorem dX12_sitting_13 : decode cX12_sitting 13 = .ok (.ireturn, 1) := by decide +kernel
theorem dX12_sitting_14 : decode cX12_sitting 14 = .ok (.aload_n 0, 1) := by decide +kernel
theorem dX12_sitting_15 : decode cX12_sitting 15 = .ok (.invokevirtual 263, 3) := by decide +kernel
theorem dX12_sitting_18 : decode cX12_sitting 18 = .ok (.aload_n 0, 1) := by decide +kernel
theorem dX12_sitting_19 : decode cX12_sitting 19 = .ok (.invokevirtual 260, 3) := by decide +kernel
theorem dX12_sitting_22 : decode cX12_sitting 22 = .ok (.iload_n 1, 1) := by decide +kernel
theorem dX12_sitting_23 : decode cX12_sitting 23 = .ok (.ifCond .ne 10, 3) := by decide +kernel
