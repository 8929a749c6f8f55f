theorem dX12_init_0 : decode cX12_init 0 = .ok (.aload_n 0, 1) := by decide +kernel
theorem dX12_init_1 : decode cX12_init 1 = .ok (.invokespecial 1, 3) := by decide +kernel
theorem dX12_init_4 : decode cX12_init 4 = .ok (.aload_n 0, 1) := by decide +kernel
theorem dX12_init_5 : decode cX12_init 5 = .ok (.sipush 135, 3) := by decide +kernel
theorem dX12_init_8 : decode cX12_init 8 = .ok (.newarray .int, 2) := by decide +kernel
theorem dX12_init_10 : decode cX12_init 10 = .ok (.putfield 7, 3) := by decide +kernel
theorem dX12_init_13 : decode cX12_init 13 = .ok (.aload_n 0, 1) := by decide +kernel
theorem dX12_init_14 : decode cX12_init 14 = .ok (.sipush 810, 3) := by decide +kernel
theorem dX12_init_17 : decode cX12_init 17 = .ok (.newarray .int, 2) := by decide +kernel
theorem dX12_init_19 : decode cX12_init 19 = .ok (.putfield 13, 3) := by decide +kernel
theorem dX12_init_22 : decode cX12_init 22 = .ok (.aload_n 0, 1) := by decide +kernel
theorem dX12_init_23 : decode cX12_init 23 = .ok (.sipush 135, 3) := by decide +kernel
theorem dX12_init_26 : decode cX12_init 26 = .ok (.newarray .int, 2) := by decide +kernel
theorem dX12_init_28 : decode cX12_init 28 = .ok (.putfield 16, 3) := by decide +kernel
theorem dX12_init_31 : decode cX12_init 31 = .ok (.aload_n 0, 1) := by decide +kernel
theorem dX12_init_32 : decode cX12_init 32 = .ok (.bipush 16, 2) := by decide +kernel
theorem dX12_init_34 : decode cX12_init 34 = .ok (.newarray .int, 2) := by decide +kernel
theorem dX12_init_36 : decode cX12_init 36 = .ok (.putfield 19, 3) := by decide +kernel
theorem dX12_init_39 : decode cX12_init 39 = .ok (.aload_n 0, 1) := by decide +kernel
theorem dX12_init_40 : decode cX12_init 40 = .ok (.bipush 16, 2) := by decide +kernel
theorem dX12_init_42 : decode cX12_init 42 = .ok (.newarray .int, 2) := by decide +kernel
theorem dX12_init_44 : decode cX12_init 44 = .ok (.putfield 22, 3) := by decide +kernel
theorem dX12_init_47 : decode cX12_init 47 = .ok (.aload_n 0, 1) := by decide +kernel
theorem dX12_init_48 : decode cX12_init 48 = .ok (.bipush 16, 2) := by decide +kernel
theorem dX12_init_50 : decode cX12_init 50 = .ok (.newarray .int, 2) := by decide +kernel
theorem dX12_init_52 : decode cX12_init 52 = .ok (.putfield 25, 3) := by decide +kernel
theorem dX12_init_55 : decode cX12_init 55 = .ok (.aload_n 0, 1) := by decide +kernel
theorem dX12_init_56 : decode cX12_init 56 = .ok (.bipush 8, 2) := by decide +kernel
theorem dX12_init_58 : decode cX12_init 58 = .ok (.newarray .int, 2) := by decide +kernel
theorem dX12_init_60 : decode cX12_init 60 = .ok (.putfield 28, 3) := by decide +kernel
theorem dX12_init_63 : decode cX12_init 63 = .ok (.aload_n 0, 1) := by decide +kernel
theorem dX12_init_64 : decode cX12_init 64 = .ok (.bipush 8, 2) := by decide +kernel
theorem dX12_init_66 : decode cX12_init 66 = .ok (.newarray .int, 2) := by decide +kernel
theorem dX12_init_68 : decode cX12_init 68 = .ok (.putfield 31, 3) := by decide +kernel
theorem dX12_init_71 : decode cX12_init 71 = .ok (.aload_n 0, 1) := by decide +kernel
theorem dX12_init_72 : decode cX12_init 72 = .ok (.sipush 600, 3) := by decide +kernel
theorem dX12_init_75 : decode cX12_init 75 = .ok (.newarray .int, 2) := by decide +kernel
theorem dX12_init_77 : decode cX12_init 77 = .ok (.putfield 34, 3) := by decide +kernel
theorem dX12_init_80 : decode cX12_init 80 = .ok (.aload_n 0, 1) := by decide +kernel
theorem dX12_init_81 : decode cX12_init 81 = .ok (.sipush 400, 3) := by decide +kernel
theorem dX12_init_84 : decode cX12_init 84 = .ok (.newarray .int, 2) := by decide +kernel
theorem dX12_init_86 : decode cX12_init 86 = .ok (.putfield 37, 3) := by decide +kernel
theorem dX12_init_89 : decode cX12_init 89 = .ok (.aload_n 0, 1) := by decide +kernel
theorem dX12_init_90 : decode cX12_init 90 = .ok (.sipush 148, 3) := by decide +kernel
theorem dX12_init_93 : decode cX12_init 93 = .ok (.newarray .int, 2) := by decide +kernel
theorem dX12_init_95 : decode cX12_init 95 = .ok (.dup, 1) := by decide +kernel
theorem dX12_init_96 : decode cX12_init 96 = .ok (.iconst 0, 1) := by decide +kernel
theorem dX12_init_97 : decode cX12_init 97 = .ok (.bipush 32, 2) := by decide +kernel
theorem dX12_init_99 : decode cX12_init 99 = .ok (.iastore, 1) := by decide +kernel
theorem dX12_init_100 : decode cX12_init 100 = .ok (.dup, 1) := by decide +kernel
theorem dX12_init_101 : decode cX12_init 101 = .ok (.iconst 1, 1) := by decide +kernel
theorem dX12_init_102 : decode cX12_init 102 = .ok (.bipush 98, 2) := by decide +kernel
theorem dX12_init_104 : decode cX12_init 104 = .ok (.iastore, 1) := by decide +kernel
theorem dX12_init_105 : decode cX12_init 105 = .ok (.dup, 1) := by decide +kernel
theorem dX12_init_106 : decode cX12_init 106 = .ok (.iconst 2, 1) := by decide +kernel
theorem dX12_init_107 : decode cX12_init 107 = .ok (.bipush 105, 2) := by decide +kernel
theorem dX12_init_109 : decode cX12_init 109 = .ok (.iastore, 1) := by decide +kernel
theorem dX12_init_110 : decode cX12_init 110 = .ok (.dup, 1) := by decide +kernel
theorem dX12_init_111 : decode cX12_init 111 = .ok (.iconst 3, 1) := by decide +kernel
theorem dX12_init_112 : decode cX12_init 112 = .ok (.bipush 100, 2) := by decide +kernel
theorem dX12_init_114 : decode cX12_init 114 = .ok (.iastore, 1) := by decide +kernel
theorem dX12_init_115 : decode cX12_init 115 = .ok (.dup, 1) := by decide +kernel
theorem dX12_init_116 : decode cX12_init 116 = .ok (.iconst 4, 1) := by decide +kernel
theorem dX12_init_117 : decode cX12_init 117 = .ok (.bipush 115, 2) := by decide +kernel
theorem dX12_init_119 : decode cX12_init 119 = .ok (.iastore, 1) := by decide +kernel
theorem dX12_init_120 : decode cX12_init 120 = .ok (.dup, 1) := by decide +kernel
theorem dX12_init_121 : decode cX12_init 121 = .ok (.iconst 5, 1) := by decide +kernel
theorem dX12_init_122 : decode cX12_init 122 = .ok (.bipush 32, 2) := by decide +kernel
theorem dX12_init_124 : decode cX12_init 124 = .ok (.iastore, 1) := by decide +kernel
theorem dX12_init_125 : decode cX12_init 125 = .ok (.dup, 1) := by decide +kernel
theorem dX12_init_126 : decode cX12_init 126 = .ok (.bipush 6, 2) := by decide +kernel
theorem dX12_init_128 : decode cX12_init 128 = .ok (.bipush 115, 2) := by decide +kernel
theorem dX12_init_130 : decode cX12_init 130 = .ok (.iastore, 1) := by decide +kernel
theorem dX12_init_131 : decode cX12_init 131 = .ok (.dup, 1) := by decide +kernel
theorem dX12_init_132 : decode cX12_init 132 = .ok (.bipush 7, 2) := by decide +kernel
theorem dX12_init_134 : decode cX12_init 134 = .ok (.bipush 116, 2) := by decide +kernel
theorem dX12_init_136 : decode cX12_init 136 = .ok (.iastore, 1) := by decide +kernel
theorem dX12_init_137 : decode cX12_init 137 = .ok (.dup, 1) := by decide +kernel
theorem dX12_init_138 : decode cX12_init 138 = .ok (.bipush 8, 2) := by decide +kernel
theorem dX12_init_140 : decode cX12_init 140 = .ok (.bipush 101, 2) := by decide +kernel
theorem dX12_init_142 : decode cX12_init 142 = .ok (.iastore, 1) := by decide +kernel
theorem dX12_init_143 : decode cX12_init 143 = .ok (.dup, 1) := by decide +kernel
theorem dX12_init_144 : decode cX12_init 144 = .ok (.bipush 9, 2) := by decide +kernel
theorem dX12_init_146 : decode cX12_init 146 = .ok (.bipush 112, 2) := by decide +kernel
theorem dX12_init_148 : decode cX12_init 148 = .ok (.iastore, 1) := by decide +kernel
theorem dX12_init_149 : decode cX12_init 149 = .ok (.dup, 1) := by decide +kernel
theorem dX12_init_150 : decode cX12_init 150 = .ok (.bipush 10, 2) := by decide +kernel
theorem dX12_init_152 : decode cX12_init 152 = .ok (.bipush 32, 2) := by decide +kernel
theorem dX12_init_154 : decode cX12_init 154 = .ok (.iastore, 1) := by decide +kernel
theorem dX12_init_155 : decode cX12_init 155 = .ok (.dup, 1) := by decide +kernel
theorem dX12_init_156 : decode cX12_init 156 = .ok (.bipush 11, 2) := by decide +kernel
theorem dX12_init_158 : decode cX12_init 158 = .ok (.bipush 102, 2) := by decide +kernel
theorem dX12_init_160 : decode cX12_init 160 = .ok (.iastore, 1) := by decide +kernel
theorem dX12_init_161 : decode cX12_init 161 = .ok (.dup, 1) := by decide +kernel
theorem dX12_init_162 : decode cX12_init 162 = .ok (.bipush 12, 2) := by decide +kernel
theorem dX12_init_164 : decode cX12_init 164 = .ok (.bipush 117, 2) := by decide +kernel
theorem dX12_init_166 : decode cX12_init 166 = .ok (.iastore, 1) := by decide +kernel
theorem dX12_init_167 : decode cX12_init 167 = .ok (.dup, 1) := by decide +kernel
theorem dX12_init_168 : decode cX12_init 168 = .ok (.bipush 13, 2) := by decide +kernel
theorem dX12_init_170 : decode cX12_init 170 = .ok (.bipush 108, 2) := by decide +kernel
theorem dX12_init_172 : decode cX12_init 172 = .ok (.iastore, 1) := by decide +kernel
theorem dX12_init_173 : decode cX12_init 173 = .ok (.dup, 1) := by decide +kernel
theorem dX12_init_174 : decode cX12_init 174 = .ok (.bipush 14, 2) := by decide +kernel
theorem dX12_init_176 : decode cX12_init 176 = .ok (.bipush 108, 2) := by decide +kernel
theorem dX12_init_178 : decode cX12_init 178 = .ok (.iastore, 1) := by decide +kernel
theorem dX12_init_179 : decode cX12_init 179 = .ok (.dup, 1) := by decide +kernel
theorem dX12_init_180 : decode cX12_init 180 = .ok (.bipush 15, 2) := by decide +kernel
theorem dX12_init_182 : decode cX12_init 182 = .ok (.bipush 32, 2) := by decide +kernel
theorem dX12_init_184 : decode cX12_init 184 = .ok (.iastore, 1) := by decide +kernel
theorem dX12_init_185 : decode cX12_init 185 = .ok (.dup, 1) := by decide +kernel
theorem dX12_init_186 : decode cX12_init 186 = .ok (.bipush 16, 2) := by decide +kernel
theorem dX12_init_188 : decode cX12_init 188 = .ok (.bipush 119, 2) := by decide +kernel
theorem dX12_init_190 : decode cX12_init 190 = .ok (.iastore, 1) := by decide +kernel
theorem dX12_init_191 : decode cX12_init 191 = .ok (.dup, 1) := by decide +kernel
theorem dX12_init_192 : decode cX12_init 192 = .ok (.bipush 17, 2) := by decide +kernel
theorem dX12_init_194 : decode cX12_init 194 = .ok (.bipush 104, 2) := by decide +kernel
theorem dX12_init_196 : decode cX12_init 196 = .ok (.iastore, 1) := by decide +kernel
theorem dX12_init_197 : decode cX12_init 197 = .ok (.dup, 1) := by decide +kernel
theorem dX12_init_198 : decode cX12_init 198 = .ok (.bipush 18, 2) := by decide +kernel
theorem dX12_init_200 : decode cX12_init 200 = .ok (.bipush 101, 2) := by decide +kernel
theorem dX12_init_202 : decode cX12_init 202 = .ok (.iastore, 1) := by decide +kernel
theorem dX12_init_203 : decode cX12_init 203 = .ok (.dup, 1) := by decide +kernel
theorem dX12_init_204 : decode cX12_init 204 = .ok (.bipush 19, 2) := by decide +kernel
theorem dX12_init_206 : decode cX12_init 206 = .ok (.bipush 110, 2) := by decide +kernel
theorem dX12_init_208 : decode cX12_init 208 = .ok (.iastore, 1) := by decide +kernel
theorem dX12_init_209 : decode cX12_init 209 = .ok (.dup, 1) := by decide +kernel
theorem dX12_init_210 : decode cX12_init 210 = .ok (.bipush 20, 2) := by decide +kernel
theorem dX12_init_212 : decode cX12_init 212 = .ok (.bipush 32, 2) := by decide +kernel
theorem dX12_init_214 : decode cX12_init 214 = .ok (.iastore, 1) := by decide +kernel
theorem dX12_init_215 : decode cX12_init 215 = .ok (.dup, 1) := by decide +kernel
theorem dX12_init_216 : decode cX12_init 216 = .ok (.bipush 21, 2) := by decide +kernel
theorem dX12_init_218 : decode cX12_init 218 = .ok (.bipush 111, 2) := by decide +kernel
theorem dX12_init_220 : decode cX12_init 220 = .ok (.iastore, 1) := by decide +kernel
theorem dX12_init_221 : decode cX12_init 221 = .ok (.dup, 1) := by decide +kernel
theorem dX12_init_222 : decode cX12_init 222 = .ok (.bipush 22, 2) := by decide +kernel
theorem dX12_init_224 : decode cX12_init 224 = .ok (.bipush 114, 2) := by decide +kernel
theorem dX12_init_226 : decode cX12_init 226 = .ok (.iastore, 1) := by decide +kernel
theorem dX12_init_227 : decode cX12_init 227 = .ok (.dup, 1) := by decide +kernel
theorem dX12_init_228 : decode cX12_init 228 = .ok (.bipush 23, 2) := by decide +kernel
theorem dX12_init_230 : decode cX12_init 230 = .ok (.bipush 32, 2) := by decide +kernel
theorem dX12_init_232 : decode cX12_init 232 = .ok (.iastore, 1) := by decide +kernel
theorem dX12_init_233 : decode cX12_init 233 = .ok (.dup, 1) := by decide +kernel
theorem dX12_init_234 : decode cX12_init 234 = .ok (.bipush 24, 2) := by decide +kernel
theorem dX12_init_236 : decode cX12_init 236 = .ok (.bipush 97, 2) := by decide +kernel
theorem dX12_init_238 : decode cX12_init 238 = .ok (.iastore, 1) := by decide +kernel
theorem dX12_init_239 : decode cX12_init 239 = .ok (.dup, 1) := by decide +kernel
theorem dX12_init_240 : decode cX12_init 240 = .ok (.bipush 25, 2) := by decide +kernel
theorem dX12_init_242 : decode cX12_init 242 = .ok (.bipush 110, 2) := by decide +kernel
theorem dX12_init_244 : decode cX12_init 244 = .ok (.iastore, 1) := by decide +kernel
theorem dX12_init_245 : decode cX12_init 245 = .ok (.dup, 1) := by decide +kernel
theorem dX12_init_246 : decode cX12_init 246 = .ok (.bipush 26, 2) := by decide +kernel
theorem dX12_init_248 : decode cX12_init 248 = .ok (.bipush 100, 2) := by decide +kernel
theorem dX12_init_250 : decode cX12_init 250 = .ok (.iastore, 1) := by decide +kernel
theorem dX12_init_251 : decode cX12_init 251 = .ok (.dup, 1) := by decide +kernel
theorem dX12_init_252 : decode cX12_init 252 = .ok (.bipush 27, 2) := by decide +kernel
theorem dX12_init_254 : decode cX12_init 254 = .ok (.bipush 32, 2) := by decide +kernel
theorem dX12_init_256 : decode cX12_init 256 = .ok (.iastore, 1) := by decide +kernel
theorem dX12_init_257 : decode cX12_init 257 = .ok (.dup, 1) := by decide +kernel
theorem dX12_init_258 : decode cX12_init 258 = .ok (.bipush 28, 2) := by decide +kernel
theorem dX12_init_260 : decode cX12_init 260 = .ok (.bipush 110, 2) := by decide +kernel
theorem dX12_init_262 : decode cX12_init 262 = .ok (.iastore, 1) := by decide +kernel
theorem dX12_init_263 : decode cX12_init 263 = .ok (.dup, 1) := by decide +kernel
theorem dX12_init_264 : decode cX12_init 264 = .ok (.bipush 29, 2) := by decide +kernel
theorem dX12_init_266 : decode cX12_init 266 = .ok (.bipush 111, 2) := by decide +kernel
theorem dX12_init_268 : decode cX12_init 268 = .ok (.iastore, 1) := by decide +kernel
theorem dX12_init_269 : decode cX12_init 269 = .ok (.dup, 1) := by decide +kernel
theorem dX12_init_270 : decode cX12_init 270 = .ok (.bipush 30, 2) := by decide +kernel
theorem dX12_init_272 : decode cX12_init 272 = .ok (.bipush 116, 2) := by decide +kernel
theorem dX12_init_274 : decode cX12_init 274 = .ok (.iastore, 1) := by decide +kernel
theorem dX12_init_275 : decode cX12_init 275 = .ok (.dup, 1) := by decide +kernel
theorem dX12_init_276 : decode cX12_init 276 = .ok (.bipush 31, 2) := by decide +kernel
theorem dX12_init_278 : decode cX12_init 278 = .ok (.bipush 32, 2) := by decide +kernel
theorem dX12_init_280 : decode cX12_init 280 = .ok (.iastore, 1) := by decide +kernel
theorem dX12_init_281 : decode cX12_init 281 = .ok (.dup, 1) := by decide +kernel
theorem dX12_init_282 : decode cX12_init 282 = .ok (.bipush 32, 2) := by decide +kernel
theorem dX12_init_284 : decode cX12_init 284 = .ok (.bipush 119, 2) := by decide +kernel
theorem dX12_init_286 : decode cX12_init 286 = .ok (.iastore, 1) := by decide +kernel
theorem dX12_init_287 : decode cX12_init 287 = .ok (.dup, 1) := by decide +kernel
theorem dX12_init_288 : decode cX12_init 288 = .ok (.bipush 33, 2) := by decide +kernel
theorem dX12_init_290 : decode cX12_init 290 = .ok (.bipush 101, 2) := by decide +kernel
theorem dX12_init_292 : decode cX12_init 292 = .ok (.iastore, 1) := by decide +kernel
theorem dX12_init_293 : decode cX12_init 293 = .ok (.dup, 1) := by decide +kernel
theorem dX12_init_294 : decode cX12_init 294 = .ok (.bipush 34, 2) := by decide +kernel
theorem dX12_init_296 : decode cX12_init 296 = .ok (.bipush 105, 2) := by decide +kernel
theorem dX12_init_298 : decode cX12_init 298 = .ok (.iastore, 1) := by decide +kernel
theorem dX12_init_299 : decode cX12_init 299 = .ok (.dup, 1) := by decide +kernel
theorem dX12_init_300 : decode cX12_init 300 = .ok (.bipush 35, 2) := by decide +kernel
theorem dX12_init_302 : decode cX12_init 302 = .ok (.bipush 103, 2) := by decide +kernel
theorem dX12_init_304 : decode cX12_init 304 = .ok (.iastore, 1) := by decide +kernel
theorem dX12_init_305 : decode cX12_init 305 = .ok (.dup, 1) := by decide +kernel
theorem dX12_init_306 : decode cX12_init 306 = .ok (.bipush 36, 2) := by decide +kernel
theorem dX12_init_308 : decode cX12_init 308 = .ok (.bipush 104, 2) := by decide +kernel
theorem dX12_init_310 : decode cX12_init 310 = .ok (.iastore, 1) := by decide +kernel
theorem dX12_init_311 : decode cX12_init 311 = .ok (.dup, 1) := by decide +kernel
theorem dX12_init_312 : decode cX12_init 312 = .ok (.bipush 37, 2) := by decide +kernel
theorem dX12_init_314 : decode cX12_init 314 = .ok (.bipush 116, 2) := by decide +kernel
theorem dX12_init_316 : decode cX12_init 316 = .ok (.iastore, 1) := by decide +kernel
theorem dX12_init_317 : decode cX12_init 317 = .ok (.dup, 1) := by decide +kernel
theorem dX12_init_318 : decode cX12_init 318 = .ok (.bipush 38, 2) := by decide +kernel
theorem dX12_init_320 : decode cX12_init 320 = .ok (.bipush 32, 2) := by decide +kernel
theorem dX12_init_322 : decode cX12_init 322 = .ok (.iastore, 1) := by decide +kernel
theorem dX12_init_323 : decode cX12_init 323 = .ok (.dup, 1) := by decide +kernel
theorem dX12_init_324 : decode cX12_init 324 = .ok (.bipush 39, 2) := by decide +kernel
theorem dX12_init_326 : decode cX12_init 326 = .ok (.bipush 114, 2) := by decide +kernel
theorem dX12_init_328 : decode cX12_init 328 = .ok (.iastore, 1) := by decide +kernel
theorem dX12_init_329 : decode cX12_init 329 = .ok (.dup, 1) := by decide +kernel
theorem dX12_init_330 : decode cX12_init 330 = .ok (.bipush 40, 2) := by decide +kernel
theorem dX12_init_332 : decode cX12_init 332 = .ok (.bipush 97, 2) := by decide +kernel
theorem dX12_init_334 : decode cX12_init 334 = .ok (.iastore, 1) := by decide +kernel
theorem dX12_init_335 : decode cX12_init 335 = .ok (.dup, 1) := by decide +kernel
theorem dX12_init_336 : decode cX12_init 336 = .ok (.bipush 41, 2) := by decide +kernel
theorem dX12_init_338 : decode cX12_init 338 = .ok (.bipush 116, 2) := by decide +kernel
theorem dX12_init_340 : decode cX12_init 340 = .ok (.iastore, 1) := by decide +kernel
theorem dX12_init_341 : decode cX12_init 341 = .ok (.dup, 1) := by decide +kernel
theorem dX12_init_342 : decode cX12_init 342 = .ok (.bipush 42, 2) := by decide +kernel
theorem dX12_init_344 : decode cX12_init 344 = .ok (.bipush 116, 2) := by decide +kernel
theorem dX12_init_346 : decode cX12_init 346 = .ok (.iastore, 1) := by decide +kernel
theorem dX12_init_347 : decode cX12_init 347 = .ok (.dup, 1) := by decide +kernel
theorem dX12_init_348 : decode cX12_init 348 = .ok (.bipush 43, 2) := by decide +kernel
theorem dX12_init_350 : decode cX12_init 350 = .ok (.bipush 108, 2) := by decide +kernel
theorem dX12_init_352 : decode cX12_init 352 = .ok (.iastore, 1) := by decide +kernel
theorem dX12_init_353 : decode cX12_init 353 = .ok (.dup, 1) := by decide +kernel
theorem dX12_init_354 : decode cX12_init 354 = .ok (.bipush 44, 2) := by decide +kernel
theorem dX12_init_356 : decode cX12_init 356 = .ok (.bipush 101, 2) := by decide +kernel
theorem dX12_init_358 : decode cX12_init 358 = .ok (.iastore, 1) := by decide +kernel
theorem dX12_init_359 : decode cX12_init 359 = .ok (.dup, 1) := by decide +kernel
theorem dX12_init_360 : decode cX12_init 360 = .ok (.bipush 45, 2) := by decide +kernel
theorem dX12_init_362 : decode cX12_init 362 = .ok (.bipush 32, 2) := by decide +kernel
theorem dX12_init_364 : decode cX12_init 364 = .ok (.iastore, 1) := by decide +kernel
theorem dX12_init_365 : decode cX12_init 365 = .ok (.dup, 1) := by decide +kernel
theorem dX12_init_366 : decode cX12_init 366 = .ok (.bipush 46, 2) := by decide +kernel
theorem dX12_init_368 : decode cX12_init 368 = .ok (.bipush 107, 2) := by decide +kernel
theorem dX12_init_370 : decode cX12_init 370 = .ok (.iastore, 1) := by decide +kernel
theorem dX12_init_371 : decode cX12_init 371 = .ok (.dup, 1) := by decide +kernel
theorem dX12_init_372 : decode cX12_init 372 = .ok (.bipush 47, 2) := by decide +kernel
theorem dX12_init_374 : decode cX12_init 374 = .ok (.bipush 110, 2) := by decide +kernel
theorem dX12_init_376 : decode cX12_init 376 = .ok (.iastore, 1) := by decide +kernel
theorem dX12_init_377 : decode cX12_init 377 = .ok (.dup, 1) := by decide +kernel
theorem dX12_init_378 : decode cX12_init 378 = .ok (.bipush 48, 2) := by decide +kernel
theorem dX12_init_380 : decode cX12_init 380 = .ok (.bipush 111, 2) := by decide +kernel
theorem dX12_init_382 : decode cX12_init 382 = .ok (.iastore, 1) := by decide +kernel
theorem dX12_init_383 : decode cX12_init 383 = .ok (.dup, 1) := by decide +kernel
theorem dX12_init_384 : decode cX12_init 384 = .ok (.bipush 49, 2) := by decide +kernel
theorem dX12_init_386 : decode cX12_init 386 = .ok (.bipush 116, 2) := by decide +kernel
theorem dX12_init_388 : decode cX12_init 388 = .ok (.iastore, 1) := by decide +kernel
theorem dX12_init_389 : decode cX12_init 389 = .ok (.dup, 1) := by decide +kernel
theorem dX12_init_390 : decode cX12_init 390 = .ok (.bipush 50, 2) := by decide +kernel
theorem dX12_init_392 : decode cX12_init 392 = .ok (.bipush 115, 2) := by decide +kernel
theorem dX12_init_394 : decode cX12_init 394 = .ok (.iastore, 1) := by decide +kernel
theorem dX12_init_395 : decode cX12_init 395 = .ok (.dup, 1) := by decide +kernel
theorem dX12_init_396 : decode cX12_init 396 = .ok (.bipush 51, 2) := by decide +kernel
theorem dX12_init_398 : decode cX12_init 398 = .ok (.bipush 32, 2) := by decide +kernel
theorem dX12_init_400 : decode cX12_init 400 = .ok (.iastore, 1) := by decide +kernel
theorem dX12_init_401 : decode cX12_init 401 = .ok (.dup, 1) := by decide +kernel
theorem dX12_init_402 : decode cX12_init 402 = .ok (.bipush 52, 2) := by decide +kernel
theorem dX12_init_404 : decode cX12_init 404 = .ok (.bipush 99, 2) := by decide +kernel
theorem dX12_init_406 : decode cX12_init 406 = .ok (.iastore, 1) := by decide +kernel
theorem dX12_init_407 : decode cX12_init 407 = .ok (.dup, 1) := by decide +kernel
theorem dX12_init_408 : decode cX12_init 408 = .ok (.bipush 53, 2) := by decide +kernel
theorem dX12_init_410 : decode cX12_init 410 = .ok (.bipush 97, 2) := by decide +kernel
theorem dX12_init_412 : decode cX12_init 412 = .ok (.iastore, 1) := by decide +kernel
theorem dX12_init_413 : decode cX12_init 413 = .ok (.dup, 1) := by decide +kernel
theorem dX12_init_414 : decode cX12_init 414 = .ok (.bipush 54, 2) := by decide +kernel
theorem dX12_init_416 : decode cX12_init 416 = .ok (.bipush 114, 2) := by decide +kernel
theorem dX12_init_418 : decode cX12_init 418 = .ok (.iastore, 1) := by decide +kernel
theorem dX12_init_419 : decode cX12_init 419 = .ok (.dup, 1) := by decide +kernel
theorem dX12_init_420 : decode cX12_init 420 = .ok (.bipush 55, 2) := by decide +kernel
theorem dX12_init_422 : decode cX12_init 422 = .ok (.bipush 101, 2) := by decide +kernel
theorem dX12_init_424 : decode cX12_init 424 = .ok (.iastore, 1) := by decide +kernel
theorem dX12_init_425 : decode cX12_init 425 = .ok (.dup, 1) := by decide +kernel
theorem dX12_init_426 : decode cX12_init 426 = .ok (.bipush 56, 2) := by decide +kernel
theorem dX12_init_428 : decode cX12_init 428 = .ok (.bipush 32, 2) := by decide +kernel
theorem dX12_init_430 : decode cX12_init 430 = .ok (.iastore, 1) := by decide +kernel
theorem dX12_init_431 : decode cX12_init 431 = .ok (.dup, 1) := by decide +kernel
theorem dX12_init_432 : decode cX12_init 432 = .ok (.bipush 57, 2) := by decide +kernel
theorem dX12_init_434 : decode cX12_init 434 = .ok (.bipush 115, 2) := by decide +kernel
theorem dX12_init_436 : decode cX12_init 436 = .ok (.iastore, 1) := by decide +kernel
theorem dX12_init_437 : decode cX12_init 437 = .ok (.dup, 1) := by decide +kernel
theorem dX12_init_438 : decode cX12_init 438 = .ok (.bipush 58, 2) := by decide +kernel
theorem dX12_init_440 : decode cX12_init 440 = .ok (.bipush 104, 2) := by decide +kernel
theorem dX12_init_442 : decode cX12_init 442 = .ok (.iastore, 1) := by decide +kernel
theorem dX12_init_443 : decode cX12_init 443 = .ok (.dup, 1) := by decide +kernel
theorem dX12_init_444 : decode cX12_init 444 = .ok (.bipush 59, 2) := by decide +kernel
theorem dX12_init_446 : decode cX12_init 446 = .ok (.bipush 105, 2) := by decide +kernel
theorem dX12_init_448 : decode cX12_init 448 = .ok (.iastore, 1) := by decide +kernel
theorem dX12_init_449 : decode cX12_init 449 = .ok (.dup, 1) := by decide +kernel
theorem dX12_init_450 : decode cX12_init 450 = .ok (.bipush 60, 2) := by decide +kernel
theorem dX12_init_452 : decode cX12_init 452 = .ok (.bipush 108, 2) := by decide +kernel
theorem dX12_init_454 : decode cX12_init 454 = .ok (.iastore, 1) := by decide +kernel
theorem dX12_init_455 : decode cX12_init 455 = .ok (.dup, 1) := by decide +kernel
theorem dX12_init_456 : decode cX12_init 456 = .ok (.bipush 61, 2) := by decide +kernel
theorem dX12_init_458 : decode cX12_init 458 = .ok (.bipush 108, 2) := by decide +kernel
theorem dX12_init_460 : decode cX12_init 460 = .ok (.iastore, 1) := by decide +kernel
theorem dX12_init_461 : decode cX12_init 461 = .ok (.dup, 1) := by decide +kernel
theorem dX12_init_462 : decode cX12_init 462 = .ok (.bipush 62, 2) := by decide +kernel
theorem dX12_init_464 : decode cX12_init 464 = .ok (.bipush 32, 2) := by decide +kernel
theorem dX12_init_466 : decode cX12_init 466 = .ok (.iastore, 1) := by decide +kernel
theorem dX12_init_467 : decode cX12_init 467 = .ok (.dup, 1) := by decide +kernel
theorem dX12_init_468 : decode cX12_init 468 = .ok (.bipush 63, 2) := by decide +kernel
theorem dX12_init_470 : decode cX12_init 470 = .ok (.bipush 112, 2) := by decide +kernel
theorem dX12_init_472 : decode cX12_init 472 = .ok (.iastore, 1) := by decide +kernel
theorem dX12_init_473 : decode cX12_init 473 = .ok (.dup, 1) := by decide +kernel
theorem dX12_init_474 : decode cX12_init 474 = .ok (.bipush 64, 2) := by decide +kernel
theorem dX12_init_476 : decode cX12_init 476 = .ok (.bipush 117, 2) := by decide +kernel
theorem dX12_init_478 : decode cX12_init 478 = .ok (.iastore, 1) := by decide +kernel
theorem dX12_init_479 : decode cX12_init 479 = .ok (.dup, 1) := by decide +kernel
theorem dX12_init_480 : decode cX12_init 480 = .ok (.bipush 65, 2) := by decide +kernel
theorem dX12_init_482 : decode cX12_init 482 = .ok (.bipush 114, 2) := by decide +kernel
theorem dX12_init_484 : decode cX12_init 484 = .ok (.iastore, 1) := by decide +kernel
theorem dX12_init_485 : decode cX12_init 485 = .ok (.dup, 1) := by decide +kernel
theorem dX12_init_486 : decode cX12_init 486 = .ok (.bipush 66, 2) := by decide +kernel
theorem dX12_init_488 : decode cX12_init 488 = .ok (.bipush 115, 2) := by decide +kernel
theorem dX12_init_490 : decode cX12_init 490 = .ok (.iastore, 1) := by decide +kernel
theorem dX12_init_491 : decode cX12_init 491 = .ok (.dup, 1) := by decide +kernel
theorem dX12_init_492 : decode cX12_init 492 = .ok (.bipush 67, 2) := by decide +kernel
theorem dX12_init_494 : decode cX12_init 494 = .ok (.bipush 101, 2) := by decide +kernel
theorem dX12_init_496 : decode cX12_init 496 = .ok (.iastore, 1) := by decide +kernel
theorem dX12_init_497 : decode cX12_init 497 = .ok (.dup, 1) := by decide +kernel
theorem dX12_init_498 : decode cX12_init 498 = .ok (.bipush 68, 2) := by decide +kernel
theorem dX12_init_500 : decode cX12_init 500 = .ok (.bipush 32, 2) := by decide +kernel
theorem dX12_init_502 : decode cX12_init 502 = .ok (.iastore, 1) := by decide +kernel
theorem dX12_init_503 : decode cX12_init 503 = .ok (.dup, 1) := by decide +kernel
theorem dX12_init_504 : decode cX12_init 504 = .ok (.bipush 69, 2) := by decide +kernel
theorem dX12_init_506 : decode cX12_init 506 = .ok (.bipush 112, 2) := by decide +kernel
theorem dX12_init_508 : decode cX12_init 508 = .ok (.iastore, 1) := by decide +kernel
theorem dX12_init_509 : decode cX12_init 509 = .ok (.dup, 1) := by decide +kernel
theorem dX12_init_510 : decode cX12_init 510 = .ok (.bipush 70, 2) := by decide +kernel
theorem dX12_init_512 : decode cX12_init 512 = .ok (.bipush 114, 2) := by decide +kernel
theorem dX12_init_514 : decode cX12_init 514 = .ok (.iastore, 1) := by decide +kernel
theorem dX12_init_515 : decode cX12_init 515 = .ok (.dup, 1) := by decide +kernel
theorem dX12_init_516 : decode cX12_init 516 = .ok (.bipush 71, 2) := by decide +kernel
theorem dX12_init_518 : decode cX12_init 518 = .ok (.bipush 105, 2) := by decide +kernel
theorem dX12_init_520 : decode cX12_init 520 = .ok (.iastore, 1) := by decide +kernel
theorem dX12_init_521 : decode cX12_init 521 = .ok (.dup, 1) := by decide +kernel
theorem dX12_init_522 : decode cX12_init 522 = .ok (.bipush 72, 2) := by decide +kernel
theorem dX12_init_524 : decode cX12_init 524 = .ok (.bipush 99, 2) := by decide +kernel
theorem dX12_init_526 : decode cX12_init 526 = .ok (.iastore, 1) := by decide +kernel
theorem dX12_init_527 : decode cX12_init 527 = .ok (.dup, 1) := by decide +kernel
theorem dX12_init_528 : decode cX12_init 528 = .ok (.bipush 73, 2) := by decide +kernel
theorem dX12_init_530 : decode cX12_init 530 = .ok (.bipush 101, 2) := by decide +kernel
theorem dX12_init_532 : decode cX12_init 532 = .ok (.iastore, 1) := by decide +kernel
theorem dX12_init_533 : decode cX12_init 533 = .ok (.dup, 1) := by decide +kernel
theorem dX12_init_534 : decode cX12_init 534 = .ok (.bipush 74, 2) := by decide +kernel
theorem dX12_init_536 : decode cX12_init 536 = .ok (.bipush 32, 2) := by decide +kernel
theorem dX12_init_538 : decode cX12_init 538 = .ok (.iastore, 1) := by decide +kernel
theorem dX12_init_539 : decode cX12_init 539 = .ok (.dup, 1) := by decide +kernel
theorem dX12_init_540 : decode cX12_init 540 = .ok (.bipush 75, 2) := by decide +kernel
theorem dX12_init_542 : decode cX12_init 542 = .ok (.bipush 114, 2) := by decide +kernel
theorem dX12_init_544 : decode cX12_init 544 = .ok (.iastore, 1) := by decide +kernel
theorem dX12_init_545 : decode cX12_init 545 = .ok (.dup, 1) := by decide +kernel
theorem dX12_init_546 : decode cX12_init 546 = .ok (.bipush 76, 2) := by decide +kernel
theorem dX12_init_548 : decode cX12_init 548 = .ok (.bipush 111, 2) := by decide +kernel
theorem dX12_init_550 : decode cX12_init 550 = .ok (.iastore, 1) := by decide +kernel
theorem dX12_init_551 : decode cX12_init 551 = .ok (.dup, 1) := by decide +kernel
theorem dX12_init_552 : decode cX12_init 552 = .ok (.bipush 77, 2) := by decide +kernel
theorem dX12_init_554 : decode cX12_init 554 = .ok (.bipush 117, 2) := by decide +kernel
theorem dX12_init_556 : decode cX12_init 556 = .ok (.iastore, 1) := by decide +kernel
theorem dX12_init_557 : decode cX12_init 557 = .ok (.dup, 1) := by decide +kernel
theorem dX12_init_558 : decode cX12_init 558 = .ok (.bipush 78, 2) := by decide +kernel
theorem dX12_init_560 : decode cX12_init 560 = .ok (.bipush 110, 2) := by decide +kernel
theorem dX12_init_562 : decode cX12_init 562 = .ok (.iastore, 1) := by decide +kernel
theorem dX12_init_563 : decode cX12_init 563 = .ok (.dup, 1) := by decide +kernel
theorem dX12_init_564 : decode cX12_init 564 = .ok (.bipush 79, 2) := by decide +kernel
theorem dX12_init_566 : decode cX12_init 566 = .ok (.bipush 100, 2) := by decide +kernel
theorem dX12_init_568 : decode cX12_init 568 = .ok (.iastore, 1) := by decide +kernel
theorem dX12_init_569 : decode cX12_init 569 = .ok (.dup, 1) := by decide +kernel
theorem dX12_init_570 : decode cX12_init 570 = .ok (.bipush 80, 2) := by decide +kernel
theorem dX12_init_572 : decode cX12_init 572 = .ok (.bipush 32, 2) := by decide +kernel
theorem dX12_init_574 : decode cX12_init 574 = .ok (.iastore, 1) := by decide +kernel
theorem dX12_init_575 : decode cX12_init 575 = .ok (.dup, 1) := by decide +kernel
theorem dX12_init_576 : decode cX12_init 576 = .ok (.bipush 81, 2) := by decide +kernel
theorem dX12_init_578 : decode cX12_init 578 = .ok (.bipush 99, 2) := by decide +kernel
theorem dX12_init_580 : decode cX12_init 580 = .ok (.iastore, 1) := by decide +kernel
theorem dX12_init_581 : decode cX12_init 581 = .ok (.dup, 1) := by decide +kernel
theorem dX12_init_582 : decode cX12_init 582 = .ok (.bipush 82, 2) := by decide +kernel
theorem dX12_init_584 : decode cX12_init 584 = .ok (.bipush 114, 2) := by decide +kernel
theorem dX12_init_586 : decode cX12_init 586 = .ok (.iastore, 1) := by decide +kernel
theorem dX12_init_587 : decode cX12_init 587 = .ok (.dup, 1) := by decide +kernel
theorem dX12_init_588 : decode cX12_init 588 = .ok (.bipush 83, 2) := by decide +kernel
theorem dX12_init_590 : decode cX12_init 590 = .ok (.bipush 111, 2) := by decide +kernel
theorem dX12_init_592 : decode cX12_init 592 = .ok (.iastore, 1) := by decide +kernel
theorem dX12_init_593 : decode cX12_init 593 = .ok (.dup, 1) := by decide +kernel
theorem dX12_init_594 : decode cX12_init 594 = .ok (.bipush 84, 2) := by decide +kernel
theorem dX12_init_596 : decode cX12_init 596 = .ok (.bipush 119, 2) := by decide +kernel
theorem dX12_init_598 : decode cX12_init 598 = .ok (.iastore, 1) := by decide +kernel
theorem dX12_init_599 : decode cX12_init 599 = .ok (.dup, 1) := by decide +kernel
theorem dX12_init_600 : decode cX12_init 600 = .ok (.bipush 85, 2) := by decide +kernel
theorem dX12_init_602 : decode cX12_init 602 = .ok (.bipush 100, 2) := by decide +kernel
theorem dX12_init_604 : decode cX12_init 604 = .ok (.iastore, 1) := by decide +kernel
theorem dX12_init_605 : decode cX12_init 605 = .ok (.dup, 1) := by decide +kernel
theorem dX12_init_606 : decode cX12_init 606 = .ok (.bipush 86, 2) := by decide +kernel
theorem dX12_init_608 : decode cX12_init 608 = .ok (.bipush 32, 2) := by decide +kernel
theorem dX12_init_610 : decode cX12_init 610 = .ok (.iastore, 1) := by decide +kernel
theorem dX12_init_611 : decode cX12_init 611 = .ok (.dup, 1) := by decide +kernel
theorem dX12_init_612 : decode cX12_init 612 = .ok (.bipush 87, 2) := by decide +kernel
theorem dX12_init_614 : decode cX12_init 614 = .ok (.bipush 119, 2) := by decide +kernel
theorem dX12_init_616 : decode cX12_init 616 = .ok (.iastore, 1) := by decide +kernel
theorem dX12_init_617 : decode cX12_init 617 = .ok (.dup, 1) := by decide +kernel
theorem dX12_init_618 : decode cX12_init 618 = .ok (.bipush 88, 2) := by decide +kernel
theorem dX12_init_620 : decode cX12_init 620 = .ok (.bipush 101, 2) := by decide +kernel
theorem dX12_init_622 : decode cX12_init 622 = .ok (.iastore, 1) := by decide +kernel
theorem dX12_init_623 : decode cX12_init 623 = .ok (.dup, 1) := by decide +kernel
theorem dX12_init_624 : decode cX12_init 624 = .ok (.bipush 89, 2) := by decide +kernel
theorem dX12_init_626 : decode cX12_init 626 = .ok (.bipush 116, 2) := by decide +kernel
theorem dX12_init_628 : decode cX12_init 628 = .ok (.iastore, 1) := by decide +kernel
theorem dX12_init_629 : decode cX12_init 629 = .ok (.dup, 1) := by decide +kernel
theorem dX12_init_630 : decode cX12_init 630 = .ok (.bipush 90, 2) := by decide +kernel
theorem dX12_init_632 : decode cX12_init 632 = .ok (.bipush 32, 2) := by decide +kernel
theorem dX12_init_634 : decode cX12_init 634 = .ok (.iastore, 1) := by decide +kernel
theorem dX12_init_635 : decode cX12_init 635 = .ok (.dup, 1) := by decide +kernel
theorem dX12_init_636 : decode cX12_init 636 = .ok (.bipush 91, 2) := by decide +kernel
theorem dX12_init_638 : decode cX12_init 638 = .ok (.bipush 104, 2) := by decide +kernel
theorem dX12_init_640 : decode cX12_init 640 = .ok (.iastore, 1) := by decide +kernel
theorem dX12_init_641 : decode cX12_init 641 = .ok (.dup, 1) := by decide +kernel
theorem dX12_init_642 : decode cX12_init 642 = .ok (.bipush 92, 2) := by decide +kernel
theorem dX12_init_644 : decode cX12_init 644 = .ok (.bipush 97, 2) := by decide +kernel
theorem dX12_init_646 : decode cX12_init 646 = .ok (.iastore, 1) := by decide +kernel
theorem dX12_init_647 : decode cX12_init 647 = .ok (.dup, 1) := by decide +kernel
theorem dX12_init_648 : decode cX12_init 648 = .ok (.bipush 93, 2) := by decide +kernel
theorem dX12_init_650 : decode cX12_init 650 = .ok (.bipush 115, 2) := by decide +kernel
theorem dX12_init_652 : decode cX12_init 652 = .ok (.iastore, 1) := by decide +kernel
theorem dX12_init_653 : decode cX12_init 653 = .ok (.dup, 1) := by decide +kernel
theorem dX12_init_654 : decode cX12_init 654 = .ok (.bipush 94, 2) := by decide +kernel
theorem dX12_init_656 : decode cX12_init 656 = .ok (.bipush 32, 2) := by decide +kernel
theorem dX12_init_658 : decode cX12_init 658 = .ok (.iastore, 1) := by decide +kernel
theorem dX12_init_659 : decode cX12_init 659 = .ok (.dup, 1) := by decide +kernel
theorem dX12_init_660 : decode cX12_init 660 = .ok (.bipush 95, 2) := by decide +kernel
theorem dX12_init_662 : decode cX12_init 662 = .ok (.bipush 100, 2) := by decide +kernel
theorem dX12_init_664 : decode cX12_init 664 = .ok (.iastore, 1) := by decide +kernel
theorem dX12_init_665 : decode cX12_init 665 = .ok (.dup, 1) := by decide +kernel
theorem dX12_init_666 : decode cX12_init 666 = .ok (.bipush 96, 2) := by decide +kernel
theorem dX12_init_668 : decode cX12_init 668 = .ok (.bipush 97, 2) := by decide +kernel
theorem dX12_init_670 : decode cX12_init 670 = .ok (.iastore, 1) := by decide +kernel
theorem dX12_init_671 : decode cX12_init 671 = .ok (.dup, 1) := by decide +kernel
theorem dX12_init_672 : decode cX12_init 672 = .ok (.bipush 97, 2) := by decide +kernel
theorem dX12_init_674 : decode cX12_init 674 = .ok (.bipush 121, 2) := by decide +kernel
theorem dX12_init_676 : decode cX12_init 676 = .ok (.iastore, 1) := by decide +kernel
theorem dX12_init_677 : decode cX12_init 677 = .ok (.dup, 1) := by decide +kernel
theorem dX12_init_678 : decode cX12_init 678 = .ok (.bipush 98, 2) := by decide +kernel
theorem dX12_init_680 : decode cX12_init 680 = .ok (.bipush 32, 2) := by decide +kernel
theorem dX12_init_682 : decode cX12_init 682 = .ok (.iastore, 1) := by decide +kernel
theorem dX12_init_683 : decode cX12_init 683 = .ok (.dup, 1) := by decide +kernel
theorem dX12_init_684 : decode cX12_init 684 = .ok (.bipush 99, 2) := by decide +kernel
theorem dX12_init_686 : decode cX12_init 686 = .ok (.bipush 98, 2) := by decide +kernel
theorem dX12_init_688 : decode cX12_init 688 = .ok (.iastore, 1) := by decide +kernel
theorem dX12_init_689 : decode cX12_init 689 = .ok (.dup, 1) := by decide +kernel
theorem dX12_init_690 : decode cX12_init 690 = .ok (.bipush 100, 2) := by decide +kernel
theorem dX12_init_692 : decode cX12_init 692 = .ok (.bipush 105, 2) := by decide +kernel
theorem dX12_init_694 : decode cX12_init 694 = .ok (.iastore, 1) := by decide +kernel
theorem dX12_init_695 : decode cX12_init 695 = .ok (.dup, 1) := by decide +kernel
theorem dX12_init_696 : decode cX12_init 696 = .ok (.bipush 101, 2) := by decide +kernel
theorem dX12_init_698 : decode cX12_init 698 = .ok (.bipush 100, 2) := by decide +kernel
theorem dX12_init_700 : decode cX12_init 700 = .ok (.iastore, 1) := by decide +kernel
theorem dX12_init_701 : decode cX12_init 701 = .ok (.dup, 1) := by decide +kernel
theorem dX12_init_702 : decode cX12_init 702 = .ok (.bipush 102, 2) := by decide +kernel
theorem dX12_init_704 : decode cX12_init 704 = .ok (.bipush 100, 2) := by decide +kernel
theorem dX12_init_706 : decode cX12_init 706 = .ok (.iastore, 1) := by decide +kernel
theorem dX12_init_707 : decode cX12_init 707 = .ok (.dup, 1) := by decide +kernel
theorem dX12_init_708 : decode cX12_init 708 = .ok (.bipush 103, 2) := by decide +kernel
theorem dX12_init_710 : decode cX12_init 710 = .ok (.bipush 101, 2) := by decide +kernel
theorem dX12_init_712 : decode cX12_init 712 = .ok (.iastore, 1) := by decide +kernel
theorem dX12_init_713 : decode cX12_init 713 = .ok (.dup, 1) := by decide +kernel
theorem dX12_init_714 : decode cX12_init 714 = .ok (.bipush 104, 2) := by decide +kernel
theorem dX12_init_716 : decode cX12_init 716 = .ok (.bipush 114, 2) := by decide +kernel
theorem dX12_init_718 : decode cX12_init 718 = .ok (.iastore, 1) := by decide +kernel
theorem dX12_init_719 : decode cX12_init 719 = .ok (.dup, 1) := by decide +kernel
theorem dX12_init_720 : decode cX12_init 720 = .ok (.bipush 105, 2) := by decide +kernel
theorem dX12_init_722 : decode cX12_init 722 = .ok (.bipush 32, 2) := by decide +kernel
theorem dX12_init_724 : decode cX12_init 724 = .ok (.iastore, 1) := by decide +kernel
theorem dX12_init_725 : decode cX12_init 725 = .ok (.dup, 1) := by decide +kernel
theorem dX12_init_726 : decode cX12_init 726 = .ok (.bipush 106, 2) := by decide +kernel
theorem dX12_init_728 : decode cX12_init 728 = .ok (.bipush 102, 2) := by decide +kernel
theorem dX12_init_730 : decode cX12_init 730 = .ok (.iastore, 1) := by decide +kernel
theorem dX12_init_731 : decode cX12_init 731 = .ok (.dup, 1) := by decide +kernel
theorem dX12_init_732 : decode cX12_init 732 = .ok (.bipush 107, 2) := by decide +kernel
theorem dX12_init_734 : decode cX12_init 734 = .ok (.bipush 111, 2) := by decide +kernel
theorem dX12_init_736 : decode cX12_init 736 = .ok (.iastore, 1) := by decide +kernel
theorem dX12_init_737 : decode cX12_init 737 = .ok (.dup, 1) := by decide +kernel
theorem dX12_init_738 : decode cX12_init 738 = .ok (.bipush 108, 2) := by decide +kernel
theorem dX12_init_740 : decode cX12_init 740 = .ok (.bipush 108, 2) := by decide +kernel
theorem dX12_init_742 : decode cX12_init 742 = .ok (.iastore, 1) := by decide +kernel
theorem dX12_init_743 : decode cX12_init 743 = .ok (.dup, 1) := by decide +kernel
theorem dX12_init_744 : decode cX12_init 744 = .ok (.bipush 109, 2) := by decide +kernel
theorem dX12_init_746 : decode cX12_init 746 = .ok (.bipush 108, 2) := by decide +kernel
theorem dX12_init_748 : decode cX12_init 748 = .ok (.iastore, 1) := by decide +kernel
theorem dX12_init_749 : decode cX12_init 749 = .ok (.dup, 1) := by decide +kernel
theorem dX12_init_750 : decode cX12_init 750 = .ok (.bipush 110, 2) := by decide +kernel
theorem dX12_init_752 : decode cX12_init 752 = .ok (.bipush 111, 2) := by decide +kernel
theorem dX12_init_754 : decode cX12_init 754 = .ok (.iastore, 1) := by decide +kernel
theorem dX12_init_755 : decode cX12_init 755 = .ok (.dup, 1) := by decide +kernel
theorem dX12_init_756 : decode cX12_init 756 = .ok (.bipush 111, 2) := by decide +kernel
theorem dX12_init_758 : decode cX12_init 758 = .ok (.bipush 119, 2) := by decide +kernel
theorem dX12_init_760 : decode cX12_init 760 = .ok (.iastore, 1) := by decide +kernel
theorem dX12_init_761 : decode cX12_init 761 = .ok (.dup, 1) := by decide +kernel
theorem dX12_init_762 : decode cX12_init 762 = .ok (.bipush 112, 2) := by decide +kernel
theorem dX12_init_764 : decode cX12_init 764 = .ok (.bipush 115, 2) := by decide +kernel
theorem dX12_init_766 : decode cX12_init 766 = .ok (.iastore, 1) := by decide +kernel
theorem dX12_init_767 : decode cX12_init 767 = .ok (.dup, 1) := by decide +kernel
theorem dX12_init_768 : decode cX12_init 768 = .ok (.bipush 113, 2) := by decide +kernel
theorem dX12_init_770 : decode cX12_init 770 = .ok (.bipush 32, 2) := by decide +kernel
theorem dX12_init_772 : decode cX12_init 772 = .ok (.iastore, 1) := by decide +kernel
theorem dX12_init_773 : decode cX12_init 773 = .ok (.dup, 1) := by decide +kernel
theorem dX12_init_774 : decode cX12_init 774 = .ok (.bipush 114, 2) := by decide +kernel
theorem dX12_init_776 : decode cX12_init 776 = .ok (.bipush 111, 2) := by decide +kernel
theorem dX12_init_778 : decode cX12_init 778 = .ok (.iastore, 1) := by decide +kernel
theorem dX12_init_779 : decode cX12_init 779 = .ok (.dup, 1) := by decide +kernel
theorem dX12_init_780 : decode cX12_init 780 = .ok (.bipush 115, 2) := by decide +kernel
theorem dX12_init_782 : decode cX12_init 782 = .ok (.bipush 110, 2) := by decide +kernel
theorem dX12_init_784 : decode cX12_init 784 = .ok (.iastore, 1) := by decide +kernel
theorem dX12_init_785 : decode cX12_init 785 = .ok (.dup, 1) := by decide +kernel
theorem dX12_init_786 : decode cX12_init 786 = .ok (.bipush 116, 2) := by decide +kernel
theorem dX12_init_788 : decode cX12_init 788 = .ok (.bipush 32, 2) := by decide +kernel
theorem dX12_init_790 : decode cX12_init 790 = .ok (.iastore, 1) := by decide +kernel
theorem dX12_init_791 : decode cX12_init 791 = .ok (.dup, 1) := by decide +kernel
theorem dX12_init_792 : decode cX12_init 792 = .ok (.bipush 117, 2) := by decide +kernel
theorem dX12_init_794 : decode cX12_init 794 = .ok (.bipush 115, 2) := by decide +kernel
theorem dX12_init_796 : decode cX12_init 796 = .ok (.iastore, 1) := by decide +kernel
theorem dX12_init_797 : decode cX12_init 797 = .ok (.dup, 1) := by decide +kernel
theorem dX12_init_798 : decode cX12_init 798 = .ok (.bipush 118, 2) := by decide +kernel
theorem dX12_init_800 : decode cX12_init 800 = .ok (.bipush 101, 2) := by decide +kernel
theorem dX12_init_802 : decode cX12_init 802 = .ok (.iastore, 1) := by decide +kernel
theorem dX12_init_803 : decode cX12_init 803 = .ok (.dup, 1) := by decide +kernel
theorem dX12_init_804 : decode cX12_init 804 = .ok (.bipush 119, 2) := by decide +kernel
theorem dX12_init_806 : decode cX12_init 806 = .ok (.bipush 108, 2) := by decide +kernel
theorem dX12_init_808 : decode cX12_init 808 = .ok (.iastore, 1) := by decide +kernel
theorem dX12_init_809 : decode cX12_init 809 = .ok (.dup, 1) := by decide +kernel
theorem dX12_init_810 : decode cX12_init 810 = .ok (.bipush 120, 2) := by decide +kernel
theorem dX12_init_812 : decode cX12_init 812 = .ok (.bipush 108, 2) := by decide +kernel
theorem dX12_init_814 : decode cX12_init 814 = .ok (.iastore, 1) := by decide +kernel
theorem dX12_init_815 : decode cX12_init 815 = .ok (.dup, 1) := by decide +kernel
theorem dX12_init_816 : decode cX12_init 816 = .ok (.bipush 121, 2) := by decide +kernel
theorem dX12_init_818 : decode cX12_init 818 = .ok (.bipush 32, 2) := by decide +kernel
theorem dX12_init_820 : decode cX12_init 820 = .ok (.iastore, 1) := by decide +kernel
theorem dX12_init_821 : decode cX12_init 821 = .ok (.dup, 1) := by decide +kernel
theorem dX12_init_822 : decode cX12_init 822 = .ok (.bipush 122, 2) := by decide +kernel
theorem dX12_init_824 : decode cX12_init 824 = .ok (.bipush 112, 2) := by decide +kernel
theorem dX12_init_826 : decode cX12_init 826 = .ok (.iastore, 1) := by decide +kernel
theorem dX12_init_827 : decode cX12_init 827 = .ok (.dup, 1) := by decide +kernel
theorem dX12_init_828 : decode cX12_init 828 = .ok (.bipush 123, 2) := by decide +kernel
theorem dX12_init_830 : decode cX12_init 830 = .ok (.bipush 111, 2) := by decide +kernel
theorem dX12_init_832 : decode cX12_init 832 = .ok (.iastore, 1) := by decide +kernel
theorem dX12_init_833 : decode cX12_init 833 = .ok (.dup, 1) := by decide +kernel
theorem dX12_init_834 : decode cX12_init 834 = .ok (.bipush 124, 2) := by decide +kernel
theorem dX12_init_836 : decode cX12_init 836 = .ok (.bipush 108, 2) := by decide +kernel
theorem dX12_init_838 : decode cX12_init 838 = .ok (.iastore, 1) := by decide +kernel
theorem dX12_init_839 : decode cX12_init 839 = .ok (.dup, 1) := by decide +kernel
theorem dX12_init_840 : decode cX12_init 840 = .ok (.bipush 125, 2) := by decide +kernel
theorem dX12_init_842 : decode cX12_init 842 = .ok (.bipush 105, 2) := by decide +kernel
theorem dX12_init_844 : decode cX12_init 844 = .ok (.iastore, 1) := by decide +kernel
theorem dX12_init_845 : decode cX12_init 845 = .ok (.dup, 1) := by decide +kernel
theorem dX12_init_846 : decode cX12_init 846 = .ok (.bipush 126, 2) := by decide +kernel
theorem dX12_init_848 : decode cX12_init 848 = .ok (.bipush 99, 2) := by decide +kernel
theorem dX12_init_850 : decode cX12_init 850 = .ok (.iastore, 1) := by decide +kernel
theorem dX12_init_851 : decode cX12_init 851 = .ok (.dup, 1) := by decide +kernel
theorem dX12_init_852 : decode cX12_init 852 = .ok (.bipush 127, 2) := by decide +kernel
theorem dX12_init_854 : decode cX12_init 854 = .ok (.bipush 101, 2) := by decide +kernel
theorem dX12_init_856 : decode cX12_init 856 = .ok (.iastore, 1) := by decide +kernel
theorem dX12_init_857 : decode cX12_init 857 = .ok (.dup, 1) := by decide +kernel
theorem dX12_init_858 : decode cX12_init 858 = .ok (.sipush 128, 3) := by decide +kernel
theorem dX12_init_861 : decode cX12_init 861 = .ok (.bipush 32, 2) := by decide +kernel
theorem dX12_init_863 : decode cX12_init 863 = .ok (.iastore, 1) := by decide +kernel
theorem dX12_init_864 : decode cX12_init 864 = .ok (.dup, 1) := by decide +kernel
theorem dX12_init_865 : decode cX12_init 865 = .ok (.sipush 129, 3) := by decide +kernel
theorem dX12_init_868 : decode cX12_init 868 = .ok (.bipush 98, 2) := by decide +kernel
theorem dX12_init_870 : decode cX12_init 870 = .ok (.iastore, 1) := by decide +kernel
theorem dX12_init_871 : decode cX12_init 871 = .ok (.dup, 1) := by decide +kernel
theorem dX12_init_872 : decode cX12_init 872 = .ok (.sipush 130, 3) := by decide +kernel
theorem dX12_init_875 : decode cX12_init 875 = .ok (.bipush 105, 2) := by decide +kernel
theorem dX12_init_877 : decode cX12_init 877 = .ok (.iastore, 1) := by decide +kernel
theorem dX12_init_878 : decode cX12_init 878 = .ok (.dup, 1) := by decide +kernel
theorem dX12_init_879 : decode cX12_init 879 = .ok (.sipush 131, 3) := by decide +kernel
theorem dX12_init_882 : decode cX12_init 882 = .ok (.bipush 108, 2) := by decide +kernel
theorem dX12_init_884 : decode cX12_init 884 = .ok (.iastore, 1) := by decide +kernel
theorem dX12_init_885 : decode cX12_init 885 = .ok (.dup, 1) := by decide +kernel
theorem dX12_init_886 : decode cX12_init 886 = .ok (.sipush 132, 3) := by decide +kernel
theorem dX12_init_889 : decode cX12_init 889 = .ok (.bipush 108, 2) := by decide +kernel
theorem dX12_init_891 : decode cX12_init 891 = .ok (.iastore, 1) := by decide +kernel
theorem dX12_init_892 : decode cX12_init 892 = .ok (.dup, 1) := by decide +kernel
theorem dX12_init_893 : decode cX12_init 893 = .ok (.sipush 133, 3) := by decide +kernel
theorem dX12_init_896 : decode cX12_init 896 = .ok (.bipush 32, 2) := by decide +kernel
theorem dX12_init_898 : decode cX12_init 898 = .ok (.iastore, 1) := by decide +kernel
theorem dX12_init_899 : decode cX12_init 899 = .ok (.dup, 1) := by decide +kernel
theorem dX12_init_900 : decode cX12_init 900 = .ok (.sipush 134, 3) := by decide +kernel
theorem dX12_init_903 : decode cX12_init 903 = .ok (.bipush 112, 2) := by decide +kernel
theorem dX12_init_905 : decode cX12_init 905 = .ok (.iastore, 1) := by decide +kernel
theorem dX12_init_906 : decode cX12_init 906 = .ok (.dup, 1) := by decide +kernel
theorem dX12_init_907 : decode cX12_init 907 = .ok (.sipush 135, 3) := by decide +kernel
theorem dX12_init_910 : decode cX12_init 910 = .ok (.bipush 97, 2) := by decide +kernel
theorem dX12_init_912 : decode cX12_init 912 = .ok (.iastore, 1) := by decide +kernel
theorem dX12_init_913 : decode cX12_init 913 = .ok (.dup, 1) := by decide +kernel
theorem dX12_init_914 : decode cX12_init 914 = .ok (.sipush 136, 3) := by decide +kernel
theorem dX12_init_917 : decode cX12_init 917 = .ok (.bipush 121, 2) := by decide +kernel
theorem dX12_init_919 : decode cX12_init 919 = .ok (.iastore, 1) := by decide +kernel
theorem dX12_init_920 : decode cX12_init 920 = .ok (.dup, 1) := by decide +kernel
theorem dX12_init_921 : decode cX12_init 921 = .ok (.sipush 137, 3) := by decide +kernel
theorem dX12_init_924 : decode cX12_init 924 = .ok (.bipush 32, 2) := by decide +kernel
theorem dX12_init_926 : decode cX12_init 926 = .ok (.iastore, 1) := by decide +kernel
theorem dX12_init_927 : decode cX12_init 927 = .ok (.dup, 1) := by decide +kernel
theorem dX12_init_928 : decode cX12_init 928 = .ok (.sipush 138, 3) := by decide +kernel
theorem dX12_init_931 : decode cX12_init 931 = .ok (.bipush 119, 2) := by decide +kernel
theorem dX12_init_933 : decode cX12_init 933 = .ok (.iastore, 1) := by decide +kernel
theorem dX12_init_934 : decode cX12_init 934 = .ok (.dup, 1) := by decide +kernel
theorem dX12_init_935 : decode cX12_init 935 = .ok (.sipush 139, 3) := by decide +kernel
theorem dX12_init_938 : decode cX12_init 938 = .ok (.bipush 97, 2) := by decide +kernel
theorem dX12_init_940 : decode cX12_init 940 = .ok (.iastore, 1) := by decide +kernel
theorem dX12_init_941 : decode cX12_init 941 = .ok (.dup, 1) := by decide +kernel
theorem dX12_init_942 : decode cX12_init 942 = .ok (.sipush 140, 3) := by decide +kernel
theorem dX12_init_945 : decode cX12_init 945 = .ok (.bipush 110, 2) := by decide +kernel
theorem dX12_init_947 : decode cX12_init 947 = .ok (.iastore, 1) := by decide +kernel
theorem dX12_init_948 : decode cX12_init 948 = .ok (.dup, 1) := by decide +kernel
theorem dX12_init_949 : decode cX12_init 949 = .ok (.sipush 141, 3) := by decide +kernel
theorem dX12_init_952 : decode cX12_init 952 = .ok (.bipush 116, 2) := by decide +kernel
theorem dX12_init_954 : decode cX12_init 954 = .ok (.iastore, 1) := by decide +kernel
theorem dX12_init_955 : decode cX12_init 955 = .ok (.dup, 1) := by decide +kernel
theorem dX12_init_956 : decode cX12_init 956 = .ok (.sipush 142, 3) := by decide +kernel
theorem dX12_init_959 : decode cX12_init 959 = .ok (.bipush 115, 2) := by decide +kernel
theorem dX12_init_961 : decode cX12_init 961 = .ok (.iastore, 1) := by decide +kernel
theorem dX12_init_962 : decode cX12_init 962 = .ok (.dup, 1) := by decide +kernel
theorem dX12_init_963 : decode cX12_init 963 = .ok (.sipush 143, 3) := by decide +kernel
theorem dX12_init_966 : decode cX12_init 966 = .ok (.bipush 32, 2) := by decide +kernel
theorem dX12_init_968 : decode cX12_init 968 = .ok (.iastore, 1) := by decide +kernel
theorem dX12_init_969 : decode cX12_init 969 = .ok (.dup, 1) := by decide +kernel
theorem dX12_init_970 : decode cX12_init 970 = .ok (.sipush 144, 3) := by decide +kernel
theorem dX12_init_973 : decode cX12_init 973 = .ok (.bipush 102, 2) := by decide +kernel
theorem dX12_init_975 : decode cX12_init 975 = .ok (.iastore, 1) := by decide +kernel
theorem dX12_init_976 : decode cX12_init 976 = .ok (.dup, 1) := by decide +kernel
theorem dX12_init_977 : decode cX12_init 977 = .ok (.sipush 145, 3) := by decide +kernel
theorem dX12_init_980 : decode cX12_init 980 = .ok (.bipush 111, 2) := by decide +kernel
theorem dX12_init_982 : decode cX12_init 982 = .ok (.iastore, 1) := by decide +kernel
theorem dX12_init_983 : decode cX12_init 983 = .ok (.dup, 1) := by decide +kernel
theorem dX12_init_984 : decode cX12_init 984 = .ok (.sipush 146, 3) := by decide +kernel
theorem dX12_init_987 : decode cX12_init 987 = .ok (.bipush 114, 2) := by decide +kernel
theorem dX12_init_989 : decode cX12_init 989 = .ok (.iastore, 1) := by decide +kernel
theorem dX12_init_990 : decode cX12_init 990 = .ok (.dup, 1) := by decide +kernel
theorem dX12_init_991 : decode cX12_init 991 = .ok (.sipush 147, 3) := by decide +kernel
theorem dX12_init_994 : decode cX12_init 994 = .ok (.bipush 32, 2) := by decide +kernel
theorem dX12_init_996 : decode cX12_init 996 = .ok (.iastore, 1) := by decide +kernel
theorem dX12_init_997 : decode cX12_init 997 = .ok (.putfield 40, 3) := by decide +kernel
theorem dX12_init_1000 : decode cX12_init 1000 = .ok (.aload_n 0, 1) := by decide +kernel
theorem dX12_init_1001 : decode cX12_init 1001 = .ok (.iconst 2, 1) := by decide +kernel
theorem dX12_init_1002 : decode cX12_init 1002 = .ok (.newarray .int, 2) := by decide +kernel
theorem dX12_init_1004 : decode cX12_init 1004 = .ok (.putfield 43, 3) := by decide +kernel
theorem dX12_init_1007 : decode cX12_init 1007 = .ok (.aload_n 0, 1) := by decide +kernel
theorem dX12_init_1008 : decode cX12_init 1008 = .ok (.bipush 48, 2) := by decide +kernel
theorem dX12_init_1010 : decode cX12_init 1010 = .ok (.newarray .int, 2) := by decide +kernel
theorem dX12_init_1012 : decode cX12_init 1012 = .ok (.putfield 46, 3) := by decide +kernel
theorem dX12_init_1015 : decode cX12_init 1015 = .ok (.aload_n 0, 1) := by decide +kernel
theorem dX12_init_1016 : decode cX12_init 1016 = .ok (.bipush 48, 2) := by decide +kernel
theorem dX12_init_1018 : decode cX12_init 1018 = .ok (.newarray .int, 2) := by decide +kernel
theorem dX12_init_1020 : decode cX12_init 1020 = .ok (.putfield 49, 3) := by decide +kernel
theorem dX12_init_1023 : decode cX12_init 1023 = .ok (.aload_n 0, 1) := by decide +kernel
theorem dX12_init_1024 : decode cX12_init 1024 = .ok (.bipush 48, 2) := by decide +kernel
theorem dX12_init_1026 : decode cX12_init 1026 = .ok (.newarray .int, 2) := by decide +kernel
theorem dX12_init_1028 : decode cX12_init 1028 = .ok (.putfield 52, 3) := by decide +kernel
theorem dX12_init_1031 : decode cX12_init 1031 = .ok (.aload_n 0, 1) := by decide +kernel
theorem dX12_init_1032 : decode cX12_init 1032 = .ok (.bipush 48, 2) := by decide +kernel
theorem dX12_init_1034 : decode cX12_init 1034 = .ok (.newarray .int, 2) := by decide +kernel
theorem dX12_init_1036 : decode cX12_init 1036 = .ok (.putfield 55, 3) := by decide +kernel
theorem dX12_init_1039 : decode cX12_init 1039 = .ok (.aload_n 0, 1) := by decide +kernel
theorem dX12_init_1040 : decode cX12_init 1040 = .ok (.sipush 1200, 3) := by decide +kernel
theorem dX12_init_1043 : decode cX12_init 1043 = .ok (.newarray .int, 2) := by decide +kernel
theorem dX12_init_1045 : decode cX12_init 1045 = .ok (.putfield 58, 3) := by decide +kernel
theorem dX12_init_1048 : decode cX12_init 1048 = .ok (.aload_n 0, 1) := by decide +kernel
theorem dX12_init_1049 : decode cX12_init 1049 = .ok (.sipush 1200, 3) := by decide +kernel
theorem dX12_init_1052 : decode cX12_init 1052 = .ok (.newarray .int, 2) := by decide +kernel
theorem dX12_init_1054 : decode cX12_init 1054 = .ok (.putfield 61, 3) := by decide +kernel
theorem dX12_init_1057 : decode cX12_init 1057 = .ok (.aload_n 0, 1) := by decide +kernel
theorem dX12_init_1058 : decode cX12_init 1058 = .ok (.bipush 40, 2) := by decide +kernel
theorem dX12_init_1060 : decode cX12_init 1060 = .ok (.newarray .int, 2) := by decide +kernel
theorem dX12_init_1062 : decode cX12_init 1062 = .ok (.putfield 64, 3) := by decide +kernel
theorem dX12_init_1065 : decode cX12_init 1065 = .ok (.aload_n 0, 1) := by decide +kernel
theorem dX12_init_1066 : decode cX12_init 1066 = .ok (.iconst (-1), 1) := by decide +kernel
theorem dX12_init_1067 : decode cX12_init 1067 = .ok (.putfield 67, 3) := by decide +kernel
theorem dX12_init_1070 : decode cX12_init 1070 = .ok (.aload_n 0, 1) := by decide +kernel
theorem dX12_init_1071 : decode cX12_init 1071 = .ok (.bipush 16, 2) := by decide +kernel
theorem dX12_init_1073 : decode cX12_init 1073 = .ok (.newarray .int, 2) := by decide +kernel
theorem dX12_init_1075 : decode cX12_init 1075 = .ok (.putfield 71, 3) := by decide +kernel
theorem dX12_init_1078 : decode cX12_init 1078 = .ok (.aload_n 0, 1) := by decide +kernel
theorem dX12_init_1079 : decode cX12_init 1079 = .ok (.sipush 128, 3) := by decide +kernel
theorem dX12_init_1082 : decode cX12_init 1082 = .ok (.newarray .int, 2) := by decide +kernel
theorem dX12_init_1084 : decode cX12_init 1084 = .ok (.putfield 74, 3) := by decide +kernel
theorem dX12_init_1087 : decode cX12_init 1087 = .ok (.aload_n 0, 1) := by decide +kernel
theorem dX12_init_1088 : decode cX12_init 1088 = .ok (.sipush 128, 3) := by decide +kernel
theorem dX12_init_1091 : decode cX12_init 1091 = .ok (.newarray .int, 2) := by decide +kernel
theorem dX12_init_1093 : decode cX12_init 1093 = .ok (.putfield 77, 3) := by decide +kernel
theorem dX12_init_1096 : decode cX12_init 1096 = .ok (.aload_n 0, 1) := by decide +kernel
theorem dX12_init_1097 : decode cX12_init 1097 = .ok (.bipush 12, 2) := by decide +kernel
theorem dX12_init_1099 : decode cX12_init 1099 = .ok (.newarray .int, 2) := by decide +kernel
theorem dX12_init_1101 : decode cX12_init 1101 = .ok (.putfield 80, 3) := by decide +kernel
theorem dX12_init_1104 : decode cX12_init 1104 = .ok (.aload_n 0, 1) := by decide +kernel
theorem dX12_init_1105 : decode cX12_init 1105 = .ok (.sipush 420, 3) := by decide +kernel
theorem dX12_init_1108 : decode cX12_init 1108 = .ok (.newarray .int, 2) := by decide +kernel
theorem dX12_init_1110 : decode cX12_init 1110 = .ok (.putfield 83, 3) := by decide +kernel
theorem dX12_init_1113 : decode cX12_init 1113 = .ok (.aload_n 0, 1) := by decide +kernel
theorem dX12_init_1114 : decode cX12_init 1114 = .ok (.bipush 8, 2) := by decide +kernel
theorem dX12_init_1116 : decode cX12_init 1116 = .ok (.newarray .int, 2) := by decide +kernel
theorem dX12_init_1118 : decode cX12_init 1118 = .ok (.putfield 86, 3) := by decide +kernel
theorem dX12_init_1121 : decode cX12_init 1121 = .ok (.aload_n 0, 1) := by decide +kernel
theorem dX12_init_1122 : decode cX12_init 1122 = .ok (.sipush 1000, 3) := by decide +kernel
theorem dX12_init_1125 : decode cX12_init 1125 = .ok (.newarray .int, 2) := by decide +kernel
theorem dX12_init_1127 : decode cX12_init 1127 = .ok (.putfield 89, 3) := by decide +kernel
theorem dX12_init_1130 : decode cX12_init 1130 = .ok (.aload_n 0, 1) := by decide +kernel
theorem dX12_init_1131 : decode cX12_init 1131 = .ok (.sipush 1000, 3) := by decide +kernel
theorem dX12_init_1134 : decode cX12_init 1134 = .ok (.newarray .int, 2) := by decide +kernel
theorem dX12_init_1136 : decode cX12_init 1136 = .ok (.putfield 92, 3) := by decide +kernel
theorem dX12_init_1139 : decode cX12_init 1139 = .ok (.aload_n 0, 1) := by decide +kernel
theorem dX12_init_1140 : decode cX12_init 1140 = .ok (.bipush 6, 2) := by decide +kernel
theorem dX12_init_1142 : decode cX12_init 1142 = .ok (.newarray .int, 2) := by decide +kernel
theorem dX12_init_1144 : decode cX12_init 1144 = .ok (.putfield 95, 3) := by decide +kernel
theorem dX12_init_1147 : decode cX12_init 1147 = .ok (.aload_n 0, 1) := by decide +kernel
theorem dX12_init_1148 : decode cX12_init 1148 = .ok (.bipush 9, 2) := by decide +kernel
theorem dX12_init_1150 : decode cX12_init 1150 = .ok (.newarray .int, 2) := by decide +kernel
theorem dX12_init_1152 : decode cX12_init 1152 = .ok (.putfield 98, 3) := by decide +kernel
theorem dX12_init_1155 : decode cX12_init 1155 = .ok (.aload_n 0, 1) := by decide +kernel
theorem dX12_init_1156 : decode cX12_init 1156 = .ok (.sipush 512, 3) := by decide +kernel
theorem dX12_init_1159 : decode cX12_init 1159 = .ok (.newarray .int, 2) := by decide +kernel
theorem dX12_init_1161 : decode cX12_init 1161 = .ok (.putfield 101, 3) := by decide +kernel
theorem dX12_init_1164 : decode cX12_init 1164 = .ok (.aload_n 0, 1) := by decide +kernel
theorem dX12_init_1165 : decode cX12_init 1165 = .ok (.bipush 64, 2) := by decide +kernel
theorem dX12_init_1167 : decode cX12_init 1167 = .ok (.newarray .int, 2) := by decide +kernel
theorem dX12_init_1169 : decode cX12_init 1169 = .ok (.putfield 104, 3) := by decide +kernel
theorem dX12_init_1172 : decode cX12_init 1172 = .ok (.aload_n 0, 1) := by decide +kernel
theorem dX12_init_1173 : decode cX12_init 1173 = .ok (.bipush 8, 2) := by decide +kernel
theorem dX12_init_1175 : decode cX12_init 1175 = .ok (.newarray .int, 2) := by decide +kernel
theorem dX12_init_1177 : decode cX12_init 1177 = .ok (.putfield 107, 3) := by decide +kernel
theorem dX12_init_1180 : decode cX12_init 1180 = .ok (.aload_n 0, 1) := by decide +kernel
theorem dX12_init_1181 : decode cX12_init 1181 = .ok (.sipush 1152, 3) := by decide +kernel
theorem dX12_init_1184 : decode cX12_init 1184 = .ok (.newarray .int, 2) := by decide +kernel
theorem dX12_init_1186 : decode cX12_init 1186 = .ok (.putfield 110, 3) := by decide +kernel
theorem dX12_init_1189 : decode cX12_init 1189 = .ok (.aload_n 0, 1) := by decide +kernel
theorem dX12_init_1190 : decode cX12_init 1190 = .ok (.bipush 7, 2) := by decide +kernel
theorem dX12_init_1192 : decode cX12_init 1192 = .ok (.newarray .int, 2) := by decide +kernel
theorem dX12_init_1194 : decode cX12_init 1194 = .ok (.putfield 113, 3) := by decide +kernel
theorem dX12_init_1197 : decode cX12_init 1197 = .ok (.aload_n 0, 1) := by decide +kernel
theorem dX12_init_1198 : decode cX12_init 1198 = .ok (.bipush 7, 2) := by decide +kernel
theorem dX12_init_1200 : decode cX12_init 1200 = .ok (.newarray .int, 2) := by decide +kernel
theorem dX12_init_1202 : decode cX12_init 1202 = .ok (.putfield 116, 3) := by decide +kernel
theorem dX12_init_1205 : decode cX12_init 1205 = .ok (.aload_n 0, 1) := by decide +kernel
theorem dX12_init_1206 : decode cX12_init 1206 = .ok (.bipush 8, 2) := by decide +kernel
theorem dX12_init_1208 : decode cX12_init 1208 = .ok (.newarray .int, 2) := by decide +kernel
theorem dX12_init_1210 : decode cX12_init 1210 = .ok (.putfield 119, 3) := by decide +kernel
theorem dX12_init_1213 : decode cX12_init 1213 = .ok (.aload_n 0, 1) := by decide +kernel
theorem dX12_init_1214 : decode cX12_init 1214 = .ok (.bipush 8, 2) := by decide +kernel
theorem dX12_init_1216 : decode cX12_init 1216 = .ok (.newarray .int, 2) := by decide +kernel
theorem dX12_init_1218 : decode cX12_init 1218 = .ok (.putfield 122, 3) := by decide +kernel
theorem dX12_init_1221 : decode cX12_init 1221 = .ok (.aload_n 0, 1) := by decide +kernel
theorem dX12_init_1222 : decode cX12_init 1222 = .ok (.bipush 20, 2) := by decide +kernel
theorem dX12_init_1224 : decode cX12_init 1224 = .ok (.newarray .int, 2) := by decide +kernel
theorem dX12_init_1226 : decode cX12_init 1226 = .ok (.putfield 125, 3) := by decide +kernel
theorem dX12_init_1229 : decode cX12_init 1229 = .ok (.aload_n 0, 1) := by decide +kernel
theorem dX12_init_1230 : decode cX12_init 1230 = .ok (.bipush 10, 2) := by decide +kernel
theorem dX12_init_1232 : decode cX12_init 1232 = .ok (.newarray .int, 2) := by decide +kernel
theorem dX12_init_1234 : decode cX12_init 1234 = .ok (.putfield 128, 3) := by decide +kernel
theorem dX12_init_1237 : decode cX12_init 1237 = .ok (.aload_n 0, 1) := by decide +kernel
theorem dX12_init_1238 : decode cX12_init 1238 = .ok (.sipush 2300, 3) := by decide +kernel
theorem dX12_init_1241 : decode cX12_init 1241 = .ok (.newarray .int, 2) := by decide +kernel
theorem dX12_init_1243 : decode cX12_init 1243 = .ok (.putfield 131, 3) := by decide +kernel
theorem dX12_init_1246 : decode cX12_init 1246 = .ok (.return_, 1) := by decide +kernel
def CM_Model (n : Nat) (M : Mm) : Mm := (m_up (m_up (m_up (m_up (m_up (m_up (m_up (m_up (m_up (m_up (m_up (m_up (m_up (m_up (m_up (m_up (m_up (m_up (m_up (m_up (m_up (m_up (m_up (m_up (m_up (m_up (m_up (m_up (m_up (m_up (m_up (m_up (m_up (m_up (m_up (m_up (m_up (m_up (m_up (m_up (m_up (m_up (m_up (m_up (m_up (m_up (m_up (m_up (m_up (m_up (m_up (m_up (m_up (m_up (m_up (m_up (m_up (m_up (m_up (m_up (m_up (m_up (m_up (m_up (m_up (m_up (m_up (m_up (m_up (m_up (m_up (m_up (m_up (m_up (m_up (m_up (m_up (m_up (m_up (m_up (m_up (m_up (m_up (m_up (m_up (m_up (m_up (m_up (m_up (m_up (m_up (m_up (m_up (m_up (m_up (m_up (m_up (m_up (m_up (m_up (m_up (m_up (m_up (m_up (m_up (m_up (m_up (m_up (m_up (m_up (m_up (m_up (m_up (m_up (m_up (m_up (m_up (m_up (m_up (m_up (m_up (m_up (m_up (m_up (m_up (m_up (m_up (m_up (m_up (m_up (m_up (m_up (m_up (m_up (m_up (m_up (m_up (m_up (m_up (m_up (m_up (m_up (m_up (m_up (m_up (m_up (m_up (m_up (m_up M (n + 11) 0 (32 : Int32)) (n + 11) 1 (98 : Int32)) (n + 11) 2 (105 : Int32)) (n + 11) 3 (100 : Int32)) (n + 11) 4 (115 : Int32)) (n + 11) 5 (32 : Int32)) (n + 11) 6 (115 : Int32)) (n + 11) 7 (116 : Int32)) (n + 11) 8 (101 : Int32)) (n + 11) 9 (112 : Int32)) (n + 11) 10 (32 : Int32)) (n + 11) 11 (102 : Int32)) (n + 11) 12 (117 : Int32)) (n + 11) 13 (108 : Int32)) (n + 11) 14 (108 : Int32)) (n + 11) 15 (32 : Int32)) (n + 11) 16 (119 : Int32)) (n + 11) 17 (104 : Int32)) (n + 11) 18 (101 : Int32)) (n + 11) 19 (110 : Int32)) (n + 11) 20 (32 : Int32)) (n + 11) 21 (111 : Int32)) (n + 11) 22 (114 : Int32)) (n + 11) 23 (32 : Int32)) (n + 11) 24 (97 : Int32)) (n + 11) 25 (110 : Int32)) (n + 11) 26 (100 : Int32)) (n + 11) 27 (32 : Int32)) (n + 11) 28 (110 : Int32)) (n + 11) 29 (111 : Int32)) (n + 11) 30 (116 : Int32)) (n + 11) 31 (32 : Int32)) (n + 11) 32 (119 : Int32)) (n + 11) 33 (101 : Int32)) (n + 11) 34 (105 : Int32)) (n + 11) 35 (103 : Int32)) (n + 11) 36 (104 : Int32)) (n + 11) 37 (116 : Int32)) (n + 11) 38 (32 : Int32)) (n + 11) 39 (114 : Int32)) (n + 11) 40 (97 : Int32)) (n + 11) 41 (116 : Int32)) (n + 11) 42 (116 : Int32)) (n + 11) 43 (108 : Int32)) (n + 11) 44 (101 : Int32)) (n + 11) 45 (32 : Int32)) (n + 11) 46 (107 : Int32)) (n + 11) 47 (110 : Int32)) (n + 11) 48 (111 : Int32)) (n + 11) 49 (116 : Int32)) (n + 11) 50 (115 : Int32)) (n + 11) 51 (32 : Int32)) (n + 11) 52 (99 : Int32)) (n + 11) 53 (97 : Int32)) (n + 11) 54 (114 : Int32)) (n + 11) 55 (101 : Int32)) (n + 11) 56 (32 : Int32)) (n + 11) 57 (115 : Int32)) (n + 11) 58 (104 : Int32)) (n + 11) 59 (105 : Int32)) (n + 11) 60 (108 : Int32)) (n + 11) 61 (108 : Int32)) (n + 11) 62 (32 : Int32)) (n + 11) 63 (112 : Int32)) (n + 11) 64 (117 : Int32)) (n + 11) 65 (114 : Int32)) (n + 11) 66 (115 : Int32)) (n + 11) 67 (101 : Int32)) (n + 11) 68 (32 : Int32)) (n + 11) 69 (112 : Int32)) (n + 11) 70 (114 : Int32)) (n + 11) 71 (105 : Int32)) (n + 11) 72 (99 : Int32)) (n + 11) 73 (101 : Int32)) (n + 11) 74 (32 : Int32)) (n + 11) 75 (114 : Int32)) (n + 11) 76 (111 : Int32)) (n + 11) 77 (117 : Int32)) (n + 11) 78 (110 : Int32)) (n + 11) 79 (100 : Int32)) (n + 11) 80 (32 : Int32)) (n + 11) 81 (99 : Int32)) (n + 11) 82 (114 : Int32)) (n + 11) 83 (111 : Int32)) (n + 11) 84 (119 : Int32)) (n + 11) 85 (100 : Int32)) (n + 11) 86 (32 : Int32)) (n + 11) 87 (119 : Int32)) (n + 11) 88 (101 : Int32)) (n + 11) 89 (116 : Int32)) (n + 11) 90 (32 : Int32)) (n + 11) 91 (104 : Int32)) (n + 11) 92 (97 : Int32)) (n + 11) 93 (115 : Int32)) (n + 11) 94 (32 : Int32)) (n + 11) 95 (100 : Int32)) (n + 11) 96 (97 : Int32)) (n + 11) 97 (121 : Int32)) (n + 11) 98 (32 : Int32)) (n + 11) 99 (98 : Int32)) (n + 11) 100 (105 : Int32)) (n + 11) 101 (100 : Int32)) (n + 11) 102 (100 : Int32)) (n + 11) 103 (101 : Int32)) (n + 11) 104 (114 : Int32)) (n + 11) 105 (32 : Int32)) (n + 11) 106 (102 : Int32)) (n + 11) 107 (111 : Int32)) (n + 11) 108 (108 : Int32)) (n + 11) 109 (108 : Int32)) (n + 11) 110 (111 : Int32)) (n + 11) 111 (119 : Int32)) (n + 11) 112 (115 : Int32)) (n + 11) 113 (32 : Int32)) (n + 11) 114 (111 : Int32)) (n + 11) 115 (110 : Int32)) (n + 11) 116 (32 : Int32)) (n + 11) 117 (115 : Int32)) (n + 11) 118 (101 : Int32)) (n + 11) 119 (108 : Int32)) (n + 11) 120 (108 : Int32)) (n + 11) 121 (32 : Int32)) (n + 11) 122 (112 : Int32)) (n + 11) 123 (111 : Int32)) (n + 11) 124 (108 : Int32)) (n + 11) 125 (105 : Int32)) (n + 11) 126 (99 : Int32)) (n + 11) 127 (101 : Int32)) (n + 11) 128 (32 : Int32)) (n + 11) 129 (98 : Int32)) (n + 11) 130 (105 : Int32)) (n + 11) 131 (108 : Int32)) (n + 11) 132 (108 : Int32)) (n + 11) 133 (32 : Int32)) (n + 11) 134 (112 : Int32)) (n + 11) 135 (97 : Int32)) (n + 11) 136 (121 : Int32)) (n + 11) 137 (32 : Int32)) (n + 11) 138 (119 : Int32)) (n + 11) 139 (97 : Int32)) (n + 11) 140 (110 : Int32)) (n + 11) 141 (116 : Int32)) (n + 11) 142 (115 : Int32)) (n + 11) 143 (32 : Int32)) (n + 11) 144 (102 : Int32)) (n + 11) 145 (111 : Int32)) (n + 11) 146 (114 : Int32)) (n + 11) 147 (32 : Int32)) (n + 0) 36 (-1 : Int32))
set_option maxRecDepth 100000 in
theorem cz_Model (n : Nat) (M : Mm) (a : Nat) (h : n + 41 ≤ a) : CM_Model n M a = M a := by
  unfold CM_Model
  rw [m_up_ne (by omega), m_up_ne (by omega), m_up_ne (by omega), m_up_ne (by omega), m_up_ne (by omega), m_up_ne (by omega), m_up_ne (by omega), m_up_ne (by omega), m_up_ne (by omega), m_up_ne (by omega), m_up_ne (by omega), m_up_ne (by omega), m_up_ne (by omega), m_up_ne (by omega), m_up_ne (by omega), m_up_ne (by omega), m_up_ne (by omega), m_up_ne (by omega), m_up_ne (by omega), m_up_ne (by omega), m_up_ne (by omega), m_up_ne (by omega), m_up_ne (by omega), m_up_ne (by omega), m_up_ne (by omega), m_up_ne (by omega), m_up_ne (by omega), m_up_ne (by omega), m_up_ne (by omega), m_up_ne (by omega), m_up_ne (by omega), m_up_ne (by omega), m_up_ne (by omega), m_up_ne (by omega), m_up_ne (by omega), m_up_ne (by omega), m_up_ne (by omega), m_up_ne (by omega), m_up_ne (by omega), m_up_ne (by omega), m_up_ne (by omega), m_up_ne (by omega), m_up_ne (by omega), m_up_ne (by omega), m_up_ne (by omega), m_up_ne (by omega), m_up_ne (by omega), m_up_ne (by omega), m_up_ne (by omega), m_up_ne (by omega), m_up_ne (by omega), m_up_ne (by omega), m_up_ne (by omega), m_up_ne (by omega), m_up_ne (by omega), m_up_ne (by omega), m_up_ne (by omega), m_up_ne (by omega), m_up_ne (by omega), m_up_ne (by omega), m_up_ne (by omega), m_up_ne (by omega), m_up_ne (by omega), m_up_ne (by omega), m_up_ne (by omega), m_up_ne (by omega), m_up_ne (by omega), m_up_ne (by omega), m_up_ne (by omega), m_up_ne (by omega), m_up_ne (by omega), m_up_ne (by omega), m_up_ne (by omega), m_up_ne (by omega), m_up_ne (by omega), m_up_ne (by omega), m_up_ne (by omega), m_up_ne (by omega), m_up_ne (by omega), m_up_ne (by omega), m_up_ne (by omega), m_up_ne (by omega), m_up_ne (by omega), m_up_ne (by omega), m_up_ne (by omega), m_up_ne (by omega), m_up_ne (by omega), m_up_ne (by omega), m_up_ne (by omega), m_up_ne (by omega), m_up_ne (by omega), m_up_ne (by omega), m_up_ne (by omega), m_up_ne (by omega), m_up_ne (by omega), m_up_ne (by omega), m_up_ne (by omega), m_up_ne (by omega), m_up_ne (by omega), m_up_ne (by omega), m_up_ne (by omega), m_up_ne (by omega), m_up_ne (by omega), m_up_ne (by omega), m_up_ne (by omega), m_up_ne (by omega), m_up_ne (by omega), m_up_ne (by omega), m_up_ne (by omega), m_up_ne (by omega), m_up_ne (by omega), m_up_ne (by omega), m_up_ne (by omega), m_up_ne (by omega), m_up_ne (by omega), m_up_ne (by omega), m_up_ne (by omega), m_up_ne (by omega), m_up_ne (by omega), m_up_ne (by omega), m_up_ne (by omega), m_up_ne (by omega), m_up_ne (by omega), m_up_ne (by omega), m_up_ne (by omega), m_up_ne (by omega), m_up_ne (by omega), m_up_ne (by omega), m_up_ne (by omega), m_up_ne (by omega), m_up_ne (by omega), m_up_ne (by omega), m_up_ne (by omega), m_up_ne (by omega), m_up_ne (by omega), m_up_ne (by omega), m_up_ne (by omega), m_up_ne (by omega), m_up_ne (by omega), m_up_ne (by omega), m_up_ne (by omega), m_up_ne (by omega), m_up_ne (by omega), m_up_ne (by omega), m_up_ne (by omega), m_up_ne (by omega), m_up_ne (by omega), m_up_ne (by omega), m_up_ne (by omega)]
set_option maxHeartbeats 4000000 in
set_option maxRecDepth 100000 in
theorem ci_Model (l : Launch) (G : fx_G) {S0 : List fx_S} {n : Nat} {M : Mm} (hn : S0.length = n) (h0 : ∀ a, n ≤ a → M a = fun _ => 0) : Met l yX12_init (fx_ws yX12_init cX12_init 1 none) (cx_rm 1 40 11749) (va_Pc [.ref (G.2.2.2 + (n + 0))] (cx_P G (S0 ++ [.inr (.inr (12, [0, 1, 1, 0, 1, 0, 0, 0, 1, 1, 1, 1, 1, 1, 1, 0, 0, 0, 0, 0, 1, 1, 1, 1, 1, 1, 1, 1, 0, 0, 0, 1, 0, 0, 0, 0, 0, 0, 1, 0, 1, 0, 1, 1, 1, 0, 0, 0, 1, 1, 1, 0, 1, 0, 1, 1, 1, 1, 1, 0, 1, 1, 0, 1, 1, 0, 1, 1, 0, 0, 0, 1]))]) M)) (va_Qv (fun u => u = (S0 ++ [.inr (.inr (12, [0, n + 1 + 2, n + 2 + 2, 0, n + 3 + 2, 0, 0, 0, n + 4 + 2, n + 5 + 2, n + 6 + 2, n + 7 + 2, n + 8 + 2, n + 9 + 2, n + 10 + 2, 0, 0, 0, 0, 0, n + 11 + 2, n + 12 + 2, n + 13 + 2, n + 14 + 2, n + 15 + 2, n + 16 + 2, n + 17 + 2, n + 18 + 2, 0, 0, 0, n + 19 + 2, 0, 0, 0, 0, 0, 0, n + 20 + 2, 0, n + 21 + 2, 0, n + 22 + 2, n + 23 + 2, n + 24 + 2, 0, 0, 0, n + 25 + 2, n + 26 + 2, n + 27 + 2, 0, n + 28 + 2, 0, n + 29 + 2, n + 30 + 2, n + 31 + 2, n + 32 + 2, n + 33 + 2, 0, n + 34 + 2, n + 35 + 2, 0, n + 36 + 2, n + 37 + 2, 0, n + 38 + 2, n + 39 + 2, 0, 0, 0, n + 40 + 2])), .inl 135, .inl 810, .inl 135, .inl 16, .inl 16, .inl 16, .inl 8, .inl 8, .inl 600, .inl 400, .inl 148, .inl 2, .inl 48, .inl 48, .inl 48, .inl 48, .inl 1200, .inl 1200, .inl 40, .inl 16, .inl 128, .inl 128, .inl 12, .inl 420, .inl 8, .inl 1000, .inl 1000, .inl 6, .inl 9, .inl 512, .inl 64, .inl 8, .inl 1152, .inl 7, .inl 7, .inl 8, .inl 8, .inl 20, .inl 10, .inl 2300], CM_Model n M)) (cx_R G) (fx_A G)) 40 11749 (fx_A G) := by
  refine cy_met (own := RX12) (by decide +kernel) rfl rfl (Nat.le_of_ble_eq_true rfl) (fun p e s m below meth c X hr hk hin hO h hsz ls hl => ?_)
  obtain ⟨⟨hx, hb, hml, hown, hts⟩, hK, hQ⟩ := id X
  have hsz : s.heap.size = G.2.2.2 + (n + 1) := by rw [hsz, List.length_append, hn]; rfl
  have hz : G.2.2.2 ≤ s.heap.size := by omega
  have h0 : ∀ a, n + 1 ≤ a → M a = fun _ => 0 := fun a ha => h0 a (by omega)
  have hl : lv_has ls 1 [(0, .ref (G.2.2.2 + (n + 0)))] := hl
  refine lv_aload_n hx hb dX12_init_0 rfl (lv_at hl 0 rfl) ?_
  refine W.objInit hx hb hown (hts _ (fx_s6 (List.mem_of_getElem? (i := 87) rfl) rfl)) (hts _ (fx_s1 (List.mem_of_getElem? (i := 27) rfl) rfl)) (hts _ ob_c) rfl (by rw [hml]; exact hl.1) rfl dX12_init_1 (Nat.le_of_ble_eq_true rfl) (Nat.le_of_ble_eq_true rfl) ?_
  refine W.eq (g2 := F0 m 4 ls []) rfl ?_
  refine lv_aload_n hx hb dX12_init_4 rfl (lv_at hl 0 rfl) ?_
  refine lv_sipush (v := 135) hx hb dX12_init_5 (by decide) ?_
  refine cy_newa (i0 := 1) (N := 135) hn rfl X h hz (by omega) (h0 _ (by omega)) ak_int (by decide) (by decide) (by decide) (Nat.le_of_ble_eq_true rfl) (Nat.le_of_ble_eq_true rfl) dX12_init_8 (fun H h => ?_)
  have h : fx_H G (S0 ++ [.inr (.inr (12, [0, 1, 1, 0, 1, 0, 0, 0, 1, 1, 1, 1, 1, 1, 1, 0, 0, 0, 0, 0, 1, 1, 1, 1, 1, 1, 1, 1, 0, 0, 0, 1, 0, 0, 0, 0, 0, 0, 1, 0, 1, 0, 1, 1, 1, 0, 0, 0, 1, 1, 1, 0, 1, 0, 1, 1, 1, 1, 1, 0, 1, 1, 0, 1, 1, 0, 1, 1, 0, 0, 0, 1])), .inl 135]) M s H _ := h
  refine W.widen (k := 1) (n := 135) (by omega) (by omega) ?_
  refine cx_putR (k := n + 0) (j := 1) (r := n + 1) (ty := .array .int) X hin h ((ap_at hn 0).trans rfl) fl_RX12_7 (Nat.le_of_ble_eq_true rfl) (fun C T N q => by cases q; rfl) (by decide +kernel) rfl rfl dX12_init_10 (fun H locs h => ?_)
  rw [ap_set hn 0] at h
  have h : fx_H G (S0 ++ [.inr (.inr (12, [0, n + 1 + 2, 1, 0, 1, 0, 0, 0, 1, 1, 1, 1, 1, 1, 1, 0, 0, 0, 0, 0, 1, 1, 1, 1, 1, 1, 1, 1, 0, 0, 0, 1, 0, 0, 0, 0, 0, 0, 1, 0, 1, 0, 1, 1, 1, 0, 0, 0, 1, 1, 1, 0, 1, 0, 1, 1, 1, 1, 1, 0, 1, 1, 0, 1, 1, 0, 1, 1, 0, 0, 0, 1])), .inl 135]) M s H locs := h
  refine lv_aload_n hx hb dX12_init_13 rfl (lv_at hl 0 rfl) ?_
  refine lv_sipush (v := 810) hx hb dX12_init_14 (by decide) ?_
  refine cy_newa (i0 := 2) (N := 810) hn rfl X h hz (by omega) (h0 _ (by omega)) ak_int (by decide) (by decide) (by decide) (Nat.le_of_ble_eq_true rfl) (Nat.le_of_ble_eq_true rfl) dX12_init_17 (fun H h => ?_)
  have h : fx_H G (S0 ++ [.inr (.inr (12, [0, n + 1 + 2, 1, 0, 1, 0, 0, 0, 1, 1, 1, 1, 1, 1, 1, 0, 0, 0, 0, 0, 1, 1, 1, 1, 1, 1, 1, 1, 0, 0, 0, 1, 0, 0, 0, 0, 0, 0, 1, 0, 1, 0, 1, 1, 1, 0, 0, 0, 1, 1, 1, 0, 1, 0, 1, 1, 1, 1, 1, 0, 1, 1, 0, 1, 1, 0, 1, 1, 0, 0, 0, 1])), .inl 135, .inl 810]) M s H _ := h
  refine W.widen (k := 2) (n := 945) (by omega) (by omega) ?_
  refine cx_putR (k := n + 0) (j := 2) (r := n + 2) (ty := .array .int) X hin h ((ap_at hn 0).trans rfl) fl_RX12_13 (Nat.le_of_ble_eq_true rfl) (fun C T N q => by cases q; rfl) (by decide +kernel) rfl rfl dX12_init_19 (fun H locs h => ?_)
  rw [ap_set hn 0] at h
  have h : fx_H G (S0 ++ [.inr (.inr (12, [0, n + 1 + 2, n + 2 + 2, 0, 1, 0, 0, 0, 1, 1, 1, 1, 1, 1, 1, 0, 0, 0, 0, 0, 1, 1, 1, 1, 1, 1, 1, 1, 0, 0, 0, 1, 0, 0, 0, 0, 0, 0, 1, 0, 1, 0, 1, 1, 1, 0, 0, 0, 1, 1, 1, 0, 1, 0, 1, 1, 1, 1, 1, 0, 1, 1, 0, 1, 1, 0, 1, 1, 0, 0, 0, 1])), .inl 135, .inl 810]) M s H locs := h
  refine lv_aload_n hx hb dX12_init_22 rfl (lv_at hl 0 rfl) ?_
  refine lv_sipush (v := 135) hx hb dX12_init_23 (by decide) ?_
  refine cy_newa (i0 := 3) (N := 135) hn rfl X h hz (by omega) (h0 _ (by omega)) ak_int (by decide) (by decide) (by decide) (Nat.le_of_ble_eq_true rfl) (Nat.le_of_ble_eq_true rfl) dX12_init_26 (fun H h => ?_)
  have h : fx_H G (S0 ++ [.inr (.inr (12, [0, n + 1 + 2, n + 2 + 2, 0, 1, 0, 0, 0, 1, 1, 1, 1, 1, 1, 1, 0, 0, 0, 0, 0, 1, 1, 1, 1, 1, 1, 1, 1, 0, 0, 0, 1, 0, 0, 0, 0, 0, 0, 1, 0, 1, 0, 1, 1, 1, 0, 0, 0, 1, 1, 1, 0, 1, 0, 1, 1, 1, 1, 1, 0, 1, 1, 0, 1, 1, 0, 1, 1, 0, 0, 0, 1])), .inl 135, .inl 810, .inl 135]) M s H _ := h
  refine W.widen (k := 3) (n := 1080) (by omega) (by omega) ?_
  refine cx_putR (k := n + 0) (j := 4) (r := n + 3) (ty := .array .int) X hin h ((ap_at hn 0).trans rfl) fl_RX12_16 (Nat.le_of_ble_eq_true rfl) (fun C T N q => by cases q; rfl) (by decide +kernel) rfl rfl dX12_init_28 (fun H locs h => ?_)
  rw [ap_set hn 0] at h
  have h : fx_H G (S0 ++ [.inr (.inr (12, [0, n + 1 + 2, n + 2 + 2, 0, n + 3 + 2, 0, 0, 0, 1, 1, 1, 1, 1, 1, 1, 0, 0, 0, 0, 0, 1, 1, 1, 1, 1, 1, 1, 1, 0, 0, 0, 1, 0, 0, 0, 0, 0, 0, 1, 0, 1, 0, 1, 1, 1, 0, 0, 0, 1, 1, 1, 0, 1, 0, 1, 1, 1, 1, 1, 0, 1, 1, 0, 1, 1, 0, 1, 1, 0, 0, 0, 1])), .inl 135, .inl 810, .inl 135]) M s H locs := h
  refine lv_aload_n hx hb dX12_init_31 rfl (lv_at hl 0 rfl) ?_
  refine lv_bipush (v := 16) hx hb dX12_init_32 (by decide) ?_
  refine cy_newa (i0 := 4) (N := 16) hn rfl X h hz (by omega) (h0 _ (by omega)) ak_int (by decide) (by decide) (by decide) (Nat.le_of_ble_eq_true rfl) (Nat.le_of_ble_eq_true rfl) dX12_init_34 (fun H h => ?_)
  have h : fx_H G (S0 ++ [.inr (.inr (12, [0, n + 1 + 2, n + 2 + 2, 0, n + 3 + 2, 0, 0, 0, 1, 1, 1, 1, 1, 1, 1, 0, 0, 0, 0, 0, 1, 1, 1, 1, 1, 1, 1, 1, 0, 0, 0, 1, 0, 0, 0, 0, 0, 0, 1, 0, 1, 0, 1, 1, 1, 0, 0, 0, 1, 1, 1, 0, 1, 0, 1, 1, 1, 1, 1, 0, 1, 1, 0, 1, 1, 0, 1, 1, 0, 0, 0, 1])), .inl 135, .inl 810, .inl 135, .inl 16]) M s H _ := h
  refine W.widen (k := 4) (n := 1096) (by omega) (by omega) ?_
  refine cx_putR (k := n + 0) (j := 8) (r := n + 4) (ty := .array .int) X hin h ((ap_at hn 0).trans rfl) fl_RX12_19 (Nat.le_of_ble_eq_true rfl) (fun C T N q => by cases q; rfl) (by decide +kernel) rfl rfl dX12_init_36 (fun H locs h => ?_)
  rw [ap_set hn 0] at h
  have h : fx_H G (S0 ++ [.inr (.inr (12, [0, n + 1 + 2, n + 2 + 2, 0, n + 3 + 2, 0, 0, 0, n + 4 + 2, 1, 1, 1, 1, 1, 1, 0, 0, 0, 0, 0, 1, 1, 1, 1, 1, 1, 1, 1, 0, 0, 0, 1, 0, 0, 0, 0, 0, 0, 1, 0, 1, 0, 1, 1, 1, 0, 0, 0, 1, 1, 1, 0, 1, 0, 1, 1, 1, 1, 1, 0, 1, 1, 0, 1, 1, 0, 1, 1, 0, 0, 0, 1])), .inl 135, .inl 810, .inl 135, .inl 16]) M s H locs := h
  refine lv_aload_n hx hb dX12_init_39 rfl (lv_at hl 0 rfl) ?_
  refine lv_bipush (v := 16) hx hb dX12_init_40 (by decide) ?_
  refine cy_newa (i0 := 5) (N := 16) hn rfl X h hz (by omega) (h0 _ (by omega)) ak_int (by decide) (by decide) (by decide) (Nat.le_of_ble_eq_true rfl) (Nat.le_of_ble_eq_true rfl) dX12_init_42 (fun H h => ?_)
  have h : fx_H G (S0 ++ [.inr (.inr (12, [0, n + 1 + 2, n + 2 + 2, 0, n + 3 + 2, 0, 0, 0, n + 4 + 2, 1, 1, 1, 1, 1, 1, 0, 0, 0, 0, 0, 1, 1, 1, 1, 1, 1, 1, 1, 0, 0, 0, 1, 0, 0, 0, 0, 0, 0, 1, 0, 1, 0, 1, 1, 1, 0, 0, 0, 1, 1, 1, 0, 1, 0, 1, 1, 1, 1, 1, 0, 1, 1, 0, 1, 1, 0, 1, 1, 0, 0, 0, 1])), .inl 135, .inl 810, .inl 135, .inl 16, .inl 16]) M s H _ := h
  refine W.widen (k := 5) (n := 1112) (by omega) (by omega) ?_
  refine cx_putR (k := n + 0) (j := 9) (r := n + 5) (ty := .array .int) X hin h ((ap_at hn 0).trans rfl) fl_RX12_22 (Nat.le_of_ble_eq_true rfl) (fun C T N q => by cases q; rfl) (by decide +kernel) rfl rfl dX12_init_44 (fun H locs h => ?_)
  rw [ap_set hn 0] at h
  have h : fx_H G (S0 ++ [.inr (.inr (12, [0, n + 1 + 2, n + 2 + 2, 0, n + 3 + 2, 0, 0, 0, n + 4 + 2, n + 5 + 2, 1, 1, 1, 1, 1, 0, 0, 0, 0, 0, 1, 1, 1, 1, 1, 1, 1, 1, 0, 0, 0, 1, 0, 0, 0, 0, 0, 0, 1, 0, 1, 0, 1, 1, 1, 0, 0, 0, 1, 1, 1, 0, 1, 0, 1, 1, 1, 1, 1, 0, 1, 1, 0, 1, 1, 0, 1, 1, 0, 0, 0, 1])), .inl 135, .inl 810, .inl 135, .inl 16, .inl 16]) M s H locs := h
  refine lv_aload_n hx hb dX12_init_47 rfl (lv_at hl 0 rfl) ?_
  refine lv_bipush (v := 16) hx hb dX12_init_48 (by decide) ?_
  refine cy_newa (i0 := 6) (N := 16) hn rfl X h hz (by omega) (h0 _ (by omega)) ak_int (by decide) (by decide) (by decide) (Nat.le_of_ble_eq_true rfl) (Nat.le_of_ble_eq_true rfl) dX12_init_50 (fun H h => ?_)
  have h : fx_H G (S0 ++ [.inr (.inr (12, [0, n + 1 + 2, n + 2 + 2, 0, n + 3 + 2, 0, 0, 0, n + 4 + 2, n + 5 + 2, 1, 1, 1, 1, 1, 0, 0, 0, 0, 0, 1, 1, 1, 1, 1, 1, 1, 1, 0, 0, 0, 1, 0, 0, 0, 0, 0, 0, 1, 0, 1, 0, 1, 1, 1, 0, 0, 0, 1, 1, 1, 0, 1, 0, 1, 1, 1, 1, 1, 0, 1, 1, 0, 1, 1, 0, 1, 1, 0, 0, 0, 1])), .inl 135, .inl 810, .inl 135, .inl 16, .inl 16, .inl 16]) M s H _ := h
  refine W.widen (k := 6) (n := 1128) (by omega) (by omega) ?_
  refine cx_putR (k := n + 0) (j := 10) (r := n + 6) (ty := .array .int) X hin h ((ap_at hn 0).trans rfl) fl_RX12_25 (Nat.le_of_ble_eq_true rfl) (fun C T N q => by cases q; rfl) (by decide +kernel) rfl rfl dX12_init_52 (fun H locs h => ?_)
  rw [ap_set hn 0] at h
  have h : fx_H G (S0 ++ [.inr (.inr (12, [0, n + 1 + 2, n + 2 + 2, 0, n + 3 + 2, 0, 0, 0, n + 4 + 2, n + 5 + 2, n + 6 + 2, 1, 1, 1, 1, 0, 0, 0, 0, 0, 1, 1, 1, 1, 1, 1, 1, 1, 0, 0, 0, 1, 0, 0, 0, 0, 0, 0, 1, 0, 1, 0, 1, 1, 1, 0, 0, 0, 1, 1, 1, 0, 1, 0, 1, 1, 1, 1, 1, 0, 1, 1, 0, 1, 1, 0, 1, 1, 0, 0, 0, 1])), .inl 135, .inl 810, .inl 135, .inl 16, .inl 16, .inl 16]) M s H locs := h
  refine lv_aload_n hx hb dX12_init_55 rfl (lv_at hl 0 rfl) ?_
  refine lv_bipush (v := 8) hx hb dX12_init_56 (by decide) ?_
  refine cy_newa (i0 := 7) (N := 8) hn rfl X h hz (by omega) (h0 _ (by omega)) ak_int (by decide) (by decide) (by decide) (Nat.le_of_ble_eq_true rfl) (Nat.le_of_ble_eq_true rfl) dX12_init_58 (fun H h => ?_)
  have h : fx_H G (S0 ++ [.inr (.inr (12, [0, n + 1 + 2, n + 2 + 2, 0, n + 3 + 2, 0, 0, 0, n + 4 + 2, n + 5 + 2, n + 6 + 2, 1, 1, 1, 1, 0, 0, 0, 0, 0, 1, 1, 1, 1, 1, 1, 1, 1, 0, 0, 0, 1, 0, 0, 0, 0, 0, 0, 1, 0, 1, 0, 1, 1, 1, 0, 0, 0, 1, 1, 1, 0, 1, 0, 1, 1, 1, 1, 1, 0, 1, 1, 0, 1, 1, 0, 1, 1, 0, 0, 0, 1])), .inl 135, .inl 810, .inl 135, .inl 16, .inl 16, .inl 16, .inl 8]) M s H _ := h
  refine W.widen (k := 7) (n := 1136) (by omega) (by omega) ?_
  refine cx_putR (k := n + 0) (j := 11) (r := n + 7) (ty := .array .int) X hin h ((ap_at hn 0).trans rfl) fl_RX12_28 (Nat.le_of_ble_eq_true rfl) (fun C T N q => by cases q; rfl) (by decide +kernel) rfl rfl dX12_init_60 (fun H locs h => ?_)
  rw [ap_set hn 0] at h
  have h : fx_H G (S0 ++ [.inr (.inr (12, [0, n + 1 + 2, n + 2 + 2, 0, n + 3 + 2, 0, 0, 0, n + 4 + 2, n + 5 + 2, n + 6 + 2, n + 7 + 2, 1, 1, 1, 0, 0, 0, 0, 0, 1, 1, 1, 1, 1, 1, 1, 1, 0, 0, 0, 1, 0, 0, 0, 0, 0, 0, 1, 0, 1, 0, 1, 1, 1, 0, 0, 0, 1, 1, 1, 0, 1, 0, 1, 1, 1, 1, 1, 0, 1, 1, 0, 1, 1, 0, 1, 1, 0, 0, 0, 1])), .inl 135, .inl 810, .inl 135, .inl 16, .inl 16, .inl 16, .inl 8]) M s H locs := h
  refine lv_aload_n hx hb dX12_init_63 rfl (lv_at hl 0 rfl) ?_
  refine lv_bipush (v := 8) hx hb dX12_init_64 (by decide) ?_
  refine cy_newa (i0 := 8) (N := 8) hn rfl X h hz (by omega) (h0 _ (by omega)) ak_int (by decide) (by decide) (by decide) (Nat.le_of_ble_eq_true rfl) (Nat.le_of_ble_eq_true rfl) dX12_init_66 (fun H h => ?_)
  have h : fx_H G (S0 ++ [.inr (.inr (12, [0, n + 1 + 2, n + 2 + 2, 0, n + 3 + 2, 0, 0, 0, n + 4 + 2, n + 5 + 2, n + 6 + 2, n + 7 + 2, 1, 1, 1, 0, 0, 0, 0, 0, 1, 1, 1, 1, 1, 1, 1, 1, 0, 0, 0, 1, 0, 0, 0, 0, 0, 0, 1, 0, 1, 0, 1, 1, 1, 0, 0, 0, 1, 1, 1, 0, 1, 0, 1, 1, 1, 1, 1, 0, 1, 1, 0, 1, 1, 0, 1, 1, 0, 0, 0, 1])), .inl 135, .inl 810, .inl 135, .inl 16, .inl 16, .inl 16, .inl 8, .inl 8]) M s H _ := h
  refine W.widen (k := 8) (n := 1144) (by omega) (by omega) ?_
  refine cx_putR (k := n + 0) (j := 12) (r := n + 8) (ty := .array .int) X hin h ((ap_at hn 0).trans rfl) fl_RX12_31 (Nat.le_of_ble_eq_true rfl) (fun C T N q => by cases q; rfl) (by decide +kernel) rfl rfl dX12_init_68 (fun H locs h => ?_)
  rw [ap_set hn 0] at h
  have h : fx_H G (S0 ++ [.inr (.inr (12, [0, n + 1 + 2, n + 2 + 2, 0, n + 3 + 2, 0, 0, 0, n + 4 + 2, n + 5 + 2, n + 6 + 2, n + 7 + 2, n + 8 + 2, 1, 1, 0, 0, 0, 0, 0, 1, 1, 1, 1, 1, 1, 1, 1, 0, 0, 0, 1, 0, 0, 0, 0, 0, 0, 1, 0, 1, 0, 1, 1, 1, 0, 0, 0, 1, 1, 1, 0, 1, 0, 1, 1, 1, 1, 1, 0, 1, 1, 0, 1, 1, 0, 1, 1, 0, 0, 0, 1])), .inl 135, .inl 810, .inl 135, .inl 16, .inl 16, .inl 16, .inl 8, .inl 8]) M s H locs := h
  refine lv_aload_n hx hb dX12_init_71 rfl (lv_at hl 0 rfl) ?_
  refine lv_sipush (v := 600) hx hb dX12_init_72 (by decide) ?_
  refine cy_newa (i0 := 9) (N := 600) hn rfl X h hz (by omega) (h0 _ (by omega)) ak_int (by decide) (by decide) (by decide) (Nat.le_of_ble_eq_true rfl) (Nat.le_of_ble_eq_true rfl) dX12_init_75 (fun H h => ?_)
  have h : fx_H G (S0 ++ [.inr (.inr (12, [0, n + 1 + 2, n + 2 + 2, 0, n + 3 + 2, 0, 0, 0, n + 4 + 2, n + 5 + 2, n + 6 + 2, n + 7 + 2, n + 8 + 2, 1, 1, 0, 0, 0, 0, 0, 1, 1, 1, 1, 1, 1, 1, 1, 0, 0, 0, 1, 0, 0, 0, 0, 0, 0, 1, 0, 1, 0, 1, 1, 1, 0, 0, 0, 1, 1, 1, 0, 1, 0, 1, 1, 1, 1, 1, 0, 1, 1, 0, 1, 1, 0, 1, 1, 0, 0, 0, 1])), .inl 135, .inl 810, .inl 135, .inl 16, .inl 16, .inl 16, .inl 8, .inl 8, .inl 600]) M s H _ := h
  refine W.widen (k := 9) (n := 1744) (by omega) (by omega) ?_
  refine cx_putR (k := n + 0) (j := 13) (r := n + 9) (ty := .array .int) X hin h ((ap_at hn 0).trans rfl) fl_RX12_34 (Nat.le_of_ble_eq_true rfl) (fun C T N q => by cases q; rfl) (by decide +kernel) rfl rfl dX12_init_77 (fun H locs h => ?_)
  rw [ap_set hn 0] at h
  have h : fx_H G (S0 ++ [.inr (.inr (12, [0, n + 1 + 2, n + 2 + 2, 0, n + 3 + 2, 0, 0, 0, n + 4 + 2, n + 5 + 2, n + 6 + 2, n + 7 + 2, n + 8 + 2, n + 9 + 2, 1, 0, 0, 0, 0, 0, 1, 1, 1, 1, 1, 1, 1, 1, 0, 0, 0, 1, 0, 0, 0, 0, 0, 0, 1, 0, 1, 0, 1, 1, 1, 0, 0, 0, 1, 1, 1, 0, 1, 0, 1, 1, 1, 1, 1, 0, 1, 1, 0, 1, 1, 0, 1, 1, 0, 0, 0, 1])), .inl 135, .inl 810, .inl 135, .inl 16, .inl 16, .inl 16, .inl 8, .inl 8, .inl 600]) M s H locs := h
  refine lv_aload_n hx hb dX12_init_80 rfl (lv_at hl 0 rfl) ?_
  refine lv_sipush (v := 400) hx hb dX12_init_81 (by decide) ?_
  refine cy_newa (i0 := 10) (N := 400) hn rfl X h hz (by omega) (h0 _ (by omega)) ak_int (by decide) (by decide) (by decide) (Nat.le_of_ble_eq_true rfl) (Nat.le_of_ble_eq_true rfl) dX12_init_84 (fun H h => ?_)
  have h : fx_H G (S0 ++ [.inr (.inr (12, [0, n + 1 + 2, n + 2 + 2, 0, n + 3 + 2, 0, 0, 0, n + 4 + 2, n + 5 + 2, n + 6 + 2, n + 7 + 2, n + 8 + 2, n + 9 + 2, 1, 0, 0, 0, 0, 0, 1, 1, 1, 1, 1, 1, 1, 1, 0, 0, 0, 1, 0, 0, 0, 0, 0, 0, 1, 0, 1, 0, 1, 1, 1, 0, 0, 0, 1, 1, 1, 0, 1, 0, 1, 1, 1, 1, 1, 0, 1, 1, 0, 1, 1, 0, 1, 1, 0, 0, 0, 1])), .inl 135, .inl 810, .inl 135, .inl 16, .inl 16, .inl 16, .inl 8, .inl 8, .inl 600, .inl 400]) M s H _ := h
  refine W.widen (k := 10) (n := 2144) (by omega) (by omega) ?_
  refine cx_putR (k := n + 0) (j := 14) (r := n + 10) (ty := .array .int) X hin h ((ap_at hn 0).trans rfl) fl_RX12_37 (Nat.le_of_ble_eq_true rfl) (fun C T N q => by cases q; rfl) (by decide +kernel) rfl rfl dX12_init_86 (fun H locs h => ?_)
  rw [ap_set hn 0] at h
  have h : fx_H G (S0 ++ [.inr (.inr (12, [0, n + 1 + 2, n + 2 + 2, 0, n + 3 + 2, 0, 0, 0, n + 4 + 2, n + 5 + 2, n + 6 + 2, n + 7 + 2, n + 8 + 2, n + 9 + 2, n + 10 + 2, 0, 0, 0, 0, 0, 1, 1, 1, 1, 1, 1, 1, 1, 0, 0, 0, 1, 0, 0, 0, 0, 0, 0, 1, 0, 1, 0, 1, 1, 1, 0, 0, 0, 1, 1, 1, 0, 1, 0, 1, 1, 1, 1, 1, 0, 1, 1, 0, 1, 1, 0, 1, 1, 0, 0, 0, 1])), .inl 135, .inl 810, .inl 135, .inl 16, .inl 16, .inl 16, .inl 8, .inl 8, .inl 600, .inl 400]) M s H locs := h
  refine lv_aload_n hx hb dX12_init_89 rfl (lv_at hl 0 rfl) ?_
  refine lv_sipush (v := 148) hx hb dX12_init_90 (by decide) ?_
  refine cy_newa (i0 := 11) (N := 148) hn rfl X h hz (by omega) (h0 _ (by omega)) ak_int (by decide) (by decide) (by decide) (Nat.le_of_ble_eq_true rfl) (Nat.le_of_ble_eq_true rfl) dX12_init_93 (fun H h => ?_)
  have h : fx_H G (S0 ++ [.inr (.inr (12, [0, n + 1 + 2, n + 2 + 2, 0, n + 3 + 2, 0, 0, 0, n + 4 + 2, n + 5 + 2, n + 6 + 2, n + 7 + 2, n + 8 + 2, n + 9 + 2, n + 10 + 2, 0, 0, 0, 0, 0, 1, 1, 1, 1, 1, 1, 1, 1, 0, 0, 0, 1, 0, 0, 0, 0, 0, 0, 1, 0, 1, 0, 1, 1, 1, 0, 0, 0, 1, 1, 1, 0, 1, 0, 1, 1, 1, 1, 1, 0, 1, 1, 0, 1, 1, 0, 1, 1, 0, 0, 0, 1])), .inl 135, .inl 810, .inl 135, .inl 16, .inl 16, .inl 16, .inl 8, .inl 8, .inl 600, .inl 400, .inl 148]) M s H _ := h
  refine W.widen (k := 11) (n := 2292) (by omega) (by omega) ?_
  refine lv_dup hx hb dX12_init_95 rfl ?_
  refine lv_iconst (v := 0) hx hb dX12_init_96 (by decide) ?_
  refine lv_bipush (v := 32) hx hb dX12_init_97 (by decide) ?_
  refine fx_iast X h (k := n + 11) (i := (0 : Int32)) ((ap_at hn 11).trans rfl) (by unfold vp_in; decide) dX12_init_99 (fun H locs h => ?_)
  rw [show ((0 : Int32)).toNatClampNeg = 0 by decide] at h
  obtain ⟨M1, eM1⟩ : ∃ z : Mm, z = m_up M (n + 11) 0 (32 : Int32) := ⟨_, rfl⟩
  rw [← eM1] at h
  have h0 : ∀ a, n + 12 ≤ a → M1 a = fun _ => 0 := fun a ha => by rw [eM1, m_up_ne (by omega)]; exact h0 a (by omega)
  refine lv_dup hx hb dX12_init_100 rfl ?_
  refine lv_iconst (v := 1) hx hb dX12_init_101 (by decide) ?_
  refine lv_bipush (v := 98) hx hb dX12_init_102 (by decide) ?_
  refine fx_iast X h (k := n + 11) (i := (1 : Int32)) ((ap_at hn 11).trans rfl) (by unfold vp_in; decide) dX12_init_104 (fun H locs h => ?_)
  rw [show ((1 : Int32)).toNatClampNeg = 1 by decide] at h
  obtain ⟨M2, eM2⟩ : ∃ z : Mm, z = m_up M1 (n + 11) 1 (98 : Int32) := ⟨_, rfl⟩
  rw [← eM2] at h
  have h0 : ∀ a, n + 12 ≤ a → M2 a = fun _ => 0 := fun a ha => by rw [eM2, m_up_ne (by omega)]; exact h0 a (by omega)
  refine lv_dup hx hb dX12_init_105 rfl ?_
  refine lv_iconst (v := 2) hx hb dX12_init_106 (by decide) ?_
  refine lv_bipush (v := 105) hx hb dX12_init_107 (by decide) ?_
  refine fx_iast X h (k := n + 11) (i := (2 : Int32)) ((ap_at hn 11).trans rfl) (by unfold vp_in; decide) dX12_init_109 (fun H locs h => ?_)
  rw [show ((2 : Int32)).toNatClampNeg = 2 by decide] at h
  obtain ⟨M3, eM3⟩ : ∃ z : Mm, z = m_up M2 (n + 11) 2 (105 : Int32) := ⟨_, rfl⟩
  rw [← eM3] at h
  have h0 : ∀ a, n + 12 ≤ a → M3 a = fun _ => 0 := fun a ha => by rw [eM3, m_up_ne (by omega)]; exact h0 a (by omega)
  refine lv_dup hx hb dX12_init_110 rfl ?_
  refine lv_iconst (v := 3) hx hb dX12_init_111 (by decide) ?_
  refine lv_bipush (v := 100) hx hb dX12_init_112 (by decide) ?_
  refine fx_iast X h (k := n + 11) (i := (3 : Int32)) ((ap_at hn 11).trans rfl) (by unfold vp_in; decide) dX12_init_114 (fun H locs h => ?_)
  rw [show ((3 : Int32)).toNatClampNeg = 3 by decide] at h
  obtain ⟨M4, eM4⟩ : ∃ z : Mm, z = m_up M3 (n + 11) 3 (100 : Int32) := ⟨_, rfl⟩
  rw [← eM4] at h
  have h0 : ∀ a, n + 12 ≤ a → M4 a = fun _ => 0 := fun a ha => by rw [eM4, m_up_ne (by omega)]; exact h0 a (by omega)
  refine lv_dup hx hb dX12_init_115 rfl ?_
  refine lv_iconst (v := 4) hx hb dX12_init_116 (by decide) ?_
  refine lv_bipush (v := 115) hx hb dX12_init_117 (by decide) ?_
  refine fx_iast X h (k := n + 11) (i := (4 : Int32)) ((ap_at hn 11).trans rfl) (by unfold vp_in; decide) dX12_init_119 (fun H locs h => ?_)
  rw [show ((4 : Int32)).toNatClampNeg = 4 by decide] at h
  obtain ⟨M5, eM5⟩ : ∃ z : Mm, z = m_up M4 (n + 11) 4 (115 : Int32) := ⟨_, rfl⟩
  rw [← eM5] at h
  have h0 : ∀ a, n + 12 ≤ a → M5 a = fun _ => 0 := fun a ha => by rw [eM5, m_up_ne (by omega)]; exact h0 a (by omega)
  refine lv_dup hx hb dX12_init_120 rfl ?_
  refine lv_iconst (v := 5) hx hb dX12_init_121 (by decide) ?_
  refine lv_bipush (v := 32) hx hb dX12_init_122 (by decide) ?_
  refine fx_iast X h (k := n + 11) (i := (5 : Int32)) ((ap_at hn 11).trans rfl) (by unfold vp_in; decide) dX12_init_124 (fun H locs h => ?_)
  rw [show ((5 : Int32)).toNatClampNeg = 5 by decide] at h
  obtain ⟨M6, eM6⟩ : ∃ z : Mm, z = m_up M5 (n + 11) 5 (32 : Int32) := ⟨_, rfl⟩
  rw [← eM6] at h
  have h0 : ∀ a, n + 12 ≤ a → M6 a = fun _ => 0 := fun a ha => by rw [eM6, m_up_ne (by omega)]; exact h0 a (by omega)
  refine lv_dup hx hb dX12_init_125 rfl ?_
  refine lv_bipush (v := 6) hx hb dX12_init_126 (by decide) ?_
  refine lv_bipush (v := 115) hx hb dX12_init_128 (by decide) ?_
  refine fx_iast X h (k := n + 11) (i := (6 : Int32)) ((ap_at hn 11).trans rfl) (by unfold vp_in; decide) dX12_init_130 (fun H locs h => ?_)
  rw [show ((6 : Int32)).toNatClampNeg = 6 by decide] at h
  obtain ⟨M7, eM7⟩ : ∃ z : Mm, z = m_up M6 (n + 11) 6 (115 : Int32) := ⟨_, rfl⟩
  rw [← eM7] at h
  have h0 : ∀ a, n + 12 ≤ a → M7 a = fun _ => 0 := fun a ha => by rw [eM7, m_up_ne (by omega)]; exact h0 a (by omega)
  refine lv_dup hx hb dX12_init_131 rfl ?_
  refine lv_bipush (v := 7) hx hb dX12_init_132 (by decide) ?_
  refine lv_bipush (v := 116) hx hb dX12_init_134 (by decide) ?_
  refine fx_iast X h (k := n + 11) (i := (7 : Int32)) ((ap_at hn 11).trans rfl) (by unfold vp_in; decide) dX12_init_136 (fun H locs h => ?_)
  rw [show ((7 : Int32)).toNatClampNeg = 7 by decide] at h
  obtain ⟨M8, eM8⟩ : ∃ z : Mm, z = m_up M7 (n + 11) 7 (116 : Int32) := ⟨_, rfl⟩
  rw [← eM8] at h
  have h0 : ∀ a, n + 12 ≤ a → M8 a = fun _ => 0 := fun a ha => by rw [eM8, m_up_ne (by omega)]; exact h0 a (by omega)
  refine lv_dup hx hb dX12_init_137 rfl ?_
  refine lv_bipush (v := 8) hx hb dX12_init_138 (by decide) ?_
  refine lv_bipush (v := 101) hx hb dX12_init_140 (by decide) ?_
  refine fx_iast X h (k := n + 11) (i := (8 : Int32)) ((ap_at hn 11).trans rfl) (by unfold vp_in; decide) dX12_init_142 (fun H locs h => ?_)
  rw [show ((8 : Int32)).toNatClampNeg = 8 by decide] at h
  obtain ⟨M9, eM9⟩ : ∃ z : Mm, z = m_up M8 (n + 11) 8 (101 : Int32) := ⟨_, rfl⟩
  rw [← eM9] at h
  have h0 : ∀ a, n + 12 ≤ a → M9 a = fun _ => 0 := fun a ha => by rw [eM9, m_up_ne (by omega)]; exact h0 a (by omega)
  refine lv_dup hx hb dX12_init_143 rfl ?_
  refine lv_bipush (v := 9) hx hb dX12_init_144 (by decide) ?_
  refine lv_bipush (v := 112) hx hb dX12_init_146 (by decide) ?_
  refine fx_iast X h (k := n + 11) (i := (9 : Int32)) ((ap_at hn 11).trans rfl) (by unfold vp_in; decide) dX12_init_148 (fun H locs h => ?_)
  rw [show ((9 : Int32)).toNatClampNeg = 9 by decide] at h
  obtain ⟨M10, eM10⟩ : ∃ z : Mm, z = m_up M9 (n + 11) 9 (112 : Int32) := ⟨_, rfl⟩
  rw [← eM10] at h
  have h0 : ∀ a, n + 12 ≤ a → M10 a = fun _ => 0 := fun a ha => by rw [eM10, m_up_ne (by omega)]; exact h0 a (by omega)
  refine lv_dup hx hb dX12_init_149 rfl ?_
  refine lv_bipush (v := 10) hx hb dX12_init_150 (by decide) ?_
  refine lv_bipush (v := 32) hx hb dX12_init_152 (by decide) ?_
  refine fx_iast X h (k := n + 11) (i := (10 : Int32)) ((ap_at hn 11).trans rfl) (by unfold vp_in; decide) dX12_init_154 (fun H locs h => ?_)
  rw [show ((10 : Int32)).toNatClampNeg = 10 by decide] at h
  obtain ⟨M11, eM11⟩ : ∃ z : Mm, z = m_up M10 (n + 11) 10 (32 : Int32) := ⟨_, rfl⟩
  rw [← eM11] at h
  have h0 : ∀ a, n + 12 ≤ a → M11 a = fun _ => 0 := fun a ha => by rw [eM11, m_up_ne (by omega)]; exact h0 a (by omega)
  refine lv_dup hx hb dX12_init_155 rfl ?_
  refine lv_bipush (v := 11) hx hb dX12_init_156 (by decide) ?_
  refine lv_bipush (v := 102) hx hb dX12_init_158 (by decide) ?_
  refine fx_iast X h (k := n + 11) (i := (11 : Int32)) ((ap_at hn 11).trans rfl) (by unfold vp_in; decide) dX12_init_160 (fun H locs h => ?_)
  rw [show ((11 : Int32)).toNatClampNeg = 11 by decide] at h
  obtain ⟨M12, eM12⟩ : ∃ z : Mm, z = m_up M11 (n + 11) 11 (102 : Int32) := ⟨_, rfl⟩
  rw [← eM12] at h
  have h0 : ∀ a, n + 12 ≤ a → M12 a = fun _ => 0 := fun a ha => by rw [eM12, m_up_ne (by omega)]; exact h0 a (by omega)
  refine lv_dup hx hb dX12_init_161 rfl ?_
  refine lv_bipush (v := 12) hx hb dX12_init_162 (by decide) ?_
  refine lv_bipush (v := 117) hx hb dX12_init_164 (by decide) ?_
  refine fx_iast X h (k := n + 11) (i := (12 : Int32)) ((ap_at hn 11).trans rfl) (by unfold vp_in; decide) dX12_init_166 (fun H locs h => ?_)
  rw [show ((12 : Int32)).toNatClampNeg = 12 by decide] at h
  obtain ⟨M13, eM13⟩ : ∃ z : Mm, z = m_up M12 (n + 11) 12 (117 : Int32) := ⟨_, rfl⟩
  rw [← eM13] at h
  have h0 : ∀ a, n + 12 ≤ a → M13 a = fun _ => 0 := fun a ha => by rw [eM13, m_up_ne (by omega)]; exact h0 a (by omega)
  refine lv_dup hx hb dX12_init_167 rfl ?_
  refine lv_bipush (v := 13) hx hb dX12_init_168 (by decide) ?_
  refine lv_bipush (v := 108) hx hb dX12_init_170 (by decide) ?_
  refine fx_iast X h (k := n + 11) (i := (13 : Int32)) ((ap_at hn 11).trans rfl) (by unfold vp_in; decide) dX12_init_172 (fun H locs h => ?_)
  rw [show ((13 : Int32)).toNatClampNeg = 13 by decide] at h
  obtain ⟨M14, eM14⟩ : ∃ z : Mm, z = m_up M13 (n + 11) 13 (108 : Int32) := ⟨_, rfl⟩
  rw [← eM14] at h
  have h0 : ∀ a, n + 12 ≤ a → M14 a = fun _ => 0 := fun a ha => by rw [eM14, m_up_ne (by omega)]; exact h0 a (by omega)
  refine lv_dup hx hb dX12_init_173 rfl ?_
  refine lv_bipush (v := 14) hx hb dX12_init_174 (by decide) ?_
  refine lv_bipush (v := 108) hx hb dX12_init_176 (by decide) ?_
  refine fx_iast X h (k := n + 11) (i := (14 : Int32)) ((ap_at hn 11).trans rfl) (by unfold vp_in; decide) dX12_init_178 (fun H locs h => ?_)
  rw [show ((14 : Int32)).toNatClampNeg = 14 by decide] at h
  obtain ⟨M15, eM15⟩ : ∃ z : Mm, z = m_up M14 (n + 11) 14 (108 : Int32) := ⟨_, rfl⟩
  rw [← eM15] at h
  have h0 : ∀ a, n + 12 ≤ a → M15 a = fun _ => 0 := fun a ha => by rw [eM15, m_up_ne (by omega)]; exact h0 a (by omega)
  refine lv_dup hx hb dX12_init_179 rfl ?_
  refine lv_bipush (v := 15) hx hb dX12_init_180 (by decide) ?_
  refine lv_bipush (v := 32) hx hb dX12_init_182 (by decide) ?_
  refine fx_iast X h (k := n + 11) (i := (15 : Int32)) ((ap_at hn 11).trans rfl) (by unfold vp_in; decide) dX12_init_184 (fun H locs h => ?_)
  rw [show ((15 : Int32)).toNatClampNeg = 15 by decide] at h
  obtain ⟨M16, eM16⟩ : ∃ z : Mm, z = m_up M15 (n + 11) 15 (32 : Int32) := ⟨_, rfl⟩
  rw [← eM16] at h
  have h0 : ∀ a, n + 12 ≤ a → M16 a = fun _ => 0 := fun a ha => by rw [eM16, m_up_ne (by omega)]; exact h0 a (by omega)
  refine lv_dup hx hb dX12_init_185 rfl ?_
  refine lv_bipush (v := 16) hx hb dX12_init_186 (by decide) ?_
  refine lv_bipush (v := 119) hx hb dX12_init_188 (by decide) ?_
  refine fx_iast X h (k := n + 11) (i := (16 : Int32)) ((ap_at hn 11).trans rfl) (by unfold vp_in; decide) dX12_init_190 (fun H locs h => ?_)
  rw [show ((16 : Int32)).toNatClampNeg = 16 by decide] at h
  obtain ⟨M17, eM17⟩ : ∃ z : Mm, z = m_up M16 (n + 11) 16 (119 : Int32) := ⟨_, rfl⟩
  rw [← eM17] at h
  have h0 : ∀ a, n + 12 ≤ a → M17 a = fun _ => 0 := fun a ha => by rw [eM17, m_up_ne (by omega)]; exact h0 a (by omega)
  refine lv_dup hx hb dX12_init_191 rfl ?_
  refine lv_bipush (v := 17) hx hb dX12_init_192 (by decide) ?_
  refine lv_bipush (v := 104) hx hb dX12_init_194 (by decide) ?_
  refine fx_iast X h (k := n + 11) (i := (17 : Int32)) ((ap_at hn 11).trans rfl) (by unfold vp_in; decide) dX12_init_196 (fun H locs h => ?_)
  rw [show ((17 : Int32)).toNatClampNeg = 17 by decide] at h
  obtain ⟨M18, eM18⟩ : ∃ z : Mm, z = m_up M17 (n + 11) 17 (104 : Int32) := ⟨_, rfl⟩
  rw [← eM18] at h
  have h0 : ∀ a, n + 12 ≤ a → M18 a = fun _ => 0 := fun a ha => by rw [eM18, m_up_ne (by omega)]; exact h0 a (by omega)
  refine lv_dup hx hb dX12_init_197 rfl ?_
  refine lv_bipush (v := 18) hx hb dX12_init_198 (by decide) ?_
  refine lv_bipush (v := 101) hx hb dX12_init_200 (by decide) ?_
  refine fx_iast X h (k := n + 11) (i := (18 : Int32)) ((ap_at hn 11).trans rfl) (by unfold vp_in; decide) dX12_init_202 (fun H locs h => ?_)
  rw [show ((18 : Int32)).toNatClampNeg = 18 by decide] at h
  obtain ⟨M19, eM19⟩ : ∃ z : Mm, z = m_up M18 (n + 11) 18 (101 : Int32) := ⟨_, rfl⟩
  rw [← eM19] at h
  have h0 : ∀ a, n + 12 ≤ a → M19 a = fun _ => 0 := fun a ha => by rw [eM19, m_up_ne (by omega)]; exact h0 a (by omega)
  refine lv_dup hx hb dX12_init_203 rfl ?_
  refine lv_bipush (v := 19) hx hb dX12_init_204 (by decide) ?_
  refine lv_bipush (v := 110) hx hb dX12_init_206 (by decide) ?_
  refine fx_iast X h (k := n + 11) (i := (19 : Int32)) ((ap_at hn 11).trans rfl) (by unfold vp_in; decide) dX12_init_208 (fun H locs h => ?_)
  rw [show ((19 : Int32)).toNatClampNeg = 19 by decide] at h
  obtain ⟨M20, eM20⟩ : ∃ z : Mm, z = m_up M19 (n + 11) 19 (110 : Int32) := ⟨_, rfl⟩
  rw [← eM20] at h
  have h0 : ∀ a, n + 12 ≤ a → M20 a = fun _ => 0 := fun a ha => by rw [eM20, m_up_ne (by omega)]; exact h0 a (by omega)
  refine lv_dup hx hb dX12_init_209 rfl ?_
  refine lv_bipush (v := 20) hx hb dX12_init_210 (by decide) ?_
  refine lv_bipush (v := 32) hx hb dX12_init_212 (by decide) ?_
  refine fx_iast X h (k := n + 11) (i := (20 : Int32)) ((ap_at hn 11).trans rfl) (by unfold vp_in; decide) dX12_init_214 (fun H locs h => ?_)
  rw [show ((20 : Int32)).toNatClampNeg = 20 by decide] at h
  obtain ⟨M21, eM21⟩ : ∃ z : Mm, z = m_up M20 (n + 11) 20 (32 : Int32) := ⟨_, rfl⟩
  rw [← eM21] at h
  have h0 : ∀ a, n + 12 ≤ a → M21 a = fun _ => 0 := fun a ha => by rw [eM21, m_up_ne (by omega)]; exact h0 a (by omega)
  refine lv_dup hx hb dX12_init_215 rfl ?_
  refine lv_bipush (v := 21) hx hb dX12_init_216 (by decide) ?_
  refine lv_bipush (v := 111) hx hb dX12_init_218 (by decide) ?_
  refine fx_iast X h (k := n + 11) (i := (21 : Int32)) ((ap_at hn 11).trans rfl) (by unfold vp_in; decide) dX12_init_220 (fun H locs h => ?_)
  rw [show ((21 : Int32)).toNatClampNeg = 21 by decide] at h
  obtain ⟨M22, eM22⟩ : ∃ z : Mm, z = m_up M21 (n + 11) 21 (111 : Int32) := ⟨_, rfl⟩
  rw [← eM22] at h
  have h0 : ∀ a, n + 12 ≤ a → M22 a = fun _ => 0 := fun a ha => by rw [eM22, m_up_ne (by omega)]; exact h0 a (by omega)
  refine lv_dup hx hb dX12_init_221 rfl ?_
  refine lv_bipush (v := 22) hx hb dX12_init_222 (by decide) ?_
  refine lv_bipush (v := 114) hx hb dX12_init_224 (by decide) ?_
  refine fx_iast X h (k := n + 11) (i := (22 : Int32)) ((ap_at hn 11).trans rfl) (by unfold vp_in; decide) dX12_init_226 (fun H locs h => ?_)
  rw [show ((22 : Int32)).toNatClampNeg = 22 by decide] at h
  obtain ⟨M23, eM23⟩ : ∃ z : Mm, z = m_up M22 (n + 11) 22 (114 : Int32) := ⟨_, rfl⟩
  rw [← eM23] at h
  have h0 : ∀ a, n + 12 ≤ a → M23 a = fun _ => 0 := fun a ha => by rw [eM23, m_up_ne (by omega)]; exact h0 a (by omega)
  refine lv_dup hx hb dX12_init_227 rfl ?_
  refine lv_bipush (v := 23) hx hb dX12_init_228 (by decide) ?_
  refine lv_bipush (v := 32) hx hb dX12_init_230 (by decide) ?_
  refine fx_iast X h (k := n + 11) (i := (23 : Int32)) ((ap_at hn 11).trans rfl) (by unfold vp_in; decide) dX12_init_232 (fun H locs h => ?_)
  rw [show ((23 : Int32)).toNatClampNeg = 23 by decide] at h
  obtain ⟨M24, eM24⟩ : ∃ z : Mm, z = m_up M23 (n + 11) 23 (32 : Int32) := ⟨_, rfl⟩
  rw [← eM24] at h
  have h0 : ∀ a, n + 12 ≤ a → M24 a = fun _ => 0 := fun a ha => by rw [eM24, m_up_ne (by omega)]; exact h0 a (by omega)
  refine lv_dup hx hb dX12_init_233 rfl ?_
  refine lv_bipush (v := 24) hx hb dX12_init_234 (by decide) ?_
  refine lv_bipush (v := 97) hx hb dX12_init_236 (by decide) ?_
  refine fx_iast X h (k := n + 11) (i := (24 : Int32)) ((ap_at hn 11).trans rfl) (by unfold vp_in; decide) dX12_init_238 (fun H locs h => ?_)
  rw [show ((24 : Int32)).toNatClampNeg = 24 by decide] at h
  obtain ⟨M25, eM25⟩ : ∃ z : Mm, z = m_up M24 (n + 11) 24 (97 : Int32) := ⟨_, rfl⟩
  rw [← eM25] at h
  have h0 : ∀ a, n + 12 ≤ a → M25 a = fun _ => 0 := fun a ha => by rw [eM25, m_up_ne (by omega)]; exact h0 a (by omega)
  refine lv_dup hx hb dX12_init_239 rfl ?_
  refine lv_bipush (v := 25) hx hb dX12_init_240 (by decide) ?_
  refine lv_bipush (v := 110) hx hb dX12_init_242 (by decide) ?_
  refine fx_iast X h (k := n + 11) (i := (25 : Int32)) ((ap_at hn 11).trans rfl) (by unfold vp_in; decide) dX12_init_244 (fun H locs h => ?_)
  rw [show ((25 : Int32)).toNatClampNeg = 25 by decide] at h
  obtain ⟨M26, eM26⟩ : ∃ z : Mm, z = m_up M25 (n + 11) 25 (110 : Int32) := ⟨_, rfl⟩
  rw [← eM26] at h
  have h0 : ∀ a, n + 12 ≤ a → M26 a = fun _ => 0 := fun a ha => by rw [eM26, m_up_ne (by omega)]; exact h0 a (by omega)
  refine lv_dup hx hb dX12_init_245 rfl ?_
  refine lv_bipush (v := 26) hx hb dX12_init_246 (by decide) ?_
  refine lv_bipush (v := 100) hx hb dX12_init_248 (by decide) ?_
  refine fx_iast X h (k := n + 11) (i := (26 : Int32)) ((ap_at hn 11).trans rfl) (by unfold vp_in; decide) dX12_init_250 (fun H locs h => ?_)
  rw [show ((26 : Int32)).toNatClampNeg = 26 by decide] at h
  obtain ⟨M27, eM27⟩ : ∃ z : Mm, z = m_up M26 (n + 11) 26 (100 : Int32) := ⟨_, rfl⟩
  rw [← eM27] at h
  have h0 : ∀ a, n + 12 ≤ a → M27 a = fun _ => 0 := fun a ha => by rw [eM27, m_up_ne (by omega)]; exact h0 a (by omega)
  refine lv_dup hx hb dX12_init_251 rfl ?_
  refine lv_bipush (v := 27) hx hb dX12_init_252 (by decide) ?_
  refine lv_bipush (v := 32) hx hb dX12_init_254 (by decide) ?_
  refine fx_iast X h (k := n + 11) (i := (27 : Int32)) ((ap_at hn 11).trans rfl) (by unfold vp_in; decide) dX12_init_256 (fun H locs h => ?_)
  rw [show ((27 : Int32)).toNatClampNeg = 27 by decide] at h
  obtain ⟨M28, eM28⟩ : ∃ z : Mm, z = m_up M27 (n + 11) 27 (32 : Int32) := ⟨_, rfl⟩
  rw [← eM28] at h
  have h0 : ∀ a, n + 12 ≤ a → M28 a = fun _ => 0 := fun a ha => by rw [eM28, m_up_ne (by omega)]; exact h0 a (by omega)
  refine lv_dup hx hb dX12_init_257 rfl ?_
  refine lv_bipush (v := 28) hx hb dX12_init_258 (by decide) ?_
  refine lv_bipush (v := 110) hx hb dX12_init_260 (by decide) ?_
  refine fx_iast X h (k := n + 11) (i := (28 : Int32)) ((ap_at hn 11).trans rfl) (by unfold vp_in; decide) dX12_init_262 (fun H locs h => ?_)
  rw [show ((28 : Int32)).toNatClampNeg = 28 by decide] at h
  obtain ⟨M29, eM29⟩ : ∃ z : Mm, z = m_up M28 (n + 11) 28 (110 : Int32) := ⟨_, rfl⟩
  rw [← eM29] at h
  have h0 : ∀ a, n + 12 ≤ a → M29 a = fun _ => 0 := fun a ha => by rw [eM29, m_up_ne (by omega)]; exact h0 a (by omega)
  refine lv_dup hx hb dX12_init_263 rfl ?_
  refine lv_bipush (v := 29) hx hb dX12_init_264 (by decide) ?_
  refine lv_bipush (v := 111) hx hb dX12_init_266 (by decide) ?_
  refine fx_iast X h (k := n + 11) (i := (29 : Int32)) ((ap_at hn 11).trans rfl) (by unfold vp_in; decide) dX12_init_268 (fun H locs h => ?_)
  rw [show ((29 : Int32)).toNatClampNeg = 29 by decide] at h
  obtain ⟨M30, eM30⟩ : ∃ z : Mm, z = m_up M29 (n + 11) 29 (111 : Int32) := ⟨_, rfl⟩
  rw [← eM30] at h
  have h0 : ∀ a, n + 12 ≤ a → M30 a = fun _ => 0 := fun a ha => by rw [eM30, m_up_ne (by omega)]; exact h0 a (by omega)
  refine lv_dup hx hb dX12_init_269 rfl ?_
  refine lv_bipush (v := 30) hx hb dX12_init_270 (by decide) ?_
  refine lv_bipush (v := 116) hx hb dX12_init_272 (by decide) ?_
  refine fx_iast X h (k := n + 11) (i := (30 : Int32)) ((ap_at hn 11).trans rfl) (by unfold vp_in; decide) dX12_init_274 (fun H locs h => ?_)
  rw [show ((30 : Int32)).toNatClampNeg = 30 by decide] at h
  obtain ⟨M31, eM31⟩ : ∃ z : Mm, z = m_up M30 (n + 11) 30 (116 : Int32) := ⟨_, rfl⟩
  rw [← eM31] at h
  have h0 : ∀ a, n + 12 ≤ a → M31 a = fun _ => 0 := fun a ha => by rw [eM31, m_up_ne (by omega)]; exact h0 a (by omega)
  refine lv_dup hx hb dX12_init_275 rfl ?_
  refine lv_bipush (v := 31) hx hb dX12_init_276 (by decide) ?_
  refine lv_bipush (v := 32) hx hb dX12_init_278 (by decide) ?_
  refine fx_iast X h (k := n + 11) (i := (31 : Int32)) ((ap_at hn 11).trans rfl) (by unfold vp_in; decide) dX12_init_280 (fun H locs h => ?_)
  rw [show ((31 : Int32)).toNatClampNeg = 31 by decide] at h
  obtain ⟨M32, eM32⟩ : ∃ z : Mm, z = m_up M31 (n + 11) 31 (32 : Int32) := ⟨_, rfl⟩
  rw [← eM32] at h
  have h0 : ∀ a, n + 12 ≤ a → M32 a = fun _ => 0 := fun a ha => by rw [eM32, m_up_ne (by omega)]; exact h0 a (by omega)
  refine lv_dup hx hb dX12_init_281 rfl ?_
  refine lv_bipush (v := 32) hx hb dX12_init_282 (by decide) ?_
  refine lv_bipush (v := 119) hx hb dX12_init_284 (by decide) ?_
  refine fx_iast X h (k := n + 11) (i := (32 : Int32)) ((ap_at hn 11).trans rfl) (by unfold vp_in; decide) dX12_init_286 (fun H locs h => ?_)
  rw [show ((32 : Int32)).toNatClampNeg = 32 by decide] at h
  obtain ⟨M33, eM33⟩ : ∃ z : Mm, z = m_up M32 (n + 11) 32 (119 : Int32) := ⟨_, rfl⟩
  rw [← eM33] at h
  have h0 : ∀ a, n + 12 ≤ a → M33 a = fun _ => 0 := fun a ha => by rw [eM33, m_up_ne (by omega)]; exact h0 a (by omega)
  refine lv_dup hx hb dX12_init_287 rfl ?_
  refine lv_bipush (v := 33) hx hb dX12_init_288 (by decide) ?_
  refine lv_bipush (v := 101) hx hb dX12_init_290 (by decide) ?_
  refine fx_iast X h (k := n + 11) (i := (33 : Int32)) ((ap_at hn 11).trans rfl) (by unfold vp_in; decide) dX12_init_292 (fun H locs h => ?_)
  rw [show ((33 : Int32)).toNatClampNeg = 33 by decide] at h
  obtain ⟨M34, eM34⟩ : ∃ z : Mm, z = m_up M33 (n + 11) 33 (101 : Int32) := ⟨_, rfl⟩
  rw [← eM34] at h
  have h0 : ∀ a, n + 12 ≤ a → M34 a = fun _ => 0 := fun a ha => by rw [eM34, m_up_ne (by omega)]; exact h0 a (by omega)
  refine lv_dup hx hb dX12_init_293 rfl ?_
  refine lv_bipush (v := 34) hx hb dX12_init_294 (by decide) ?_
  refine lv_bipush (v := 105) hx hb dX12_init_296 (by decide) ?_
  refine fx_iast X h (k := n + 11) (i := (34 : Int32)) ((ap_at hn 11).trans rfl) (by unfold vp_in; decide) dX12_init_298 (fun H locs h => ?_)
  rw [show ((34 : Int32)).toNatClampNeg = 34 by decide] at h
  obtain ⟨M35, eM35⟩ : ∃ z : Mm, z = m_up M34 (n + 11) 34 (105 : Int32) := ⟨_, rfl⟩
  rw [← eM35] at h
  have h0 : ∀ a, n + 12 ≤ a → M35 a = fun _ => 0 := fun a ha => by rw [eM35, m_up_ne (by omega)]; exact h0 a (by omega)
  refine lv_dup hx hb dX12_init_299 rfl ?_
  refine lv_bipush (v := 35) hx hb dX12_init_300 (by decide) ?_
  refine lv_bipush (v := 103) hx hb dX12_init_302 (by decide) ?_
  refine fx_iast X h (k := n + 11) (i := (35 : Int32)) ((ap_at hn 11).trans rfl) (by unfold vp_in; decide) dX12_init_304 (fun H locs h => ?_)
  rw [show ((35 : Int32)).toNatClampNeg = 35 by decide] at h
  obtain ⟨M36, eM36⟩ : ∃ z : Mm, z = m_up M35 (n + 11) 35 (103 : Int32) := ⟨_, rfl⟩
  rw [← eM36] at h
  have h0 : ∀ a, n + 12 ≤ a → M36 a = fun _ => 0 := fun a ha => by rw [eM36, m_up_ne (by omega)]; exact h0 a (by omega)
  refine lv_dup hx hb dX12_init_305 rfl ?_
  refine lv_bipush (v := 36) hx hb dX12_init_306 (by decide) ?_
  refine lv_bipush (v := 104) hx hb dX12_init_308 (by decide) ?_
  refine fx_iast X h (k := n + 11) (i := (36 : Int32)) ((ap_at hn 11).trans rfl) (by unfold vp_in; decide) dX12_init_310 (fun H locs h => ?_)
  rw [show ((36 : Int32)).toNatClampNeg = 36 by decide] at h
  obtain ⟨M37, eM37⟩ : ∃ z : Mm, z = m_up M36 (n + 11) 36 (104 : Int32) := ⟨_, rfl⟩
  rw [← eM37] at h
  have h0 : ∀ a, n + 12 ≤ a → M37 a = fun _ => 0 := fun a ha => by rw [eM37, m_up_ne (by omega)]; exact h0 a (by omega)
  refine lv_dup hx hb dX12_init_311 rfl ?_
  refine lv_bipush (v := 37) hx hb dX12_init_312 (by decide) ?_
  refine lv_bipush (v := 116) hx hb dX12_init_314 (by decide) ?_
  refine fx_iast X h (k := n + 11) (i := (37 : Int32)) ((ap_at hn 11).trans rfl) (by unfold vp_in; decide) dX12_init_316 (fun H locs h => ?_)
  rw [show ((37 : Int32)).toNatClampNeg = 37 by decide] at h
  obtain ⟨M38, eM38⟩ : ∃ z : Mm, z = m_up M37 (n + 11) 37 (116 : Int32) := ⟨_, rfl⟩
  rw [← eM38] at h
  have h0 : ∀ a, n + 12 ≤ a → M38 a = fun _ => 0 := fun a ha => by rw [eM38, m_up_ne (by omega)]; exact h0 a (by omega)
  refine lv_dup hx hb dX12_init_317 rfl ?_
  refine lv_bipush (v := 38) hx hb dX12_init_318 (by decide) ?_
  refine lv_bipush (v := 32) hx hb dX12_init_320 (by decide) ?_
  refine fx_iast X h (k := n + 11) (i := (38 : Int32)) ((ap_at hn 11).trans rfl) (by unfold vp_in; decide) dX12_init_322 (fun H locs h => ?_)
  rw [show ((38 : Int32)).toNatClampNeg = 38 by decide] at h
  obtain ⟨M39, eM39⟩ : ∃ z : Mm, z = m_up M38 (n + 11) 38 (32 : Int32) := ⟨_, rfl⟩
  rw [← eM39] at h
  have h0 : ∀ a, n + 12 ≤ a → M39 a = fun _ => 0 := fun a ha => by rw [eM39, m_up_ne (by omega)]; exact h0 a (by omega)
  refine lv_dup hx hb dX12_init_323 rfl ?_
  refine lv_bipush (v := 39) hx hb dX12_init_324 (by decide) ?_
  refine lv_bipush (v := 114) hx hb dX12_init_326 (by decide) ?_
  refine fx_iast X h (k := n + 11) (i := (39 : Int32)) ((ap_at hn 11).trans rfl) (by unfold vp_in; decide) dX12_init_328 (fun H locs h => ?_)
  rw [show ((39 : Int32)).toNatClampNeg = 39 by decide] at h
  obtain ⟨M40, eM40⟩ : ∃ z : Mm, z = m_up M39 (n + 11) 39 (114 : Int32) := ⟨_, rfl⟩
  rw [← eM40] at h
  have h0 : ∀ a, n + 12 ≤ a → M40 a = fun _ => 0 := fun a ha => by rw [eM40, m_up_ne (by omega)]; exact h0 a (by omega)
  refine lv_dup hx hb dX12_init_329 rfl ?_
  refine lv_bipush (v := 40) hx hb dX12_init_330 (by decide) ?_
  refine lv_bipush (v := 97) hx hb dX12_init_332 (by decide) ?_
  refine fx_iast X h (k := n + 11) (i := (40 : Int32)) ((ap_at hn 11).trans rfl) (by unfold vp_in; decide) dX12_init_334 (fun H locs h => ?_)
  rw [show ((40 : Int32)).toNatClampNeg = 40 by decide] at h
  obtain ⟨M41, eM41⟩ : ∃ z : Mm, z = m_up M40 (n + 11) 40 (97 : Int32) := ⟨_, rfl⟩
  rw [← eM41] at h
  have h0 : ∀ a, n + 12 ≤ a → M41 a = fun _ => 0 := fun a ha => by rw [eM41, m_up_ne (by omega)]; exact h0 a (by omega)
  refine lv_dup hx hb dX12_init_335 rfl ?_
  refine lv_bipush (v := 41) hx hb dX12_init_336 (by decide) ?_
  refine lv_bipush (v := 116) hx hb dX12_init_338 (by decide) ?_
  refine fx_iast X h (k := n + 11) (i := (41 : Int32)) ((ap_at hn 11).trans rfl) (by unfold vp_in; decide) dX12_init_340 (fun H locs h => ?_)
  rw [show ((41 : Int32)).toNatClampNeg = 41 by decide] at h
  obtain ⟨M42, eM42⟩ : ∃ z : Mm, z = m_up M41 (n + 11) 41 (116 : Int32) := ⟨_, rfl⟩
  rw [← eM42] at h
  have h0 : ∀ a, n + 12 ≤ a → M42 a = fun _ => 0 := fun a ha => by rw [eM42, m_up_ne (by omega)]; exact h0 a (by omega)
  refine lv_dup hx hb dX12_init_341 rfl ?_
  refine lv_bipush (v := 42) hx hb dX12_init_342 (by decide) ?_
  refine lv_bipush (v := 116) hx hb dX12_init_344 (by decide) ?_
  refine fx_iast X h (k := n + 11) (i := (42 : Int32)) ((ap_at hn 11).trans rfl) (by unfold vp_in; decide) dX12_init_346 (fun H locs h => ?_)
  rw [show ((42 : Int32)).toNatClampNeg = 42 by decide] at h
  obtain ⟨M43, eM43⟩ : ∃ z : Mm, z = m_up M42 (n + 11) 42 (116 : Int32) := ⟨_, rfl⟩
  rw [← eM43] at h
  have h0 : ∀ a, n + 12 ≤ a → M43 a = fun _ => 0 := fun a ha => by rw [eM43, m_up_ne (by omega)]; exact h0 a (by omega)
  refine lv_dup hx hb dX12_init_347 rfl ?_
  refine lv_bipush (v := 43) hx hb dX12_init_348 (by decide) ?_
  refine lv_bipush (v := 108) hx hb dX12_init_350 (by decide) ?_
  refine fx_iast X h (k := n + 11) (i := (43 : Int32)) ((ap_at hn 11).trans rfl) (by unfold vp_in; decide) dX12_init_352 (fun H locs h => ?_)
  rw [show ((43 : Int32)).toNatClampNeg = 43 by decide] at h
  obtain ⟨M44, eM44⟩ : ∃ z : Mm, z = m_up M43 (n + 11) 43 (108 : Int32) := ⟨_, rfl⟩
  rw [← eM44] at h
  have h0 : ∀ a, n + 12 ≤ a → M44 a = fun _ => 0 := fun a ha => by rw [eM44, m_up_ne (by omega)]; exact h0 a (by omega)
  refine lv_dup hx hb dX12_init_353 rfl ?_
  refine lv_bipush (v := 44) hx hb dX12_init_354 (by decide) ?_
  refine lv_bipush (v := 101) hx hb dX12_init_356 (by decide) ?_
  refine fx_iast X h (k := n + 11) (i := (44 : Int32)) ((ap_at hn 11).trans rfl) (by unfold vp_in; decide) dX12_init_358 (fun H locs h => ?_)
  rw [show ((44 : Int32)).toNatClampNeg = 44 by decide] at h
  obtain ⟨M45, eM45⟩ : ∃ z : Mm, z = m_up M44 (n + 11) 44 (101 : Int32) := ⟨_, rfl⟩
  rw [← eM45] at h
  have h0 : ∀ a, n + 12 ≤ a → M45 a = fun _ => 0 := fun a ha => by rw [eM45, m_up_ne (by omega)]; exact h0 a (by omega)
  refine lv_dup hx hb dX12_init_359 rfl ?_
  refine lv_bipush (v := 45) hx hb dX12_init_360 (by decide) ?_
  refine lv_bipush (v := 32) hx hb dX12_init_362 (by decide) ?_
  refine fx_iast X h (k := n + 11) (i := (45 : Int32)) ((ap_at hn 11).trans rfl) (by unfold vp_in; decide) dX12_init_364 (fun H locs h => ?_)
  rw [show ((45 : Int32)).toNatClampNeg = 45 by decide] at h
  obtain ⟨M46, eM46⟩ : ∃ z : Mm, z = m_up M45 (n + 11) 45 (32 : Int32) := ⟨_, rfl⟩
  rw [← eM46] at h
  have h0 : ∀ a, n + 12 ≤ a → M46 a = fun _ => 0 := fun a ha => by rw [eM46, m_up_ne (by omega)]; exact h0 a (by omega)
  refine lv_dup hx hb dX12_init_365 rfl ?_
  refine lv_bipush (v := 46) hx hb dX12_init_366 (by decide) ?_
  refine lv_bipush (v := 107) hx hb dX12_init_368 (by decide) ?_
  refine fx_iast X h (k := n + 11) (i := (46 : Int32)) ((ap_at hn 11).trans rfl) (by unfold vp_in; decide) dX12_init_370 (fun H locs h => ?_)
  rw [show ((46 : Int32)).toNatClampNeg = 46 by decide] at h
  obtain ⟨M47, eM47⟩ : ∃ z : Mm, z = m_up M46 (n + 11) 46 (107 : Int32) := ⟨_, rfl⟩
  rw [← eM47] at h
  have h0 : ∀ a, n + 12 ≤ a → M47 a = fun _ => 0 := fun a ha => by rw [eM47, m_up_ne (by omega)]; exact h0 a (by omega)
  refine lv_dup hx hb dX12_init_371 rfl ?_
  refine lv_bipush (v := 47) hx hb dX12_init_372 (by decide) ?_
  refine lv_bipush (v := 110) hx hb dX12_init_374 (by decide) ?_
  refine fx_iast X h (k := n + 11) (i := (47 : Int32)) ((ap_at hn 11).trans rfl) (by unfold vp_in; decide) dX12_init_376 (fun H locs h => ?_)
  rw [show ((47 : Int32)).toNatClampNeg = 47 by decide] at h
  obtain ⟨M48, eM48⟩ : ∃ z : Mm, z = m_up M47 (n + 11) 47 (110 : Int32) := ⟨_, rfl⟩
  rw [← eM48] at h
  have h0 : ∀ a, n + 12 ≤ a → M48 a = fun _ => 0 := fun a ha => by rw [eM48, m_up_ne (by omega)]; exact h0 a (by omega)
  refine lv_dup hx hb dX12_init_377 rfl ?_
  refine lv_bipush (v := 48) hx hb dX12_init_378 (by decide) ?_
  refine lv_bipush (v := 111) hx hb dX12_init_380 (by decide) ?_
  refine fx_iast X h (k := n + 11) (i := (48 : Int32)) ((ap_at hn 11).trans rfl) (by unfold vp_in; decide) dX12_init_382 (fun H locs h => ?_)
  rw [show ((48 : Int32)).toNatClampNeg = 48 by decide] at h
  obtain ⟨M49, eM49⟩ : ∃ z : Mm, z = m_up M48 (n + 11) 48 (111 : Int32) := ⟨_, rfl⟩
  rw [← eM49] at h
  have h0 : ∀ a, n + 12 ≤ a → M49 a = fun _ => 0 := fun a ha => by rw [eM49, m_up_ne (by omega)]; exact h0 a (by omega)
  refine lv_dup hx hb dX12_init_383 rfl ?_
  refine lv_bipush (v := 49) hx hb dX12_init_384 (by decide) ?_
  refine lv_bipush (v := 116) hx hb dX12_init_386 (by decide) ?_
  refine fx_iast X h (k := n + 11) (i := (49 : Int32)) ((ap_at hn 11).trans rfl) (by unfold vp_in; decide) dX12_init_388 (fun H locs h => ?_)
  rw [show ((49 : Int32)).toNatClampNeg = 49 by decide] at h
  obtain ⟨M50, eM50⟩ : ∃ z : Mm, z = m_up M49 (n + 11) 49 (116 : Int32) := ⟨_, rfl⟩
  rw [← eM50] at h
  have h0 : ∀ a, n + 12 ≤ a → M50 a = fun _ => 0 := fun a ha => by rw [eM50, m_up_ne (by omega)]; exact h0 a (by omega)
  refine lv_dup hx hb dX12_init_389 rfl ?_
  refine lv_bipush (v := 50) hx hb dX12_init_390 (by decide) ?_
  refine lv_bipush (v := 115) hx hb dX12_init_392 (by decide) ?_
  refine fx_iast X h (k := n + 11) (i := (50 : Int32)) ((ap_at hn 11).trans rfl) (by unfold vp_in; decide) dX12_init_394 (fun H locs h => ?_)
  rw [show ((50 : Int32)).toNatClampNeg = 50 by decide] at h
  obtain ⟨M51, eM51⟩ : ∃ z : Mm, z = m_up M50 (n + 11) 50 (115 : Int32) := ⟨_, rfl⟩
  rw [← eM51] at h
  have h0 : ∀ a, n + 12 ≤ a → M51 a = fun _ => 0 := fun a ha => by rw [eM51, m_up_ne (by omega)]; exact h0 a (by omega)
  refine lv_dup hx hb dX12_init_395 rfl ?_
  refine lv_bipush (v := 51) hx hb dX12_init_396 (by decide) ?_
  refine lv_bipush (v := 32) hx hb dX12_init_398 (by decide) ?_
  refine fx_iast X h (k := n + 11) (i := (51 : Int32)) ((ap_at hn 11).trans rfl) (by unfold vp_in; decide) dX12_init_400 (fun H locs h => ?_)
  rw [show ((51 : Int32)).toNatClampNeg = 51 by decide] at h
  obtain ⟨M52, eM52⟩ : ∃ z : Mm, z = m_up M51 (n + 11) 51 (32 : Int32) := ⟨_, rfl⟩
  rw [← eM52] at h
  have h0 : ∀ a, n + 12 ≤ a → M52 a = fun _ => 0 := fun a ha => by rw [eM52, m_up_ne (by omega)]; exact h0 a (by omega)
  refine lv_dup hx hb dX12_init_401 rfl ?_
  refine lv_bipush (v := 52) hx hb dX12_init_402 (by decide) ?_
  refine lv_bipush (v := 99) hx hb dX12_init_404 (by decide) ?_
  refine fx_iast X h (k := n + 11) (i := (52 : Int32)) ((ap_at hn 11).trans rfl) (by unfold vp_in; decide) dX12_init_406 (fun H locs h => ?_)
  rw [show ((52 : Int32)).toNatClampNeg = 52 by decide] at h
  obtain ⟨M53, eM53⟩ : ∃ z : Mm, z = m_up M52 (n + 11) 52 (99 : Int32) := ⟨_, rfl⟩
  rw [← eM53] at h
  have h0 : ∀ a, n + 12 ≤ a → M53 a = fun _ => 0 := fun a ha => by rw [eM53, m_up_ne (by omega)]; exact h0 a (by omega)
  refine lv_dup hx hb dX12_init_407 rfl ?_
  refine lv_bipush (v := 53) hx hb dX12_init_408 (by decide) ?_
  refine lv_bipush (v := 97) hx hb dX12_init_410 (by decide) ?_
  refine fx_iast X h (k := n + 11) (i := (53 : Int32)) ((ap_at hn 11).trans rfl) (by unfold vp_in; decide) dX12_init_412 (fun H locs h => ?_)
  rw [show ((53 : Int32)).toNatClampNeg = 53 by decide] at h
  obtain ⟨M54, eM54⟩ : ∃ z : Mm, z = m_up M53 (n + 11) 53 (97 : Int32) := ⟨_, rfl⟩
  rw [← eM54] at h
  have h0 : ∀ a, n + 12 ≤ a → M54 a = fun _ => 0 := fun a ha => by rw [eM54, m_up_ne (by omega)]; exact h0 a (by omega)
  refine lv_dup hx hb dX12_init_413 rfl ?_
  refine lv_bipush (v := 54) hx hb dX12_init_414 (by decide) ?_
  refine lv_bipush (v := 114) hx hb dX12_init_416 (by decide) ?_
  refine fx_iast X h (k := n + 11) (i := (54 : Int32)) ((ap_at hn 11).trans rfl) (by unfold vp_in; decide) dX12_init_418 (fun H locs h => ?_)
  rw [show ((54 : Int32)).toNatClampNeg = 54 by decide] at h
  obtain ⟨M55, eM55⟩ : ∃ z : Mm, z = m_up M54 (n + 11) 54 (114 : Int32) := ⟨_, rfl⟩
  rw [← eM55] at h
  have h0 : ∀ a, n + 12 ≤ a → M55 a = fun _ => 0 := fun a ha => by rw [eM55, m_up_ne (by omega)]; exact h0 a (by omega)
  refine lv_dup hx hb dX12_init_419 rfl ?_
  refine lv_bipush (v := 55) hx hb dX12_init_420 (by decide) ?_
  refine lv_bipush (v := 101) hx hb dX12_init_422 (by decide) ?_
  refine fx_iast X h (k := n + 11) (i := (55 : Int32)) ((ap_at hn 11).trans rfl) (by unfold vp_in; decide) dX12_init_424 (fun H locs h => ?_)
  rw [show ((55 : Int32)).toNatClampNeg = 55 by decide] at h
  obtain ⟨M56, eM56⟩ : ∃ z : Mm, z = m_up M55 (n + 11) 55 (101 : Int32) := ⟨_, rfl⟩
  rw [← eM56] at h
  have h0 : ∀ a, n + 12 ≤ a → M56 a = fun _ => 0 := fun a ha => by rw [eM56, m_up_ne (by omega)]; exact h0 a (by omega)
  refine lv_dup hx hb dX12_init_425 rfl ?_
  refine lv_bipush (v := 56) hx hb dX12_init_426 (by decide) ?_
  refine lv_bipush (v := 32) hx hb dX12_init_428 (by decide) ?_
  refine fx_iast X h (k := n + 11) (i := (56 : Int32)) ((ap_at hn 11).trans rfl) (by unfold vp_in; decide) dX12_init_430 (fun H locs h => ?_)
  rw [show ((56 : Int32)).toNatClampNeg = 56 by decide] at h
  obtain ⟨M57, eM57⟩ : ∃ z : Mm, z = m_up M56 (n + 11) 56 (32 : Int32) := ⟨_, rfl⟩
  rw [← eM57] at h
  have h0 : ∀ a, n + 12 ≤ a → M57 a = fun _ => 0 := fun a ha => by rw [eM57, m_up_ne (by omega)]; exact h0 a (by omega)
  refine lv_dup hx hb dX12_init_431 rfl ?_
  refine lv_bipush (v := 57) hx hb dX12_init_432 (by decide) ?_
  refine lv_bipush (v := 115) hx hb dX12_init_434 (by decide) ?_
  refine fx_iast X h (k := n + 11) (i := (57 : Int32)) ((ap_at hn 11).trans rfl) (by unfold vp_in; decide) dX12_init_436 (fun H locs h => ?_)
  rw [show ((57 : Int32)).toNatClampNeg = 57 by decide] at h
  obtain ⟨M58, eM58⟩ : ∃ z : Mm, z = m_up M57 (n + 11) 57 (115 : Int32) := ⟨_, rfl⟩
  rw [← eM58] at h
  have h0 : ∀ a, n + 12 ≤ a → M58 a = fun _ => 0 := fun a ha => by rw [eM58, m_up_ne (by omega)]; exact h0 a (by omega)
  refine lv_dup hx hb dX12_init_437 rfl ?_
  refine lv_bipush (v := 58) hx hb dX12_init_438 (by decide) ?_
  refine lv_bipush (v := 104) hx hb dX12_init_440 (by decide) ?_
  refine fx_iast X h (k := n + 11) (i := (58 : Int32)) ((ap_at hn 11).trans rfl) (by unfold vp_in; decide) dX12_init_442 (fun H locs h => ?_)
  rw [show ((58 : Int32)).toNatClampNeg = 58 by decide] at h
  obtain ⟨M59, eM59⟩ : ∃ z : Mm, z = m_up M58 (n + 11) 58 (104 : Int32) := ⟨_, rfl⟩
  rw [← eM59] at h
  have h0 : ∀ a, n + 12 ≤ a → M59 a = fun _ => 0 := fun a ha => by rw [eM59, m_up_ne (by omega)]; exact h0 a (by omega)
  refine lv_dup hx hb dX12_init_443 rfl ?_
  refine lv_bipush (v := 59) hx hb dX12_init_444 (by decide) ?_
  refine lv_bipush (v := 105) hx hb dX12_init_446 (by decide) ?_
  refine fx_iast X h (k := n + 11) (i := (59 : Int32)) ((ap_at hn 11).trans rfl) (by unfold vp_in; decide) dX12_init_448 (fun H locs h => ?_)
  rw [show ((59 : Int32)).toNatClampNeg = 59 by decide] at h
  obtain ⟨M60, eM60⟩ : ∃ z : Mm, z = m_up M59 (n + 11) 59 (105 : Int32) := ⟨_, rfl⟩
  rw [← eM60] at h
  have h0 : ∀ a, n + 12 ≤ a → M60 a = fun _ => 0 := fun a ha => by rw [eM60, m_up_ne (by omega)]; exact h0 a (by omega)
  refine lv_dup hx hb dX12_init_449 rfl ?_
  refine lv_bipush (v := 60) hx hb dX12_init_450 (by decide) ?_
  refine lv_bipush (v := 108) hx hb dX12_init_452 (by decide) ?_
  refine fx_iast X h (k := n + 11) (i := (60 : Int32)) ((ap_at hn 11).trans rfl) (by unfold vp_in; decide) dX12_init_454 (fun H locs h => ?_)
  rw [show ((60 : Int32)).toNatClampNeg = 60 by decide] at h
  obtain ⟨M61, eM61⟩ : ∃ z : Mm, z = m_up M60 (n + 11) 60 (108 : Int32) := ⟨_, rfl⟩
  rw [← eM61] at h
  have h0 : ∀ a, n + 12 ≤ a → M61 a = fun _ => 0 := fun a ha => by rw [eM61, m_up_ne (by omega)]; exact h0 a (by omega)
  refine lv_dup hx hb dX12_init_455 rfl ?_
  refine lv_bipush (v := 61) hx hb dX12_init_456 (by decide) ?_
  refine lv_bipush (v := 108) hx hb dX12_init_458 (by decide) ?_
  refine fx_iast X h (k := n + 11) (i := (61 : Int32)) ((ap_at hn 11).trans rfl) (by unfold vp_in; decide) dX12_init_460 (fun H locs h => ?_)
  rw [show ((61 : Int32)).toNatClampNeg = 61 by decide] at h
  obtain ⟨M62, eM62⟩ : ∃ z : Mm, z = m_up M61 (n + 11) 61 (108 : Int32) := ⟨_, rfl⟩
  rw [← eM62] at h
  have h0 : ∀ a, n + 12 ≤ a → M62 a = fun _ => 0 := fun a ha => by rw [eM62, m_up_ne (by omega)]; exact h0 a (by omega)
  refine lv_dup hx hb dX12_init_461 rfl ?_
  refine lv_bipush (v := 62) hx hb dX12_init_462 (by decide) ?_
  refine lv_bipush (v := 32) hx hb dX12_init_464 (by decide) ?_
  refine fx_iast X h (k := n + 11) (i := (62 : Int32)) ((ap_at hn 11).trans rfl) (by unfold vp_in; decide) dX12_init_466 (fun H locs h => ?_)
  rw [show ((62 : Int32)).toNatClampNeg = 62 by decide] at h
  obtain ⟨M63, eM63⟩ : ∃ z : Mm, z = m_up M62 (n + 11) 62 (32 : Int32) := ⟨_, rfl⟩
  rw [← eM63] at h
  have h0 : ∀ a, n + 12 ≤ a → M63 a = fun _ => 0 := fun a ha => by rw [eM63, m_up_ne (by omega)]; exact h0 a (by omega)
  refine lv_dup hx hb dX12_init_467 rfl ?_
  refine lv_bipush (v := 63) hx hb dX12_init_468 (by decide) ?_
  refine lv_bipush (v := 112) hx hb dX12_init_470 (by decide) ?_
  refine fx_iast X h (k := n + 11) (i := (63 : Int32)) ((ap_at hn 11).trans rfl) (by unfold vp_in; decide) dX12_init_472 (fun H locs h => ?_)
  rw [show ((63 : Int32)).toNatClampNeg = 63 by decide] at h
  obtain ⟨M64, eM64⟩ : ∃ z : Mm, z = m_up M63 (n + 11) 63 (112 : Int32) := ⟨_, rfl⟩
  rw [← eM64] at h
  have h0 : ∀ a, n + 12 ≤ a → M64 a = fun _ => 0 := fun a ha => by rw [eM64, m_up_ne (by omega)]; exact h0 a (by omega)
  refine lv_dup hx hb dX12_init_473 rfl ?_
  refine lv_bipush (v := 64) hx hb dX12_init_474 (by decide) ?_
  refine lv_bipush (v := 117) hx hb dX12_init_476 (by decide) ?_
  refine fx_iast X h (k := n + 11) (i := (64 : Int32)) ((ap_at hn 11).trans rfl) (by unfold vp_in; decide) dX12_init_478 (fun H locs h => ?_)
  rw [show ((64 : Int32)).toNatClampNeg = 64 by decide] at h
  obtain ⟨M65, eM65⟩ : ∃ z : Mm, z = m_up M64 (n + 11) 64 (117 : Int32) := ⟨_, rfl⟩
  rw [← eM65] at h
  have h0 : ∀ a, n + 12 ≤ a → M65 a = fun _ => 0 := fun a ha => by rw [eM65, m_up_ne (by omega)]; exact h0 a (by omega)
  refine lv_dup hx hb dX12_init_479 rfl ?_
  refine lv_bipush (v := 65) hx hb dX12_init_480 (by decide) ?_
  refine lv_bipush (v := 114) hx hb dX12_init_482 (by decide) ?_
  refine fx_iast X h (k := n + 11) (i := (65 : Int32)) ((ap_at hn 11).trans rfl) (by unfold vp_in; decide) dX12_init_484 (fun H locs h => ?_)
  rw [show ((65 : Int32)).toNatClampNeg = 65 by decide] at h
  obtain ⟨M66, eM66⟩ : ∃ z : Mm, z = m_up M65 (n + 11) 65 (114 : Int32) := ⟨_, rfl⟩
  rw [← eM66] at h
  have h0 : ∀ a, n + 12 ≤ a → M66 a = fun _ => 0 := fun a ha => by rw [eM66, m_up_ne (by omega)]; exact h0 a (by omega)
  refine lv_dup hx hb dX12_init_485 rfl ?_
  refine lv_bipush (v := 66) hx hb dX12_init_486 (by decide) ?_
  refine lv_bipush (v := 115) hx hb dX12_init_488 (by decide) ?_
  refine fx_iast X h (k := n + 11) (i := (66 : Int32)) ((ap_at hn 11).trans rfl) (by unfold vp_in; decide) dX12_init_490 (fun H locs h => ?_)
  rw [show ((66 : Int32)).toNatClampNeg = 66 by decide] at h
  obtain ⟨M67, eM67⟩ : ∃ z : Mm, z = m_up M66 (n + 11) 66 (115 : Int32) := ⟨_, rfl⟩
  rw [← eM67] at h
  have h0 : ∀ a, n + 12 ≤ a → M67 a = fun _ => 0 := fun a ha => by rw [eM67, m_up_ne (by omega)]; exact h0 a (by omega)
  refine lv_dup hx hb dX12_init_491 rfl ?_
  refine lv_bipush (v := 67) hx hb dX12_init_492 (by decide) ?_
  refine lv_bipush (v := 101) hx hb dX12_init_494 (by decide) ?_
  refine fx_iast X h (k := n + 11) (i := (67 : Int32)) ((ap_at hn 11).trans rfl) (by unfold vp_in; decide) dX12_init_496 (fun H locs h => ?_)
  rw [show ((67 : Int32)).toNatClampNeg = 67 by decide] at h
  obtain ⟨M68, eM68⟩ : ∃ z : Mm, z = m_up M67 (n + 11) 67 (101 : Int32) := ⟨_, rfl⟩
  rw [← eM68] at h
  have h0 : ∀ a, n + 12 ≤ a → M68 a = fun _ => 0 := fun a ha => by rw [eM68, m_up_ne (by omega)]; exact h0 a (by omega)
  refine lv_dup hx hb dX12_init_497 rfl ?_
  refine lv_bipush (v := 68) hx hb dX12_init_498 (by decide) ?_
  refine lv_bipush (v := 32) hx hb dX12_init_500 (by decide) ?_
  refine fx_iast X h (k := n + 11) (i := (68 : Int32)) ((ap_at hn 11).trans rfl) (by unfold vp_in; decide) dX12_init_502 (fun H locs h => ?_)
  rw [show ((68 : Int32)).toNatClampNeg = 68 by decide] at h
  obtain ⟨M69, eM69⟩ : ∃ z : Mm, z = m_up M68 (n + 11) 68 (32 : Int32) := ⟨_, rfl⟩
  rw [← eM69] at h
  have h0 : ∀ a, n + 12 ≤ a → M69 a = fun _ => 0 := fun a ha => by rw [eM69, m_up_ne (by omega)]; exact h0 a (by omega)
  refine lv_dup hx hb dX12_init_503 rfl ?_
  refine lv_bipush (v := 69) hx hb dX12_init_504 (by decide) ?_
  refine lv_bipush (v := 112) hx hb dX12_init_506 (by decide) ?_
  refine fx_iast X h (k := n + 11) (i := (69 : Int32)) ((ap_at hn 11).trans rfl) (by unfold vp_in; decide) dX12_init_508 (fun H locs h => ?_)
  rw [show ((69 : Int32)).toNatClampNeg = 69 by decide] at h
  obtain ⟨M70, eM70⟩ : ∃ z : Mm, z = m_up M69 (n + 11) 69 (112 : Int32) := ⟨_, rfl⟩
  rw [← eM70] at h
  have h0 : ∀ a, n + 12 ≤ a → M70 a = fun _ => 0 := fun a ha => by rw [eM70, m_up_ne (by omega)]; exact h0 a (by omega)
  refine lv_dup hx hb dX12_init_509 rfl ?_
  refine lv_bipush (v := 70) hx hb dX12_init_510 (by decide) ?_
  refine lv_bipush (v := 114) hx hb dX12_init_512 (by decide) ?_
  refine fx_iast X h (k := n + 11) (i := (70 : Int32)) ((ap_at hn 11).trans rfl) (by unfold vp_in; decide) dX12_init_514 (fun H locs h => ?_)
  rw [show ((70 : Int32)).toNatClampNeg = 70 by decide] at h
  obtain ⟨M71, eM71⟩ : ∃ z : Mm, z = m_up M70 (n + 11) 70 (114 : Int32) := ⟨_, rfl⟩
  rw [← eM71] at h
  have h0 : ∀ a, n + 12 ≤ a → M71 a = fun _ => 0 := fun a ha => by rw [eM71, m_up_ne (by omega)]; exact h0 a (by omega)
  refine lv_dup hx hb dX12_init_515 rfl ?_
  refine lv_bipush (v := 71) hx hb dX12_init_516 (by decide) ?_
  refine lv_bipush (v := 105) hx hb dX12_init_518 (by decide) ?_
  refine fx_iast X h (k := n + 11) (i := (71 : Int32)) ((ap_at hn 11).trans rfl) (by unfold vp_in; decide) dX12_init_520 (fun H locs h => ?_)
  rw [show ((71 : Int32)).toNatClampNeg = 71 by decide] at h
  obtain ⟨M72, eM72⟩ : ∃ z : Mm, z = m_up M71 (n + 11) 71 (105 : Int32) := ⟨_, rfl⟩
  rw [← eM72] at h
  have h0 : ∀ a, n + 12 ≤ a → M72 a = fun _ => 0 := fun a ha => by rw [eM72, m_up_ne (by omega)]; exact h0 a (by omega)
  refine lv_dup hx hb dX12_init_521 rfl ?_
  refine lv_bipush (v := 72) hx hb dX12_init_522 (by decide) ?_
  refine lv_bipush (v := 99) hx hb dX12_init_524 (by decide) ?_
  refine fx_iast X h (k := n + 11) (i := (72 : Int32)) ((ap_at hn 11).trans rfl) (by unfold vp_in; decide) dX12_init_526 (fun H locs h => ?_)
  rw [show ((72 : Int32)).toNatClampNeg = 72 by decide] at h
  obtain ⟨M73, eM73⟩ : ∃ z : Mm, z = m_up M72 (n + 11) 72 (99 : Int32) := ⟨_, rfl⟩
  rw [← eM73] at h
  have h0 : ∀ a, n + 12 ≤ a → M73 a = fun _ => 0 := fun a ha => by rw [eM73, m_up_ne (by omega)]; exact h0 a (by omega)
  refine lv_dup hx hb dX12_init_527 rfl ?_
  refine lv_bipush (v := 73) hx hb dX12_init_528 (by decide) ?_
  refine lv_bipush (v := 101) hx hb dX12_init_530 (by decide) ?_
  refine fx_iast X h (k := n + 11) (i := (73 : Int32)) ((ap_at hn 11).trans rfl) (by unfold vp_in; decide) dX12_init_532 (fun H locs h => ?_)
  rw [show ((73 : Int32)).toNatClampNeg = 73 by decide] at h
  obtain ⟨M74, eM74⟩ : ∃ z : Mm, z = m_up M73 (n + 11) 73 (101 : Int32) := ⟨_, rfl⟩
  rw [← eM74] at h
  have h0 : ∀ a, n + 12 ≤ a → M74 a = fun _ => 0 := fun a ha => by rw [eM74, m_up_ne (by omega)]; exact h0 a (by omega)
  refine lv_dup hx hb dX12_init_533 rfl ?_
  refine lv_bipush (v := 74) hx hb dX12_init_534 (by decide) ?_
  refine lv_bipush (v := 32) hx hb dX12_init_536 (by decide) ?_
  refine fx_iast X h (k := n + 11) (i := (74 : Int32)) ((ap_at hn 11).trans rfl) (by unfold vp_in; decide) dX12_init_538 (fun H locs h => ?_)
  rw [show ((74 : Int32)).toNatClampNeg = 74 by decide] at h
  obtain ⟨M75, eM75⟩ : ∃ z : Mm, z = m_up M74 (n + 11) 74 (32 : Int32) := ⟨_, rfl⟩
  rw [← eM75] at h
  have h0 : ∀ a, n + 12 ≤ a → M75 a = fun _ => 0 := fun a ha => by rw [eM75, m_up_ne (by omega)]; exact h0 a (by omega)
  refine lv_dup hx hb dX12_init_539 rfl ?_
  refine lv_bipush (v := 75) hx hb dX12_init_540 (by decide) ?_
  refine lv_bipush (v := 114) hx hb dX12_init_542 (by decide) ?_
  refine fx_iast X h (k := n + 11) (i := (75 : Int32)) ((ap_at hn 11).trans rfl) (by unfold vp_in; decide) dX12_init_544 (fun H locs h => ?_)
  rw [show ((75 : Int32)).toNatClampNeg = 75 by decide] at h
  obtain ⟨M76, eM76⟩ : ∃ z : Mm, z = m_up M75 (n + 11) 75 (114 : Int32) := ⟨_, rfl⟩
  rw [← eM76] at h
  have h0 : ∀ a, n + 12 ≤ a → M76 a = fun _ => 0 := fun a ha => by rw [eM76, m_up_ne (by omega)]; exact h0 a (by omega)
  refine lv_dup hx hb dX12_init_545 rfl ?_
  refine lv_bipush (v := 76) hx hb dX12_init_546 (by decide) ?_
  refine lv_bipush (v := 111) hx hb dX12_init_548 (by decide) ?_
  refine fx_iast X h (k := n + 11) (i := (76 : Int32)) ((ap_at hn 11).trans rfl) (by unfold vp_in; decide) dX12_init_550 (fun H locs h => ?_)
  rw [show ((76 : Int32)).toNatClampNeg = 76 by decide] at h
  obtain ⟨M77, eM77⟩ : ∃ z : Mm, z = m_up M76 (n + 11) 76 (111 : Int32) := ⟨_, rfl⟩
  rw [← eM77] at h
  have h0 : ∀ a, n + 12 ≤ a → M77 a = fun _ => 0 := fun a ha => by rw [eM77, m_up_ne (by omega)]; exact h0 a (by omega)
  refine lv_dup hx hb dX12_init_551 rfl ?_
  refine lv_bipush (v := 77) hx hb dX12_init_552 (by decide) ?_
  refine lv_bipush (v := 117) hx hb dX12_init_554 (by decide) ?_
  refine fx_iast X h (k := n + 11) (i := (77 : Int32)) ((ap_at hn 11).trans rfl) (by unfold vp_in; decide) dX12_init_556 (fun H locs h => ?_)
  rw [show ((77 : Int32)).toNatClampNeg = 77 by decide] at h
  obtain ⟨M78, eM78⟩ : ∃ z : Mm, z = m_up M77 (n + 11) 77 (117 : Int32) := ⟨_, rfl⟩
  rw [← eM78] at h
  have h0 : ∀ a, n + 12 ≤ a → M78 a = fun _ => 0 := fun a ha => by rw [eM78, m_up_ne (by omega)]; exact h0 a (by omega)
  refine lv_dup hx hb dX12_init_557 rfl ?_
  refine lv_bipush (v := 78) hx hb dX12_init_558 (by decide) ?_
  refine lv_bipush (v := 110) hx hb dX12_init_560 (by decide) ?_
  refine fx_iast X h (k := n + 11) (i := (78 : Int32)) ((ap_at hn 11).trans rfl) (by unfold vp_in; decide) dX12_init_562 (fun H locs h => ?_)
  rw [show ((78 : Int32)).toNatClampNeg = 78 by decide] at h
  obtain ⟨M79, eM79⟩ : ∃ z : Mm, z = m_up M78 (n + 11) 78 (110 : Int32) := ⟨_, rfl⟩
  rw [← eM79] at h
  have h0 : ∀ a, n + 12 ≤ a → M79 a = fun _ => 0 := fun a ha => by rw [eM79, m_up_ne (by omega)]; exact h0 a (by omega)
  refine lv_dup hx hb dX12_init_563 rfl ?_
  refine lv_bipush (v := 79) hx hb dX12_init_564 (by decide) ?_
  refine lv_bipush (v := 100) hx hb dX12_init_566 (by decide) ?_
  refine fx_iast X h (k := n + 11) (i := (79 : Int32)) ((ap_at hn 11).trans rfl) (by unfold vp_in; decide) dX12_init_568 (fun H locs h => ?_)
  rw [show ((79 : Int32)).toNatClampNeg = 79 by decide] at h
  obtain ⟨M80, eM80⟩ : ∃ z : Mm, z = m_up M79 (n + 11) 79 (100 : Int32) := ⟨_, rfl⟩
  rw [← eM80] at h
  have h0 : ∀ a, n + 12 ≤ a → M80 a = fun _ => 0 := fun a ha => by rw [eM80, m_up_ne (by omega)]; exact h0 a (by omega)
  refine lv_dup hx hb dX12_init_569 rfl ?_
  refine lv_bipush (v := 80) hx hb dX12_init_570 (by decide) ?_
  refine lv_bipush (v := 32) hx hb dX12_init_572 (by decide) ?_
  refine fx_iast X h (k := n + 11) (i := (80 : Int32)) ((ap_at hn 11).trans rfl) (by unfold vp_in; decide) dX12_init_574 (fun H locs h => ?_)
  rw [show ((80 : Int32)).toNatClampNeg = 80 by decide] at h
  obtain ⟨M81, eM81⟩ : ∃ z : Mm, z = m_up M80 (n + 11) 80 (32 : Int32) := ⟨_, rfl⟩
  rw [← eM81] at h
  have h0 : ∀ a, n + 12 ≤ a → M81 a = fun _ => 0 := fun a ha => by rw [eM81, m_up_ne (by omega)]; exact h0 a (by omega)
  refine lv_dup hx hb dX12_init_575 rfl ?_
  refine lv_bipush (v := 81) hx hb dX12_init_576 (by decide) ?_
  refine lv_bipush (v := 99) hx hb dX12_init_578 (by decide) ?_
  refine fx_iast X h (k := n + 11) (i := (81 : Int32)) ((ap_at hn 11).trans rfl) (by unfold vp_in; decide) dX12_init_580 (fun H locs h => ?_)
  rw [show ((81 : Int32)).toNatClampNeg = 81 by decide] at h
  obtain ⟨M82, eM82⟩ : ∃ z : Mm, z = m_up M81 (n + 11) 81 (99 : Int32) := ⟨_, rfl⟩
  rw [← eM82] at h
  have h0 : ∀ a, n + 12 ≤ a → M82 a = fun _ => 0 := fun a ha => by rw [eM82, m_up_ne (by omega)]; exact h0 a (by omega)
  refine lv_dup hx hb dX12_init_581 rfl ?_
  refine lv_bipush (v := 82) hx hb dX12_init_582 (by decide) ?_
  refine lv_bipush (v := 114) hx hb dX12_init_584 (by decide) ?_
  refine fx_iast X h (k := n + 11) (i := (82 : Int32)) ((ap_at hn 11).trans rfl) (by unfold vp_in; decide) dX12_init_586 (fun H locs h => ?_)
  rw [show ((82 : Int32)).toNatClampNeg = 82 by decide] at h
  obtain ⟨M83, eM83⟩ : ∃ z : Mm, z = m_up M82 (n + 11) 82 (114 : Int32) := ⟨_, rfl⟩
  rw [← eM83] at h
  have h0 : ∀ a, n + 12 ≤ a → M83 a = fun _ => 0 := fun a ha => by rw [eM83, m_up_ne (by omega)]; exact h0 a (by omega)
  refine lv_dup hx hb dX12_init_587 rfl ?_
  refine lv_bipush (v := 83) hx hb dX12_init_588 (by decide) ?_
  refine lv_bipush (v := 111) hx hb dX12_init_590 (by decide) ?_
  refine fx_iast X h (k := n + 11) (i := (83 : Int32)) ((ap_at hn 11).trans rfl) (by unfold vp_in; decide) dX12_init_592 (fun H locs h => ?_)
  rw [show ((83 : Int32)).toNatClampNeg = 83 by decide] at h
  obtain ⟨M84, eM84⟩ : ∃ z : Mm, z = m_up M83 (n + 11) 83 (111 : Int32) := ⟨_, rfl⟩
  rw [← eM84] at h
  have h0 : ∀ a, n + 12 ≤ a → M84 a = fun _ => 0 := fun a ha => by rw [eM84, m_up_ne (by omega)]; exact h0 a (by omega)
  refine lv_dup hx hb dX12_init_593 rfl ?_
  refine lv_bipush (v := 84) hx hb dX12_init_594 (by decide) ?_
  refine lv_bipush (v := 119) hx hb dX12_init_596 (by decide) ?_
  refine fx_iast X h (k := n + 11) (i := (84 : Int32)) ((ap_at hn 11).trans rfl) (by unfold vp_in; decide) dX12_init_598 (fun H locs h => ?_)
  rw [show ((84 : Int32)).toNatClampNeg = 84 by decide] at h
  obtain ⟨M85, eM85⟩ : ∃ z : Mm, z = m_up M84 (n + 11) 84 (119 : Int32) := ⟨_, rfl⟩
  rw [← eM85] at h
  have h0 : ∀ a, n + 12 ≤ a → M85 a = fun _ => 0 := fun a ha => by rw [eM85, m_up_ne (by omega)]; exact h0 a (by omega)
  refine lv_dup hx hb dX12_init_599 rfl ?_
  refine lv_bipush (v := 85) hx hb dX12_init_600 (by decide) ?_
  refine lv_bipush (v := 100) hx hb dX12_init_602 (by decide) ?_
  refine fx_iast X h (k := n + 11) (i := (85 : Int32)) ((ap_at hn 11).trans rfl) (by unfold vp_in; decide) dX12_init_604 (fun H locs h => ?_)
  rw [show ((85 : Int32)).toNatClampNeg = 85 by decide] at h
  obtain ⟨M86, eM86⟩ : ∃ z : Mm, z = m_up M85 (n + 11) 85 (100 : Int32) := ⟨_, rfl⟩
  rw [← eM86] at h
  have h0 : ∀ a, n + 12 ≤ a → M86 a = fun _ => 0 := fun a ha => by rw [eM86, m_up_ne (by omega)]; exact h0 a (by omega)
  refine lv_dup hx hb dX12_init_605 rfl ?_
  refine lv_bipush (v := 86) hx hb dX12_init_606 (by decide) ?_
  refine lv_bipush (v := 32) hx hb dX12_init_608 (by decide) ?_
  refine fx_iast X h (k := n + 11) (i := (86 : Int32)) ((ap_at hn 11).trans rfl) (by unfold vp_in; decide) dX12_init_610 (fun H locs h => ?_)
  rw [show ((86 : Int32)).toNatClampNeg = 86 by decide] at h
  obtain ⟨M87, eM87⟩ : ∃ z : Mm, z = m_up M86 (n + 11) 86 (32 : Int32) := ⟨_, rfl⟩
  rw [← eM87] at h
  have h0 : ∀ a, n + 12 ≤ a → M87 a = fun _ => 0 := fun a ha => by rw [eM87, m_up_ne (by omega)]; exact h0 a (by omega)
  refine lv_dup hx hb dX12_init_611 rfl ?_
  refine lv_bipush (v := 87) hx hb dX12_init_612 (by decide) ?_
  refine lv_bipush (v := 119) hx hb dX12_init_614 (by decide) ?_
  refine fx_iast X h (k := n + 11) (i := (87 : Int32)) ((ap_at hn 11).trans rfl) (by unfold vp_in; decide) dX12_init_616 (fun H locs h => ?_)
  rw [show ((87 : Int32)).toNatClampNeg = 87 by decide] at h
  obtain ⟨M88, eM88⟩ : ∃ z : Mm, z = m_up M87 (n + 11) 87 (119 : Int32) := ⟨_, rfl⟩
  rw [← eM88] at h
  have h0 : ∀ a, n + 12 ≤ a → M88 a = fun _ => 0 := fun a ha => by rw [eM88, m_up_ne (by omega)]; exact h0 a (by omega)
  refine lv_dup hx hb dX12_init_617 rfl ?_
  refine lv_bipush (v := 88) hx hb dX12_init_618 (by decide) ?_
  refine lv_bipush (v := 101) hx hb dX12_init_620 (by decide) ?_
  refine fx_iast X h (k := n + 11) (i := (88 : Int32)) ((ap_at hn 11).trans rfl) (by unfold vp_in; decide) dX12_init_622 (fun H locs h => ?_)
  rw [show ((88 : Int32)).toNatClampNeg = 88 by decide] at h
  obtain ⟨M89, eM89⟩ : ∃ z : Mm, z = m_up M88 (n + 11) 88 (101 : Int32) := ⟨_, rfl⟩
  rw [← eM89] at h
  have h0 : ∀ a, n + 12 ≤ a → M89 a = fun _ => 0 := fun a ha => by rw [eM89, m_up_ne (by omega)]; exact h0 a (by omega)
  refine lv_dup hx hb dX12_init_623 rfl ?_
  refine lv_bipush (v := 89) hx hb dX12_init_624 (by decide) ?_
  refine lv_bipush (v := 116) hx hb dX12_init_626 (by decide) ?_
  refine fx_iast X h (k := n + 11) (i := (89 : Int32)) ((ap_at hn 11).trans rfl) (by unfold vp_in; decide) dX12_init_628 (fun H locs h => ?_)
  rw [show ((89 : Int32)).toNatClampNeg = 89 by decide] at h
  obtain ⟨M90, eM90⟩ : ∃ z : Mm, z = m_up M89 (n + 11) 89 (116 : Int32) := ⟨_, rfl⟩
  rw [← eM90] at h
  have h0 : ∀ a, n + 12 ≤ a → M90 a = fun _ => 0 := fun a ha => by rw [eM90, m_up_ne (by omega)]; exact h0 a (by omega)
  refine lv_dup hx hb dX12_init_629 rfl ?_
  refine lv_bipush (v := 90) hx hb dX12_init_630 (by decide) ?_
  refine lv_bipush (v := 32) hx hb dX12_init_632 (by decide) ?_
  refine fx_iast X h (k := n + 11) (i := (90 : Int32)) ((ap_at hn 11).trans rfl) (by unfold vp_in; decide) dX12_init_634 (fun H locs h => ?_)
  rw [show ((90 : Int32)).toNatClampNeg = 90 by decide] at h
  obtain ⟨M91, eM91⟩ : ∃ z : Mm, z = m_up M90 (n + 11) 90 (32 : Int32) := ⟨_, rfl⟩
  rw [← eM91] at h
  have h0 : ∀ a, n + 12 ≤ a → M91 a = fun _ => 0 := fun a ha => by rw [eM91, m_up_ne (by omega)]; exact h0 a (by omega)
  refine lv_dup hx hb dX12_init_635 rfl ?_
  refine lv_bipush (v := 91) hx hb dX12_init_636 (by decide) ?_
  refine lv_bipush (v := 104) hx hb dX12_init_638 (by decide) ?_
  refine fx_iast X h (k := n + 11) (i := (91 : Int32)) ((ap_at hn 11).trans rfl) (by unfold vp_in; decide) dX12_init_640 (fun H locs h => ?_)
  rw [show ((91 : Int32)).toNatClampNeg = 91 by decide] at h
  obtain ⟨M92, eM92⟩ : ∃ z : Mm, z = m_up M91 (n + 11) 91 (104 : Int32) := ⟨_, rfl⟩
  rw [← eM92] at h
  have h0 : ∀ a, n + 12 ≤ a → M92 a = fun _ => 0 := fun a ha => by rw [eM92, m_up_ne (by omega)]; exact h0 a (by omega)
  refine lv_dup hx hb dX12_init_641 rfl ?_
  refine lv_bipush (v := 92) hx hb dX12_init_642 (by decide) ?_
  refine lv_bipush (v := 97) hx hb dX12_init_644 (by decide) ?_
  refine fx_iast X h (k := n + 11) (i := (92 : Int32)) ((ap_at hn 11).trans rfl) (by unfold vp_in; decide) dX12_init_646 (fun H locs h => ?_)
  rw [show ((92 : Int32)).toNatClampNeg = 92 by decide] at h
  obtain ⟨M93, eM93⟩ : ∃ z : Mm, z = m_up M92 (n + 11) 92 (97 : Int32) := ⟨_, rfl⟩
  rw [← eM93] at h
  have h0 : ∀ a, n + 12 ≤ a → M93 a = fun _ => 0 := fun a ha => by rw [eM93, m_up_ne (by omega)]; exact h0 a (by omega)
  refine lv_dup hx hb dX12_init_647 rfl ?_
  refine lv_bipush (v := 93) hx hb dX12_init_648 (by decide) ?_
  refine lv_bipush (v := 115) hx hb dX12_init_650 (by decide) ?_
  refine fx_iast X h (k := n + 11) (i := (93 : Int32)) ((ap_at hn 11).trans rfl) (by unfold vp_in; decide) dX12_init_652 (fun H locs h => ?_)
  rw [show ((93 : Int32)).toNatClampNeg = 93 by decide] at h
  obtain ⟨M94, eM94⟩ : ∃ z : Mm, z = m_up M93 (n + 11) 93 (115 : Int32) := ⟨_, rfl⟩
  rw [← eM94] at h
  have h0 : ∀ a, n + 12 ≤ a → M94 a = fun _ => 0 := fun a ha => by rw [eM94, m_up_ne (by omega)]; exact h0 a (by omega)
  refine lv_dup hx hb dX12_init_653 rfl ?_
  refine lv_bipush (v := 94) hx hb dX12_init_654 (by decide) ?_
  refine lv_bipush (v := 32) hx hb dX12_init_656 (by decide) ?_
  refine fx_iast X h (k := n + 11) (i := (94 : Int32)) ((ap_at hn 11).trans rfl) (by unfold vp_in; decide) dX12_init_658 (fun H locs h => ?_)
  rw [show ((94 : Int32)).toNatClampNeg = 94 by decide] at h
  obtain ⟨M95, eM95⟩ : ∃ z : Mm, z = m_up M94 (n + 11) 94 (32 : Int32) := ⟨_, rfl⟩
  rw [← eM95] at h
  have h0 : ∀ a, n + 12 ≤ a → M95 a = fun _ => 0 := fun a ha => by rw [eM95, m_up_ne (by omega)]; exact h0 a (by omega)
  refine lv_dup hx hb dX12_init_659 rfl ?_
  refine lv_bipush (v := 95) hx hb dX12_init_660 (by decide) ?_
  refine lv_bipush (v := 100) hx hb dX12_init_662 (by decide) ?_
  refine fx_iast X h (k := n + 11) (i := (95 : Int32)) ((ap_at hn 11).trans rfl) (by unfold vp_in; decide) dX12_init_664 (fun H locs h => ?_)
  rw [show ((95 : Int32)).toNatClampNeg = 95 by decide] at h
  obtain ⟨M96, eM96⟩ : ∃ z : Mm, z = m_up M95 (n + 11) 95 (100 : Int32) := ⟨_, rfl⟩
  rw [← eM96] at h
  have h0 : ∀ a, n + 12 ≤ a → M96 a = fun _ => 0 := fun a ha => by rw [eM96, m_up_ne (by omega)]; exact h0 a (by omega)
  refine lv_dup hx hb dX12_init_665 rfl ?_
  refine lv_bipush (v := 96) hx hb dX12_init_666 (by decide) ?_
  refine lv_bipush (v := 97) hx hb dX12_init_668 (by decide) ?_
  refine fx_iast X h (k := n + 11) (i := (96 : Int32)) ((ap_at hn 11).trans rfl) (by unfold vp_in; decide) dX12_init_670 (fun H locs h => ?_)
  rw [show ((96 : Int32)).toNatClampNeg = 96 by decide] at h
  obtain ⟨M97, eM97⟩ : ∃ z : Mm, z = m_up M96 (n + 11) 96 (97 : Int32) := ⟨_, rfl⟩
  rw [← eM97] at h
  have h0 : ∀ a, n + 12 ≤ a → M97 a = fun _ => 0 := fun a ha => by rw [eM97, m_up_ne (by omega)]; exact h0 a (by omega)
  refine lv_dup hx hb dX12_init_671 rfl ?_
  refine lv_bipush (v := 97) hx hb dX12_init_672 (by decide) ?_
  refine lv_bipush (v := 121) hx hb dX12_init_674 (by decide) ?_
  refine fx_iast X h (k := n + 11) (i := (97 : Int32)) ((ap_at hn 11).trans rfl) (by unfold vp_in; decide) dX12_init_676 (fun H locs h => ?_)
  rw [show ((97 : Int32)).toNatClampNeg = 97 by decide] at h
  obtain ⟨M98, eM98⟩ : ∃ z : Mm, z = m_up M97 (n + 11) 97 (121 : Int32) := ⟨_, rfl⟩
  rw [← eM98] at h
  have h0 : ∀ a, n + 12 ≤ a → M98 a = fun _ => 0 := fun a ha => by rw [eM98, m_up_ne (by omega)]; exact h0 a (by omega)
  refine lv_dup hx hb dX12_init_677 rfl ?_
  refine lv_bipush (v := 98) hx hb dX12_init_678 (by decide) ?_
  refine lv_bipush (v := 32) hx hb dX12_init_680 (by decide) ?_
  refine fx_iast X h (k := n + 11) (i := (98 : Int32)) ((ap_at hn 11).trans rfl) (by unfold vp_in; decide) dX12_init_682 (fun H locs h => ?_)
  rw [show ((98 : Int32)).toNatClampNeg = 98 by decide] at h
  obtain ⟨M99, eM99⟩ : ∃ z : Mm, z = m_up M98 (n + 11) 98 (32 : Int32) := ⟨_, rfl⟩
  rw [← eM99] at h
  have h0 : ∀ a, n + 12 ≤ a → M99 a = fun _ => 0 := fun a ha => by rw [eM99, m_up_ne (by omega)]; exact h0 a (by omega)
  refine lv_dup hx hb dX12_init_683 rfl ?_
  refine lv_bipush (v := 99) hx hb dX12_init_684 (by decide) ?_
  refine lv_bipush (v := 98) hx hb dX12_init_686 (by decide) ?_
  refine fx_iast X h (k := n + 11) (i := (99 : Int32)) ((ap_at hn 11).trans rfl) (by unfold vp_in; decide) dX12_init_688 (fun H locs h => ?_)
  rw [show ((99 : Int32)).toNatClampNeg = 99 by decide] at h
  obtain ⟨M100, eM100⟩ : ∃ z : Mm, z = m_up M99 (n + 11) 99 (98 : Int32) := ⟨_, rfl⟩
  rw [← eM100] at h
  have h0 : ∀ a, n + 12 ≤ a → M100 a = fun _ => 0 := fun a ha => by rw [eM100, m_up_ne (by omega)]; exact h0 a (by omega)
  refine lv_dup hx hb dX12_init_689 rfl ?_
  refine lv_bipush (v := 100) hx hb dX12_init_690 (by decide) ?_
  refine lv_bipush (v := 105) hx hb dX12_init_692 (by decide) ?_
  refine fx_iast X h (k := n + 11) (i := (100 : Int32)) ((ap_at hn 11).trans rfl) (by unfold vp_in; decide) dX12_init_694 (fun H locs h => ?_)
  rw [show ((100 : Int32)).toNatClampNeg = 100 by decide] at h
  obtain ⟨M101, eM101⟩ : ∃ z : Mm, z = m_up M100 (n + 11) 100 (105 : Int32) := ⟨_, rfl⟩
  rw [← eM101] at h
  have h0 : ∀ a, n + 12 ≤ a → M101 a = fun _ => 0 := fun a ha => by rw [eM101, m_up_ne (by omega)]; exact h0 a (by omega)
  refine lv_dup hx hb dX12_init_695 rfl ?_
  refine lv_bipush (v := 101) hx hb dX12_init_696 (by decide) ?_
  refine lv_bipush (v := 100) hx hb dX12_init_698 (by decide) ?_
  refine fx_iast X h (k := n + 11) (i := (101 : Int32)) ((ap_at hn 11).trans rfl) (by unfold vp_in; decide) dX12_init_700 (fun H locs h => ?_)
  rw [show ((101 : Int32)).toNatClampNeg = 101 by decide] at h
  obtain ⟨M102, eM102⟩ : ∃ z : Mm, z = m_up M101 (n + 11) 101 (100 : Int32) := ⟨_, rfl⟩
  rw [← eM102] at h
  have h0 : ∀ a, n + 12 ≤ a → M102 a = fun _ => 0 := fun a ha => by rw [eM102, m_up_ne (by omega)]; exact h0 a (by omega)
  refine lv_dup hx hb dX12_init_701 rfl ?_
  refine lv_bipush (v := 102) hx hb dX12_init_702 (by decide) ?_
  refine lv_bipush (v := 100) hx hb dX12_init_704 (by decide) ?_
  refine fx_iast X h (k := n + 11) (i := (102 : Int32)) ((ap_at hn 11).trans rfl) (by unfold vp_in; decide) dX12_init_706 (fun H locs h => ?_)
  rw [show ((102 : Int32)).toNatClampNeg = 102 by decide] at h
  obtain ⟨M103, eM103⟩ : ∃ z : Mm, z = m_up M102 (n + 11) 102 (100 : Int32) := ⟨_, rfl⟩
  rw [← eM103] at h
  have h0 : ∀ a, n + 12 ≤ a → M103 a = fun _ => 0 := fun a ha => by rw [eM103, m_up_ne (by omega)]; exact h0 a (by omega)
  refine lv_dup hx hb dX12_init_707 rfl ?_
  refine lv_bipush (v := 103) hx hb dX12_init_708 (by decide) ?_
  refine lv_bipush (v := 101) hx hb dX12_init_710 (by decide) ?_
  refine fx_iast X h (k := n + 11) (i := (103 : Int32)) ((ap_at hn 11).trans rfl) (by unfold vp_in; decide) dX12_init_712 (fun H locs h => ?_)
  rw [show ((103 : Int32)).toNatClampNeg = 103 by decide] at h
  obtain ⟨M104, eM104⟩ : ∃ z : Mm, z = m_up M103 (n + 11) 103 (101 : Int32) := ⟨_, rfl⟩
  rw [← eM104] at h
  have h0 : ∀ a, n + 12 ≤ a → M104 a = fun _ => 0 := fun a ha => by rw [eM104, m_up_ne (by omega)]; exact h0 a (by omega)
  refine lv_dup hx hb dX12_init_713 rfl ?_
  refine lv_bipush (v := 104) hx hb dX12_init_714 (by decide) ?_
  refine lv_bipush (v := 114) hx hb dX12_init_716 (by decide) ?_
  refine fx_iast X h (k := n + 11) (i := (104 : Int32)) ((ap_at hn 11).trans rfl) (by unfold vp_in; decide) dX12_init_718 (fun H locs h => ?_)
  rw [show ((104 : Int32)).toNatClampNeg = 104 by decide] at h
  obtain ⟨M105, eM105⟩ : ∃ z : Mm, z = m_up M104 (n + 11) 104 (114 : Int32) := ⟨_, rfl⟩
  rw [← eM105] at h
  have h0 : ∀ a, n + 12 ≤ a → M105 a = fun _ => 0 := fun a ha => by rw [eM105, m_up_ne (by omega)]; exact h0 a (by omega)
  refine lv_dup hx hb dX12_init_719 rfl ?_
  refine lv_bipush (v := 105) hx hb dX12_init_720 (by decide) ?_
  refine lv_bipush (v := 32) hx hb dX12_init_722 (by decide) ?_
  refine fx_iast X h (k := n + 11) (i := (105 : Int32)) ((ap_at hn 11).trans rfl) (by unfold vp_in; decide) dX12_init_724 (fun H locs h => ?_)
  rw [show ((105 : Int32)).toNatClampNeg = 105 by decide] at h
  obtain ⟨M106, eM106⟩ : ∃ z : Mm, z = m_up M105 (n + 11) 105 (32 : Int32) := ⟨_, rfl⟩
  rw [← eM106] at h
  have h0 : ∀ a, n + 12 ≤ a → M106 a = fun _ => 0 := fun a ha => by rw [eM106, m_up_ne (by omega)]; exact h0 a (by omega)
  refine lv_dup hx hb dX12_init_725 rfl ?_
  refine lv_bipush (v := 106) hx hb dX12_init_726 (by decide) ?_
  refine lv_bipush (v := 102) hx hb dX12_init_728 (by decide) ?_
  refine fx_iast X h (k := n + 11) (i := (106 : Int32)) ((ap_at hn 11).trans rfl) (by unfold vp_in; decide) dX12_init_730 (fun H locs h => ?_)
  rw [show ((106 : Int32)).toNatClampNeg = 106 by decide] at h
  obtain ⟨M107, eM107⟩ : ∃ z : Mm, z = m_up M106 (n + 11) 106 (102 : Int32) := ⟨_, rfl⟩
  rw [← eM107] at h
  have h0 : ∀ a, n + 12 ≤ a → M107 a = fun _ => 0 := fun a ha => by rw [eM107, m_up_ne (by omega)]; exact h0 a (by omega)
  refine lv_dup hx hb dX12_init_731 rfl ?_
  refine lv_bipush (v := 107) hx hb dX12_init_732 (by decide) ?_
  refine lv_bipush (v := 111) hx hb dX12_init_734 (by decide) ?_
  refine fx_iast X h (k := n + 11) (i := (107 : Int32)) ((ap_at hn 11).trans rfl) (by unfold vp_in; decide) dX12_init_736 (fun H locs h => ?_)
  rw [show ((107 : Int32)).toNatClampNeg = 107 by decide] at h
  obtain ⟨M108, eM108⟩ : ∃ z : Mm, z = m_up M107 (n + 11) 107 (111 : Int32) := ⟨_, rfl⟩
  rw [← eM108] at h
  have h0 : ∀ a, n + 12 ≤ a → M108 a = fun _ => 0 := fun a ha => by rw [eM108, m_up_ne (by omega)]; exact h0 a (by omega)
  refine lv_dup hx hb dX12_init_737 rfl ?_
  refine lv_bipush (v := 108) hx hb dX12_init_738 (by decide) ?_
  refine lv_bipush (v := 108) hx hb dX12_init_740 (by decide) ?_
  refine fx_iast X h (k := n + 11) (i := (108 : Int32)) ((ap_at hn 11).trans rfl) (by unfold vp_in; decide) dX12_init_742 (fun H locs h => ?_)
  rw [show ((108 : Int32)).toNatClampNeg = 108 by decide] at h
  obtain ⟨M109, eM109⟩ : ∃ z : Mm, z = m_up M108 (n + 11) 108 (108 : Int32) := ⟨_, rfl⟩
  rw [← eM109] at h
  have h0 : ∀ a, n + 12 ≤ a → M109 a = fun _ => 0 := fun a ha => by rw [eM109, m_up_ne (by omega)]; exact h0 a (by omega)
  refine lv_dup hx hb dX12_init_743 rfl ?_
  refine lv_bipush (v := 109) hx hb dX12_init_744 (by decide) ?_
  refine lv_bipush (v := 108) hx hb dX12_init_746 (by decide) ?_
  refine fx_iast X h (k := n + 11) (i := (109 : Int32)) ((ap_at hn 11).trans rfl) (by unfold vp_in; decide) dX12_init_748 (fun H locs h => ?_)
  rw [show ((109 : Int32)).toNatClampNeg = 109 by decide] at h
  obtain ⟨M110, eM110⟩ : ∃ z : Mm, z = m_up M109 (n + 11) 109 (108 : Int32) := ⟨_, rfl⟩
  rw [← eM110] at h
  have h0 : ∀ a, n + 12 ≤ a → M110 a = fun _ => 0 := fun a ha => by rw [eM110, m_up_ne (by omega)]; exact h0 a (by omega)
  refine lv_dup hx hb dX12_init_749 rfl ?_
  refine lv_bipush (v := 110) hx hb dX12_init_750 (by decide) ?_
  refine lv_bipush (v := 111) hx hb dX12_init_752 (by decide) ?_
  refine fx_iast X h (k := n + 11) (i := (110 : Int32)) ((ap_at hn 11).trans rfl) (by unfold vp_in; decide) dX12_init_754 (fun H locs h => ?_)
  rw [show ((110 : Int32)).toNatClampNeg = 110 by decide] at h
  obtain ⟨M111, eM111⟩ : ∃ z : Mm, z = m_up M110 (n + 11) 110 (111 : Int32) := ⟨_, rfl⟩
  rw [← eM111] at h
  have h0 : ∀ a, n + 12 ≤ a → M111 a = fun _ => 0 := fun a ha => by rw [eM111, m_up_ne (by omega)]; exact h0 a (by omega)
  refine lv_dup hx hb dX12_init_755 rfl ?_
  refine lv_bipush (v := 111) hx hb dX12_init_756 (by decide) ?_
  refine lv_bipush (v := 119) hx hb dX12_init_758 (by decide) ?_
  refine fx_iast X h (k := n + 11) (i := (111 : Int32)) ((ap_at hn 11).trans rfl) (by unfold vp_in; decide) dX12_init_760 (fun H locs h => ?_)
  rw [show ((111 : Int32)).toNatClampNeg = 111 by decide] at h
  obtain ⟨M112, eM112⟩ : ∃ z : Mm, z = m_up M111 (n + 11) 111 (119 : Int32) := ⟨_, rfl⟩
  rw [← eM112] at h
  have h0 : ∀ a, n + 12 ≤ a → M112 a = fun _ => 0 := fun a ha => by rw [eM112, m_up_ne (by omega)]; exact h0 a (by omega)
  refine lv_dup hx hb dX12_init_761 rfl ?_
  refine lv_bipush (v := 112) hx hb dX12_init_762 (by decide) ?_
  refine lv_bipush (v := 115) hx hb dX12_init_764 (by decide) ?_
  refine fx_iast X h (k := n + 11) (i := (112 : Int32)) ((ap_at hn 11).trans rfl) (by unfold vp_in; decide) dX12_init_766 (fun H locs h => ?_)
  rw [show ((112 : Int32)).toNatClampNeg = 112 by decide] at h
  obtain ⟨M113, eM113⟩ : ∃ z : Mm, z = m_up M112 (n + 11) 112 (115 : Int32) := ⟨_, rfl⟩
  rw [← eM113] at h
  have h0 : ∀ a, n + 12 ≤ a → M113 a = fun _ => 0 := fun a ha => by rw [eM113, m_up_ne (by omega)]; exact h0 a (by omega)
  refine lv_dup hx hb dX12_init_767 rfl ?_
  refine lv_bipush (v := 113) hx hb dX12_init_768 (by decide) ?_
  refine lv_bipush (v := 32) hx hb dX12_init_770 (by decide) ?_
  refine fx_iast X h (k := n + 11) (i := (113 : Int32)) ((ap_at hn 11).trans rfl) (by unfold vp_in; decide) dX12_init_772 (fun H locs h => ?_)
  rw [show ((113 : Int32)).toNatClampNeg = 113 by decide] at h
  obtain ⟨M114, eM114⟩ : ∃ z : Mm, z = m_up M113 (n + 11) 113 (32 : Int32) := ⟨_, rfl⟩
  rw [← eM114] at h
  have h0 : ∀ a, n + 12 ≤ a → M114 a = fun _ => 0 := fun a ha => by rw [eM114, m_up_ne (by omega)]; exact h0 a (by omega)
  refine lv_dup hx hb dX12_init_773 rfl ?_
  refine lv_bipush (v := 114) hx hb dX12_init_774 (by decide) ?_
  refine lv_bipush (v := 111) hx hb dX12_init_776 (by decide) ?_
  refine fx_iast X h (k := n + 11) (i := (114 : Int32)) ((ap_at hn 11).trans rfl) (by unfold vp_in; decide) dX12_init_778 (fun H locs h => ?_)
  rw [show ((114 : Int32)).toNatClampNeg = 114 by decide] at h
  obtain ⟨M115, eM115⟩ : ∃ z : Mm, z = m_up M114 (n + 11) 114 (111 : Int32) := ⟨_, rfl⟩
  rw [← eM115] at h
  have h0 : ∀ a, n + 12 ≤ a → M115 a = fun _ => 0 := fun a ha => by rw [eM115, m_up_ne (by omega)]; exact h0 a (by omega)
  refine lv_dup hx hb dX12_init_779 rfl ?_
  refine lv_bipush (v := 115) hx hb dX12_init_780 (by decide) ?_
  refine lv_bipush (v := 110) hx hb dX12_init_782 (by decide) ?_
  refine fx_iast X h (k := n + 11) (i := (115 : Int32)) ((ap_at hn 11).trans rfl) (by unfold vp_in; decide) dX12_init_784 (fun H locs h => ?_)
  rw [show ((115 : Int32)).toNatClampNeg = 115 by decide] at h
  obtain ⟨M116, eM116⟩ : ∃ z : Mm, z = m_up M115 (n + 11) 115 (110 : Int32) := ⟨_, rfl⟩
  rw [← eM116] at h
  have h0 : ∀ a, n + 12 ≤ a → M116 a = fun _ => 0 := fun a ha => by rw [eM116, m_up_ne (by omega)]; exact h0 a (by omega)
  refine lv_dup hx hb dX12_init_785 rfl ?_
  refine lv_bipush (v := 116) hx hb dX12_init_786 (by decide) ?_
  refine lv_bipush (v := 32) hx hb dX12_init_788 (by decide) ?_
  refine fx_iast X h (k := n + 11) (i := (116 : Int32)) ((ap_at hn 11).trans rfl) (by unfold vp_in; decide) dX12_init_790 (fun H locs h => ?_)
  rw [show ((116 : Int32)).toNatClampNeg = 116 by decide] at h
  obtain ⟨M117, eM117⟩ : ∃ z : Mm, z = m_up M116 (n + 11) 116 (32 : Int32) := ⟨_, rfl⟩
  rw [← eM117] at h
  have h0 : ∀ a, n + 12 ≤ a → M117 a = fun _ => 0 := fun a ha => by rw [eM117, m_up_ne (by omega)]; exact h0 a (by omega)
  refine lv_dup hx hb dX12_init_791 rfl ?_
  refine lv_bipush (v := 117) hx hb dX12_init_792 (by decide) ?_
  refine lv_bipush (v := 115) hx hb dX12_init_794 (by decide) ?_
  refine fx_iast X h (k := n + 11) (i := (117 : Int32)) ((ap_at hn 11).trans rfl) (by unfold vp_in; decide) dX12_init_796 (fun H locs h => ?_)
  rw [show ((117 : Int32)).toNatClampNeg = 117 by decide] at h
  obtain ⟨M118, eM118⟩ : ∃ z : Mm, z = m_up M117 (n + 11) 117 (115 : Int32) := ⟨_, rfl⟩
  rw [← eM118] at h
  have h0 : ∀ a, n + 12 ≤ a → M118 a = fun _ => 0 := fun a ha => by rw [eM118, m_up_ne (by omega)]; exact h0 a (by omega)
  refine lv_dup hx hb dX12_init_797 rfl ?_
  refine lv_bipush (v := 118) hx hb dX12_init_798 (by decide) ?_
  refine lv_bipush (v := 101) hx hb dX12_init_800 (by decide) ?_
  refine fx_iast X h (k := n + 11) (i := (118 : Int32)) ((ap_at hn 11).trans rfl) (by unfold vp_in; decide) dX12_init_802 (fun H locs h => ?_)
  rw [show ((118 : Int32)).toNatClampNeg = 118 by decide] at h
  obtain ⟨M119, eM119⟩ : ∃ z : Mm, z = m_up M118 (n + 11) 118 (101 : Int32) := ⟨_, rfl⟩
  rw [← eM119] at h
  have h0 : ∀ a, n + 12 ≤ a → M119 a = fun _ => 0 := fun a ha => by rw [eM119, m_up_ne (by omega)]; exact h0 a (by omega)
  refine lv_dup hx hb dX12_init_803 rfl ?_
  refine lv_bipush (v := 119) hx hb dX12_init_804 (by decide) ?_
  refine lv_bipush (v := 108) hx hb dX12_init_806 (by decide) ?_
  refine fx_iast X h (k := n + 11) (i := (119 : Int32)) ((ap_at hn 11).trans rfl) (by unfold vp_in; decide) dX12_init_808 (fun H locs h => ?_)
  rw [show ((119 : Int32)).toNatClampNeg = 119 by decide] at h
  obtain ⟨M120, eM120⟩ : ∃ z : Mm, z = m_up M119 (n + 11) 119 (108 : Int32) := ⟨_, rfl⟩
  rw [← eM120] at h
  have h0 : ∀ a, n + 12 ≤ a → M120 a = fun _ => 0 := fun a ha => by rw [eM120, m_up_ne (by omega)]; exact h0 a (by omega)
  refine lv_dup hx hb dX12_init_809 rfl ?_
  refine lv_bipush (v := 120) hx hb dX12_init_810 (by decide) ?_
  refine lv_bipush (v := 108) hx hb dX12_init_812 (by decide) ?_
  refine fx_iast X h (k := n + 11) (i := (120 : Int32)) ((ap_at hn 11).trans rfl) (by unfold vp_in; decide) dX12_init_814 (fun H locs h => ?_)
  rw [show ((120 : Int32)).toNatClampNeg = 120 by decide] at h
  obtain ⟨M121, eM121⟩ : ∃ z : Mm, z = m_up M120 (n + 11) 120 (108 : Int32) := ⟨_, rfl⟩
  rw [← eM121] at h
  have h0 : ∀ a, n + 12 ≤ a → M121 a = fun _ => 0 := fun a ha => by rw [eM121, m_up_ne (by omega)]; exact h0 a (by omega)
  refine lv_dup hx hb dX12_init_815 rfl ?_
  refine lv_bipush (v := 121) hx hb dX12_init_816 (by decide) ?_
  refine lv_bipush (v := 32) hx hb dX12_init_818 (by decide) ?_
  refine fx_iast X h (k := n + 11) (i := (121 : Int32)) ((ap_at hn 11).trans rfl) (by unfold vp_in; decide) dX12_init_820 (fun H locs h => ?_)
  rw [show ((121 : Int32)).toNatClampNeg = 121 by decide] at h
  obtain ⟨M122, eM122⟩ : ∃ z : Mm, z = m_up M121 (n + 11) 121 (32 : Int32) := ⟨_, rfl⟩
  rw [← eM122] at h
  have h0 : ∀ a, n + 12 ≤ a → M122 a = fun _ => 0 := fun a ha => by rw [eM122, m_up_ne (by omega)]; exact h0 a (by omega)
  refine lv_dup hx hb dX12_init_821 rfl ?_
  refine lv_bipush (v := 122) hx hb dX12_init_822 (by decide) ?_
  refine lv_bipush (v := 112) hx hb dX12_init_824 (by decide) ?_
  refine fx_iast X h (k := n + 11) (i := (122 : Int32)) ((ap_at hn 11).trans rfl) (by unfold vp_in; decide) dX12_init_826 (fun H locs h => ?_)
  rw [show ((122 : Int32)).toNatClampNeg = 122 by decide] at h
  obtain ⟨M123, eM123⟩ : ∃ z : Mm, z = m_up M122 (n + 11) 122 (112 : Int32) := ⟨_, rfl⟩
  rw [← eM123] at h
  have h0 : ∀ a, n + 12 ≤ a → M123 a = fun _ => 0 := fun a ha => by rw [eM123, m_up_ne (by omega)]; exact h0 a (by omega)
  refine lv_dup hx hb dX12_init_827 rfl ?_
  refine lv_bipush (v := 123) hx hb dX12_init_828 (by decide) ?_
  refine lv_bipush (v := 111) hx hb dX12_init_830 (by decide) ?_
  refine fx_iast X h (k := n + 11) (i := (123 : Int32)) ((ap_at hn 11).trans rfl) (by unfold vp_in; decide) dX12_init_832 (fun H locs h => ?_)
  rw [show ((123 : Int32)).toNatClampNeg = 123 by decide] at h
  obtain ⟨M124, eM124⟩ : ∃ z : Mm, z = m_up M123 (n + 11) 123 (111 : Int32) := ⟨_, rfl⟩
  rw [← eM124] at h
  have h0 : ∀ a, n + 12 ≤ a → M124 a = fun _ => 0 := fun a ha => by rw [eM124, m_up_ne (by omega)]; exact h0 a (by omega)
  refine lv_dup hx hb dX12_init_833 rfl ?_
  refine lv_bipush (v := 124) hx hb dX12_init_834 (by decide) ?_
  refine lv_bipush (v := 108) hx hb dX12_init_836 (by decide) ?_
  refine fx_iast X h (k := n + 11) (i := (124 : Int32)) ((ap_at hn 11).trans rfl) (by unfold vp_in; decide) dX12_init_838 (fun H locs h => ?_)
  rw [show ((124 : Int32)).toNatClampNeg = 124 by decide] at h
  obtain ⟨M125, eM125⟩ : ∃ z : Mm, z = m_up M124 (n + 11) 124 (108 : Int32) := ⟨_, rfl⟩
  rw [← eM125] at h
  have h0 : ∀ a, n + 12 ≤ a → M125 a = fun _ => 0 := fun a ha => by rw [eM125, m_up_ne (by omega)]; exact h0 a (by omega)
  refine lv_dup hx hb dX12_init_839 rfl ?_
  refine lv_bipush (v := 125) hx hb dX12_init_840 (by decide) ?_
  refine lv_bipush (v := 105) hx hb dX12_init_842 (by decide) ?_
  refine fx_iast X h (k := n + 11) (i := (125 : Int32)) ((ap_at hn 11).trans rfl) (by unfold vp_in; decide) dX12_init_844 (fun H locs h => ?_)
  rw [show ((125 : Int32)).toNatClampNeg = 125 by decide] at h
  obtain ⟨M126, eM126⟩ : ∃ z : Mm, z = m_up M125 (n + 11) 125 (105 : Int32) := ⟨_, rfl⟩
  rw [← eM126] at h
  have h0 : ∀ a, n + 12 ≤ a → M126 a = fun _ => 0 := fun a ha => by rw [eM126, m_up_ne (by omega)]; exact h0 a (by omega)
  refine lv_dup hx hb dX12_init_845 rfl ?_
  refine lv_bipush (v := 126) hx hb dX12_init_846 (by decide) ?_
  refine lv_bipush (v := 99) hx hb dX12_init_848 (by decide) ?_
  refine fx_iast X h (k := n + 11) (i := (126 : Int32)) ((ap_at hn 11).trans rfl) (by unfold vp_in; decide) dX12_init_850 (fun H locs h => ?_)
  rw [show ((126 : Int32)).toNatClampNeg = 126 by decide] at h
  obtain ⟨M127, eM127⟩ : ∃ z : Mm, z = m_up M126 (n + 11) 126 (99 : Int32) := ⟨_, rfl⟩
  rw [← eM127] at h
  have h0 : ∀ a, n + 12 ≤ a → M127 a = fun _ => 0 := fun a ha => by rw [eM127, m_up_ne (by omega)]; exact h0 a (by omega)
  refine lv_dup hx hb dX12_init_851 rfl ?_
  refine lv_bipush (v := 127) hx hb dX12_init_852 (by decide) ?_
  refine lv_bipush (v := 101) hx hb dX12_init_854 (by decide) ?_
  refine fx_iast X h (k := n + 11) (i := (127 : Int32)) ((ap_at hn 11).trans rfl) (by unfold vp_in; decide) dX12_init_856 (fun H locs h => ?_)
  rw [show ((127 : Int32)).toNatClampNeg = 127 by decide] at h
  obtain ⟨M128, eM128⟩ : ∃ z : Mm, z = m_up M127 (n + 11) 127 (101 : Int32) := ⟨_, rfl⟩
  rw [← eM128] at h
  have h0 : ∀ a, n + 12 ≤ a → M128 a = fun _ => 0 := fun a ha => by rw [eM128, m_up_ne (by omega)]; exact h0 a (by omega)
  refine lv_dup hx hb dX12_init_857 rfl ?_
  refine lv_sipush (v := 128) hx hb dX12_init_858 (by decide) ?_
  refine lv_bipush (v := 32) hx hb dX12_init_861 (by decide) ?_
  refine fx_iast X h (k := n + 11) (i := (128 : Int32)) ((ap_at hn 11).trans rfl) (by unfold vp_in; decide) dX12_init_863 (fun H locs h => ?_)
  rw [show ((128 : Int32)).toNatClampNeg = 128 by decide] at h
  obtain ⟨M129, eM129⟩ : ∃ z : Mm, z = m_up M128 (n + 11) 128 (32 : Int32) := ⟨_, rfl⟩
  rw [← eM129] at h
  have h0 : ∀ a, n + 12 ≤ a → M129 a = fun _ => 0 := fun a ha => by rw [eM129, m_up_ne (by omega)]; exact h0 a (by omega)
  refine lv_dup hx hb dX12_init_864 rfl ?_
  refine lv_sipush (v := 129) hx hb dX12_init_865 (by decide) ?_
  refine lv_bipush (v := 98) hx hb dX12_init_868 (by decide) ?_
  refine fx_iast X h (k := n + 11) (i := (129 : Int32)) ((ap_at hn 11).trans rfl) (by unfold vp_in; decide) dX12_init_870 (fun H locs h => ?_)
  rw [show ((129 : Int32)).toNatClampNeg = 129 by decide] at h
  obtain ⟨M130, eM130⟩ : ∃ z : Mm, z = m_up M129 (n + 11) 129 (98 : Int32) := ⟨_, rfl⟩
  rw [← eM130] at h
  have h0 : ∀ a, n + 12 ≤ a → M130 a = fun _ => 0 := fun a ha => by rw [eM130, m_up_ne (by omega)]; exact h0 a (by omega)
  refine lv_dup hx hb dX12_init_871 rfl ?_
  refine lv_sipush (v := 130) hx hb dX12_init_872 (by decide) ?_
  refine lv_bipush (v := 105) hx hb dX12_init_875 (by decide) ?_
  refine fx_iast X h (k := n + 11) (i := (130 : Int32)) ((ap_at hn 11).trans rfl) (by unfold vp_in; decide) dX12_init_877 (fun H locs h => ?_)
  rw [show ((130 : Int32)).toNatClampNeg = 130 by decide] at h
  obtain ⟨M131, eM131⟩ : ∃ z : Mm, z = m_up M130 (n + 11) 130 (105 : Int32) := ⟨_, rfl⟩
  rw [← eM131] at h
  have h0 : ∀ a, n + 12 ≤ a → M131 a = fun _ => 0 := fun a ha => by rw [eM131, m_up_ne (by omega)]; exact h0 a (by omega)
  refine lv_dup hx hb dX12_init_878 rfl ?_
  refine lv_sipush (v := 131) hx hb dX12_init_879 (by decide) ?_
  refine lv_bipush (v := 108) hx hb dX12_init_882 (by decide) ?_
  refine fx_iast X h (k := n + 11) (i := (131 : Int32)) ((ap_at hn 11).trans rfl) (by unfold vp_in; decide) dX12_init_884 (fun H locs h => ?_)
  rw [show ((131 : Int32)).toNatClampNeg = 131 by decide] at h
  obtain ⟨M132, eM132⟩ : ∃ z : Mm, z = m_up M131 (n + 11) 131 (108 : Int32) := ⟨_, rfl⟩
  rw [← eM132] at h
  have h0 : ∀ a, n + 12 ≤ a → M132 a = fun _ => 0 := fun a ha => by rw [eM132, m_up_ne (by omega)]; exact h0 a (by omega)
  refine lv_dup hx hb dX12_init_885 rfl ?_
  refine lv_sipush (v := 132) hx hb dX12_init_886 (by decide) ?_
  refine lv_bipush (v := 108) hx hb dX12_init_889 (by decide) ?_
  refine fx_iast X h (k := n + 11) (i := (132 : Int32)) ((ap_at hn 11).trans rfl) (by unfold vp_in; decide) dX12_init_891 (fun H locs h => ?_)
  rw [show ((132 : Int32)).toNatClampNeg = 132 by decide] at h
  obtain ⟨M133, eM133⟩ : ∃ z : Mm, z = m_up M132 (n + 11) 132 (108 : Int32) := ⟨_, rfl⟩
  rw [← eM133] at h
  have h0 : ∀ a, n + 12 ≤ a → M133 a = fun _ => 0 := fun a ha => by rw [eM133, m_up_ne (by omega)]; exact h0 a (by omega)
  refine lv_dup hx hb dX12_init_892 rfl ?_
  refine lv_sipush (v := 133) hx hb dX12_init_893 (by decide) ?_
  refine lv_bipush (v := 32) hx hb dX12_init_896 (by decide) ?_
  refine fx_iast X h (k := n + 11) (i := (133 : Int32)) ((ap_at hn 11).trans rfl) (by unfold vp_in; decide) dX12_init_898 (fun H locs h => ?_)
  rw [show ((133 : Int32)).toNatClampNeg = 133 by decide] at h
  obtain ⟨M134, eM134⟩ : ∃ z : Mm, z = m_up M133 (n + 11) 133 (32 : Int32) := ⟨_, rfl⟩
  rw [← eM134] at h
  have h0 : ∀ a, n + 12 ≤ a → M134 a = fun _ => 0 := fun a ha => by rw [eM134, m_up_ne (by omega)]; exact h0 a (by omega)
  refine lv_dup hx hb dX12_init_899 rfl ?_
  refine lv_sipush (v := 134) hx hb dX12_init_900 (by decide) ?_
  refine lv_bipush (v := 112) hx hb dX12_init_903 (by decide) ?_
  refine fx_iast X h (k := n + 11) (i := (134 : Int32)) ((ap_at hn 11).trans rfl) (by unfold vp_in; decide) dX12_init_905 (fun H locs h => ?_)
  rw [show ((134 : Int32)).toNatClampNeg = 134 by decide] at h
  obtain ⟨M135, eM135⟩ : ∃ z : Mm, z = m_up M134 (n + 11) 134 (112 : Int32) := ⟨_, rfl⟩
  rw [← eM135] at h
  have h0 : ∀ a, n + 12 ≤ a → M135 a = fun _ => 0 := fun a ha => by rw [eM135, m_up_ne (by omega)]; exact h0 a (by omega)
  refine lv_dup hx hb dX12_init_906 rfl ?_
  refine lv_sipush (v := 135) hx hb dX12_init_907 (by decide) ?_
  refine lv_bipush (v := 97) hx hb dX12_init_910 (by decide) ?_
  refine fx_iast X h (k := n + 11) (i := (135 : Int32)) ((ap_at hn 11).trans rfl) (by unfold vp_in; decide) dX12_init_912 (fun H locs h => ?_)
  rw [show ((135 : Int32)).toNatClampNeg = 135 by decide] at h
  obtain ⟨M136, eM136⟩ : ∃ z : Mm, z = m_up M135 (n + 11) 135 (97 : Int32) := ⟨_, rfl⟩
  rw [← eM136] at h
  have h0 : ∀ a, n + 12 ≤ a → M136 a = fun _ => 0 := fun a ha => by rw [eM136, m_up_ne (by omega)]; exact h0 a (by omega)
  refine lv_dup hx hb dX12_init_913 rfl ?_
  refine lv_sipush (v := 136) hx hb dX12_init_914 (by decide) ?_
  refine lv_bipush (v := 121) hx hb dX12_init_917 (by decide) ?_
  refine fx_iast X h (k := n + 11) (i := (136 : Int32)) ((ap_at hn 11).trans rfl) (by unfold vp_in; decide) dX12_init_919 (fun H locs h => ?_)
  rw [show ((136 : Int32)).toNatClampNeg = 136 by decide] at h
  obtain ⟨M137, eM137⟩ : ∃ z : Mm, z = m_up M136 (n + 11) 136 (121 : Int32) := ⟨_, rfl⟩
  rw [← eM137] at h
  have h0 : ∀ a, n + 12 ≤ a → M137 a = fun _ => 0 := fun a ha => by rw [eM137, m_up_ne (by omega)]; exact h0 a (by omega)
  refine lv_dup hx hb dX12_init_920 rfl ?_
  refine lv_sipush (v := 137) hx hb dX12_init_921 (by decide) ?_
  refine lv_bipush (v := 32) hx hb dX12_init_924 (by decide) ?_
  refine fx_iast X h (k := n + 11) (i := (137 : Int32)) ((ap_at hn 11).trans rfl) (by unfold vp_in; decide) dX12_init_926 (fun H locs h => ?_)
  rw [show ((137 : Int32)).toNatClampNeg = 137 by decide] at h
  obtain ⟨M138, eM138⟩ : ∃ z : Mm, z = m_up M137 (n + 11) 137 (32 : Int32) := ⟨_, rfl⟩
  rw [← eM138] at h
  have h0 : ∀ a, n + 12 ≤ a → M138 a = fun _ => 0 := fun a ha => by rw [eM138, m_up_ne (by omega)]; exact h0 a (by omega)
  refine lv_dup hx hb dX12_init_927 rfl ?_
  refine lv_sipush (v := 138) hx hb dX12_init_928 (by decide) ?_
  refine lv_bipush (v := 119) hx hb dX12_init_931 (by decide) ?_
  refine fx_iast X h (k := n + 11) (i := (138 : Int32)) ((ap_at hn 11).trans rfl) (by unfold vp_in; decide) dX12_init_933 (fun H locs h => ?_)
  rw [show ((138 : Int32)).toNatClampNeg = 138 by decide] at h
  obtain ⟨M139, eM139⟩ : ∃ z : Mm, z = m_up M138 (n + 11) 138 (119 : Int32) := ⟨_, rfl⟩
  rw [← eM139] at h
  have h0 : ∀ a, n + 12 ≤ a → M139 a = fun _ => 0 := fun a ha => by rw [eM139, m_up_ne (by omega)]; exact h0 a (by omega)
  refine lv_dup hx hb dX12_init_934 rfl ?_
  refine lv_sipush (v := 139) hx hb dX12_init_935 (by decide) ?_
  refine lv_bipush (v := 97) hx hb dX12_init_938 (by decide) ?_
  refine fx_iast X h (k := n + 11) (i := (139 : Int32)) ((ap_at hn 11).trans rfl) (by unfold vp_in; decide) dX12_init_940 (fun H locs h => ?_)
  rw [show ((139 : Int32)).toNatClampNeg = 139 by decide] at h
  obtain ⟨M140, eM140⟩ : ∃ z : Mm, z = m_up M139 (n + 11) 139 (97 : Int32) := ⟨_, rfl⟩
  rw [← eM140] at h
  have h0 : ∀ a, n + 12 ≤ a → M140 a = fun _ => 0 := fun a ha => by rw [eM140, m_up_ne (by omega)]; exact h0 a (by omega)
  refine lv_dup hx hb dX12_init_941 rfl ?_
  refine lv_sipush (v := 140) hx hb dX12_init_942 (by decide) ?_
  refine lv_bipush (v := 110) hx hb dX12_init_945 (by decide) ?_
  refine fx_iast X h (k := n + 11) (i := (140 : Int32)) ((ap_at hn 11).trans rfl) (by unfold vp_in; decide) dX12_init_947 (fun H locs h => ?_)
  rw [show ((140 : Int32)).toNatClampNeg = 140 by decide] at h
  obtain ⟨M141, eM141⟩ : ∃ z : Mm, z = m_up M140 (n + 11) 140 (110 : Int32) := ⟨_, rfl⟩
  rw [← eM141] at h
  have h0 : ∀ a, n + 12 ≤ a → M141 a = fun _ => 0 := fun a ha => by rw [eM141, m_up_ne (by omega)]; exact h0 a (by omega)
  refine lv_dup hx hb dX12_init_948 rfl ?_
  refine lv_sipush (v := 141) hx hb dX12_init_949 (by decide) ?_
  refine lv_bipush (v := 116) hx hb dX12_init_952 (by decide) ?_
  refine fx_iast X h (k := n + 11) (i := (141 : Int32)) ((ap_at hn 11).trans rfl) (by unfold vp_in; decide) dX12_init_954 (fun H locs h => ?_)
  rw [show ((141 : Int32)).toNatClampNeg = 141 by decide] at h
  obtain ⟨M142, eM142⟩ : ∃ z : Mm, z = m_up M141 (n + 11) 141 (116 : Int32) := ⟨_, rfl⟩
  rw [← eM142] at h
  have h0 : ∀ a, n + 12 ≤ a → M142 a = fun _ => 0 := fun a ha => by rw [eM142, m_up_ne (by omega)]; exact h0 a (by omega)
  refine lv_dup hx hb dX12_init_955 rfl ?_
  refine lv_sipush (v := 142) hx hb dX12_init_956 (by decide) ?_
  refine lv_bipush (v := 115) hx hb dX12_init_959 (by decide) ?_
  refine fx_iast X h (k := n + 11) (i := (142 : Int32)) ((ap_at hn 11).trans rfl) (by unfold vp_in; decide) dX12_init_961 (fun H locs h => ?_)
  rw [show ((142 : Int32)).toNatClampNeg = 142 by decide] at h
  obtain ⟨M143, eM143⟩ : ∃ z : Mm, z = m_up M142 (n + 11) 142 (115 : Int32) := ⟨_, rfl⟩
  rw [← eM143] at h
  have h0 : ∀ a, n + 12 ≤ a → M143 a = fun _ => 0 := fun a ha => by rw [eM143, m_up_ne (by omega)]; exact h0 a (by omega)
  refine lv_dup hx hb dX12_init_962 rfl ?_
  refine lv_sipush (v := 143) hx hb dX12_init_963 (by decide) ?_
  refine lv_bipush (v := 32) hx hb dX12_init_966 (by decide) ?_
  refine fx_iast X h (k := n + 11) (i := (143 : Int32)) ((ap_at hn 11).trans rfl) (by unfold vp_in; decide) dX12_init_968 (fun H locs h => ?_)
  rw [show ((143 : Int32)).toNatClampNeg = 143 by decide] at h
  obtain ⟨M144, eM144⟩ : ∃ z : Mm, z = m_up M143 (n + 11) 143 (32 : Int32) := ⟨_, rfl⟩
  rw [← eM144] at h
  have h0 : ∀ a, n + 12 ≤ a → M144 a = fun _ => 0 := fun a ha => by rw [eM144, m_up_ne (by omega)]; exact h0 a (by omega)
  refine lv_dup hx hb dX12_init_969 rfl ?_
  refine lv_sipush (v := 144) hx hb dX12_init_970 (by decide) ?_
  refine lv_bipush (v := 102) hx hb dX12_init_973 (by decide) ?_
  refine fx_iast X h (k := n + 11) (i := (144 : Int32)) ((ap_at hn 11).trans rfl) (by unfold vp_in; decide) dX12_init_975 (fun H locs h => ?_)
  rw [show ((144 : Int32)).toNatClampNeg = 144 by decide] at h
  obtain ⟨M145, eM145⟩ : ∃ z : Mm, z = m_up M144 (n + 11) 144 (102 : Int32) := ⟨_, rfl⟩
  rw [← eM145] at h
  have h0 : ∀ a, n + 12 ≤ a → M145 a = fun _ => 0 := fun a ha => by rw [eM145, m_up_ne (by omega)]; exact h0 a (by omega)
  refine lv_dup hx hb dX12_init_976 rfl ?_
  refine lv_sipush (v := 145) hx hb dX12_init_977 (by decide) ?_
  refine lv_bipush (v := 111) hx hb dX12_init_980 (by decide) ?_
  refine fx_iast X h (k := n + 11) (i := (145 : Int32)) ((ap_at hn 11).trans rfl) (by unfold vp_in; decide) dX12_init_982 (fun H locs h => ?_)
  rw [show ((145 : Int32)).toNatClampNeg = 145 by decide] at h
  obtain ⟨M146, eM146⟩ : ∃ z : Mm, z = m_up M145 (n + 11) 145 (111 : Int32) := ⟨_, rfl⟩
  rw [← eM146] at h
  have h0 : ∀ a, n + 12 ≤ a → M146 a = fun _ => 0 := fun a ha => by rw [eM146, m_up_ne (by omega)]; exact h0 a (by omega)
  refine lv_dup hx hb dX12_init_983 rfl ?_
  refine lv_sipush (v := 146) hx hb dX12_init_984 (by decide) ?_
  refine lv_bipush (v := 114) hx hb dX12_init_987 (by decide) ?_
  refine fx_iast X h (k := n + 11) (i := (146 : Int32)) ((ap_at hn 11).trans rfl) (by unfold vp_in; decide) dX12_init_989 (fun H locs h => ?_)
  rw [show ((146 : Int32)).toNatClampNeg = 146 by decide] at h
  obtain ⟨M147, eM147⟩ : ∃ z : Mm, z = m_up M146 (n + 11) 146 (114 : Int32) := ⟨_, rfl⟩
  rw [← eM147] at h
  have h0 : ∀ a, n + 12 ≤ a → M147 a = fun _ => 0 := fun a ha => by rw [eM147, m_up_ne (by omega)]; exact h0 a (by omega)
  refine lv_dup hx hb dX12_init_990 rfl ?_
  refine lv_sipush (v := 147) hx hb dX12_init_991 (by decide) ?_
  refine lv_bipush (v := 32) hx hb dX12_init_994 (by decide) ?_
  refine fx_iast X h (k := n + 11) (i := (147 : Int32)) ((ap_at hn 11).trans rfl) (by unfold vp_in; decide) dX12_init_996 (fun H locs h => ?_)
  rw [show ((147 : Int32)).toNatClampNeg = 147 by decide] at h
  obtain ⟨M148, eM148⟩ : ∃ z : Mm, z = m_up M147 (n + 11) 147 (32 : Int32) := ⟨_, rfl⟩
  rw [← eM148] at h
  have h0 : ∀ a, n + 12 ≤ a → M148 a = fun _ => 0 := fun a ha => by rw [eM148, m_up_ne (by omega)]; exact h0 a (by omega)
  refine cx_putR (k := n + 0) (j := 20) (r := n + 11) (ty := .array .int) X hin h ((ap_at hn 0).trans rfl) fl_RX12_40 (Nat.le_of_ble_eq_true rfl) (fun C T N q => by cases q; rfl) (by decide +kernel) rfl rfl dX12_init_997 (fun H locs h => ?_)
  rw [ap_set hn 0] at h
  have h : fx_H G (S0 ++ [.inr (.inr (12, [0, n + 1 + 2, n + 2 + 2, 0, n + 3 + 2, 0, 0, 0, n + 4 + 2, n + 5 + 2, n + 6 + 2, n + 7 + 2, n + 8 + 2, n + 9 + 2, n + 10 + 2, 0, 0, 0, 0, 0, n + 11 + 2, 1, 1, 1, 1, 1, 1, 1, 0, 0, 0, 1, 0, 0, 0, 0, 0, 0, 1, 0, 1, 0, 1, 1, 1, 0, 0, 0, 1, 1, 1, 0, 1, 0, 1, 1, 1, 1, 1, 0, 1, 1, 0, 1, 1, 0, 1, 1, 0, 0, 0, 1])), .inl 135, .inl 810, .inl 135, .inl 16, .inl 16, .inl 16, .inl 8, .inl 8, .inl 600, .inl 400, .inl 148]) M148 s H locs := h
  refine lv_aload_n hx hb dX12_init_1000 rfl (lv_at hl 0 rfl) ?_
  refine lv_iconst (v := 2) hx hb dX12_init_1001 (by decide) ?_
  refine cy_newa (i0 := 12) (N := 2) hn rfl X h hz (by omega) (h0 _ (by omega)) ak_int (by decide) (by decide) (by decide) (Nat.le_of_ble_eq_true rfl) (Nat.le_of_ble_eq_true rfl) dX12_init_1002 (fun H h => ?_)
  have h : fx_H G (S0 ++ [.inr (.inr (12, [0, n + 1 + 2, n + 2 + 2, 0, n + 3 + 2, 0, 0, 0, n + 4 + 2, n + 5 + 2, n + 6 + 2, n + 7 + 2, n + 8 + 2, n + 9 + 2, n + 10 + 2, 0, 0, 0, 0, 0, n + 11 + 2, 1, 1, 1, 1, 1, 1, 1, 0, 0, 0, 1, 0, 0, 0, 0, 0, 0, 1, 0, 1, 0, 1, 1, 1, 0, 0, 0, 1, 1, 1, 0, 1, 0, 1, 1, 1, 1, 1, 0, 1, 1, 0, 1, 1, 0, 1, 1, 0, 0, 0, 1])), .inl 135, .inl 810, .inl 135, .inl 16, .inl 16, .inl 16, .inl 8, .inl 8, .inl 600, .inl 400, .inl 148, .inl 2]) M148 s H _ := h
  refine W.widen (k := 12) (n := 2294) (by omega) (by omega) ?_
  refine cx_putR (k := n + 0) (j := 21) (r := n + 12) (ty := .array .int) X hin h ((ap_at hn 0).trans rfl) fl_RX12_43 (Nat.le_of_ble_eq_true rfl) (fun C T N q => by cases q; rfl) (by decide +kernel) rfl rfl dX12_init_1004 (fun H locs h => ?_)
  rw [ap_set hn 0] at h
  have h : fx_H G (S0 ++ [.inr (.inr (12, [0, n + 1 + 2, n + 2 + 2, 0, n + 3 + 2, 0, 0, 0, n + 4 + 2, n + 5 + 2, n + 6 + 2, n + 7 + 2, n + 8 + 2, n + 9 + 2, n + 10 + 2, 0, 0, 0, 0, 0, n + 11 + 2, n + 12 + 2, 1, 1, 1, 1, 1, 1, 0, 0, 0, 1, 0, 0, 0, 0, 0, 0, 1, 0, 1, 0, 1, 1, 1, 0, 0, 0, 1, 1, 1, 0, 1, 0, 1, 1, 1, 1, 1, 0, 1, 1, 0, 1, 1, 0, 1, 1, 0, 0, 0, 1])), .inl 135, .inl 810, .inl 135, .inl 16, .inl 16, .inl 16, .inl 8, .inl 8, .inl 600, .inl 400, .inl 148, .inl 2]) M148 s H locs := h
  refine lv_aload_n hx hb dX12_init_1007 rfl (lv_at hl 0 rfl) ?_
  refine lv_bipush (v := 48) hx hb dX12_init_1008 (by decide) ?_
  refine cy_newa (i0 := 13) (N := 48) hn rfl X h hz (by omega) (h0 _ (by omega)) ak_int (by decide) (by decide) (by decide) (Nat.le_of_ble_eq_true rfl) (Nat.le_of_ble_eq_true rfl) dX12_init_1010 (fun H h => ?_)
  have h : fx_H G (S0 ++ [.inr (.inr (12, [0, n + 1 + 2, n + 2 + 2, 0, n + 3 + 2, 0, 0, 0, n + 4 + 2, n + 5 + 2, n + 6 + 2, n + 7 + 2, n + 8 + 2, n + 9 + 2, n + 10 + 2, 0, 0, 0, 0, 0, n + 11 + 2, n + 12 + 2, 1, 1, 1, 1, 1, 1, 0, 0, 0, 1, 0, 0, 0, 0, 0, 0, 1, 0, 1, 0, 1, 1, 1, 0, 0, 0, 1, 1, 1, 0, 1, 0, 1, 1, 1, 1, 1, 0, 1, 1, 0, 1, 1, 0, 1, 1, 0, 0, 0, 1])), .inl 135, .inl 810, .inl 135, .inl 16, .inl 16, .inl 16, .inl 8, .inl 8, .inl 600, .inl 400, .inl 148, .inl 2, .inl 48]) M148 s H _ := h
  refine W.widen (k := 13) (n := 2342) (by omega) (by omega) ?_
  refine cx_putR (k := n + 0) (j := 22) (r := n + 13) (ty := .array .int) X hin h ((ap_at hn 0).trans rfl) fl_RX12_46 (Nat.le_of_ble_eq_true rfl) (fun C T N q => by cases q; rfl) (by decide +kernel) rfl rfl dX12_init_1012 (fun H locs h => ?_)
  rw [ap_set hn 0] at h
  have h : fx_H G (S0 ++ [.inr (.inr (12, [0, n + 1 + 2, n + 2 + 2, 0, n + 3 + 2, 0, 0, 0, n + 4 + 2, n + 5 + 2, n + 6 + 2, n + 7 + 2, n + 8 + 2, n + 9 + 2, n + 10 + 2, 0, 0, 0, 0, 0, n + 11 + 2, n + 12 + 2, n + 13 + 2, 1, 1, 1, 1, 1, 0, 0, 0, 1, 0, 0, 0, 0, 0, 0, 1, 0, 1, 0, 1, 1, 1, 0, 0, 0, 1, 1, 1, 0, 1, 0, 1, 1, 1, 1, 1, 0, 1, 1, 0, 1, 1, 0, 1, 1, 0, 0, 0, 1])), .inl 135, .inl 810, .inl 135, .inl 16, .inl 16, .inl 16, .inl 8, .inl 8, .inl 600, .inl 400, .inl 148, .inl 2, .inl 48]) M148 s H locs := h
  refine lv_aload_n hx hb dX12_init_1015 rfl (lv_at hl 0 rfl) ?_
  refine lv_bipush (v := 48) hx hb dX12_init_1016 (by decide) ?_
  refine cy_newa (i0 := 14) (N := 48) hn rfl X h hz (by omega) (h0 _ (by omega)) ak_int (by decide) (by decide) (by decide) (Nat.le_of_ble_eq_true rfl) (Nat.le_of_ble_eq_true rfl) dX12_init_1018 (fun H h => ?_)
  have h : fx_H G (S0 ++ [.inr (.inr (12, [0, n + 1 + 2, n + 2 + 2, 0, n + 3 + 2, 0, 0, 0, n + 4 + 2, n + 5 + 2, n + 6 + 2, n + 7 + 2, n + 8 + 2, n + 9 + 2, n + 10 + 2, 0, 0, 0, 0, 0, n + 11 + 2, n + 12 + 2, n + 13 + 2, 1, 1, 1, 1, 1, 0, 0, 0, 1, 0, 0, 0, 0, 0, 0, 1, 0, 1, 0, 1, 1, 1, 0, 0, 0, 1, 1, 1, 0, 1, 0, 1, 1, 1, 1, 1, 0, 1, 1, 0, 1, 1, 0, 1, 1, 0, 0, 0, 1])), .inl 135, .inl 810, .inl 135, .inl 16, .inl 16, .inl 16, .inl 8, .inl 8, .inl 600, .inl 400, .inl 148, .inl 2, .inl 48, .inl 48]) M148 s H _ := h
  refine W.widen (k := 14) (n := 2390) (by omega) (by omega) ?_
  refine cx_putR (k := n + 0) (j := 23) (r := n + 14) (ty := .array .int) X hin h ((ap_at hn 0).trans rfl) fl_RX12_49 (Nat.le_of_ble_eq_true rfl) (fun C T N q => by cases q; rfl) (by decide +kernel) rfl rfl dX12_init_1020 (fun H locs h => ?_)
  rw [ap_set hn 0] at h
  have h : fx_H G (S0 ++ [.inr (.inr (12, [0, n + 1 + 2, n + 2 + 2, 0, n + 3 + 2, 0, 0, 0, n + 4 + 2, n + 5 + 2, n + 6 + 2, n + 7 + 2, n + 8 + 2, n + 9 + 2, n + 10 + 2, 0, 0, 0, 0, 0, n + 11 + 2, n + 12 + 2, n + 13 + 2, n + 14 + 2, 1, 1, 1, 1, 0, 0, 0, 1, 0, 0, 0, 0, 0, 0, 1, 0, 1, 0, 1, 1, 1, 0, 0, 0, 1, 1, 1, 0, 1, 0, 1, 1, 1, 1, 1, 0, 1, 1, 0, 1, 1, 0, 1, 1, 0, 0, 0, 1])), .inl 135, .inl 810, .inl 135, .inl 16, .inl 16, .inl 16, .inl 8, .inl 8, .inl 600, .inl 400, .inl 148, .inl 2, .inl 48, .inl 48]) M148 s H locs := h
  refine lv_aload_n hx hb dX12_init_1023 rfl (lv_at hl 0 rfl) ?_
  refine lv_bipush (v := 48) hx hb dX12_init_1024 (by decide) ?_
  refine cy_newa (i0 := 15) (N := 48) hn rfl X h hz (by omega) (h0 _ (by omega)) ak_int (by decide) (by decide) (by decide) (Nat.le_of_ble_eq_true rfl) (Nat.le_of_ble_eq_true rfl) dX12_init_1026 (fun H h => ?_)
  have h : fx_H G (S0 ++ [.inr (.inr (12, [0, n + 1 + 2, n + 2 + 2, 0, n + 3 + 2, 0, 0, 0, n + 4 + 2, n + 5 + 2, n + 6 + 2, n + 7 + 2, n + 8 + 2, n + 9 + 2, n + 10 + 2, 0, 0, 0, 0, 0, n + 11 + 2, n + 12 + 2, n + 13 + 2, n + 14 + 2, 1, 1, 1, 1, 0, 0, 0, 1, 0, 0, 0, 0, 0, 0, 1, 0, 1, 0, 1, 1, 1, 0, 0, 0, 1, 1, 1, 0, 1, 0, 1, 1, 1, 1, 1, 0, 1, 1, 0, 1, 1, 0, 1, 1, 0, 0, 0, 1])), .inl 135, .inl 810, .inl 135, .inl 16, .inl 16, .inl 16, .inl 8, .inl 8, .inl 600, .inl 400, .inl 148, .inl 2, .inl 48, .inl 48, .inl 48]) M148 s H _ := h
  refine W.widen (k := 15) (n := 2438) (by omega) (by omega) ?_
  refine cx_putR (k := n + 0) (j := 24) (r := n + 15) (ty := .array .int) X hin h ((ap_at hn 0).trans rfl) fl_RX12_52 (Nat.le_of_ble_eq_true rfl) (fun C T N q => by cases q; rfl) (by decide +kernel) rfl rfl dX12_init_1028 (fun H locs h => ?_)
  rw [ap_set hn 0] at h
  have h : fx_H G (S0 ++ [.inr (.inr (12, [0, n + 1 + 2, n + 2 + 2, 0, n + 3 + 2, 0, 0, 0, n + 4 + 2, n + 5 + 2, n + 6 + 2, n + 7 + 2, n + 8 + 2, n + 9 + 2, n + 10 + 2, 0, 0, 0, 0, 0, n + 11 + 2, n + 12 + 2, n + 13 + 2, n + 14 + 2, n + 15 + 2, 1, 1, 1, 0, 0, 0, 1, 0, 0, 0, 0, 0, 0, 1, 0, 1, 0, 1, 1, 1, 0, 0, 0, 1, 1, 1, 0, 1, 0, 1, 1, 1, 1, 1, 0, 1, 1, 0, 1, 1, 0, 1, 1, 0, 0, 0, 1])), .inl 135, .inl 810, .inl 135, .inl 16, .inl 16, .inl 16, .inl 8, .inl 8, .inl 600, .inl 400, .inl 148, .inl 2, .inl 48, .inl 48, .inl 48]) M148 s H locs := h
  refine lv_aload_n hx hb dX12_init_1031 rfl (lv_at hl 0 rfl) ?_
  refine lv_bipush (v := 48) hx hb dX12_init_1032 (by decide) ?_
  refine cy_newa (i0 := 16) (N := 48) hn rfl X h hz (by omega) (h0 _ (by omega)) ak_int (by decide) (by decide) (by decide) (Nat.le_of_ble_eq_true rfl) (Nat.le_of_ble_eq_true rfl) dX12_init_1034 (fun H h => ?_)
  have h : fx_H G (S0 ++ [.inr (.inr (12, [0, n + 1 + 2, n + 2 + 2, 0, n + 3 + 2, 0, 0, 0, n + 4 + 2, n + 5 + 2, n + 6 + 2, n + 7 + 2, n + 8 + 2, n + 9 + 2, n + 10 + 2, 0, 0, 0, 0, 0, n + 11 + 2, n + 12 + 2, n + 13 + 2, n + 14 + 2, n + 15 + 2, 1, 1, 1, 0, 0, 0, 1, 0, 0, 0, 0, 0, 0, 1, 0, 1, 0, 1, 1, 1, 0, 0, 0, 1, 1, 1, 0, 1, 0, 1, 1, 1, 1, 1, 0, 1, 1, 0, 1, 1, 0, 1, 1, 0, 0, 0, 1])), .inl 135, .inl 810, .inl 135, .inl 16, .inl 16, .inl 16, .inl 8, .inl 8, .inl 600, .inl 400, .inl 148, .inl 2, .inl 48, .inl 48, .inl 48, .inl 48]) M148 s H _ := h
  refine W.widen (k := 16) (n := 2486) (by omega) (by omega) ?_
  refine cx_putR (k := n + 0) (j := 25) (r := n + 16) (ty := .array .int) X hin h ((ap_at hn 0).trans rfl) fl_RX12_55 (Nat.le_of_ble_eq_true rfl) (fun C T N q => by cases q; rfl) (by decide +kernel) rfl rfl dX12_init_1036 (fun H locs h => ?_)
  rw [ap_set hn 0] at h
  have h : fx_H G (S0 ++ [.inr (.inr (12, [0, n + 1 + 2, n + 2 + 2, 0, n + 3 + 2, 0, 0, 0, n + 4 + 2, n + 5 + 2, n + 6 + 2, n + 7 + 2, n + 8 + 2, n + 9 + 2, n + 10 + 2, 0, 0, 0, 0, 0, n + 11 + 2, n + 12 + 2, n + 13 + 2, n + 14 + 2, n + 15 + 2, n + 16 + 2, 1, 1, 0, 0, 0, 1, 0, 0, 0, 0, 0, 0, 1, 0, 1, 0, 1, 1, 1, 0, 0, 0, 1, 1, 1, 0, 1, 0, 1, 1, 1, 1, 1, 0, 1, 1, 0, 1, 1, 0, 1, 1, 0, 0, 0, 1])), .inl 135, .inl 810, .inl 135, .inl 16, .inl 16, .inl 16, .inl 8, .inl 8, .inl 600, .inl 400, .inl 148, .inl 2, .inl 48, .inl 48, .inl 48, .inl 48]) M148 s H locs := h
  refine lv_aload_n hx hb dX12_init_1039 rfl (lv_at hl 0 rfl) ?_
  refine lv_sipush (v := 1200) hx hb dX12_init_1040 (by decide) ?_
  refine cy_newa (i0 := 17) (N := 1200) hn rfl X h hz (by omega) (h0 _ (by omega)) ak_int (by decide) (by decide) (by decide) (Nat.le_of_ble_eq_true rfl) (Nat.le_of_ble_eq_true rfl) dX12_init_1043 (fun H h => ?_)
  have h : fx_H G (S0 ++ [.inr (.inr (12, [0, n + 1 + 2, n + 2 + 2, 0, n + 3 + 2, 0, 0, 0, n + 4 + 2, n + 5 + 2, n + 6 + 2, n + 7 + 2, n + 8 + 2, n + 9 + 2, n + 10 + 2, 0, 0, 0, 0, 0, n + 11 + 2, n + 12 + 2, n + 13 + 2, n + 14 + 2, n + 15 + 2, n + 16 + 2, 1, 1, 0, 0, 0, 1, 0, 0, 0, 0, 0, 0, 1, 0, 1, 0, 1, 1, 1, 0, 0, 0, 1, 1, 1, 0, 1, 0, 1, 1, 1, 1, 1, 0, 1, 1, 0, 1, 1, 0, 1, 1, 0, 0, 0, 1])), .inl 135, .inl 810, .inl 135, .inl 16, .inl 16, .inl 16, .inl 8, .inl 8, .inl 600, .inl 400, .inl 148, .inl 2, .inl 48, .inl 48, .inl 48, .inl 48, .inl 1200]) M148 s H _ := h
  refine W.widen (k := 17) (n := 3686) (by omega) (by omega) ?_
  refine cx_putR (k := n + 0) (j := 26) (r := n + 17) (ty := .array .int) X hin h ((ap_at hn 0).trans rfl) fl_RX12_58 (Nat.le_of_ble_eq_true rfl) (fun C T N q => by cases q; rfl) (by decide +kernel) rfl rfl dX12_init_1045 (fun H locs h => ?_)
  rw [ap_set hn 0] at h
  have h : fx_H G (S0 ++ [.inr (.inr (12, [0, n + 1 + 2, n + 2 + 2, 0, n + 3 + 2, 0, 0, 0, n + 4 + 2, n + 5 + 2, n + 6 + 2, n + 7 + 2, n + 8 + 2, n + 9 + 2, n + 10 + 2, 0, 0, 0, 0, 0, n + 11 + 2, n + 12 + 2, n + 13 + 2, n + 14 + 2, n + 15 + 2, n + 16 + 2, n + 17 + 2, 1, 0, 0, 0, 1, 0, 0, 0, 0, 0, 0, 1, 0, 1, 0, 1, 1, 1, 0, 0, 0, 1, 1, 1, 0, 1, 0, 1, 1, 1, 1, 1, 0, 1, 1, 0, 1, 1, 0, 1, 1, 0, 0, 0, 1])), .inl 135, .inl 810, .inl 135, .inl 16, .inl 16, .inl 16, .inl 8, .inl 8, .inl 600, .inl 400, .inl 148, .inl 2, .inl 48, .inl 48, .inl 48, .inl 48, .inl 1200]) M148 s H locs := h
  refine lv_aload_n hx hb dX12_init_1048 rfl (lv_at hl 0 rfl) ?_
  refine lv_sipush (v := 1200) hx hb dX12_init_1049 (by decide) ?_
  refine cy_newa (i0 := 18) (N := 1200) hn rfl X h hz (by omega) (h0 _ (by omega)) ak_int (by decide) (by decide) (by decide) (Nat.le_of_ble_eq_true rfl) (Nat.le_of_ble_eq_true rfl) dX12_init_1052 (fun H h => ?_)
  have h : fx_H G (S0 ++ [.inr (.inr (12, [0, n + 1 + 2, n + 2 + 2, 0, n + 3 + 2, 0, 0, 0, n + 4 + 2, n + 5 + 2, n + 6 + 2, n + 7 + 2, n + 8 + 2, n + 9 + 2, n + 10 + 2, 0, 0, 0, 0, 0, n + 11 + 2, n + 12 + 2, n + 13 + 2, n + 14 + 2, n + 15 + 2, n + 16 + 2, n + 17 + 2, 1, 0, 0, 0, 1, 0, 0, 0, 0, 0, 0, 1, 0, 1, 0, 1, 1, 1, 0, 0, 0, 1, 1, 1, 0, 1, 0, 1, 1, 1, 1, 1, 0, 1, 1, 0, 1, 1, 0, 1, 1, 0, 0, 0, 1])), .inl 135, .inl 810, .inl 135, .inl 16, .inl 16, .inl 16, .inl 8, .inl 8, .inl 600, .inl 400, .inl 148, .inl 2, .inl 48, .inl 48, .inl 48, .inl 48, .inl 1200, .inl 1200]) M148 s H _ := h
  refine W.widen (k := 18) (n := 4886) (by omega) (by omega) ?_
  refine cx_putR (k := n + 0) (j := 27) (r := n + 18) (ty := .array .int) X hin h ((ap_at hn 0).trans rfl) fl_RX12_61 (Nat.le_of_ble_eq_true rfl) (fun C T N q => by cases q; rfl) (by decide +kernel) rfl rfl dX12_init_1054 (fun H locs h => ?_)
  rw [ap_set hn 0] at h
  have h : fx_H G (S0 ++ [.inr (.inr (12, [0, n + 1 + 2, n + 2 + 2, 0, n + 3 + 2, 0, 0, 0, n + 4 + 2, n + 5 + 2, n + 6 + 2, n + 7 + 2, n + 8 + 2, n + 9 + 2, n + 10 + 2, 0, 0, 0, 0, 0, n + 11 + 2, n + 12 + 2, n + 13 + 2, n + 14 + 2, n + 15 + 2, n + 16 + 2, n + 17 + 2, n + 18 + 2, 0, 0, 0, 1, 0, 0, 0, 0, 0, 0, 1, 0, 1, 0, 1, 1, 1, 0, 0, 0, 1, 1, 1, 0, 1, 0, 1, 1, 1, 1, 1, 0, 1, 1, 0, 1, 1, 0, 1, 1, 0, 0, 0, 1])), .inl 135, .inl 810, .inl 135, .inl 16, .inl 16, .inl 16, .inl 8, .inl 8, .inl 600, .inl 400, .inl 148, .inl 2, .inl 48, .inl 48, .inl 48, .inl 48, .inl 1200, .inl 1200]) M148 s H locs := h
  refine lv_aload_n hx hb dX12_init_1057 rfl (lv_at hl 0 rfl) ?_
  refine lv_bipush (v := 40) hx hb dX12_init_1058 (by decide) ?_
  refine cy_newa (i0 := 19) (N := 40) hn rfl X h hz (by omega) (h0 _ (by omega)) ak_int (by decide) (by decide) (by decide) (Nat.le_of_ble_eq_true rfl) (Nat.le_of_ble_eq_true rfl) dX12_init_1060 (fun H h => ?_)
  have h : fx_H G (S0 ++ [.inr (.inr (12, [0, n + 1 + 2, n + 2 + 2, 0, n + 3 + 2, 0, 0, 0, n + 4 + 2, n + 5 + 2, n + 6 + 2, n + 7 + 2, n + 8 + 2, n + 9 + 2, n + 10 + 2, 0, 0, 0, 0, 0, n + 11 + 2, n + 12 + 2, n + 13 + 2, n + 14 + 2, n + 15 + 2, n + 16 + 2, n + 17 + 2, n + 18 + 2, 0, 0, 0, 1, 0, 0, 0, 0, 0, 0, 1, 0, 1, 0, 1, 1, 1, 0, 0, 0, 1, 1, 1, 0, 1, 0, 1, 1, 1, 1, 1, 0, 1, 1, 0, 1, 1, 0, 1, 1, 0, 0, 0, 1])), .inl 135, .inl 810, .inl 135, .inl 16, .inl 16, .inl 16, .inl 8, .inl 8, .inl 600, .inl 400, .inl 148, .inl 2, .inl 48, .inl 48, .inl 48, .inl 48, .inl 1200, .inl 1200, .inl 40]) M148 s H _ := h
  refine W.widen (k := 19) (n := 4926) (by omega) (by omega) ?_
  refine cx_putR (k := n + 0) (j := 31) (r := n + 19) (ty := .array .int) X hin h ((ap_at hn 0).trans rfl) fl_RX12_64 (Nat.le_of_ble_eq_true rfl) (fun C T N q => by cases q; rfl) (by decide +kernel) rfl rfl dX12_init_1062 (fun H locs h => ?_)
  rw [ap_set hn 0] at h
  have h : fx_H G (S0 ++ [.inr (.inr (12, [0, n + 1 + 2, n + 2 + 2, 0, n + 3 + 2, 0, 0, 0, n + 4 + 2, n + 5 + 2, n + 6 + 2, n + 7 + 2, n + 8 + 2, n + 9 + 2, n + 10 + 2, 0, 0, 0, 0, 0, n + 11 + 2, n + 12 + 2, n + 13 + 2, n + 14 + 2, n + 15 + 2, n + 16 + 2, n + 17 + 2, n + 18 + 2, 0, 0, 0, n + 19 + 2, 0, 0, 0, 0, 0, 0, 1, 0, 1, 0, 1, 1, 1, 0, 0, 0, 1, 1, 1, 0, 1, 0, 1, 1, 1, 1, 1, 0, 1, 1, 0, 1, 1, 0, 1, 1, 0, 0, 0, 1])), .inl 135, .inl 810, .inl 135, .inl 16, .inl 16, .inl 16, .inl 8, .inl 8, .inl 600, .inl 400, .inl 148, .inl 2, .inl 48, .inl 48, .inl 48, .inl 48, .inl 1200, .inl 1200, .inl 40]) M148 s H locs := h
  refine lv_aload_n hx hb dX12_init_1065 rfl (lv_at hl 0 rfl) ?_
  refine lv_iconst (v := -1) hx hb dX12_init_1066 (by decide) ?_
  refine fx_putI X h (k := n + 0) (j := 36) ((ap_at hn 0).trans rfl) rfl fl_RX12_67 dX12_init_1067 (fun H locs h => ?_)
  obtain ⟨M149, eM149⟩ : ∃ z : Mm, z = m_up M148 (n + 0) 36 (-1 : Int32) := ⟨_, rfl⟩
  rw [← eM149] at h
  have h0 : ∀ a, n + 20 ≤ a → M149 a = fun _ => 0 := fun a ha => by rw [eM149, m_up_ne (by omega)]; exact h0 a (by omega)
  refine lv_aload_n hx hb dX12_init_1070 rfl (lv_at hl 0 rfl) ?_
  refine lv_bipush (v := 16) hx hb dX12_init_1071 (by decide) ?_
  refine cy_newa (i0 := 20) (N := 16) hn rfl X h hz (by omega) (h0 _ (by omega)) ak_int (by decide) (by decide) (by decide) (Nat.le_of_ble_eq_true rfl) (Nat.le_of_ble_eq_true rfl) dX12_init_1073 (fun H h => ?_)
  have h : fx_H G (S0 ++ [.inr (.inr (12, [0, n + 1 + 2, n + 2 + 2, 0, n + 3 + 2, 0, 0, 0, n + 4 + 2, n + 5 + 2, n + 6 + 2, n + 7 + 2, n + 8 + 2, n + 9 + 2, n + 10 + 2, 0, 0, 0, 0, 0, n + 11 + 2, n + 12 + 2, n + 13 + 2, n + 14 + 2, n + 15 + 2, n + 16 + 2, n + 17 + 2, n + 18 + 2, 0, 0, 0, n + 19 + 2, 0, 0, 0, 0, 0, 0, 1, 0, 1, 0, 1, 1, 1, 0, 0, 0, 1, 1, 1, 0, 1, 0, 1, 1, 1, 1, 1, 0, 1, 1, 0, 1, 1, 0, 1, 1, 0, 0, 0, 1])), .inl 135, .inl 810, .inl 135, .inl 16, .inl 16, .inl 16, .inl 8, .inl 8, .inl 600, .inl 400, .inl 148, .inl 2, .inl 48, .inl 48, .inl 48, .inl 48, .inl 1200, .inl 1200, .inl 40, .inl 16]) M149 s H _ := h
  refine W.widen (k := 20) (n := 4942) (by omega) (by omega) ?_
  refine cx_putR (k := n + 0) (j := 38) (r := n + 20) (ty := .array .int) X hin h ((ap_at hn 0).trans rfl) fl_RX12_71 (Nat.le_of_ble_eq_true rfl) (fun C T N q => by cases q; rfl) (by decide +kernel) rfl rfl dX12_init_1075 (fun H locs h => ?_)
  rw [ap_set hn 0] at h
  have h : fx_H G (S0 ++ [.inr (.inr (12, [0, n + 1 + 2, n + 2 + 2, 0, n + 3 + 2, 0, 0, 0, n + 4 + 2, n + 5 + 2, n + 6 + 2, n + 7 + 2, n + 8 + 2, n + 9 + 2, n + 10 + 2, 0, 0, 0, 0, 0, n + 11 + 2, n + 12 + 2, n + 13 + 2, n + 14 + 2, n + 15 + 2, n + 16 + 2, n + 17 + 2, n + 18 + 2, 0, 0, 0, n + 19 + 2, 0, 0, 0, 0, 0, 0, n + 20 + 2, 0, 1, 0, 1, 1, 1, 0, 0, 0, 1, 1, 1, 0, 1, 0, 1, 1, 1, 1, 1, 0, 1, 1, 0, 1, 1, 0, 1, 1, 0, 0, 0, 1])), .inl 135, .inl 810, .inl 135, .inl 16, .inl 16, .inl 16, .inl 8, .inl 8, .inl 600, .inl 400, .inl 148, .inl 2, .inl 48, .inl 48, .inl 48, .inl 48, .inl 1200, .inl 1200, .inl 40, .inl 16]) M149 s H locs := h
  refine lv_aload_n hx hb dX12_init_1078 rfl (lv_at hl 0 rfl) ?_
  refine lv_sipush (v := 128) hx hb dX12_init_1079 (by decide) ?_
  refine cy_newa (i0 := 21) (N := 128) hn rfl X h hz (by omega) (h0 _ (by omega)) ak_int (by decide) (by decide) (by decide) (Nat.le_of_ble_eq_true rfl) (Nat.le_of_ble_eq_true rfl) dX12_init_1082 (fun H h => ?_)
  have h : fx_H G (S0 ++ [.inr (.inr (12, [0, n + 1 + 2, n + 2 + 2, 0, n + 3 + 2, 0, 0, 0, n + 4 + 2, n + 5 + 2, n + 6 + 2, n + 7 + 2, n + 8 + 2, n + 9 + 2, n + 10 + 2, 0, 0, 0, 0, 0, n + 11 + 2, n + 12 + 2, n + 13 + 2, n + 14 + 2, n + 15 + 2, n + 16 + 2, n + 17 + 2, n + 18 + 2, 0, 0, 0, n + 19 + 2, 0, 0, 0, 0, 0, 0, n + 20 + 2, 0, 1, 0, 1, 1, 1, 0, 0, 0, 1, 1, 1, 0, 1, 0, 1, 1, 1, 1, 1, 0, 1, 1, 0, 1, 1, 0, 1, 1, 0, 0, 0, 1])), .inl 135, .inl 810, .inl 135, .inl 16, .inl 16, .inl 16, .inl 8, .inl 8, .inl 600, .inl 400, .inl 148, .inl 2, .inl 48, .inl 48, .inl 48, .inl 48, .inl 1200, .inl 1200, .inl 40, .inl 16, .inl 128]) M149 s H _ := h
  refine W.widen (k := 21) (n := 5070) (by omega) (by omega) ?_
  refine cx_putR (k := n + 0) (j := 40) (r := n + 21) (ty := .array .int) X hin h ((ap_at hn 0).trans rfl) fl_RX12_74 (Nat.le_of_ble_eq_true rfl) (fun C T N q => by cases q; rfl) (by decide +kernel) rfl rfl dX12_init_1084 (fun H locs h => ?_)
  rw [ap_set hn 0] at h
  have h : fx_H G (S0 ++ [.inr (.inr (12, [0, n + 1 + 2, n + 2 + 2, 0, n + 3 + 2, 0, 0, 0, n + 4 + 2, n + 5 + 2, n + 6 + 2, n + 7 + 2, n + 8 + 2, n + 9 + 2, n + 10 + 2, 0, 0, 0, 0, 0, n + 11 + 2, n + 12 + 2, n + 13 + 2, n + 14 + 2, n + 15 + 2, n + 16 + 2, n + 17 + 2, n + 18 + 2, 0, 0, 0, n + 19 + 2, 0, 0, 0, 0, 0, 0, n + 20 + 2, 0, n + 21 + 2, 0, 1, 1, 1, 0, 0, 0, 1, 1, 1, 0, 1, 0, 1, 1, 1, 1, 1, 0, 1, 1, 0, 1, 1, 0, 1, 1, 0, 0, 0, 1])), .inl 135, .inl 810, .inl 135, .inl 16, .inl 16, .inl 16, .inl 8, .inl 8, .inl 600, .inl 400, .inl 148, .inl 2, .inl 48, .inl 48, .inl 48, .inl 48, .inl 1200, .inl 1200, .inl 40, .inl 16, .inl 128]) M149 s H locs := h
  refine lv_aload_n hx hb dX12_init_1087 rfl (lv_at hl 0 rfl) ?_
  refine lv_sipush (v := 128) hx hb dX12_init_1088 (by decide) ?_
  refine cy_newa (i0 := 22) (N := 128) hn rfl X h hz (by omega) (h0 _ (by omega)) ak_int (by decide) (by decide) (by decide) (Nat.le_of_ble_eq_true rfl) (Nat.le_of_ble_eq_true rfl) dX12_init_1091 (fun H h => ?_)
  have h : fx_H G (S0 ++ [.inr (.inr (12, [0, n + 1 + 2, n + 2 + 2, 0, n + 3 + 2, 0, 0, 0, n + 4 + 2, n + 5 + 2, n + 6 + 2, n + 7 + 2, n + 8 + 2, n + 9 + 2, n + 10 + 2, 0, 0, 0, 0, 0, n + 11 + 2, n + 12 + 2, n + 13 + 2, n + 14 + 2, n + 15 + 2, n + 16 + 2, n + 17 + 2, n + 18 + 2, 0, 0, 0, n + 19 + 2, 0, 0, 0, 0, 0, 0, n + 20 + 2, 0, n + 21 + 2, 0, 1, 1, 1, 0, 0, 0, 1, 1, 1, 0, 1, 0, 1, 1, 1, 1, 1, 0, 1, 1, 0, 1, 1, 0, 1, 1, 0, 0, 0, 1])), .inl 135, .inl 810, .inl 135, .inl 16, .inl 16, .inl 16, .inl 8, .inl 8, .inl 600, .inl 400, .inl 148, .inl 2, .inl 48, .inl 48, .inl 48, .inl 48, .inl 1200, .inl 1200, .inl 40, .inl 16, .inl 128, .inl 128]) M149 s H _ := h
  refine W.widen (k := 22) (n := 5198) (by omega) (by omega) ?_
  refine cx_putR (k := n + 0) (j := 42) (r := n + 22) (ty := .array .int) X hin h ((ap_at hn 0).trans rfl) fl_RX12_77 (Nat.le_of_ble_eq_true rfl) (fun C T N q => by cases q; rfl) (by decide +kernel) rfl rfl dX12_init_1093 (fun H locs h => ?_)
  rw [ap_set hn 0] at h
  have h : fx_H G (S0 ++ [.inr (.inr (12, [0, n + 1 + 2, n + 2 + 2, 0, n + 3 + 2, 0, 0, 0, n + 4 + 2, n + 5 + 2, n + 6 + 2, n + 7 + 2, n + 8 + 2, n + 9 + 2, n + 10 + 2, 0, 0, 0, 0, 0, n + 11 + 2, n + 12 + 2, n + 13 + 2, n + 14 + 2, n + 15 + 2, n + 16 + 2, n + 17 + 2, n + 18 + 2, 0, 0, 0, n + 19 + 2, 0, 0, 0, 0, 0, 0, n + 20 + 2, 0, n + 21 + 2, 0, n + 22 + 2, 1, 1, 0, 0, 0, 1, 1, 1, 0, 1, 0, 1, 1, 1, 1, 1, 0, 1, 1, 0, 1, 1, 0, 1, 1, 0, 0, 0, 1])), .inl 135, .inl 810, .inl 135, .inl 16, .inl 16, .inl 16, .inl 8, .inl 8, .inl 600, .inl 400, .inl 148, .inl 2, .inl 48, .inl 48, .inl 48, .inl 48, .inl 1200, .inl 1200, .inl 40, .inl 16, .inl 128, .inl 128]) M149 s H locs := h
  refine lv_aload_n hx hb dX12_init_1096 rfl (lv_at hl 0 rfl) ?_
  refine lv_bipush (v := 12) hx hb dX12_init_1097 (by decide) ?_
  refine cy_newa (i0 := 23) (N := 12) hn rfl X h hz (by omega) (h0 _ (by omega)) ak_int (by decide) (by decide) (by decide) (Nat.le_of_ble_eq_true rfl) (Nat.le_of_ble_eq_true rfl) dX12_init_1099 (fun H h => ?_)
  have h : fx_H G (S0 ++ [.inr (.inr (12, [0, n + 1 + 2, n + 2 + 2, 0, n + 3 + 2, 0, 0, 0, n + 4 + 2, n + 5 + 2, n + 6 + 2, n + 7 + 2, n + 8 + 2, n + 9 + 2, n + 10 + 2, 0, 0, 0, 0, 0, n + 11 + 2, n + 12 + 2, n + 13 + 2, n + 14 + 2, n + 15 + 2, n + 16 + 2, n + 17 + 2, n + 18 + 2, 0, 0, 0, n + 19 + 2, 0, 0, 0, 0, 0, 0, n + 20 + 2, 0, n + 21 + 2, 0, n + 22 + 2, 1, 1, 0, 0, 0, 1, 1, 1, 0, 1, 0, 1, 1, 1, 1, 1, 0, 1, 1, 0, 1, 1, 0, 1, 1, 0, 0, 0, 1])), .inl 135, .inl 810, .inl 135, .inl 16, .inl 16, .inl 16, .inl 8, .inl 8, .inl 600, .inl 400, .inl 148, .inl 2, .inl 48, .inl 48, .inl 48, .inl 48, .inl 1200, .inl 1200, .inl 40, .inl 16, .inl 128, .inl 128, .inl 12]) M149 s H _ := h
  refine W.widen (k := 23) (n := 5210) (by omega) (by omega) ?_
  refine cx_putR (k := n + 0) (j := 43) (r := n + 23) (ty := .array .int) X hin h ((ap_at hn 0).trans rfl) fl_RX12_80 (Nat.le_of_ble_eq_true rfl) (fun C T N q => by cases q; rfl) (by decide +kernel) rfl rfl dX12_init_1101 (fun H locs h => ?_)
  rw [ap_set hn 0] at h
  have h : fx_H G (S0 ++ [.inr (.inr (12, [0, n + 1 + 2, n + 2 + 2, 0, n + 3 + 2, 0, 0, 0, n + 4 + 2, n + 5 + 2, n + 6 + 2, n + 7 + 2, n + 8 + 2, n + 9 + 2, n + 10 + 2, 0, 0, 0, 0, 0, n + 11 + 2, n + 12 + 2, n + 13 + 2, n + 14 + 2, n + 15 + 2, n + 16 + 2, n + 17 + 2, n + 18 + 2, 0, 0, 0, n + 19 + 2, 0, 0, 0, 0, 0, 0, n + 20 + 2, 0, n + 21 + 2, 0, n + 22 + 2, n + 23 + 2, 1, 0, 0, 0, 1, 1, 1, 0, 1, 0, 1, 1, 1, 1, 1, 0, 1, 1, 0, 1, 1, 0, 1, 1, 0, 0, 0, 1])), .inl 135, .inl 810, .inl 135, .inl 16, .inl 16, .inl 16, .inl 8, .inl 8, .inl 600, .inl 400, .inl 148, .inl 2, .inl 48, .inl 48, .inl 48, .inl 48, .inl 1200, .inl 1200, .inl 40, .inl 16, .inl 128, .inl 128, .inl 12]) M149 s H locs := h
  refine lv_aload_n hx hb dX12_init_1104 rfl (lv_at hl 0 rfl) ?_
  refine lv_sipush (v := 420) hx hb dX12_init_1105 (by decide) ?_
  refine cy_newa (i0 := 24) (N := 420) hn rfl X h hz (by omega) (h0 _ (by omega)) ak_int (by decide) (by decide) (by decide) (Nat.le_of_ble_eq_true rfl) (Nat.le_of_ble_eq_true rfl) dX12_init_1108 (fun H h => ?_)
  have h : fx_H G (S0 ++ [.inr (.inr (12, [0, n + 1 + 2, n + 2 + 2, 0, n + 3 + 2, 0, 0, 0, n + 4 + 2, n + 5 + 2, n + 6 + 2, n + 7 + 2, n + 8 + 2, n + 9 + 2, n + 10 + 2, 0, 0, 0, 0, 0, n + 11 + 2, n + 12 + 2, n + 13 + 2, n + 14 + 2, n + 15 + 2, n + 16 + 2, n + 17 + 2, n + 18 + 2, 0, 0, 0, n + 19 + 2, 0, 0, 0, 0, 0, 0, n + 20 + 2, 0, n + 21 + 2, 0, n + 22 + 2, n + 23 + 2, 1, 0, 0, 0, 1, 1, 1, 0, 1, 0, 1, 1, 1, 1, 1, 0, 1, 1, 0, 1, 1, 0, 1, 1, 0, 0, 0, 1])), .inl 135, .inl 810, .inl 135, .inl 16, .inl 16, .inl 16, .inl 8, .inl 8, .inl 600, .inl 400, .inl 148, .inl 2, .inl 48, .inl 48, .inl 48, .inl 48, .inl 1200, .inl 1200, .inl 40, .inl 16, .inl 128, .inl 128, .inl 12, .inl 420]) M149 s H _ := h
  refine W.widen (k := 24) (n := 5630) (by omega) (by omega) ?_
  refine cx_putR (k := n + 0) (j := 44) (r := n + 24) (ty := .array .int) X hin h ((ap_at hn 0).trans rfl) fl_RX12_83 (Nat.le_of_ble_eq_true rfl) (fun C T N q => by cases q; rfl) (by decide +kernel) rfl rfl dX12_init_1110 (fun H locs h => ?_)
  rw [ap_set hn 0] at h
  have h : fx_H G (S0 ++ [.inr (.inr (12, [0, n + 1 + 2, n + 2 + 2, 0, n + 3 + 2, 0, 0, 0, n + 4 + 2, n + 5 + 2, n + 6 + 2, n + 7 + 2, n + 8 + 2, n + 9 + 2, n + 10 + 2, 0, 0, 0, 0, 0, n + 11 + 2, n + 12 + 2, n + 13 + 2, n + 14 + 2, n + 15 + 2, n + 16 + 2, n + 17 + 2, n + 18 + 2, 0, 0, 0, n + 19 + 2, 0, 0, 0, 0, 0, 0, n + 20 + 2, 0, n + 21 + 2, 0, n + 22 + 2, n + 23 + 2, n + 24 + 2, 0, 0, 0, 1, 1, 1, 0, 1, 0, 1, 1, 1, 1, 1, 0, 1, 1, 0, 1, 1, 0, 1, 1, 0, 0, 0, 1])), .inl 135, .inl 810, .inl 135, .inl 16, .inl 16, .inl 16, .inl 8, .inl 8, .inl 600, .inl 400, .inl 148, .inl 2, .inl 48, .inl 48, .inl 48, .inl 48, .inl 1200, .inl 1200, .inl 40, .inl 16, .inl 128, .inl 128, .inl 12, .inl 420]) M149 s H locs := h
  refine lv_aload_n hx hb dX12_init_1113 rfl (lv_at hl 0 rfl) ?_
  refine lv_bipush (v := 8) hx hb dX12_init_1114 (by decide) ?_
  refine cy_newa (i0 := 25) (N := 8) hn rfl X h hz (by omega) (h0 _ (by omega)) ak_int (by decide) (by decide) (by decide) (Nat.le_of_ble_eq_true rfl) (Nat.le_of_ble_eq_true rfl) dX12_init_1116 (fun H h => ?_)
  have h : fx_H G (S0 ++ [.inr (.inr (12, [0, n + 1 + 2, n + 2 + 2, 0, n + 3 + 2, 0, 0, 0, n + 4 + 2, n + 5 + 2, n + 6 + 2, n + 7 + 2, n + 8 + 2, n + 9 + 2, n + 10 + 2, 0, 0, 0, 0, 0, n + 11 + 2, n + 12 + 2, n + 13 + 2, n + 14 + 2, n + 15 + 2, n + 16 + 2, n + 17 + 2, n + 18 + 2, 0, 0, 0, n + 19 + 2, 0, 0, 0, 0, 0, 0, n + 20 + 2, 0, n + 21 + 2, 0, n + 22 + 2, n + 23 + 2, n + 24 + 2, 0, 0, 0, 1, 1, 1, 0, 1, 0, 1, 1, 1, 1, 1, 0, 1, 1, 0, 1, 1, 0, 1, 1, 0, 0, 0, 1])), .inl 135, .inl 810, .inl 135, .inl 16, .inl 16, .inl 16, .inl 8, .inl 8, .inl 600, .inl 400, .inl 148, .inl 2, .inl 48, .inl 48, .inl 48, .inl 48, .inl 1200, .inl 1200, .inl 40, .inl 16, .inl 128, .inl 128, .inl 12, .inl 420, .inl 8]) M149 s H _ := h
  refine W.widen (k := 25) (n := 5638) (by omega) (by omega) ?_
  refine cx_putR (k := n + 0) (j := 48) (r := n + 25) (ty := .array .int) X hin h ((ap_at hn 0).trans rfl) fl_RX12_86 (Nat.le_of_ble_eq_true rfl) (fun C T N q => by cases q; rfl) (by decide +kernel) rfl rfl dX12_init_1118 (fun H locs h => ?_)
  rw [ap_set hn 0] at h
  have h : fx_H G (S0 ++ [.inr (.inr (12, [0, n + 1 + 2, n + 2 + 2, 0, n + 3 + 2, 0, 0, 0, n + 4 + 2, n + 5 + 2, n + 6 + 2, n + 7 + 2, n + 8 + 2, n + 9 + 2, n + 10 + 2, 0, 0, 0, 0, 0, n + 11 + 2, n + 12 + 2, n + 13 + 2, n + 14 + 2, n + 15 + 2, n + 16 + 2, n + 17 + 2, n + 18 + 2, 0, 0, 0, n + 19 + 2, 0, 0, 0, 0, 0, 0, n + 20 + 2, 0, n + 21 + 2, 0, n + 22 + 2, n + 23 + 2, n + 24 + 2, 0, 0, 0, n + 25 + 2, 1, 1, 0, 1, 0, 1, 1, 1, 1, 1, 0, 1, 1, 0, 1, 1, 0, 1, 1, 0, 0, 0, 1])), .inl 135, .inl 810, .inl 135, .inl 16, .inl 16, .inl 16, .inl 8, .inl 8, .inl 600, .inl 400, .inl 148, .inl 2, .inl 48, .inl 48, .inl 48, .inl 48, .inl 1200, .inl 1200, .inl 40, .inl 16, .inl 128, .inl 128, .inl 12, .inl 420, .inl 8]) M149 s H locs := h
  refine lv_aload_n hx hb dX12_init_1121 rfl (lv_at hl 0 rfl) ?_
  refine lv_sipush (v := 1000) hx hb dX12_init_1122 (by decide) ?_
  refine cy_newa (i0 := 26) (N := 1000) hn rfl X h hz (by omega) (h0 _ (by omega)) ak_int (by decide) (by decide) (by decide) (Nat.le_of_ble_eq_true rfl) (Nat.le_of_ble_eq_true rfl) dX12_init_1125 (fun H h => ?_)
  have h : fx_H G (S0 ++ [.inr (.inr (12, [0, n + 1 + 2, n + 2 + 2, 0, n + 3 + 2, 0, 0, 0, n + 4 + 2, n + 5 + 2, n + 6 + 2, n + 7 + 2, n + 8 + 2, n + 9 + 2, n + 10 + 2, 0, 0, 0, 0, 0, n + 11 + 2, n + 12 + 2, n + 13 + 2, n + 14 + 2, n + 15 + 2, n + 16 + 2, n + 17 + 2, n + 18 + 2, 0, 0, 0, n + 19 + 2, 0, 0, 0, 0, 0, 0, n + 20 + 2, 0, n + 21 + 2, 0, n + 22 + 2, n + 23 + 2, n + 24 + 2, 0, 0, 0, n + 25 + 2, 1, 1, 0, 1, 0, 1, 1, 1, 1, 1, 0, 1, 1, 0, 1, 1, 0, 1, 1, 0, 0, 0, 1])), .inl 135, .inl 810, .inl 135, .inl 16, .inl 16, .inl 16, .inl 8, .inl 8, .inl 600, .inl 400, .inl 148, .inl 2, .inl 48, .inl 48, .inl 48, .inl 48, .inl 1200, .inl 1200, .inl 40, .inl 16, .inl 128, .inl 128, .inl 12, .inl 420, .inl 8, .inl 1000]) M149 s H _ := h
  refine W.widen (k := 26) (n := 6638) (by omega) (by omega) ?_
  refine cx_putR (k := n + 0) (j := 49) (r := n + 26) (ty := .array .int) X hin h ((ap_at hn 0).trans rfl) fl_RX12_89 (Nat.le_of_ble_eq_true rfl) (fun C T N q => by cases q; rfl) (by decide +kernel) rfl rfl dX12_init_1127 (fun H locs h => ?_)
  rw [ap_set hn 0] at h
  have h : fx_H G (S0 ++ [.inr (.inr (12, [0, n + 1 + 2, n + 2 + 2, 0, n + 3 + 2, 0, 0, 0, n + 4 + 2, n + 5 + 2, n + 6 + 2, n + 7 + 2, n + 8 + 2, n + 9 + 2, n + 10 + 2, 0, 0, 0, 0, 0, n + 11 + 2, n + 12 + 2, n + 13 + 2, n + 14 + 2, n + 15 + 2, n + 16 + 2, n + 17 + 2, n + 18 + 2, 0, 0, 0, n + 19 + 2, 0, 0, 0, 0, 0, 0, n + 20 + 2, 0, n + 21 + 2, 0, n + 22 + 2, n + 23 + 2, n + 24 + 2, 0, 0, 0, n + 25 + 2, n + 26 + 2, 1, 0, 1, 0, 1, 1, 1, 1, 1, 0, 1, 1, 0, 1, 1, 0, 1, 1, 0, 0, 0, 1])), .inl 135, .inl 810, .inl 135, .inl 16, .inl 16, .inl 16, .inl 8, .inl 8, .inl 600, .inl 400, .inl 148, .inl 2, .inl 48, .inl 48, .inl 48, .inl 48, .inl 1200, .inl 1200, .inl 40, .inl 16, .inl 128, .inl 128, .inl 12, .inl 420, .inl 8, .inl 1000]) M149 s H locs := h
  refine lv_aload_n hx hb dX12_init_1130 rfl (lv_at hl 0 rfl) ?_
  refine lv_sipush (v := 1000) hx hb dX12_init_1131 (by decide) ?_
  refine cy_newa (i0 := 27) (N := 1000) hn rfl X h hz (by omega) (h0 _ (by omega)) ak_int (by decide) (by decide) (by decide) (Nat.le_of_ble_eq_true rfl) (Nat.le_of_ble_eq_true rfl) dX12_init_1134 (fun H h => ?_)
  have h : fx_H G (S0 ++ [.inr (.inr (12, [0, n + 1 + 2, n + 2 + 2, 0, n + 3 + 2, 0, 0, 0, n + 4 + 2, n + 5 + 2, n + 6 + 2, n + 7 + 2, n + 8 + 2, n + 9 + 2, n + 10 + 2, 0, 0, 0, 0, 0, n + 11 + 2, n + 12 + 2, n + 13 + 2, n + 14 + 2, n + 15 + 2, n + 16 + 2, n + 17 + 2, n + 18 + 2, 0, 0, 0, n + 19 + 2, 0, 0, 0, 0, 0, 0, n + 20 + 2, 0, n + 21 + 2, 0, n + 22 + 2, n + 23 + 2, n + 24 + 2, 0, 0, 0, n + 25 + 2, n + 26 + 2, 1, 0, 1, 0, 1, 1, 1, 1, 1, 0, 1, 1, 0, 1, 1, 0, 1, 1, 0, 0, 0, 1])), .inl 135, .inl 810, .inl 135, .inl 16, .inl 16, .inl 16, .inl 8, .inl 8, .inl 600, .inl 400, .inl 148, .inl 2, .inl 48, .inl 48, .inl 48, .inl 48, .inl 1200, .inl 1200, .inl 40, .inl 16, .inl 128, .inl 128, .inl 12, .inl 420, .inl 8, .inl 1000, .inl 1000]) M149 s H _ := h
  refine W.widen (k := 27) (n := 7638) (by omega) (by omega) ?_
  refine cx_putR (k := n + 0) (j := 50) (r := n + 27) (ty := .array .int) X hin h ((ap_at hn 0).trans rfl) fl_RX12_92 (Nat.le_of_ble_eq_true rfl) (fun C T N q => by cases q; rfl) (by decide +kernel) rfl rfl dX12_init_1136 (fun H locs h => ?_)
  rw [ap_set hn 0] at h
  have h : fx_H G (S0 ++ [.inr (.inr (12, [0, n + 1 + 2, n + 2 + 2, 0, n + 3 + 2, 0, 0, 0, n + 4 + 2, n + 5 + 2, n + 6 + 2, n + 7 + 2, n + 8 + 2, n + 9 + 2, n + 10 + 2, 0, 0, 0, 0, 0, n + 11 + 2, n + 12 + 2, n + 13 + 2, n + 14 + 2, n + 15 + 2, n + 16 + 2, n + 17 + 2, n + 18 + 2, 0, 0, 0, n + 19 + 2, 0, 0, 0, 0, 0, 0, n + 20 + 2, 0, n + 21 + 2, 0, n + 22 + 2, n + 23 + 2, n + 24 + 2, 0, 0, 0, n + 25 + 2, n + 26 + 2, n + 27 + 2, 0, 1, 0, 1, 1, 1, 1, 1, 0, 1, 1, 0, 1, 1, 0, 1, 1, 0, 0, 0, 1])), .inl 135, .inl 810, .inl 135, .inl 16, .inl 16, .inl 16, .inl 8, .inl 8, .inl 600, .inl 400, .inl 148, .inl 2, .inl 48, .inl 48, .inl 48, .inl 48, .inl 1200, .inl 1200, .inl 40, .inl 16, .inl 128, .inl 128, .inl 12, .inl 420, .inl 8, .inl 1000, .inl 1000]) M149 s H locs := h
  refine lv_aload_n hx hb dX12_init_1139 rfl (lv_at hl 0 rfl) ?_
  refine lv_bipush (v := 6) hx hb dX12_init_1140 (by decide) ?_
  refine cy_newa (i0 := 28) (N := 6) hn rfl X h hz (by omega) (h0 _ (by omega)) ak_int (by decide) (by decide) (by decide) (Nat.le_of_ble_eq_true rfl) (Nat.le_of_ble_eq_true rfl) dX12_init_1142 (fun H h => ?_)
  have h : fx_H G (S0 ++ [.inr (.inr (12, [0, n + 1 + 2, n + 2 + 2, 0, n + 3 + 2, 0, 0, 0, n + 4 + 2, n + 5 + 2, n + 6 + 2, n + 7 + 2, n + 8 + 2, n + 9 + 2, n + 10 + 2, 0, 0, 0, 0, 0, n + 11 + 2, n + 12 + 2, n + 13 + 2, n + 14 + 2, n + 15 + 2, n + 16 + 2, n + 17 + 2, n + 18 + 2, 0, 0, 0, n + 19 + 2, 0, 0, 0, 0, 0, 0, n + 20 + 2, 0, n + 21 + 2, 0, n + 22 + 2, n + 23 + 2, n + 24 + 2, 0, 0, 0, n + 25 + 2, n + 26 + 2, n + 27 + 2, 0, 1, 0, 1, 1, 1, 1, 1, 0, 1, 1, 0, 1, 1, 0, 1, 1, 0, 0, 0, 1])), .inl 135, .inl 810, .inl 135, .inl 16, .inl 16, .inl 16, .inl 8, .inl 8, .inl 600, .inl 400, .inl 148, .inl 2, .inl 48, .inl 48, .inl 48, .inl 48, .inl 1200, .inl 1200, .inl 40, .inl 16, .inl 128, .inl 128, .inl 12, .inl 420, .inl 8, .inl 1000, .inl 1000, .inl 6]) M149 s H _ := h
  refine W.widen (k := 28) (n := 7644) (by omega) (by omega) ?_
  refine cx_putR (k := n + 0) (j := 52) (r := n + 28) (ty := .array .int) X hin h ((ap_at hn 0).trans rfl) fl_RX12_95 (Nat.le_of_ble_eq_true rfl) (fun C T N q => by cases q; rfl) (by decide +kernel) rfl rfl dX12_init_1144 (fun H locs h => ?_)
  rw [ap_set hn 0] at h
  have h : fx_H G (S0 ++ [.inr (.inr (12, [0, n + 1 + 2, n + 2 + 2, 0, n + 3 + 2, 0, 0, 0, n + 4 + 2, n + 5 + 2, n + 6 + 2, n + 7 + 2, n + 8 + 2, n + 9 + 2, n + 10 + 2, 0, 0, 0, 0, 0, n + 11 + 2, n + 12 + 2, n + 13 + 2, n + 14 + 2, n + 15 + 2, n + 16 + 2, n + 17 + 2, n + 18 + 2, 0, 0, 0, n + 19 + 2, 0, 0, 0, 0, 0, 0, n + 20 + 2, 0, n + 21 + 2, 0, n + 22 + 2, n + 23 + 2, n + 24 + 2, 0, 0, 0, n + 25 + 2, n + 26 + 2, n + 27 + 2, 0, n + 28 + 2, 0, 1, 1, 1, 1, 1, 0, 1, 1, 0, 1, 1, 0, 1, 1, 0, 0, 0, 1])), .inl 135, .inl 810, .inl 135, .inl 16, .inl 16, .inl 16, .inl 8, .inl 8, .inl 600, .inl 400, .inl 148, .inl 2, .inl 48, .inl 48, .inl 48, .inl 48, .inl 1200, .inl 1200, .inl 40, .inl 16, .inl 128, .inl 128, .inl 12, .inl 420, .inl 8, .inl 1000, .inl 1000, .inl 6]) M149 s H locs := h
  refine lv_aload_n hx hb dX12_init_1147 rfl (lv_at hl 0 rfl) ?_
  refine lv_bipush (v := 9) hx hb dX12_init_1148 (by decide) ?_
  refine cy_newa (i0 := 29) (N := 9) hn rfl X h hz (by omega) (h0 _ (by omega)) ak_int (by decide) (by decide) (by decide) (Nat.le_of_ble_eq_true rfl) (Nat.le_of_ble_eq_true rfl) dX12_init_1150 (fun H h => ?_)
  have h : fx_H G (S0 ++ [.inr (.inr (12, [0, n + 1 + 2, n + 2 + 2, 0, n + 3 + 2, 0, 0, 0, n + 4 + 2, n + 5 + 2, n + 6 + 2, n + 7 + 2, n + 8 + 2, n + 9 + 2, n + 10 + 2, 0, 0, 0, 0, 0, n + 11 + 2, n + 12 + 2, n + 13 + 2, n + 14 + 2, n + 15 + 2, n + 16 + 2, n + 17 + 2, n + 18 + 2, 0, 0, 0, n + 19 + 2, 0, 0, 0, 0, 0, 0, n + 20 + 2, 0, n + 21 + 2, 0, n + 22 + 2, n + 23 + 2, n + 24 + 2, 0, 0, 0, n + 25 + 2, n + 26 + 2, n + 27 + 2, 0, n + 28 + 2, 0, 1, 1, 1, 1, 1, 0, 1, 1, 0, 1, 1, 0, 1, 1, 0, 0, 0, 1])), .inl 135, .inl 810, .inl 135, .inl 16, .inl 16, .inl 16, .inl 8, .inl 8, .inl 600, .inl 400, .inl 148, .inl 2, .inl 48, .inl 48, .inl 48, .inl 48, .inl 1200, .inl 1200, .inl 40, .inl 16, .inl 128, .inl 128, .inl 12, .inl 420, .inl 8, .inl 1000, .inl 1000, .inl 6, .inl 9]) M149 s H _ := h
  refine W.widen (k := 29) (n := 7653) (by omega) (by omega) ?_
  refine cx_putR (k := n + 0) (j := 54) (r := n + 29) (ty := .array .int) X hin h ((ap_at hn 0).trans rfl) fl_RX12_98 (Nat.le_of_ble_eq_true rfl) (fun C T N q => by cases q; rfl) (by decide +kernel) rfl rfl dX12_init_1152 (fun H locs h => ?_)
  rw [ap_set hn 0] at h
  have h : fx_H G (S0 ++ [.inr (.inr (12, [0, n + 1 + 2, n + 2 + 2, 0, n + 3 + 2, 0, 0, 0, n + 4 + 2, n + 5 + 2, n + 6 + 2, n + 7 + 2, n + 8 + 2, n + 9 + 2, n + 10 + 2, 0, 0, 0, 0, 0, n + 11 + 2, n + 12 + 2, n + 13 + 2, n + 14 + 2, n + 15 + 2, n + 16 + 2, n + 17 + 2, n + 18 + 2, 0, 0, 0, n + 19 + 2, 0, 0, 0, 0, 0, 0, n + 20 + 2, 0, n + 21 + 2, 0, n + 22 + 2, n + 23 + 2, n + 24 + 2, 0, 0, 0, n + 25 + 2, n + 26 + 2, n + 27 + 2, 0, n + 28 + 2, 0, n + 29 + 2, 1, 1, 1, 1, 0, 1, 1, 0, 1, 1, 0, 1, 1, 0, 0, 0, 1])), .inl 135, .inl 810, .inl 135, .inl 16, .inl 16, .inl 16, .inl 8, .inl 8, .inl 600, .inl 400, .inl 148, .inl 2, .inl 48, .inl 48, .inl 48, .inl 48, .inl 1200, .inl 1200, .inl 40, .inl 16, .inl 128, .inl 128, .inl 12, .inl 420, .inl 8, .inl 1000, .inl 1000, .inl 6, .inl 9]) M149 s H locs := h
  refine lv_aload_n hx hb dX12_init_1155 rfl (lv_at hl 0 rfl) ?_
  refine lv_sipush (v := 512) hx hb dX12_init_1156 (by decide) ?_
  refine cy_newa (i0 := 30) (N := 512) hn rfl X h hz (by omega) (h0 _ (by omega)) ak_int (by decide) (by decide) (by decide) (Nat.le_of_ble_eq_true rfl) (Nat.le_of_ble_eq_true rfl) dX12_init_1159 (fun H h => ?_)
  have h : fx_H G (S0 ++ [.inr (.inr (12, [0, n + 1 + 2, n + 2 + 2, 0, n + 3 + 2, 0, 0, 0, n + 4 + 2, n + 5 + 2, n + 6 + 2, n + 7 + 2, n + 8 + 2, n + 9 + 2, n + 10 + 2, 0, 0, 0, 0, 0, n + 11 + 2, n + 12 + 2, n + 13 + 2, n + 14 + 2, n + 15 + 2, n + 16 + 2, n + 17 + 2, n + 18 + 2, 0, 0, 0, n + 19 + 2, 0, 0, 0, 0, 0, 0, n + 20 + 2, 0, n + 21 + 2, 0, n + 22 + 2, n + 23 + 2, n + 24 + 2, 0, 0, 0, n + 25 + 2, n + 26 + 2, n + 27 + 2, 0, n + 28 + 2, 0, n + 29 + 2, 1, 1, 1, 1, 0, 1, 1, 0, 1, 1, 0, 1, 1, 0, 0, 0, 1])), .inl 135, .inl 810, .inl 135, .inl 16, .inl 16, .inl 16, .inl 8, .inl 8, .inl 600, .inl 400, .inl 148, .inl 2, .inl 48, .inl 48, .inl 48, .inl 48, .inl 1200, .inl 1200, .inl 40, .inl 16, .inl 128, .inl 128, .inl 12, .inl 420, .inl 8, .inl 1000, .inl 1000, .inl 6, .inl 9, .inl 512]) M149 s H _ := h
  refine W.widen (k := 30) (n := 8165) (by omega) (by omega) ?_
  refine cx_putR (k := n + 0) (j := 55) (r := n + 30) (ty := .array .int) X hin h ((ap_at hn 0).trans rfl) fl_RX12_101 (Nat.le_of_ble_eq_true rfl) (fun C T N q => by cases q; rfl) (by decide +kernel) rfl rfl dX12_init_1161 (fun H locs h => ?_)
  rw [ap_set hn 0] at h
  have h : fx_H G (S0 ++ [.inr (.inr (12, [0, n + 1 + 2, n + 2 + 2, 0, n + 3 + 2, 0, 0, 0, n + 4 + 2, n + 5 + 2, n + 6 + 2, n + 7 + 2, n + 8 + 2, n + 9 + 2, n + 10 + 2, 0, 0, 0, 0, 0, n + 11 + 2, n + 12 + 2, n + 13 + 2, n + 14 + 2, n + 15 + 2, n + 16 + 2, n + 17 + 2, n + 18 + 2, 0, 0, 0, n + 19 + 2, 0, 0, 0, 0, 0, 0, n + 20 + 2, 0, n + 21 + 2, 0, n + 22 + 2, n + 23 + 2, n + 24 + 2, 0, 0, 0, n + 25 + 2, n + 26 + 2, n + 27 + 2, 0, n + 28 + 2, 0, n + 29 + 2, n + 30 + 2, 1, 1, 1, 0, 1, 1, 0, 1, 1, 0, 1, 1, 0, 0, 0, 1])), .inl 135, .inl 810, .inl 135, .inl 16, .inl 16, .inl 16, .inl 8, .inl 8, .inl 600, .inl 400, .inl 148, .inl 2, .inl 48, .inl 48, .inl 48, .inl 48, .inl 1200, .inl 1200, .inl 40, .inl 16, .inl 128, .inl 128, .inl 12, .inl 420, .inl 8, .inl 1000, .inl 1000, .inl 6, .inl 9, .inl 512]) M149 s H locs := h
  refine lv_aload_n hx hb dX12_init_1164 rfl (lv_at hl 0 rfl) ?_
  refine lv_bipush (v := 64) hx hb dX12_init_1165 (by decide) ?_
  refine cy_newa (i0 := 31) (N := 64) hn rfl X h hz (by omega) (h0 _ (by omega)) ak_int (by decide) (by decide) (by decide) (Nat.le_of_ble_eq_true rfl) (Nat.le_of_ble_eq_true rfl) dX12_init_1167 (fun H h => ?_)
  have h : fx_H G (S0 ++ [.inr (.inr (12, [0, n + 1 + 2, n + 2 + 2, 0, n + 3 + 2, 0, 0, 0, n + 4 + 2, n + 5 + 2, n + 6 + 2, n + 7 + 2, n + 8 + 2, n + 9 + 2, n + 10 + 2, 0, 0, 0, 0, 0, n + 11 + 2, n + 12 + 2, n + 13 + 2, n + 14 + 2, n + 15 + 2, n + 16 + 2, n + 17 + 2, n + 18 + 2, 0, 0, 0, n + 19 + 2, 0, 0, 0, 0, 0, 0, n + 20 + 2, 0, n + 21 + 2, 0, n + 22 + 2, n + 23 + 2, n + 24 + 2, 0, 0, 0, n + 25 + 2, n + 26 + 2, n + 27 + 2, 0, n + 28 + 2, 0, n + 29 + 2, n + 30 + 2, 1, 1, 1, 0, 1, 1, 0, 1, 1, 0, 1, 1, 0, 0, 0, 1])), .inl 135, .inl 810, .inl 135, .inl 16, .inl 16, .inl 16, .inl 8, .inl 8, .inl 600, .inl 400, .inl 148, .inl 2, .inl 48, .inl 48, .inl 48, .inl 48, .inl 1200, .inl 1200, .inl 40, .inl 16, .inl 128, .inl 128, .inl 12, .inl 420, .inl 8, .inl 1000, .inl 1000, .inl 6, .inl 9, .inl 512, .inl 64]) M149 s H _ := h
  refine W.widen (k := 31) (n := 8229) (by omega) (by omega) ?_
  refine cx_putR (k := n + 0) (j := 56) (r := n + 31) (ty := .array .int) X hin h ((ap_at hn 0).trans rfl) fl_RX12_104 (Nat.le_of_ble_eq_true rfl) (fun C T N q => by cases q; rfl) (by decide +kernel) rfl rfl dX12_init_1169 (fun H locs h => ?_)
  rw [ap_set hn 0] at h
  have h : fx_H G (S0 ++ [.inr (.inr (12, [0, n + 1 + 2, n + 2 + 2, 0, n + 3 + 2, 0, 0, 0, n + 4 + 2, n + 5 + 2, n + 6 + 2, n + 7 + 2, n + 8 + 2, n + 9 + 2, n + 10 + 2, 0, 0, 0, 0, 0, n + 11 + 2, n + 12 + 2, n + 13 + 2, n + 14 + 2, n + 15 + 2, n + 16 + 2, n + 17 + 2, n + 18 + 2, 0, 0, 0, n + 19 + 2, 0, 0, 0, 0, 0, 0, n + 20 + 2, 0, n + 21 + 2, 0, n + 22 + 2, n + 23 + 2, n + 24 + 2, 0, 0, 0, n + 25 + 2, n + 26 + 2, n + 27 + 2, 0, n + 28 + 2, 0, n + 29 + 2, n + 30 + 2, n + 31 + 2, 1, 1, 0, 1, 1, 0, 1, 1, 0, 1, 1, 0, 0, 0, 1])), .inl 135, .inl 810, .inl 135, .inl 16, .inl 16, .inl 16, .inl 8, .inl 8, .inl 600, .inl 400, .inl 148, .inl 2, .inl 48, .inl 48, .inl 48, .inl 48, .inl 1200, .inl 1200, .inl 40, .inl 16, .inl 128, .inl 128, .inl 12, .inl 420, .inl 8, .inl 1000, .inl 1000, .inl 6, .inl 9, .inl 512, .inl 64]) M149 s H locs := h
  refine lv_aload_n hx hb dX12_init_1172 rfl (lv_at hl 0 rfl) ?_
  refine lv_bipush (v := 8) hx hb dX12_init_1173 (by decide) ?_
  refine cy_newa (i0 := 32) (N := 8) hn rfl X h hz (by omega) (h0 _ (by omega)) ak_int (by decide) (by decide) (by decide) (Nat.le_of_ble_eq_true rfl) (Nat.le_of_ble_eq_true rfl) dX12_init_1175 (fun H h => ?_)
  have h : fx_H G (S0 ++ [.inr (.inr (12, [0, n + 1 + 2, n + 2 + 2, 0, n + 3 + 2, 0, 0, 0, n + 4 + 2, n + 5 + 2, n + 6 + 2, n + 7 + 2, n + 8 + 2, n + 9 + 2, n + 10 + 2, 0, 0, 0, 0, 0, n + 11 + 2, n + 12 + 2, n + 13 + 2, n + 14 + 2, n + 15 + 2, n + 16 + 2, n + 17 + 2, n + 18 + 2, 0, 0, 0, n + 19 + 2, 0, 0, 0, 0, 0, 0, n + 20 + 2, 0, n + 21 + 2, 0, n + 22 + 2, n + 23 + 2, n + 24 + 2, 0, 0, 0, n + 25 + 2, n + 26 + 2, n + 27 + 2, 0, n + 28 + 2, 0, n + 29 + 2, n + 30 + 2, n + 31 + 2, 1, 1, 0, 1, 1, 0, 1, 1, 0, 1, 1, 0, 0, 0, 1])), .inl 135, .inl 810, .inl 135, .inl 16, .inl 16, .inl 16, .inl 8, .inl 8, .inl 600, .inl 400, .inl 148, .inl 2, .inl 48, .inl 48, .inl 48, .inl 48, .inl 1200, .inl 1200, .inl 40, .inl 16, .inl 128, .inl 128, .inl 12, .inl 420, .inl 8, .inl 1000, .inl 1000, .inl 6, .inl 9, .inl 512, .inl 64, .inl 8]) M149 s H _ := h
  refine W.widen (k := 32) (n := 8237) (by omega) (by omega) ?_
  refine cx_putR (k := n + 0) (j := 57) (r := n + 32) (ty := .array .int) X hin h ((ap_at hn 0).trans rfl) fl_RX12_107 (Nat.le_of_ble_eq_true rfl) (fun C T N q => by cases q; rfl) (by decide +kernel) rfl rfl dX12_init_1177 (fun H locs h => ?_)
  rw [ap_set hn 0] at h
  have h : fx_H G (S0 ++ [.inr (.inr (12, [0, n + 1 + 2, n + 2 + 2, 0, n + 3 + 2, 0, 0, 0, n + 4 + 2, n + 5 + 2, n + 6 + 2, n + 7 + 2, n + 8 + 2, n + 9 + 2, n + 10 + 2, 0, 0, 0, 0, 0, n + 11 + 2, n + 12 + 2, n + 13 + 2, n + 14 + 2, n + 15 + 2, n + 16 + 2, n + 17 + 2, n + 18 + 2, 0, 0, 0, n + 19 + 2, 0, 0, 0, 0, 0, 0, n + 20 + 2, 0, n + 21 + 2, 0, n + 22 + 2, n + 23 + 2, n + 24 + 2, 0, 0, 0, n + 25 + 2, n + 26 + 2, n + 27 + 2, 0, n + 28 + 2, 0, n + 29 + 2, n + 30 + 2, n + 31 + 2, n + 32 + 2, 1, 0, 1, 1, 0, 1, 1, 0, 1, 1, 0, 0, 0, 1])), .inl 135, .inl 810, .inl 135, .inl 16, .inl 16, .inl 16, .inl 8, .inl 8, .inl 600, .inl 400, .inl 148, .inl 2, .inl 48, .inl 48, .inl 48, .inl 48, .inl 1200, .inl 1200, .inl 40, .inl 16, .inl 128, .inl 128, .inl 12, .inl 420, .inl 8, .inl 1000, .inl 1000, .inl 6, .inl 9, .inl 512, .inl 64, .inl 8]) M149 s H locs := h
  refine lv_aload_n hx hb dX12_init_1180 rfl (lv_at hl 0 rfl) ?_
  refine lv_sipush (v := 1152) hx hb dX12_init_1181 (by decide) ?_
  refine cy_newa (i0 := 33) (N := 1152) hn rfl X h hz (by omega) (h0 _ (by omega)) ak_int (by decide) (by decide) (by decide) (Nat.le_of_ble_eq_true rfl) (Nat.le_of_ble_eq_true rfl) dX12_init_1184 (fun H h => ?_)
  have h : fx_H G (S0 ++ [.inr (.inr (12, [0, n + 1 + 2, n + 2 + 2, 0, n + 3 + 2, 0, 0, 0, n + 4 + 2, n + 5 + 2, n + 6 + 2, n + 7 + 2, n + 8 + 2, n + 9 + 2, n + 10 + 2, 0, 0, 0, 0, 0, n + 11 + 2, n + 12 + 2, n + 13 + 2, n + 14 + 2, n + 15 + 2, n + 16 + 2, n + 17 + 2, n + 18 + 2, 0, 0, 0, n + 19 + 2, 0, 0, 0, 0, 0, 0, n + 20 + 2, 0, n + 21 + 2, 0, n + 22 + 2, n + 23 + 2, n + 24 + 2, 0, 0, 0, n + 25 + 2, n + 26 + 2, n + 27 + 2, 0, n + 28 + 2, 0, n + 29 + 2, n + 30 + 2, n + 31 + 2, n + 32 + 2, 1, 0, 1, 1, 0, 1, 1, 0, 1, 1, 0, 0, 0, 1])), .inl 135, .inl 810, .inl 135, .inl 16, .inl 16, .inl 16, .inl 8, .inl 8, .inl 600, .inl 400, .inl 148, .inl 2, .inl 48, .inl 48, .inl 48, .inl 48, .inl 1200, .inl 1200, .inl 40, .inl 16, .inl 128, .inl 128, .inl 12, .inl 420, .inl 8, .inl 1000, .inl 1000, .inl 6, .inl 9, .inl 512, .inl 64, .inl 8, .inl 1152]) M149 s H _ := h
  refine W.widen (k := 33) (n := 9389) (by omega) (by omega) ?_
  refine cx_putR (k := n + 0) (j := 58) (r := n + 33) (ty := .array .int) X hin h ((ap_at hn 0).trans rfl) fl_RX12_110 (Nat.le_of_ble_eq_true rfl) (fun C T N q => by cases q; rfl) (by decide +kernel) rfl rfl dX12_init_1186 (fun H locs h => ?_)
  rw [ap_set hn 0] at h
  have h : fx_H G (S0 ++ [.inr (.inr (12, [0, n + 1 + 2, n + 2 + 2, 0, n + 3 + 2, 0, 0, 0, n + 4 + 2, n + 5 + 2, n + 6 + 2, n + 7 + 2, n + 8 + 2, n + 9 + 2, n + 10 + 2, 0, 0, 0, 0, 0, n + 11 + 2, n + 12 + 2, n + 13 + 2, n + 14 + 2, n + 15 + 2, n + 16 + 2, n + 17 + 2, n + 18 + 2, 0, 0, 0, n + 19 + 2, 0, 0, 0, 0, 0, 0, n + 20 + 2, 0, n + 21 + 2, 0, n + 22 + 2, n + 23 + 2, n + 24 + 2, 0, 0, 0, n + 25 + 2, n + 26 + 2, n + 27 + 2, 0, n + 28 + 2, 0, n + 29 + 2, n + 30 + 2, n + 31 + 2, n + 32 + 2, n + 33 + 2, 0, 1, 1, 0, 1, 1, 0, 1, 1, 0, 0, 0, 1])), .inl 135, .inl 810, .inl 135, .inl 16, .inl 16, .inl 16, .inl 8, .inl 8, .inl 600, .inl 400, .inl 148, .inl 2, .inl 48, .inl 48, .inl 48, .inl 48, .inl 1200, .inl 1200, .inl 40, .inl 16, .inl 128, .inl 128, .inl 12, .inl 420, .inl 8, .inl 1000, .inl 1000, .inl 6, .inl 9, .inl 512, .inl 64, .inl 8, .inl 1152]) M149 s H locs := h
  refine lv_aload_n hx hb dX12_init_1189 rfl (lv_at hl 0 rfl) ?_
  refine lv_bipush (v := 7) hx hb dX12_init_1190 (by decide) ?_
  refine cy_newa (i0 := 34) (N := 7) hn rfl X h hz (by omega) (h0 _ (by omega)) ak_int (by decide) (by decide) (by decide) (Nat.le_of_ble_eq_true rfl) (Nat.le_of_ble_eq_true rfl) dX12_init_1192 (fun H h => ?_)
  have h : fx_H G (S0 ++ [.inr (.inr (12, [0, n + 1 + 2, n + 2 + 2, 0, n + 3 + 2, 0, 0, 0, n + 4 + 2, n + 5 + 2, n + 6 + 2, n + 7 + 2, n + 8 + 2, n + 9 + 2, n + 10 + 2, 0, 0, 0, 0, 0, n + 11 + 2, n + 12 + 2, n + 13 + 2, n + 14 + 2, n + 15 + 2, n + 16 + 2, n + 17 + 2, n + 18 + 2, 0, 0, 0, n + 19 + 2, 0, 0, 0, 0, 0, 0, n + 20 + 2, 0, n + 21 + 2, 0, n + 22 + 2, n + 23 + 2, n + 24 + 2, 0, 0, 0, n + 25 + 2, n + 26 + 2, n + 27 + 2, 0, n + 28 + 2, 0, n + 29 + 2, n + 30 + 2, n + 31 + 2, n + 32 + 2, n + 33 + 2, 0, 1, 1, 0, 1, 1, 0, 1, 1, 0, 0, 0, 1])), .inl 135, .inl 810, .inl 135, .inl 16, .inl 16, .inl 16, .inl 8, .inl 8, .inl 600, .inl 400, .inl 148, .inl 2, .inl 48, .inl 48, .inl 48, .inl 48, .inl 1200, .inl 1200, .inl 40, .inl 16, .inl 128, .inl 128, .inl 12, .inl 420, .inl 8, .inl 1000, .inl 1000, .inl 6, .inl 9, .inl 512, .inl 64, .inl 8, .inl 1152, .inl 7]) M149 s H _ := h
  refine W.widen (k := 34) (n := 9396) (by omega) (by omega) ?_
  refine cx_putR (k := n + 0) (j := 60) (r := n + 34) (ty := .array .int) X hin h ((ap_at hn 0).trans rfl) fl_RX12_113 (Nat.le_of_ble_eq_true rfl) (fun C T N q => by cases q; rfl) (by decide +kernel) rfl rfl dX12_init_1194 (fun H locs h => ?_)
  rw [ap_set hn 0] at h
  have h : fx_H G (S0 ++ [.inr (.inr (12, [0, n + 1 + 2, n + 2 + 2, 0, n + 3 + 2, 0, 0, 0, n + 4 + 2, n + 5 + 2, n + 6 + 2, n + 7 + 2, n + 8 + 2, n + 9 + 2, n + 10 + 2, 0, 0, 0, 0, 0, n + 11 + 2, n + 12 + 2, n + 13 + 2, n + 14 + 2, n + 15 + 2, n + 16 + 2, n + 17 + 2, n + 18 + 2, 0, 0, 0, n + 19 + 2, 0, 0, 0, 0, 0, 0, n + 20 + 2, 0, n + 21 + 2, 0, n + 22 + 2, n + 23 + 2, n + 24 + 2, 0, 0, 0, n + 25 + 2, n + 26 + 2, n + 27 + 2, 0, n + 28 + 2, 0, n + 29 + 2, n + 30 + 2, n + 31 + 2, n + 32 + 2, n + 33 + 2, 0, n + 34 + 2, 1, 0, 1, 1, 0, 1, 1, 0, 0, 0, 1])), .inl 135, .inl 810, .inl 135, .inl 16, .inl 16, .inl 16, .inl 8, .inl 8, .inl 600, .inl 400, .inl 148, .inl 2, .inl 48, .inl 48, .inl 48, .inl 48, .inl 1200, .inl 1200, .inl 40, .inl 16, .inl 128, .inl 128, .inl 12, .inl 420, .inl 8, .inl 1000, .inl 1000, .inl 6, .inl 9, .inl 512, .inl 64, .inl 8, .inl 1152, .inl 7]) M149 s H locs := h
  refine lv_aload_n hx hb dX12_init_1197 rfl (lv_at hl 0 rfl) ?_
  refine lv_bipush (v := 7) hx hb dX12_init_1198 (by decide) ?_
  refine cy_newa (i0 := 35) (N := 7) hn rfl X h hz (by omega) (h0 _ (by omega)) ak_int (by decide) (by decide) (by decide) (Nat.le_of_ble_eq_true rfl) (Nat.le_of_ble_eq_true rfl) dX12_init_1200 (fun H h => ?_)
  have h : fx_H G (S0 ++ [.inr (.inr (12, [0, n + 1 + 2, n + 2 + 2, 0, n + 3 + 2, 0, 0, 0, n + 4 + 2, n + 5 + 2, n + 6 + 2, n + 7 + 2, n + 8 + 2, n + 9 + 2, n + 10 + 2, 0, 0, 0, 0, 0, n + 11 + 2, n + 12 + 2, n + 13 + 2, n + 14 + 2, n + 15 + 2, n + 16 + 2, n + 17 + 2, n + 18 + 2, 0, 0, 0, n + 19 + 2, 0, 0, 0, 0, 0, 0, n + 20 + 2, 0, n + 21 + 2, 0, n + 22 + 2, n + 23 + 2, n + 24 + 2, 0, 0, 0, n + 25 + 2, n + 26 + 2, n + 27 + 2, 0, n + 28 + 2, 0, n + 29 + 2, n + 30 + 2, n + 31 + 2, n + 32 + 2, n + 33 + 2, 0, n + 34 + 2, 1, 0, 1, 1, 0, 1, 1, 0, 0, 0, 1])), .inl 135, .inl 810, .inl 135, .inl 16, .inl 16, .inl 16, .inl 8, .inl 8, .inl 600, .inl 400, .inl 148, .inl 2, .inl 48, .inl 48, .inl 48, .inl 48, .inl 1200, .inl 1200, .inl 40, .inl 16, .inl 128, .inl 128, .inl 12, .inl 420, .inl 8, .inl 1000, .inl 1000, .inl 6, .inl 9, .inl 512, .inl 64, .inl 8, .inl 1152, .inl 7, .inl 7]) M149 s H _ := h
  refine W.widen (k := 35) (n := 9403) (by omega) (by omega) ?_
  refine cx_putR (k := n + 0) (j := 61) (r := n + 35) (ty := .array .int) X hin h ((ap_at hn 0).trans rfl) fl_RX12_116 (Nat.le_of_ble_eq_true rfl) (fun C T N q => by cases q; rfl) (by decide +kernel) rfl rfl dX12_init_1202 (fun H locs h => ?_)
  rw [ap_set hn 0] at h
  have h : fx_H G (S0 ++ [.inr (.inr (12, [0, n + 1 + 2, n + 2 + 2, 0, n + 3 + 2, 0, 0, 0, n + 4 + 2, n + 5 + 2, n + 6 + 2, n + 7 + 2, n + 8 + 2, n + 9 + 2, n + 10 + 2, 0, 0, 0, 0, 0, n + 11 + 2, n + 12 + 2, n + 13 + 2, n + 14 + 2, n + 15 + 2, n + 16 + 2, n + 17 + 2, n + 18 + 2, 0, 0, 0, n + 19 + 2, 0, 0, 0, 0, 0, 0, n + 20 + 2, 0, n + 21 + 2, 0, n + 22 + 2, n + 23 + 2, n + 24 + 2, 0, 0, 0, n + 25 + 2, n + 26 + 2, n + 27 + 2, 0, n + 28 + 2, 0, n + 29 + 2, n + 30 + 2, n + 31 + 2, n + 32 + 2, n + 33 + 2, 0, n + 34 + 2, n + 35 + 2, 0, 1, 1, 0, 1, 1, 0, 0, 0, 1])), .inl 135, .inl 810, .inl 135, .inl 16, .inl 16, .inl 16, .inl 8, .inl 8, .inl 600, .inl 400, .inl 148, .inl 2, .inl 48, .inl 48, .inl 48, .inl 48, .inl 1200, .inl 1200, .inl 40, .inl 16, .inl 128, .inl 128, .inl 12, .inl 420, .inl 8, .inl 1000, .inl 1000, .inl 6, .inl 9, .inl 512, .inl 64, .inl 8, .inl 1152, .inl 7, .inl 7]) M149 s H locs := h
  refine lv_aload_n hx hb dX12_init_1205 rfl (lv_at hl 0 rfl) ?_
  refine lv_bipush (v := 8) hx hb dX12_init_1206 (by decide) ?_
  refine cy_newa (i0 := 36) (N := 8) hn rfl X h hz (by omega) (h0 _ (by omega)) ak_int (by decide) (by decide) (by decide) (Nat.le_of_ble_eq_true rfl) (Nat.le_of_ble_eq_true rfl) dX12_init_1208 (fun H h => ?_)
  have h : fx_H G (S0 ++ [.inr (.inr (12, [0, n + 1 + 2, n + 2 + 2, 0, n + 3 + 2, 0, 0, 0, n + 4 + 2, n + 5 + 2, n + 6 + 2, n + 7 + 2, n + 8 + 2, n + 9 + 2, n + 10 + 2, 0, 0, 0, 0, 0, n + 11 + 2, n + 12 + 2, n + 13 + 2, n + 14 + 2, n + 15 + 2, n + 16 + 2, n + 17 + 2, n + 18 + 2, 0, 0, 0, n + 19 + 2, 0, 0, 0, 0, 0, 0, n + 20 + 2, 0, n + 21 + 2, 0, n + 22 + 2, n + 23 + 2, n + 24 + 2, 0, 0, 0, n + 25 + 2, n + 26 + 2, n + 27 + 2, 0, n + 28 + 2, 0, n + 29 + 2, n + 30 + 2, n + 31 + 2, n + 32 + 2, n + 33 + 2, 0, n + 34 + 2, n + 35 + 2, 0, 1, 1, 0, 1, 1, 0, 0, 0, 1])), .inl 135, .inl 810, .inl 135, .inl 16, .inl 16, .inl 16, .inl 8, .inl 8, .inl 600, .inl 400, .inl 148, .inl 2, .inl 48, .inl 48, .inl 48, .inl 48, .inl 1200, .inl 1200, .inl 40, .inl 16, .inl 128, .inl 128, .inl 12, .inl 420, .inl 8, .inl 1000, .inl 1000, .inl 6, .inl 9, .inl 512, .inl 64, .inl 8, .inl 1152, .inl 7, .inl 7, .inl 8]) M149 s H _ := h
  refine W.widen (k := 36) (n := 9411) (by omega) (by omega) ?_
  refine cx_putR (k := n + 0) (j := 63) (r := n + 36) (ty := .array .int) X hin h ((ap_at hn 0).trans rfl) fl_RX12_119 (Nat.le_of_ble_eq_true rfl) (fun C T N q => by cases q; rfl) (by decide +kernel) rfl rfl dX12_init_1210 (fun H locs h => ?_)
  rw [ap_set hn 0] at h
  have h : fx_H G (S0 ++ [.inr (.inr (12, [0, n + 1 + 2, n + 2 + 2, 0, n + 3 + 2, 0, 0, 0, n + 4 + 2, n + 5 + 2, n + 6 + 2, n + 7 + 2, n + 8 + 2, n + 9 + 2, n + 10 + 2, 0, 0, 0, 0, 0, n + 11 + 2, n + 12 + 2, n + 13 + 2, n + 14 + 2, n + 15 + 2, n + 16 + 2, n + 17 + 2, n + 18 + 2, 0, 0, 0, n + 19 + 2, 0, 0, 0, 0, 0, 0, n + 20 + 2, 0, n + 21 + 2, 0, n + 22 + 2, n + 23 + 2, n + 24 + 2, 0, 0, 0, n + 25 + 2, n + 26 + 2, n + 27 + 2, 0, n + 28 + 2, 0, n + 29 + 2, n + 30 + 2, n + 31 + 2, n + 32 + 2, n + 33 + 2, 0, n + 34 + 2, n + 35 + 2, 0, n + 36 + 2, 1, 0, 1, 1, 0, 0, 0, 1])), .inl 135, .inl 810, .inl 135, .inl 16, .inl 16, .inl 16, .inl 8, .inl 8, .inl 600, .inl 400, .inl 148, .inl 2, .inl 48, .inl 48, .inl 48, .inl 48, .inl 1200, .inl 1200, .inl 40, .inl 16, .inl 128, .inl 128, .inl 12, .inl 420, .inl 8, .inl 1000, .inl 1000, .inl 6, .inl 9, .inl 512, .inl 64, .inl 8, .inl 1152, .inl 7, .inl 7, .inl 8]) M149 s H locs := h
  refine lv_aload_n hx hb dX12_init_1213 rfl (lv_at hl 0 rfl) ?_
  refine lv_bipush (v := 8) hx hb dX12_init_1214 (by decide) ?_
  refine cy_newa (i0 := 37) (N := 8) hn rfl X h hz (by omega) (h0 _ (by omega)) ak_int (by decide) (by decide) (by decide) (Nat.le_of_ble_eq_true rfl) (Nat.le_of_ble_eq_true rfl) dX12_init_1216 (fun H h => ?_)
  have h : fx_H G (S0 ++ [.inr (.inr (12, [0, n + 1 + 2, n + 2 + 2, 0, n + 3 + 2, 0, 0, 0, n + 4 + 2, n + 5 + 2, n + 6 + 2, n + 7 + 2, n + 8 + 2, n + 9 + 2, n + 10 + 2, 0, 0, 0, 0, 0, n + 11 + 2, n + 12 + 2, n + 13 + 2, n + 14 + 2, n + 15 + 2, n + 16 + 2, n + 17 + 2, n + 18 + 2, 0, 0, 0, n + 19 + 2, 0, 0, 0, 0, 0, 0, n + 20 + 2, 0, n + 21 + 2, 0, n + 22 + 2, n + 23 + 2, n + 24 + 2, 0, 0, 0, n + 25 + 2, n + 26 + 2, n + 27 + 2, 0, n + 28 + 2, 0, n + 29 + 2, n + 30 + 2, n + 31 + 2, n + 32 + 2, n + 33 + 2, 0, n + 34 + 2, n + 35 + 2, 0, n + 36 + 2, 1, 0, 1, 1, 0, 0, 0, 1])), .inl 135, .inl 810, .inl 135, .inl 16, .inl 16, .inl 16, .inl 8, .inl 8, .inl 600, .inl 400, .inl 148, .inl 2, .inl 48, .inl 48, .inl 48, .inl 48, .inl 1200, .inl 1200, .inl 40, .inl 16, .inl 128, .inl 128, .inl 12, .inl 420, .inl 8, .inl 1000, .inl 1000, .inl 6, .inl 9, .inl 512, .inl 64, .inl 8, .inl 1152, .inl 7, .inl 7, .inl 8, .inl 8]) M149 s H _ := h
  refine W.widen (k := 37) (n := 9419) (by omega) (by omega) ?_
  refine cx_putR (k := n + 0) (j := 64) (r := n + 37) (ty := .array .int) X hin h ((ap_at hn 0).trans rfl) fl_RX12_122 (Nat.le_of_ble_eq_true rfl) (fun C T N q => by cases q; rfl) (by decide +kernel) rfl rfl dX12_init_1218 (fun H locs h => ?_)
  rw [ap_set hn 0] at h
  have h : fx_H G (S0 ++ [.inr (.inr (12, [0, n + 1 + 2, n + 2 + 2, 0, n + 3 + 2, 0, 0, 0, n + 4 + 2, n + 5 + 2, n + 6 + 2, n + 7 + 2, n + 8 + 2, n + 9 + 2, n + 10 + 2, 0, 0, 0, 0, 0, n + 11 + 2, n + 12 + 2, n + 13 + 2, n + 14 + 2, n + 15 + 2, n + 16 + 2, n + 17 + 2, n + 18 + 2, 0, 0, 0, n + 19 + 2, 0, 0, 0, 0, 0, 0, n + 20 + 2, 0, n + 21 + 2, 0, n + 22 + 2, n + 23 + 2, n + 24 + 2, 0, 0, 0, n + 25 + 2, n + 26 + 2, n + 27 + 2, 0, n + 28 + 2, 0, n + 29 + 2, n + 30 + 2, n + 31 + 2, n + 32 + 2, n + 33 + 2, 0, n + 34 + 2, n + 35 + 2, 0, n + 36 + 2, n + 37 + 2, 0, 1, 1, 0, 0, 0, 1])), .inl 135, .inl 810, .inl 135, .inl 16, .inl 16, .inl 16, .inl 8, .inl 8, .inl 600, .inl 400, .inl 148, .inl 2, .inl 48, .inl 48, .inl 48, .inl 48, .inl 1200, .inl 1200, .inl 40, .inl 16, .inl 128, .inl 128, .inl 12, .inl 420, .inl 8, .inl 1000, .inl 1000, .inl 6, .inl 9, .inl 512, .inl 64, .inl 8, .inl 1152, .inl 7, .inl 7, .inl 8, .inl 8]) M149 s H locs := h
  refine lv_aload_n hx hb dX12_init_1221 rfl (lv_at hl 0 rfl) ?_
  refine lv_bipush (v := 20) hx hb dX12_init_1222 (by decide) ?_
  refine cy_newa (i0 := 38) (N := 20) hn rfl X h hz (by omega) (h0 _ (by omega)) ak_int (by decide) (by decide) (by decide) (Nat.le_of_ble_eq_true rfl) (Nat.le_of_ble_eq_true rfl) dX12_init_1224 (fun H h => ?_)
  have h : fx_H G (S0 ++ [.inr (.inr (12, [0, n + 1 + 2, n + 2 + 2, 0, n + 3 + 2, 0, 0, 0, n + 4 + 2, n + 5 + 2, n + 6 + 2, n + 7 + 2, n + 8 + 2, n + 9 + 2, n + 10 + 2, 0, 0, 0, 0, 0, n + 11 + 2, n + 12 + 2, n + 13 + 2, n + 14 + 2, n + 15 + 2, n + 16 + 2, n + 17 + 2, n + 18 + 2, 0, 0, 0, n + 19 + 2, 0, 0, 0, 0, 0, 0, n + 20 + 2, 0, n + 21 + 2, 0, n + 22 + 2, n + 23 + 2, n + 24 + 2, 0, 0, 0, n + 25 + 2, n + 26 + 2, n + 27 + 2, 0, n + 28 + 2, 0, n + 29 + 2, n + 30 + 2, n + 31 + 2, n + 32 + 2, n + 33 + 2, 0, n + 34 + 2, n + 35 + 2, 0, n + 36 + 2, n + 37 + 2, 0, 1, 1, 0, 0, 0, 1])), .inl 135, .inl 810, .inl 135, .inl 16, .inl 16, .inl 16, .inl 8, .inl 8, .inl 600, .inl 400, .inl 148, .inl 2, .inl 48, .inl 48, .inl 48, .inl 48, .inl 1200, .inl 1200, .inl 40, .inl 16, .inl 128, .inl 128, .inl 12, .inl 420, .inl 8, .inl 1000, .inl 1000, .inl 6, .inl 9, .inl 512, .inl 64, .inl 8, .inl 1152, .inl 7, .inl 7, .inl 8, .inl 8, .inl 20]) M149 s H _ := h
  refine W.widen (k := 38) (n := 9439) (by omega) (by omega) ?_
  refine cx_putR (k := n + 0) (j := 66) (r := n + 38) (ty := .array .int) X hin h ((ap_at hn 0).trans rfl) fl_RX12_125 (Nat.le_of_ble_eq_true rfl) (fun C T N q => by cases q; rfl) (by decide +kernel) rfl rfl dX12_init_1226 (fun H locs h => ?_)
  rw [ap_set hn 0] at h
  have h : fx_H G (S0 ++ [.inr (.inr (12, [0, n + 1 + 2, n + 2 + 2, 0, n + 3 + 2, 0, 0, 0, n + 4 + 2, n + 5 + 2, n + 6 + 2, n + 7 + 2, n + 8 + 2, n + 9 + 2, n + 10 + 2, 0, 0, 0, 0, 0, n + 11 + 2, n + 12 + 2, n + 13 + 2, n + 14 + 2, n + 15 + 2, n + 16 + 2, n + 17 + 2, n + 18 + 2, 0, 0, 0, n + 19 + 2, 0, 0, 0, 0, 0, 0, n + 20 + 2, 0, n + 21 + 2, 0, n + 22 + 2, n + 23 + 2, n + 24 + 2, 0, 0, 0, n + 25 + 2, n + 26 + 2, n + 27 + 2, 0, n + 28 + 2, 0, n + 29 + 2, n + 30 + 2, n + 31 + 2, n + 32 + 2, n + 33 + 2, 0, n + 34 + 2, n + 35 + 2, 0, n + 36 + 2, n + 37 + 2, 0, n + 38 + 2, 1, 0, 0, 0, 1])), .inl 135, .inl 810, .inl 135, .inl 16, .inl 16, .inl 16, .inl 8, .inl 8, .inl 600, .inl 400, .inl 148, .inl 2, .inl 48, .inl 48, .inl 48, .inl 48, .inl 1200, .inl 1200, .inl 40, .inl 16, .inl 128, .inl 128, .inl 12, .inl 420, .inl 8, .inl 1000, .inl 1000, .inl 6, .inl 9, .inl 512, .inl 64, .inl 8, .inl 1152, .inl 7, .inl 7, .inl 8, .inl 8, .inl 20]) M149 s H locs := h
  refine lv_aload_n hx hb dX12_init_1229 rfl (lv_at hl 0 rfl) ?_
  refine lv_bipush (v := 10) hx hb dX12_init_1230 (by decide) ?_
  refine cy_newa (i0 := 39) (N := 10) hn rfl X h hz (by omega) (h0 _ (by omega)) ak_int (by decide) (by decide) (by decide) (Nat.le_of_ble_eq_true rfl) (Nat.le_of_ble_eq_true rfl) dX12_init_1232 (fun H h => ?_)
  have h : fx_H G (S0 ++ [.inr (.inr (12, [0, n + 1 + 2, n + 2 + 2, 0, n + 3 + 2, 0, 0, 0, n + 4 + 2, n + 5 + 2, n + 6 + 2, n + 7 + 2, n + 8 + 2, n + 9 + 2, n + 10 + 2, 0, 0, 0, 0, 0, n + 11 + 2, n + 12 + 2, n + 13 + 2, n + 14 + 2, n + 15 + 2, n + 16 + 2, n + 17 + 2, n + 18 + 2, 0, 0, 0, n + 19 + 2, 0, 0, 0, 0, 0, 0, n + 20 + 2, 0, n + 21 + 2, 0, n + 22 + 2, n + 23 + 2, n + 24 + 2, 0, 0, 0, n + 25 + 2, n + 26 + 2, n + 27 + 2, 0, n + 28 + 2, 0, n + 29 + 2, n + 30 + 2, n + 31 + 2, n + 32 + 2, n + 33 + 2, 0, n + 34 + 2, n + 35 + 2, 0, n + 36 + 2, n + 37 + 2, 0, n + 38 + 2, 1, 0, 0, 0, 1])), .inl 135, .inl 810, .inl 135, .inl 16, .inl 16, .inl 16, .inl 8, .inl 8, .inl 600, .inl 400, .inl 148, .inl 2, .inl 48, .inl 48, .inl 48, .inl 48, .inl 1200, .inl 1200, .inl 40, .inl 16, .inl 128, .inl 128, .inl 12, .inl 420, .inl 8, .inl 1000, .inl 1000, .inl 6, .inl 9, .inl 512, .inl 64, .inl 8, .inl 1152, .inl 7, .inl 7, .inl 8, .inl 8, .inl 20, .inl 10]) M149 s H _ := h
  refine W.widen (k := 39) (n := 9449) (by omega) (by omega) ?_
  refine cx_putR (k := n + 0) (j := 67) (r := n + 39) (ty := .array .int) X hin h ((ap_at hn 0).trans rfl) fl_RX12_128 (Nat.le_of_ble_eq_true rfl) (fun C T N q => by cases q; rfl) (by decide +kernel) rfl rfl dX12_init_1234 (fun H locs h => ?_)
  rw [ap_set hn 0] at h
  have h : fx_H G (S0 ++ [.inr (.inr (12, [0, n + 1 + 2, n + 2 + 2, 0, n + 3 + 2, 0, 0, 0, n + 4 + 2, n + 5 + 2, n + 6 + 2, n + 7 + 2, n + 8 + 2, n + 9 + 2, n + 10 + 2, 0, 0, 0, 0, 0, n + 11 + 2, n + 12 + 2, n + 13 + 2, n + 14 + 2, n + 15 + 2, n + 16 + 2, n + 17 + 2, n + 18 + 2, 0, 0, 0, n + 19 + 2, 0, 0, 0, 0, 0, 0, n + 20 + 2, 0, n + 21 + 2, 0, n + 22 + 2, n + 23 + 2, n + 24 + 2, 0, 0, 0, n + 25 + 2, n + 26 + 2, n + 27 + 2, 0, n + 28 + 2, 0, n + 29 + 2, n + 30 + 2, n + 31 + 2, n + 32 + 2, n + 33 + 2, 0, n + 34 + 2, n + 35 + 2, 0, n + 36 + 2, n + 37 + 2, 0, n + 38 + 2, n + 39 + 2, 0, 0, 0, 1])), .inl 135, .inl 810, .inl 135, .inl 16, .inl 16, .inl 16, .inl 8, .inl 8, .inl 600, .inl 400, .inl 148, .inl 2, .inl 48, .inl 48, .inl 48, .inl 48, .inl 1200, .inl 1200, .inl 40, .inl 16, .inl 128, .inl 128, .inl 12, .inl 420, .inl 8, .inl 1000, .inl 1000, .inl 6, .inl 9, .inl 512, .inl 64, .inl 8, .inl 1152, .inl 7, .inl 7, .inl 8, .inl 8, .inl 20, .inl 10]) M149 s H locs := h
  refine lv_aload_n hx hb dX12_init_1237 rfl (lv_at hl 0 rfl) ?_
  refine lv_sipush (v := 2300) hx hb dX12_init_1238 (by decide) ?_
  refine cy_newa (i0 := 40) (N := 2300) hn rfl X h hz (by omega) (h0 _ (by omega)) ak_int (by decide) (by decide) (by decide) (Nat.le_of_ble_eq_true rfl) (Nat.le_of_ble_eq_true rfl) dX12_init_1241 (fun H h => ?_)
  have h : fx_H G (S0 ++ [.inr (.inr (12, [0, n + 1 + 2, n + 2 + 2, 0, n + 3 + 2, 0, 0, 0, n + 4 + 2, n + 5 + 2, n + 6 + 2, n + 7 + 2, n + 8 + 2, n + 9 + 2, n + 10 + 2, 0, 0, 0, 0, 0, n + 11 + 2, n + 12 + 2, n + 13 + 2, n + 14 + 2, n + 15 + 2, n + 16 + 2, n + 17 + 2, n + 18 + 2, 0, 0, 0, n + 19 + 2, 0, 0, 0, 0, 0, 0, n + 20 + 2, 0, n + 21 + 2, 0, n + 22 + 2, n + 23 + 2, n + 24 + 2, 0, 0, 0, n + 25 + 2, n + 26 + 2, n + 27 + 2, 0, n + 28 + 2, 0, n + 29 + 2, n + 30 + 2, n + 31 + 2, n + 32 + 2, n + 33 + 2, 0, n + 34 + 2, n + 35 + 2, 0, n + 36 + 2, n + 37 + 2, 0, n + 38 + 2, n + 39 + 2, 0, 0, 0, 1])), .inl 135, .inl 810, .inl 135, .inl 16, .inl 16, .inl 16, .inl 8, .inl 8, .inl 600, .inl 400, .inl 148, .inl 2, .inl 48, .inl 48, .inl 48, .inl 48, .inl 1200, .inl 1200, .inl 40, .inl 16, .inl 128, .inl 128, .inl 12, .inl 420, .inl 8, .inl 1000, .inl 1000, .inl 6, .inl 9, .inl 512, .inl 64, .inl 8, .inl 1152, .inl 7, .inl 7, .inl 8, .inl 8, .inl 20, .inl 10, .inl 2300]) M149 s H _ := h
  refine W.widen (k := 40) (n := 11749) (by omega) (by omega) ?_
  refine cx_putR (k := n + 0) (j := 71) (r := n + 40) (ty := .array .int) X hin h ((ap_at hn 0).trans rfl) fl_RX12_131 (Nat.le_of_ble_eq_true rfl) (fun C T N q => by cases q; rfl) (by decide +kernel) rfl rfl dX12_init_1243 (fun H locs h => ?_)
  rw [ap_set hn 0] at h
  have h : fx_H G (S0 ++ [.inr (.inr (12, [0, n + 1 + 2, n + 2 + 2, 0, n + 3 + 2, 0, 0, 0, n + 4 + 2, n + 5 + 2, n + 6 + 2, n + 7 + 2, n + 8 + 2, n + 9 + 2, n + 10 + 2, 0, 0, 0, 0, 0, n + 11 + 2, n + 12 + 2, n + 13 + 2, n + 14 + 2, n + 15 + 2, n + 16 + 2, n + 17 + 2, n + 18 + 2, 0, 0, 0, n + 19 + 2, 0, 0, 0, 0, 0, 0, n + 20 + 2, 0, n + 21 + 2, 0, n + 22 + 2, n + 23 + 2, n + 24 + 2, 0, 0, 0, n + 25 + 2, n + 26 + 2, n + 27 + 2, 0, n + 28 + 2, 0, n + 29 + 2, n + 30 + 2, n + 31 + 2, n + 32 + 2, n + 33 + 2, 0, n + 34 + 2, n + 35 + 2, 0, n + 36 + 2, n + 37 + 2, 0, n + 38 + 2, n + 39 + 2, 0, 0, 0, n + 40 + 2])), .inl 135, .inl 810, .inl 135, .inl 16, .inl 16, .inl 16, .inl 8, .inl 8, .inl 600, .inl 400, .inl 148, .inl 2, .inl 48, .inl 48, .inl 48, .inl 48, .inl 1200, .inl 1200, .inl 40, .inl 16, .inl 128, .inl 128, .inl 12, .inl 420, .inl 8, .inl 1000, .inl 1000, .inl 6, .inl 9, .inl 512, .inl 64, .inl 8, .inl 1152, .inl 7, .inl 7, .inl 8, .inl 8, .inl 20, .inl 10, .inl 2300]) M149 s H locs := h
  exact cy_ret X hr hk h (Prod.ext_iff.mpr ⟨rfl, by rw [eM149, eM148, eM147, eM146, eM145, eM144, eM143, eM142, eM141, eM140, eM139, eM138, eM137, eM136, eM135, eM134, eM133, eM132, eM131, eM130, eM129, eM128, eM127, eM126, eM125, eM124, eM123, eM122, eM121, eM120, eM119, eM118, eM117, eM116, eM115, eM114, eM113, eM112, eM111, eM110, eM109, eM108, eM107, eM106, eM105, eM104, eM103, eM102, eM101, eM100, eM99, eM98, eM97, eM96, eM95, eM94, eM93, eM92, eM91, eM90, eM89, eM88, eM87, eM86, eM85, eM84, eM83, eM82, eM81, eM80, eM79, eM78, eM77, eM76, eM75, eM74, eM73, eM72, eM71, eM70, eM69, eM68, eM67, eM66, eM65, eM64, eM63, eM62, eM61, eM60, eM59, eM58, eM57, eM56, eM55, eM54, eM53, eM52, eM51, eM50, eM49, eM48, eM47, eM46, eM45, eM44, eM43, eM42, eM41, eM40, eM39, eM38, eM37, eM36, eM35, eM34, eM33, eM32, eM31, eM30, eM29, eM28, eM27, eM26, eM25, eM24, eM23, eM22, eM21, eM20, eM19, eM18, eM17, eM16, eM15, eM14, eM13, eM12, eM11, eM10, eM9, eM8, eM7, eM6, eM5, eM4, eM3, eM2, eM1]; rfl⟩) dX12_init_1246
