theorem dX9_init_0 : decode cX9_init 0 = .ok (.aload_n 0, 1) := by decide +kernel
theorem dX9_init_1 : decode cX9_init 1 = .ok (.invokespecial 1, 3) := by decide +kernel
theorem dX9_init_4 : decode cX9_init 4 = .ok (.aload_n 0, 1) := by decide +kernel
theorem dX9_init_5 : decode cX9_init 5 = .ok (.sipush 400, 3) := by decide +kernel
theorem dX9_init_8 : decode cX9_init 8 = .ok (.newarray .int, 2) := by decide +kernel
theorem dX9_init_10 : decode cX9_init 10 = .ok (.putfield 7, 3) := by decide +kernel
theorem dX9_init_13 : decode cX9_init 13 = .ok (.aload_n 0, 1) := by decide +kernel
theorem dX9_init_14 : decode cX9_init 14 = .ok (.iconst 4, 1) := by decide +kernel
theorem dX9_init_15 : decode cX9_init 15 = .ok (.newarray .int, 2) := by decide +kernel
theorem dX9_init_17 : decode cX9_init 17 = .ok (.putfield 13, 3) := by decide +kernel
theorem dX9_init_20 : decode cX9_init 20 = .ok (.aload_n 0, 1) := by decide +kernel
theorem dX9_init_21 : decode cX9_init 21 = .ok (.iconst 3, 1) := by decide +kernel
theorem dX9_init_22 : decode cX9_init 22 = .ok (.newarray .int, 2) := by decide +kernel
theorem dX9_init_24 : decode cX9_init 24 = .ok (.putfield 16, 3) := by decide +kernel
theorem dX9_init_27 : decode cX9_init 27 = .ok (.aload_n 0, 1) := by decide +kernel
theorem dX9_init_28 : decode cX9_init 28 = .ok (.bipush 12, 2) := by decide +kernel
theorem dX9_init_30 : decode cX9_init 30 = .ok (.newarray .int, 2) := by decide +kernel
theorem dX9_init_32 : decode cX9_init 32 = .ok (.putfield 19, 3) := by decide +kernel
theorem dX9_init_35 : decode cX9_init 35 = .ok (.aload_n 0, 1) := by decide +kernel
theorem dX9_init_36 : decode cX9_init 36 = .ok (.bipush 8, 2) := by decide +kernel
theorem dX9_init_38 : decode cX9_init 38 = .ok (.newarray .int, 2) := by decide +kernel
theorem dX9_init_40 : decode cX9_init 40 = .ok (.putfield 22, 3) := by decide +kernel
theorem dX9_init_43 : decode cX9_init 43 = .ok (.aload_n 0, 1) := by decide +kernel
theorem dX9_init_44 : decode cX9_init 44 = .ok (.bipush 10, 2) := by decide +kernel
theorem dX9_init_46 : decode cX9_init 46 = .ok (.newarray .int, 2) := by decide +kernel
theorem dX9_init_48 : decode cX9_init 48 = .ok (.putfield 25, 3) := by decide +kernel
theorem dX9_init_51 : decode cX9_init 51 = .ok (.aload_n 0, 1) := by decide +kernel
theorem dX9_init_52 : decode cX9_init 52 = .ok (.bipush 10, 2) := by decide +kernel
theorem dX9_init_54 : decode cX9_init 54 = .ok (.newarray .int, 2) := by decide +kernel
theorem dX9_init_56 : decode cX9_init 56 = .ok (.putfield 28, 3) := by decide +kernel
theorem dX9_init_59 : decode cX9_init 59 = .ok (.aload_n 0, 1) := by decide +kernel
theorem dX9_init_60 : decode cX9_init 60 = .ok (.bipush 10, 2) := by decide +kernel
theorem dX9_init_62 : decode cX9_init 62 = .ok (.newarray .int, 2) := by decide +kernel
theorem dX9_init_64 : decode cX9_init 64 = .ok (.putfield 31, 3) := by decide +kernel
theorem dX9_init_67 : decode cX9_init 67 = .ok (.aload_n 0, 1) := by decide +kernel
theorem dX9_init_68 : decode cX9_init 68 = .ok (.bipush 10, 2) := by decide +kernel
theorem dX9_init_70 : decode cX9_init 70 = .ok (.newarray .boolean, 2) := by decide +kernel
theorem dX9_init_72 : decode cX9_init 72 = .ok (.putfield 34, 3) := by decide +kernel
theorem dX9_init_75 : decode cX9_init 75 = .ok (.aload_n 0, 1) := by decide +kernel
theorem dX9_init_76 : decode cX9_init 76 = .ok (.bipush 80, 2) := by decide +kernel
theorem dX9_init_78 : decode cX9_init 78 = .ok (.newarray .int, 2) := by decide +kernel
theorem dX9_init_80 : decode cX9_init 80 = .ok (.putfield 38, 3) := by decide +kernel
theorem dX9_init_83 : decode cX9_init 83 = .ok (.aload_n 0, 1) := by decide +kernel
theorem dX9_init_84 : decode cX9_init 84 = .ok (.bipush 10, 2) := by decide +kernel
theorem dX9_init_86 : decode cX9_init 86 = .ok (.newarray .int, 2) := by decide +kernel
theorem dX9_init_88 : decode cX9_init 88 = .ok (.putfield 41, 3) := by decide +kernel
theorem dX9_init_91 : decode cX9_init 91 = .ok (.aload_n 0, 1) := by decide +kernel
theorem dX9_init_92 : decode cX9_init 92 = .ok (.bipush 80, 2) := by decide +kernel
theorem dX9_init_94 : decode cX9_init 94 = .ok (.newarray .int, 2) := by decide +kernel
theorem dX9_init_96 : decode cX9_init 96 = .ok (.putfield 44, 3) := by decide +kernel
theorem dX9_init_99 : decode cX9_init 99 = .ok (.aload_n 0, 1) := by decide +kernel
theorem dX9_init_100 : decode cX9_init 100 = .ok (.bipush 80, 2) := by decide +kernel
theorem dX9_init_102 : decode cX9_init 102 = .ok (.newarray .int, 2) := by decide +kernel
theorem dX9_init_104 : decode cX9_init 104 = .ok (.putfield 47, 3) := by decide +kernel
theorem dX9_init_107 : decode cX9_init 107 = .ok (.aload_n 0, 1) := by decide +kernel
theorem dX9_init_108 : decode cX9_init 108 = .ok (.bipush 24, 2) := by decide +kernel
theorem dX9_init_110 : decode cX9_init 110 = .ok (.newarray .int, 2) := by decide +kernel
theorem dX9_init_112 : decode cX9_init 112 = .ok (.putfield 50, 3) := by decide +kernel
theorem dX9_init_115 : decode cX9_init 115 = .ok (.aload_n 0, 1) := by decide +kernel
theorem dX9_init_116 : decode cX9_init 116 = .ok (.iconst (-1), 1) := by decide +kernel
theorem dX9_init_117 : decode cX9_init 117 = .ok (.putfield 53, 3) := by decide +kernel
theorem dX9_init_120 : decode cX9_init 120 = .ok (.aload_n 0, 1) := by decide +kernel
theorem dX9_init_121 : decode cX9_init 121 = .ok (.bipush 77, 2) := by decide +kernel
theorem dX9_init_123 : decode cX9_init 123 = .ok (.newarray .int, 2) := by decide +kernel
theorem dX9_init_125 : decode cX9_init 125 = .ok (.dup, 1) := by decide +kernel
theorem dX9_init_126 : decode cX9_init 126 = .ok (.iconst 0, 1) := by decide +kernel
theorem dX9_init_127 : decode cX9_init 127 = .ok (.bipush 112, 2) := by decide +kernel
theorem dX9_init_129 : decode cX9_init 129 = .ok (.iastore, 1) := by decide +kernel
theorem dX9_init_130 : decode cX9_init 130 = .ok (.dup, 1) := by decide +kernel
theorem dX9_init_131 : decode cX9_init 131 = .ok (.iconst 1, 1) := by decide +kernel
theorem dX9_init_132 : decode cX9_init 132 = .ok (.bipush 114, 2) := by decide +kernel
theorem dX9_init_134 : decode cX9_init 134 = .ok (.iastore, 1) := by decide +kernel
theorem dX9_init_135 : decode cX9_init 135 = .ok (.dup, 1) := by decide +kernel
theorem dX9_init_136 : decode cX9_init 136 = .ok (.iconst 2, 1) := by decide +kernel
theorem dX9_init_137 : decode cX9_init 137 = .ok (.bipush 105, 2) := by decide +kernel
theorem dX9_init_139 : decode cX9_init 139 = .ok (.iastore, 1) := by decide +kernel
theorem dX9_init_140 : decode cX9_init 140 = .ok (.dup, 1) := by decide +kernel
theorem dX9_init_141 : decode cX9_init 141 = .ok (.iconst 3, 1) := by decide +kernel
theorem dX9_init_142 : decode cX9_init 142 = .ok (.bipush 99, 2) := by decide +kernel
theorem dX9_init_144 : decode cX9_init 144 = .ok (.iastore, 1) := by decide +kernel
theorem dX9_init_145 : decode cX9_init 145 = .ok (.dup, 1) := by decide +kernel
theorem dX9_init_146 : decode cX9_init 146 = .ok (.iconst 4, 1) := by decide +kernel
theorem dX9_init_147 : decode cX9_init 147 = .ok (.bipush 101, 2) := by decide +kernel
theorem dX9_init_149 : decode cX9_init 149 = .ok (.iastore, 1) := by decide +kernel
theorem dX9_init_150 : decode cX9_init 150 = .ok (.dup, 1) := by decide +kernel
theorem dX9_init_151 : decode cX9_init 151 = .ok (.iconst 5, 1) := by decide +kernel
theorem dX9_init_152 : decode cX9_init 152 = .ok (.bipush 32, 2) := by decide +kernel
theorem dX9_init_154 : decode cX9_init 154 = .ok (.iastore, 1) := by decide +kernel
theorem dX9_init_155 : decode cX9_init 155 = .ok (.dup, 1) := by decide +kernel
theorem dX9_init_156 : decode cX9_init 156 = .ok (.bipush 6, 2) := by decide +kernel
theorem dX9_init_158 : decode cX9_init 158 = .ok (.bipush 116, 2) := by decide +kernel
theorem dX9_init_160 : decode cX9_init 160 = .ok (.iastore, 1) := by decide +kernel
theorem dX9_init_161 : decode cX9_init 161 = .ok (.dup, 1) := by decide +kernel
theorem dX9_init_162 : decode cX9_init 162 = .ok (.bipush 7, 2) := by decide +kernel
theorem dX9_init_164 : decode cX9_init 164 = .ok (.bipush 105, 2) := by decide +kernel
theorem dX9_init_166 : decode cX9_init 166 = .ok (.iastore, 1) := by decide +kernel
theorem dX9_init_167 : decode cX9_init 167 = .ok (.dup, 1) := by decide +kernel
theorem dX9_init_168 : decode cX9_init 168 = .ok (.bipush 8, 2) := by decide +kernel
theorem dX9_init_170 : decode cX9_init 170 = .ok (.bipush 101, 2) := by decide +kernel
theorem dX9_init_172 : decode cX9_init 172 = .ok (.iastore, 1) := by decide +kernel
theorem dX9_init_173 : decode cX9_init 173 = .ok (.dup, 1) := by decide +kernel
theorem dX9_init_174 : decode cX9_init 174 = .ok (.bipush 9, 2) := by decide +kernel
theorem dX9_init_176 : decode cX9_init 176 = .ok (.bipush 32, 2) := by decide +kernel
theorem dX9_init_178 : decode cX9_init 178 = .ok (.iastore, 1) := by decide +kernel
theorem dX9_init_179 : decode cX9_init 179 = .ok (.dup, 1) := by decide +kernel
theorem dX9_init_180 : decode cX9_init 180 = .ok (.bipush 10, 2) := by decide +kernel
theorem dX9_init_182 : decode cX9_init 182 = .ok (.bipush 100, 2) := by decide +kernel
theorem dX9_init_184 : decode cX9_init 184 = .ok (.iastore, 1) := by decide +kernel
theorem dX9_init_185 : decode cX9_init 185 = .ok (.dup, 1) := by decide +kernel
theorem dX9_init_186 : decode cX9_init 186 = .ok (.bipush 11, 2) := by decide +kernel
theorem dX9_init_188 : decode cX9_init 188 = .ok (.bipush 101, 2) := by decide +kernel
theorem dX9_init_190 : decode cX9_init 190 = .ok (.iastore, 1) := by decide +kernel
theorem dX9_init_191 : decode cX9_init 191 = .ok (.dup, 1) := by decide +kernel
theorem dX9_init_192 : decode cX9_init 192 = .ok (.bipush 12, 2) := by decide +kernel
theorem dX9_init_194 : decode cX9_init 194 = .ok (.bipush 102, 2) := by decide +kernel
theorem dX9_init_196 : decode cX9_init 196 = .ok (.iastore, 1) := by decide +kernel
theorem dX9_init_197 : decode cX9_init 197 = .ok (.dup, 1) := by decide +kernel
theorem dX9_init_198 : decode cX9_init 198 = .ok (.bipush 13, 2) := by decide +kernel
theorem dX9_init_200 : decode cX9_init 200 = .ok (.bipush 97, 2) := by decide +kernel
theorem dX9_init_202 : decode cX9_init 202 = .ok (.iastore, 1) := by decide +kernel
theorem dX9_init_203 : decode cX9_init 203 = .ok (.dup, 1) := by decide +kernel
theorem dX9_init_204 : decode cX9_init 204 = .ok (.bipush 14, 2) := by decide +kernel
theorem dX9_init_206 : decode cX9_init 206 = .ok (.bipush 117, 2) := by decide +kernel
theorem dX9_init_208 : decode cX9_init 208 = .ok (.iastore, 1) := by decide +kernel
theorem dX9_init_209 : decode cX9_init 209 = .ok (.dup, 1) := by decide +kernel
theorem dX9_init_210 : decode cX9_init 210 = .ok (.bipush 15, 2) := by decide +kernel
theorem dX9_init_212 : decode cX9_init 212 = .ok (.bipush 108, 2) := by decide +kernel
theorem dX9_init_214 : decode cX9_init 214 = .ok (.iastore, 1) := by decide +kernel
theorem dX9_init_215 : decode cX9_init 215 = .ok (.dup, 1) := by decide +kernel
theorem dX9_init_216 : decode cX9_init 216 = .ok (.bipush 16, 2) := by decide +kernel
theorem dX9_init_218 : decode cX9_init 218 = .ok (.bipush 116, 2) := by decide +kernel
theorem dX9_init_220 : decode cX9_init 220 = .ok (.iastore, 1) := by decide +kernel
theorem dX9_init_221 : decode cX9_init 221 = .ok (.dup, 1) := by decide +kernel
theorem dX9_init_222 : decode cX9_init 222 = .ok (.bipush 17, 2) := by decide +kernel
theorem dX9_init_224 : decode cX9_init 224 = .ok (.bipush 32, 2) := by decide +kernel
theorem dX9_init_226 : decode cX9_init 226 = .ok (.iastore, 1) := by decide +kernel
theorem dX9_init_227 : decode cX9_init 227 = .ok (.dup, 1) := by decide +kernel
theorem dX9_init_228 : decode cX9_init 228 = .ok (.bipush 18, 2) := by decide +kernel
theorem dX9_init_230 : decode cX9_init 230 = .ok (.bipush 100, 2) := by decide +kernel
theorem dX9_init_232 : decode cX9_init 232 = .ok (.iastore, 1) := by decide +kernel
theorem dX9_init_233 : decode cX9_init 233 = .ok (.dup, 1) := by decide +kernel
theorem dX9_init_234 : decode cX9_init 234 = .ok (.bipush 19, 2) := by decide +kernel
theorem dX9_init_236 : decode cX9_init 236 = .ok (.bipush 101, 2) := by decide +kernel
theorem dX9_init_238 : decode cX9_init 238 = .ok (.iastore, 1) := by decide +kernel
theorem dX9_init_239 : decode cX9_init 239 = .ok (.dup, 1) := by decide +kernel
theorem dX9_init_240 : decode cX9_init 240 = .ok (.bipush 20, 2) := by decide +kernel
theorem dX9_init_242 : decode cX9_init 242 = .ok (.bipush 112, 2) := by decide +kernel
theorem dX9_init_244 : decode cX9_init 244 = .ok (.iastore, 1) := by decide +kernel
theorem dX9_init_245 : decode cX9_init 245 = .ok (.dup, 1) := by decide +kernel
theorem dX9_init_246 : decode cX9_init 246 = .ok (.bipush 21, 2) := by decide +kernel
theorem dX9_init_248 : decode cX9_init 248 = .ok (.bipush 111, 2) := by decide +kernel
theorem dX9_init_250 : decode cX9_init 250 = .ok (.iastore, 1) := by decide +kernel
theorem dX9_init_251 : decode cX9_init 251 = .ok (.dup, 1) := by decide +kernel
theorem dX9_init_252 : decode cX9_init 252 = .ok (.bipush 22, 2) := by decide +kernel
theorem dX9_init_254 : decode cX9_init 254 = .ok (.bipush 115, 2) := by decide +kernel
theorem dX9_init_256 : decode cX9_init 256 = .ok (.iastore, 1) := by decide +kernel
theorem dX9_init_257 : decode cX9_init 257 = .ok (.dup, 1) := by decide +kernel
theorem dX9_init_258 : decode cX9_init 258 = .ok (.bipush 23, 2) := by decide +kernel
theorem dX9_init_260 : decode cX9_init 260 = .ok (.bipush 105, 2) := by decide +kernel
theorem dX9_init_262 : decode cX9_init 262 = .ok (.iastore, 1) := by decide +kernel
theorem dX9_init_263 : decode cX9_init 263 = .ok (.dup, 1) := by decide +kernel
theorem dX9_init_264 : decode cX9_init 264 = .ok (.bipush 24, 2) := by decide +kernel
theorem dX9_init_266 : decode cX9_init 266 = .ok (.bipush 116, 2) := by decide +kernel
theorem dX9_init_268 : decode cX9_init 268 = .ok (.iastore, 1) := by decide +kernel
theorem dX9_init_269 : decode cX9_init 269 = .ok (.dup, 1) := by decide +kernel
theorem dX9_init_270 : decode cX9_init 270 = .ok (.bipush 25, 2) := by decide +kernel
theorem dX9_init_272 : decode cX9_init 272 = .ok (.bipush 32, 2) := by decide +kernel
theorem dX9_init_274 : decode cX9_init 274 = .ok (.iastore, 1) := by decide +kernel
theorem dX9_init_275 : decode cX9_init 275 = .ok (.dup, 1) := by decide +kernel
theorem dX9_init_276 : decode cX9_init 276 = .ok (.bipush 26, 2) := by decide +kernel
theorem dX9_init_278 : decode cX9_init 278 = .ok (.bipush 114, 2) := by decide +kernel
theorem dX9_init_280 : decode cX9_init 280 = .ok (.iastore, 1) := by decide +kernel
theorem dX9_init_281 : decode cX9_init 281 = .ok (.dup, 1) := by decide +kernel
theorem dX9_init_282 : decode cX9_init 282 = .ok (.bipush 27, 2) := by decide +kernel
theorem dX9_init_284 : decode cX9_init 284 = .ok (.bipush 101, 2) := by decide +kernel
theorem dX9_init_286 : decode cX9_init 286 = .ok (.iastore, 1) := by decide +kernel
theorem dX9_init_287 : decode cX9_init 287 = .ok (.dup, 1) := by decide +kernel
theorem dX9_init_288 : decode cX9_init 288 = .ok (.bipush 28, 2) := by decide +kernel
theorem dX9_init_290 : decode cX9_init 290 = .ok (.bipush 115, 2) := by decide +kernel
theorem dX9_init_292 : decode cX9_init 292 = .ok (.iastore, 1) := by decide +kernel
theorem dX9_init_293 : decode cX9_init 293 = .ok (.dup, 1) := by decide +kernel
theorem dX9_init_294 : decode cX9_init 294 = .ok (.bipush 29, 2) := by decide +kernel
theorem dX9_init_296 : decode cX9_init 296 = .ok (.bipush 101, 2) := by decide +kernel
theorem dX9_init_298 : decode cX9_init 298 = .ok (.iastore, 1) := by decide +kernel
theorem dX9_init_299 : decode cX9_init 299 = .ok (.dup, 1) := by decide +kernel
theorem dX9_init_300 : decode cX9_init 300 = .ok (.bipush 30, 2) := by decide +kernel
theorem dX9_init_302 : decode cX9_init 302 = .ok (.bipush 114, 2) := by decide +kernel
theorem dX9_init_304 : decode cX9_init 304 = .ok (.iastore, 1) := by decide +kernel
theorem dX9_init_305 : decode cX9_init 305 = .ok (.dup, 1) := by decide +kernel
theorem dX9_init_306 : decode cX9_init 306 = .ok (.bipush 31, 2) := by decide +kernel
theorem dX9_init_308 : decode cX9_init 308 = .ok (.bipush 118, 2) := by decide +kernel
theorem dX9_init_310 : decode cX9_init 310 = .ok (.iastore, 1) := by decide +kernel
theorem dX9_init_311 : decode cX9_init 311 = .ok (.dup, 1) := by decide +kernel
theorem dX9_init_312 : decode cX9_init 312 = .ok (.bipush 32, 2) := by decide +kernel
theorem dX9_init_314 : decode cX9_init 314 = .ok (.bipush 101, 2) := by decide +kernel
theorem dX9_init_316 : decode cX9_init 316 = .ok (.iastore, 1) := by decide +kernel
theorem dX9_init_317 : decode cX9_init 317 = .ok (.dup, 1) := by decide +kernel
theorem dX9_init_318 : decode cX9_init 318 = .ok (.bipush 33, 2) := by decide +kernel
theorem dX9_init_320 : decode cX9_init 320 = .ok (.bipush 32, 2) := by decide +kernel
theorem dX9_init_322 : decode cX9_init 322 = .ok (.iastore, 1) := by decide +kernel
theorem dX9_init_323 : decode cX9_init 323 = .ok (.dup, 1) := by decide +kernel
theorem dX9_init_324 : decode cX9_init 324 = .ok (.bipush 34, 2) := by decide +kernel
theorem dX9_init_326 : decode cX9_init 326 = .ok (.bipush 116, 2) := by decide +kernel
theorem dX9_init_328 : decode cX9_init 328 = .ok (.iastore, 1) := by decide +kernel
theorem dX9_init_329 : decode cX9_init 329 = .ok (.dup, 1) := by decide +kernel
theorem dX9_init_330 : decode cX9_init 330 = .ok (.bipush 35, 2) := by decide +kernel
theorem dX9_init_332 : decode cX9_init 332 = .ok (.bipush 97, 2) := by decide +kernel
theorem dX9_init_334 : decode cX9_init 334 = .ok (.iastore, 1) := by decide +kernel
theorem dX9_init_335 : decode cX9_init 335 = .ok (.dup, 1) := by decide +kernel
theorem dX9_init_336 : decode cX9_init 336 = .ok (.bipush 36, 2) := by decide +kernel
theorem dX9_init_338 : decode cX9_init 338 = .ok (.bipush 120, 2) := by decide +kernel
theorem dX9_init_340 : decode cX9_init 340 = .ok (.iastore, 1) := by decide +kernel
theorem dX9_init_341 : decode cX9_init 341 = .ok (.dup, 1) := by decide +kernel
theorem dX9_init_342 : decode cX9_init 342 = .ok (.bipush 37, 2) := by decide +kernel
theorem dX9_init_344 : decode cX9_init 344 = .ok (.bipush 32, 2) := by decide +kernel
theorem dX9_init_346 : decode cX9_init 346 = .ok (.iastore, 1) := by decide +kernel
theorem dX9_init_347 : decode cX9_init 347 = .ok (.dup, 1) := by decide +kernel
theorem dX9_init_348 : decode cX9_init 348 = .ok (.bipush 38, 2) := by decide +kernel
theorem dX9_init_350 : decode cX9_init 350 = .ok (.bipush 99, 2) := by decide +kernel
theorem dX9_init_352 : decode cX9_init 352 = .ok (.iastore, 1) := by decide +kernel
theorem dX9_init_353 : decode cX9_init 353 = .ok (.dup, 1) := by decide +kernel
theorem dX9_init_354 : decode cX9_init 354 = .ok (.bipush 39, 2) := by decide +kernel
theorem dX9_init_356 : decode cX9_init 356 = .ok (.bipush 111, 2) := by decide +kernel
theorem dX9_init_358 : decode cX9_init 358 = .ok (.iastore, 1) := by decide +kernel
theorem dX9_init_359 : decode cX9_init 359 = .ok (.dup, 1) := by decide +kernel
theorem dX9_init_360 : decode cX9_init 360 = .ok (.bipush 40, 2) := by decide +kernel
theorem dX9_init_362 : decode cX9_init 362 = .ok (.bipush 115, 2) := by decide +kernel
theorem dX9_init_364 : decode cX9_init 364 = .ok (.iastore, 1) := by decide +kernel
theorem dX9_init_365 : decode cX9_init 365 = .ok (.dup, 1) := by decide +kernel
theorem dX9_init_366 : decode cX9_init 366 = .ok (.bipush 41, 2) := by decide +kernel
theorem dX9_init_368 : decode cX9_init 368 = .ok (.bipush 116, 2) := by decide +kernel
theorem dX9_init_370 : decode cX9_init 370 = .ok (.iastore, 1) := by decide +kernel
theorem dX9_init_371 : decode cX9_init 371 = .ok (.dup, 1) := by decide +kernel
theorem dX9_init_372 : decode cX9_init 372 = .ok (.bipush 42, 2) := by decide +kernel
theorem dX9_init_374 : decode cX9_init 374 = .ok (.bipush 32, 2) := by decide +kernel
theorem dX9_init_376 : decode cX9_init 376 = .ok (.iastore, 1) := by decide +kernel
theorem dX9_init_377 : decode cX9_init 377 = .ok (.dup, 1) := by decide +kernel
theorem dX9_init_378 : decode cX9_init 378 = .ok (.bipush 43, 2) := by decide +kernel
theorem dX9_init_380 : decode cX9_init 380 = .ok (.bipush 115, 2) := by decide +kernel
theorem dX9_init_382 : decode cX9_init 382 = .ok (.iastore, 1) := by decide +kernel
theorem dX9_init_383 : decode cX9_init 383 = .ok (.dup, 1) := by decide +kernel
theorem dX9_init_384 : decode cX9_init 384 = .ok (.bipush 44, 2) := by decide +kernel
theorem dX9_init_386 : decode cX9_init 386 = .ok (.bipush 104, 2) := by decide +kernel
theorem dX9_init_388 : decode cX9_init 388 = .ok (.iastore, 1) := by decide +kernel
theorem dX9_init_389 : decode cX9_init 389 = .ok (.dup, 1) := by decide +kernel
theorem dX9_init_390 : decode cX9_init 390 = .ok (.bipush 45, 2) := by decide +kernel
theorem dX9_init_392 : decode cX9_init 392 = .ok (.bipush 117, 2) := by decide +kernel
theorem dX9_init_394 : decode cX9_init 394 = .ok (.iastore, 1) := by decide +kernel
theorem dX9_init_395 : decode cX9_init 395 = .ok (.dup, 1) := by decide +kernel
theorem dX9_init_396 : decode cX9_init 396 = .ok (.bipush 46, 2) := by decide +kernel
theorem dX9_init_398 : decode cX9_init 398 = .ok (.bipush 116, 2) := by decide +kernel
theorem dX9_init_400 : decode cX9_init 400 = .ok (.iastore, 1) := by decide +kernel
theorem dX9_init_401 : decode cX9_init 401 = .ok (.dup, 1) := by decide +kernel
theorem dX9_init_402 : decode cX9_init 402 = .ok (.bipush 47, 2) := by decide +kernel
theorem dX9_init_404 : decode cX9_init 404 = .ok (.bipush 32, 2) := by decide +kernel
theorem dX9_init_406 : decode cX9_init 406 = .ok (.iastore, 1) := by decide +kernel
theorem dX9_init_407 : decode cX9_init 407 = .ok (.dup, 1) := by decide +kernel
theorem dX9_init_408 : decode cX9_init 408 = .ok (.bipush 48, 2) := by decide +kernel
theorem dX9_init_410 : decode cX9_init 410 = .ok (.bipush 111, 2) := by decide +kernel
theorem dX9_init_412 : decode cX9_init 412 = .ok (.iastore, 1) := by decide +kernel
theorem dX9_init_413 : decode cX9_init 413 = .ok (.dup, 1) := by decide +kernel
theorem dX9_init_414 : decode cX9_init 414 = .ok (.bipush 49, 2) := by decide +kernel
theorem dX9_init_416 : decode cX9_init 416 = .ok (.bipush 102, 2) := by decide +kernel
theorem dX9_init_418 : decode cX9_init 418 = .ok (.iastore, 1) := by decide +kernel
theorem dX9_init_419 : decode cX9_init 419 = .ok (.dup, 1) := by decide +kernel
theorem dX9_init_420 : decode cX9_init 420 = .ok (.bipush 50, 2) := by decide +kernel
theorem dX9_init_422 : decode cX9_init 422 = .ok (.bipush 102, 2) := by decide +kernel
theorem dX9_init_424 : decode cX9_init 424 = .ok (.iastore, 1) := by decide +kernel
theorem dX9_init_425 : decode cX9_init 425 = .ok (.dup, 1) := by decide +kernel
theorem dX9_init_426 : decode cX9_init 426 = .ok (.bipush 51, 2) := by decide +kernel
theorem dX9_init_428 : decode cX9_init 428 = .ok (.bipush 101, 2) := by decide +kernel
theorem dX9_init_430 : decode cX9_init 430 = .ok (.iastore, 1) := by decide +kernel
theorem dX9_init_431 : decode cX9_init 431 = .ok (.dup, 1) := by decide +kernel
theorem dX9_init_432 : decode cX9_init 432 = .ok (.bipush 52, 2) := by decide +kernel
theorem dX9_init_434 : decode cX9_init 434 = .ok (.bipush 114, 2) := by decide +kernel
theorem dX9_init_436 : decode cX9_init 436 = .ok (.iastore, 1) := by decide +kernel
theorem dX9_init_437 : decode cX9_init 437 = .ok (.dup, 1) := by decide +kernel
theorem dX9_init_438 : decode cX9_init 438 = .ok (.bipush 53, 2) := by decide +kernel
theorem dX9_init_440 : decode cX9_init 440 = .ok (.bipush 32, 2) := by decide +kernel
theorem dX9_init_442 : decode cX9_init 442 = .ok (.iastore, 1) := by decide +kernel
theorem dX9_init_443 : decode cX9_init 443 = .ok (.dup, 1) := by decide +kernel
theorem dX9_init_444 : decode cX9_init 444 = .ok (.bipush 54, 2) := by decide +kernel
theorem dX9_init_446 : decode cX9_init 446 = .ok (.bipush 102, 2) := by decide +kernel
theorem dX9_init_448 : decode cX9_init 448 = .ok (.iastore, 1) := by decide +kernel
theorem dX9_init_449 : decode cX9_init 449 = .ok (.dup, 1) := by decide +kernel
theorem dX9_init_450 : decode cX9_init 450 = .ok (.bipush 55, 2) := by decide +kernel
theorem dX9_init_452 : decode cX9_init 452 = .ok (.bipush 105, 2) := by decide +kernel
theorem dX9_init_454 : decode cX9_init 454 = .ok (.iastore, 1) := by decide +kernel
theorem dX9_init_455 : decode cX9_init 455 = .ok (.dup, 1) := by decide +kernel
theorem dX9_init_456 : decode cX9_init 456 = .ok (.bipush 56, 2) := by decide +kernel
theorem dX9_init_458 : decode cX9_init 458 = .ok (.bipush 114, 2) := by decide +kernel
theorem dX9_init_460 : decode cX9_init 460 = .ok (.iastore, 1) := by decide +kernel
theorem dX9_init_461 : decode cX9_init 461 = .ok (.dup, 1) := by decide +kernel
theorem dX9_init_462 : decode cX9_init 462 = .ok (.bipush 57, 2) := by decide +kernel
theorem dX9_init_464 : decode cX9_init 464 = .ok (.bipush 115, 2) := by decide +kernel
theorem dX9_init_466 : decode cX9_init 466 = .ok (.iastore, 1) := by decide +kernel
theorem dX9_init_467 : decode cX9_init 467 = .ok (.dup, 1) := by decide +kernel
theorem dX9_init_468 : decode cX9_init 468 = .ok (.bipush 58, 2) := by decide +kernel
theorem dX9_init_470 : decode cX9_init 470 = .ok (.bipush 116, 2) := by decide +kernel
theorem dX9_init_472 : decode cX9_init 472 = .ok (.iastore, 1) := by decide +kernel
theorem dX9_init_473 : decode cX9_init 473 = .ok (.dup, 1) := by decide +kernel
theorem dX9_init_474 : decode cX9_init 474 = .ok (.bipush 59, 2) := by decide +kernel
theorem dX9_init_476 : decode cX9_init 476 = .ok (.bipush 32, 2) := by decide +kernel
theorem dX9_init_478 : decode cX9_init 478 = .ok (.iastore, 1) := by decide +kernel
theorem dX9_init_479 : decode cX9_init 479 = .ok (.dup, 1) := by decide +kernel
theorem dX9_init_480 : decode cX9_init 480 = .ok (.bipush 60, 2) := by decide +kernel
theorem dX9_init_482 : decode cX9_init 482 = .ok (.bipush 115, 2) := by decide +kernel
theorem dX9_init_484 : decode cX9_init 484 = .ok (.iastore, 1) := by decide +kernel
theorem dX9_init_485 : decode cX9_init 485 = .ok (.dup, 1) := by decide +kernel
theorem dX9_init_486 : decode cX9_init 486 = .ok (.bipush 61, 2) := by decide +kernel
theorem dX9_init_488 : decode cX9_init 488 = .ok (.bipush 101, 2) := by decide +kernel
theorem dX9_init_490 : decode cX9_init 490 = .ok (.iastore, 1) := by decide +kernel
theorem dX9_init_491 : decode cX9_init 491 = .ok (.dup, 1) := by decide +kernel
theorem dX9_init_492 : decode cX9_init 492 = .ok (.bipush 62, 2) := by decide +kernel
theorem dX9_init_494 : decode cX9_init 494 = .ok (.bipush 99, 2) := by decide +kernel
theorem dX9_init_496 : decode cX9_init 496 = .ok (.iastore, 1) := by decide +kernel
theorem dX9_init_497 : decode cX9_init 497 = .ok (.dup, 1) := by decide +kernel
theorem dX9_init_498 : decode cX9_init 498 = .ok (.bipush 63, 2) := by decide +kernel
theorem dX9_init_500 : decode cX9_init 500 = .ok (.bipush 111, 2) := by decide +kernel
theorem dX9_init_502 : decode cX9_init 502 = .ok (.iastore, 1) := by decide +kernel
theorem dX9_init_503 : decode cX9_init 503 = .ok (.dup, 1) := by decide +kernel
theorem dX9_init_504 : decode cX9_init 504 = .ok (.bipush 64, 2) := by decide +kernel
theorem dX9_init_506 : decode cX9_init 506 = .ok (.bipush 110, 2) := by decide +kernel
theorem dX9_init_508 : decode cX9_init 508 = .ok (.iastore, 1) := by decide +kernel
theorem dX9_init_509 : decode cX9_init 509 = .ok (.dup, 1) := by decide +kernel
theorem dX9_init_510 : decode cX9_init 510 = .ok (.bipush 65, 2) := by decide +kernel
theorem dX9_init_512 : decode cX9_init 512 = .ok (.bipush 100, 2) := by decide +kernel
theorem dX9_init_514 : decode cX9_init 514 = .ok (.iastore, 1) := by decide +kernel
theorem dX9_init_515 : decode cX9_init 515 = .ok (.dup, 1) := by decide +kernel
theorem dX9_init_516 : decode cX9_init 516 = .ok (.bipush 66, 2) := by decide +kernel
theorem dX9_init_518 : decode cX9_init 518 = .ok (.bipush 32, 2) := by decide +kernel
theorem dX9_init_520 : decode cX9_init 520 = .ok (.iastore, 1) := by decide +kernel
theorem dX9_init_521 : decode cX9_init 521 = .ok (.dup, 1) := by decide +kernel
theorem dX9_init_522 : decode cX9_init 522 = .ok (.bipush 67, 2) := by decide +kernel
theorem dX9_init_524 : decode cX9_init 524 = .ok (.bipush 110, 2) := by decide +kernel
theorem dX9_init_526 : decode cX9_init 526 = .ok (.iastore, 1) := by decide +kernel
theorem dX9_init_527 : decode cX9_init 527 = .ok (.dup, 1) := by decide +kernel
theorem dX9_init_528 : decode cX9_init 528 = .ok (.bipush 68, 2) := by decide +kernel
theorem dX9_init_530 : decode cX9_init 530 = .ok (.bipush 111, 2) := by decide +kernel
theorem dX9_init_532 : decode cX9_init 532 = .ok (.iastore, 1) := by decide +kernel
theorem dX9_init_533 : decode cX9_init 533 = .ok (.dup, 1) := by decide +kernel
theorem dX9_init_534 : decode cX9_init 534 = .ok (.bipush 69, 2) := by decide +kernel
theorem dX9_init_536 : decode cX9_init 536 = .ok (.bipush 110, 2) := by decide +kernel
theorem dX9_init_538 : decode cX9_init 538 = .ok (.iastore, 1) := by decide +kernel
theorem dX9_init_539 : decode cX9_init 539 = .ok (.dup, 1) := by decide +kernel
theorem dX9_init_540 : decode cX9_init 540 = .ok (.bipush 70, 2) := by decide +kernel
theorem dX9_init_542 : decode cX9_init 542 = .ok (.bipush 101, 2) := by decide +kernel
theorem dX9_init_544 : decode cX9_init 544 = .ok (.iastore, 1) := by decide +kernel
theorem dX9_init_545 : decode cX9_init 545 = .ok (.dup, 1) := by decide +kernel
theorem dX9_init_546 : decode cX9_init 546 = .ok (.bipush 71, 2) := by decide +kernel
theorem dX9_init_548 : decode cX9_init 548 = .ok (.bipush 32, 2) := by decide +kernel
theorem dX9_init_550 : decode cX9_init 550 = .ok (.iastore, 1) := by decide +kernel
theorem dX9_init_551 : decode cX9_init 551 = .ok (.dup, 1) := by decide +kernel
theorem dX9_init_552 : decode cX9_init 552 = .ok (.bipush 72, 2) := by decide +kernel
theorem dX9_init_554 : decode cX9_init 554 = .ok (.bipush 110, 2) := by decide +kernel
theorem dX9_init_556 : decode cX9_init 556 = .ok (.iastore, 1) := by decide +kernel
theorem dX9_init_557 : decode cX9_init 557 = .ok (.dup, 1) := by decide +kernel
theorem dX9_init_558 : decode cX9_init 558 = .ok (.bipush 73, 2) := by decide +kernel
theorem dX9_init_560 : decode cX9_init 560 = .ok (.bipush 101, 2) := by decide +kernel
theorem dX9_init_562 : decode cX9_init 562 = .ok (.iastore, 1) := by decide +kernel
theorem dX9_init_563 : decode cX9_init 563 = .ok (.dup, 1) := by decide +kernel
theorem dX9_init_564 : decode cX9_init 564 = .ok (.bipush 74, 2) := by decide +kernel
theorem dX9_init_566 : decode cX9_init 566 = .ok (.bipush 120, 2) := by decide +kernel
theorem dX9_init_568 : decode cX9_init 568 = .ok (.iastore, 1) := by decide +kernel
theorem dX9_init_569 : decode cX9_init 569 = .ok (.dup, 1) := by decide +kernel
theorem dX9_init_570 : decode cX9_init 570 = .ok (.bipush 75, 2) := by decide +kernel
theorem dX9_init_572 : decode cX9_init 572 = .ok (.bipush 116, 2) := by decide +kernel
theorem dX9_init_574 : decode cX9_init 574 = .ok (.iastore, 1) := by decide +kernel
theorem dX9_init_575 : decode cX9_init 575 = .ok (.dup, 1) := by decide +kernel
theorem dX9_init_576 : decode cX9_init 576 = .ok (.bipush 76, 2) := by decide +kernel
theorem dX9_init_578 : decode cX9_init 578 = .ok (.bipush 32, 2) := by decide +kernel
theorem dX9_init_580 : decode cX9_init 580 = .ok (.iastore, 1) := by decide +kernel
theorem dX9_init_581 : decode cX9_init 581 = .ok (.putfield 57, 3) := by decide +kernel
theorem dX9_init_584 : decode cX9_init 584 = .ok (.aload_n 0, 1) := by decide +kernel
theorem dX9_init_585 : decode cX9_init 585 = .ok (.bipush 8, 2) := by decide +kernel
theorem dX9_init_587 : decode cX9_init 587 = .ok (.newarray .int, 2) := by decide +kernel
theorem dX9_init_589 : decode cX9_init 589 = .ok (.putfield 60, 3) := by decide +kernel
theorem dX9_init_592 : decode cX9_init 592 = .ok (.aload_n 0, 1) := by decide +kernel
theorem dX9_init_593 : decode cX9_init 593 = .ok (.bipush 8, 2) := by decide +kernel
theorem dX9_init_595 : decode cX9_init 595 = .ok (.newarray .int, 2) := by decide +kernel
theorem dX9_init_597 : decode cX9_init 597 = .ok (.putfield 63, 3) := by decide +kernel
theorem dX9_init_600 : decode cX9_init 600 = .ok (.aload_n 0, 1) := by decide +kernel
theorem dX9_init_601 : decode cX9_init 601 = .ok (.iconst 3, 1) := by decide +kernel
theorem dX9_init_602 : decode cX9_init 602 = .ok (.newarray .long, 2) := by decide +kernel
theorem dX9_init_604 : decode cX9_init 604 = .ok (.putfield 66, 3) := by decide +kernel
theorem dX9_init_607 : decode cX9_init 607 = .ok (.aload_n 0, 1) := by decide +kernel
theorem dX9_init_608 : decode cX9_init 608 = .ok (.ldc 70, 2) := by decide +kernel
theorem dX9_init_610 : decode cX9_init 610 = .ok (.newarray .long, 2) := by decide +kernel
theorem dX9_init_612 : decode cX9_init 612 = .ok (.putfield 71, 3) := by decide +kernel
theorem dX9_init_615 : decode cX9_init 615 = .ok (.aload_n 0, 1) := by decide +kernel
theorem dX9_init_616 : decode cX9_init 616 = .ok (.iconst 4, 1) := by decide +kernel
theorem dX9_init_617 : decode cX9_init 617 = .ok (.newarray .int, 2) := by decide +kernel
theorem dX9_init_619 : decode cX9_init 619 = .ok (.putfield 74, 3) := by decide +kernel
theorem dX9_init_622 : decode cX9_init 622 = .ok (.return_, 1) := by decide +kernel
theorem dX9_thrown_0 : decode cX9_thrown 0 = .ok (.aload_n 0, 1) := by decide +kernel
theorem dX9_thrown_1 : decode cX9_thrown 1 = .ok (.getfield 77, 3) := by decide +kernel
theorem dX9_thrown_4 : decode cX9_thrown 4 = .ok (.ireturn, 1) := by decide +kernel
theorem dX9_feed_0 : decode cX9_feed 0 = .ok (.aload_n 0, 1) := by decide +kernel
theorem dX9_feed_1 : decode cX9_feed 1 = .ok (.iconst 0, 1) := by decide +kernel
theorem dX9_feed_2 : decode cX9_feed 2 = .ok (.putfield 77, 3) := by decide +kernel
theorem dX9_feed_5 : decode cX9_feed 5 = .ok (.aload_n 0, 1) := by decide +kernel
theorem dX9_feed_6 : decode cX9_feed 6 = .ok (.getfield 80, 3) := by decide +kernel
theorem dX9_feed_9 : decode cX9_feed 9 = .ok (.bipush 20, 2) := by decide +kernel
theorem dX9_feed_11 : decode cX9_feed 11 = .ok (.iadd, 1) := by decide +kernel
theorem dX9_feed_12 : decode cX9_feed 12 = .ok (.sipush 400, 3) := by decide +kernel
theorem dX9_feed_15 : decode cX9_feed 15 = .ok (.if_icmp .le 5, 3) := by decide +kernel
theorem dX9_feed_18 : decode cX9_feed 18 = .ok (.iconst (-1), 1) := by decide +kernel
theorem dX9_feed_19 : decode cX9_feed 19 = .ok (.ireturn, 1) := by decide +kernel
theorem dX9_feed_20 : decode cX9_feed 20 = .ok (.iconst 0, 1) := by decide +kernel
theorem dX9_feed_21 : decode cX9_feed 21 = .ok (.istore 6, 2) := by decide +kernel
theorem dX9_feed_23 : decode cX9_feed 23 = .ok (.iload 6, 2) := by decide +kernel
theorem dX9_feed_25 : decode cX9_feed 25 = .ok (.bipush 20, 2) := by decide +kernel
theorem dX9_feed_27 : decode cX9_feed 27 = .ok (.if_icmp .ge 86, 3) := by decide +kernel
theorem dX9_feed_30 : decode cX9_feed 30 = .ok (.iload 6, 2) := by decide +kernel
theorem dX9_feed_32 : decode cX9_feed 32 = .ok (.iconst 4, 1) := by decide +kernel
theorem dX9_feed_33 : decode cX9_feed 33 = .ok (.if_icmp .ge 7, 3) := by decide +kernel
theorem dX9_feed_36 : decode cX9_feed 36 = .ok (.iload_n 1, 1) := by decide +kernel
theorem dX9_feed_37 : decode cX9_feed 37 = .ok (.goto 39, 3) := by decide +kernel
theorem dX9_feed_40 : decode cX9_feed 40 = .ok (.iload 6, 2) := by decide +kernel
theorem dX9_feed_42 : decode cX9_feed 42 = .ok (.bipush 8, 2) := by decide +kernel
theorem dX9_feed_44 : decode cX9_feed 44 = .ok (.if_icmp .ge 7, 3) := by decide +kernel
theorem dX9_feed_47 : decode cX9_feed 47 = .ok (.iload_n 2, 1) := by decide +kernel
theorem dX9_feed_48 : decode cX9_feed 48 = .ok (.goto 28, 3) := by decide +kernel
theorem dX9_feed_51 : decode cX9_feed 51 = .ok (.iload 6, 2) := by decide +kernel
theorem dX9_feed_53 : decode cX9_feed 53 = .ok (.bipush 12, 2) := by decide +kernel
theorem dX9_feed_55 : decode cX9_feed 55 = .ok (.if_icmp .ge 7, 3) := by decide +kernel
theorem dX9_feed_58 : decode cX9_feed 58 = .ok (.iload_n 3, 1) := by decide +kernel
theorem dX9_feed_59 : decode cX9_feed 59 = .ok (.goto 17, 3) := by decide +kernel
theorem dX9_feed_62 : decode cX9_feed 62 = .ok (.iload 6, 2) := by decide +kernel
theorem dX9_feed_64 : decode cX9_feed 64 = .ok (.bipush 16, 2) := by decide +kernel
theorem dX9_feed_66 : decode cX9_feed 66 = .ok (.if_icmp .ge 8, 3) := by decide +kernel
theorem dX9_feed_69 : decode cX9_feed 69 = .ok (.iload 4, 2) := by decide +kernel
theorem dX9_feed_71 : decode cX9_feed 71 = .ok (.goto 5, 3) := by decide +kernel
theorem dX9_feed_74 : decode cX9_feed 74 = .ok (.iload 5, 2) := by decide +kernel
theorem dX9_feed_76 : decode cX9_feed 76 = .ok (.istore 7, 2) := by decide +kernel
theorem dX9_feed_78 : decode cX9_feed 78 = .ok (.aload_n 0, 1) := by decide +kernel
theorem dX9_feed_79 : decode cX9_feed 79 = .ok (.getfield 7, 3) := by decide +kernel
theorem dX9_feed_82 : decode cX9_feed 82 = .ok (.aload_n 0, 1) := by decide +kernel
theorem dX9_feed_83 : decode cX9_feed 83 = .ok (.getfield 80, 3) := by decide +kernel
theorem dX9_feed_86 : decode cX9_feed 86 = .ok (.iload 6, 2) := by decide +kernel
theorem dX9_feed_88 : decode cX9_feed 88 = .ok (.iadd, 1) := by decide +kernel
theorem dX9_feed_89 : decode cX9_feed 89 = .ok (.iload 7, 2) := by decide +kernel
theorem dX9_feed_91 : decode cX9_feed 91 = .ok (.bipush 24, 2) := by decide +kernel
theorem dX9_feed_93 : decode cX9_feed 93 = .ok (.bipush 8, 2) := by decide +kernel
theorem dX9_feed_95 : decode cX9_feed 95 = .ok (.iload 6, 2) := by decide +kernel
theorem dX9_feed_97 : decode cX9_feed 97 = .ok (.iconst 4, 1) := by decide +kernel
theorem dX9_feed_98 : decode cX9_feed 98 = .ok (.irem, 1) := by decide +kernel
theorem dX9_feed_99 : decode cX9_feed 99 = .ok (.imul, 1) := by decide +kernel
theorem dX9_feed_100 : decode cX9_feed 100 = .ok (.isub, 1) := by decide +kernel
theorem dX9_feed_101 : decode cX9_feed 101 = .ok (.ishr, 1) := by decide +kernel
theorem dX9_feed_102 : decode cX9_feed 102 = .ok (.sipush 255, 3) := by decide +kernel
theorem dX9_feed_105 : decode cX9_feed 105 = .ok (.iand, 1) := by decide +kernel
theorem dX9_feed_106 : decode cX9_feed 106 = .ok (.iastore, 1) := by decide +kernel
theorem dX9_feed_107 : decode cX9_feed 107 = .ok (.iinc 6 1, 3) := by decide +kernel
theorem dX9_feed_110 : decode cX9_feed 110 = .ok (.goto (-87), 3) := by decide +kernel
theorem dX9_feed_113 : decode cX9_feed 113 = .ok (.aload_n 0, 1) := by decide +kernel
theorem dX9_feed_114 : decode cX9_feed 114 = .ok (.dup, 1) := by decide +kernel
theorem dX9_feed_115 : decode cX9_feed 115 = .ok (.getfield 80, 3) := by decide +kernel
theorem dX9_feed_118 : decode cX9_feed 118 = .ok (.bipush 20, 2) := by decide +kernel
theorem dX9_feed_120 : decode cX9_feed 120 = .ok (.iadd, 1) := by decide +kernel
theorem dX9_feed_121 : decode cX9_feed 121 = .ok (.putfield 80, 3) := by decide +kernel
theorem dX9_feed_124 : decode cX9_feed 124 = .ok (.aload_n 0, 1) := by decide +kernel
theorem dX9_feed_125 : decode cX9_feed 125 = .ok (.getfield 80, 3) := by decide +kernel
theorem dX9_feed_128 : decode cX9_feed 128 = .ok (.ireturn, 1) := by decide +kernel
theorem dX9_wrong_0 : decode cX9_wrong 0 = .ok (.aload_n 0, 1) := by decide +kernel
theorem dX9_wrong_1 : decode cX9_wrong 1 = .ok (.iload_n 1, 1) := by decide +kernel
theorem dX9_wrong_2 : decode cX9_wrong 2 = .ok (.putfield 83, 3) := by decide +kernel
theorem dX9_wrong_5 : decode cX9_wrong 5 = .ok (.aload_n 0, 1) := by decide +kernel
theorem dX9_wrong_6 : decode cX9_wrong 6 = .ok (.iload_n 2, 1) := by decide +kernel
theorem dX9_wrong_7 : decode cX9_wrong 7 = .ok (.putfield 53, 3) := by decide +kernel
theorem dX9_wrong_10 : decode cX9_wrong 10 = .ok (.iconst 0, 1) := by decide +kernel
theorem dX9_wrong_11 : decode cX9_wrong 11 = .ok (.ireturn, 1) := by decide +kernel
theorem dX9_wordAt_0 : decode cX9_wordAt 0 = .ok (.iconst 0, 1) := by decide +kernel
theorem dX9_wordAt_1 : decode cX9_wordAt 1 = .ok (.istore_n 3, 1) := by decide +kernel
theorem dX9_wordAt_2 : decode cX9_wordAt 2 = .ok (.iconst 0, 1) := by decide +kernel
theorem dX9_wordAt_3 : decode cX9_wordAt 3 = .ok (.istore 4, 2) := by decide +kernel
theorem dX9_wordAt_5 : decode cX9_wordAt 5 = .ok (.iload 4, 2) := by decide +kernel
theorem dX9_wordAt_7 : decode cX9_wordAt 7 = .ok (.aload_n 0, 1) := by decide +kernel
theorem dX9_wordAt_8 : decode cX9_wordAt 8 = .ok (.getfield 57, 3) := by decide +kernel
theorem dX9_wordAt_11 : decode cX9_wordAt 11 = .ok (.arraylength, 1) := by decide +kernel
theorem dX9_wordAt_12 : decode cX9_wordAt 12 = .ok (.if_icmp .ge 114, 3) := by decide +kernel
theorem dX9_wordAt_15 : decode cX9_wordAt 15 = .ok (.iconst 0, 1) := by decide +kernel
theorem dX9_wordAt_16 : decode cX9_wordAt 16 = .ok (.istore 5, 2) := by decide +kernel
theorem dX9_wordAt_18 : decode cX9_wordAt 18 = .ok (.aload_n 0, 1) := by decide +kernel
theorem dX9_wordAt_19 : decode cX9_wordAt 19 = .ok (.getfield 57, 3) := by decide +kernel
theorem dX9_wordAt_22 : decode cX9_wordAt 22 = .ok (.iload 4, 2) := by decide +kernel
theorem dX9_wordAt_24 : decode cX9_wordAt 24 = .ok (.iload 5, 2) := by decide +kernel
theorem dX9_wordAt_26 : decode cX9_wordAt 26 = .ok (.iadd, 1) := by decide +kernel
theorem dX9_wordAt_27 : decode cX9_wordAt 27 = .ok (.iaload, 1) := by decide +kernel
theorem dX9_wordAt_28 : decode cX9_wordAt 28 = .ok (.bipush 32, 2) := by decide +kernel
theorem dX9_wordAt_30 : decode cX9_wordAt 30 = .ok (.if_icmp .eq 9, 3) := by decide +kernel
theorem dX9_wordAt_33 : decode cX9_wordAt 33 = .ok (.iinc 5 1, 3) := by decide +kernel
theorem dX9_wordAt_36 : decode cX9_wordAt 36 = .ok (.goto (-18), 3) := by decide +kernel
theorem dX9_wordAt_39 : decode cX9_wordAt 39 = .ok (.iload 5, 2) := by decide +kernel
theorem dX9_wordAt_41 : decode cX9_wordAt 41 = .ok (.iload_n 2, 1) := by decide +kernel
theorem dX9_wordAt_42 : decode cX9_wordAt 42 = .ok (.iload_n 1, 1) := by decide +kernel
theorem dX9_wordAt_43 : decode cX9_wordAt 43 = .ok (.isub, 1) := by decide +kernel
theorem dX9_wordAt_44 : decode cX9_wordAt 44 = .ok (.if_icmp .ne 7, 3) := by decide +kernel
theorem dX9_wordAt_47 : decode cX9_wordAt 47 = .ok (.iconst 1, 1) := by decide +kernel
theorem dX9_wordAt_48 : decode cX9_wordAt 48 = .ok (.goto 4, 3) := by decide +kernel
theorem dX9_wordAt_51 : decode cX9_wordAt 51 = .ok (.iconst 0, 1) := by decide +kernel
theorem dX9_wordAt_52 : decode cX9_wordAt 52 = .ok (.istore 6, 2) := by decide +kernel
theorem dX9_wordAt_54 : decode cX9_wordAt 54 = .ok (.iconst 0, 1) := by decide +kernel
theorem dX9_wordAt_55 : decode cX9_wordAt 55 = .ok (.istore 7, 2) := by decide +kernel
theorem dX9_wordAt_57 : decode cX9_wordAt 57 = .ok (.iload 7, 2) := by decide +kernel
theorem dX9_wordAt_59 : decode cX9_wordAt 59 = .ok (.iload 5, 2) := by decide +kernel
theorem dX9_wordAt_61 : decode cX9_wordAt 61 = .ok (.if_icmp .ge 43, 3) := by decide +kernel
theorem dX9_wordAt_64 : decode cX9_wordAt 64 = .ok (.iload 6, 2) := by decide +kernel
theorem dX9_wordAt_66 : decode cX9_wordAt 66 = .ok (.ifCond .eq 38, 3) := by decide +kernel
theorem dX9_wordAt_69 : decode cX9_wordAt 69 = .ok (.aload_n 0, 1) := by decide +kernel
theorem dX9_wordAt_70 : decode cX9_wordAt 70 = .ok (.getfield 57, 3) := by decide +kernel
theorem dX9_wordAt_73 : decode cX9_wordAt 73 = .ok (.iload 4, 2) := by decide +kernel
theorem dX9_wordAt_75 : decode cX9_wordAt 75 = .ok (.iload 7, 2) := by decide +kernel
theorem dX9_wordAt_77 : decode cX9_wordAt 77 = .ok (.iadd, 1) := by decide +kernel
theorem dX9_wordAt_78 : decode cX9_wordAt 78 = .ok (.iaload, 1) := by decide +kernel
theorem dX9_wordAt_79 : decode cX9_wordAt 79 = .ok (.aload_n 0, 1) := by decide +kernel
theorem dX9_wordAt_80 : decode cX9_wordAt 80 = .ok (.getfield 7, 3) := by decide +kernel
theorem dX9_wordAt_83 : decode cX9_wordAt 83 = .ok (.iload_n 1, 1) := by decide +kernel
theorem dX9_wordAt_84 : decode cX9_wordAt 84 = .ok (.iload 7, 2) := by decide +kernel
theorem dX9_wordAt_86 : decode cX9_wordAt 86 = .ok (.iadd, 1) := by decide +kernel
theorem dX9_wordAt_87 : decode cX9_wordAt 87 = .ok (.iaload, 1) := by decide +kernel
theorem dX9_wordAt_88 : decode cX9_wordAt 88 = .ok (.if_icmp .ne 7, 3) := by decide +kernel
theorem dX9_wordAt_91 : decode cX9_wordAt 91 = .ok (.iconst 1, 1) := by decide +kernel
theorem dX9_wordAt_92 : decode cX9_wordAt 92 = .ok (.goto 4, 3) := by decide +kernel
theorem dX9_wordAt_95 : decode cX9_wordAt 95 = .ok (.iconst 0, 1) := by decide +kernel
theorem dX9_wordAt_96 : decode cX9_wordAt 96 = .ok (.istore 6, 2) := by decide +kernel
theorem dX9_wordAt_98 : decode cX9_wordAt 98 = .ok (.iinc 7 1, 3) := by decide +kernel
theorem dX9_wordAt_101 : decode cX9_wordAt 101 = .ok (.goto (-44), 3) := by decide +kernel
theorem dX9_wordAt_104 : decode cX9_wordAt 104 = .ok (.iload 6, 2) := by decide +kernel
theorem dX9_wordAt_106 : decode cX9_wordAt 106 = .ok (.ifCond .eq 5, 3) := by decide +kernel
theorem dX9_wordAt_109 : decode cX9_wordAt 109 = .ok (.iload_n 3, 1) := by decide +kernel
theorem dX9_wordAt_110 : decode cX9_wordAt 110 = .ok (.ireturn, 1) := by decide +kernel
theorem dX9_wordAt_111 : decode cX9_wordAt 111 = .ok (.iload 4, 2) := by decide +kernel
theorem dX9_wordAt_113 : decode cX9_wordAt 113 = .ok (.iload 5, 2) := by decide +kernel
theorem dX9_wordAt_115 : decode cX9_wordAt 115 = .ok (.iconst 1, 1) := by decide +kernel
theorem dX9_wordAt_116 : decode cX9_wordAt 116 = .ok (.iadd, 1) := by decide +kernel
theorem dX9_wordAt_117 : decode cX9_wordAt 117 = .ok (.iadd, 1) := by decide +kernel
theorem dX9_wordAt_118 : decode cX9_wordAt 118 = .ok (.istore 4, 2) := by decide +kernel
theorem dX9_wordAt_120 : decode cX9_wordAt 120 = .ok (.iinc 3 1, 3) := by decide +kernel
theorem dX9_wordAt_123 : decode cX9_wordAt 123 = .ok (.goto (-118), 3) := by decide +kernel
theorem dX9_wordAt_126 : decode cX9_wordAt 126 = .ok (.iconst (-1), 1) := by decide +kernel
theorem dX9_wordAt_127 : decode cX9_wordAt 127 = .ok (.ireturn, 1) := by decide +kernel
theorem dX9_isSmall_0 : decode cX9_isSmall 0 = .ok (.iload_n 1, 1) := by decide +kernel
theorem dX9_isSmall_1 : decode cX9_isSmall 1 = .ok (.aload_n 0, 1) := by decide +kernel
theorem dX9_isSmall_2 : decode cX9_isSmall 2 = .ok (.getfield 86, 3) := by decide +kernel
theorem dX9_isSmall_5 : decode cX9_isSmall 5 = .ok (.if_icmp .ge 29, 3) := by decide +kernel
theorem dX9_isSmall_8 : decode cX9_isSmall 8 = .ok (.aload_n 0, 1) := by decide +kernel
theorem dX9_isSmall_9 : decode cX9_isSmall 9 = .ok (.getfield 7, 3) := by decide +kernel
theorem dX9_isSmall_12 : decode cX9_isSmall 12 = .ok (.iload_n 1, 1) := by decide +kernel
theorem dX9_isSmall_13 : decode cX9_isSmall 13 = .ok (.iaload, 1) := by decide +kernel
theorem dX9_isSmall_14 : decode cX9_isSmall 14 = .ok (.bipush 97, 2) := by decide +kernel
theorem dX9_isSmall_16 : decode cX9_isSmall 16 = .ok (.if_icmp .lt 18, 3) := by decide +kernel
theorem dX9_isSmall_19 : decode cX9_isSmall 19 = .ok (.aload_n 0, 1) := by decide +kernel
theorem dX9_isSmall_20 : decode cX9_isSmall 20 = .ok (.getfield 7, 3) := by decide +kernel
theorem dX9_isSmall_23 : decode cX9_isSmall 23 = .ok (.iload_n 1, 1) := by decide +kernel
theorem dX9_isSmall_24 : decode cX9_isSmall 24 = .ok (.iaload, 1) := by decide +kernel
theorem dX9_isSmall_25 : decode cX9_isSmall 25 = .ok (.bipush 122, 2) := by decide +kernel
theorem dX9_isSmall_27 : decode cX9_isSmall 27 = .ok (.if_icmp .gt 7, 3) := by decide +kernel
theorem dX9_isSmall_30 : decode cX9_isSmall 30 = .ok (.iconst 1, 1) := by decide +kernel
theorem dX9_isSmall_31 : decode cX9_isSmall 31 = .ok (.goto 4, 3) := by decide +kernel
theorem dX9_isSmall_34 : decode cX9_isSmall 34 = .ok (.iconst 0, 1) := by decide +kernel
theorem dX9_isSmall_35 : decode cX9_isSmall 35 = .ok (.ireturn, 1) := by decide +kernel
theorem dX9_isDigit_0 : decode cX9_isDigit 0 = .ok (.iload_n 1, 1) := by decide +kernel
theorem dX9_isDigit_1 : decode cX9_isDigit 1 = .ok (.aload_n 0, 1) := by decide +kernel
theorem dX9_isDigit_2 : decode cX9_isDigit 2 = .ok (.getfield 86, 3) := by decide +kernel
theorem dX9_isDigit_5 : decode cX9_isDigit 5 = .ok (.if_icmp .ge 29, 3) := by decide +kernel
theorem dX9_isDigit_8 : decode cX9_isDigit 8 = .ok (.aload_n 0, 1) := by decide +kernel
theorem dX9_isDigit_9 : decode cX9_isDigit 9 = .ok (.getfield 7, 3) := by decide +kernel
theorem dX9_isDigit_12 : decode cX9_isDigit 12 = .ok (.iload_n 1, 1) := by decide +kernel
theorem dX9_isDigit_13 : decode cX9_isDigit 13 = .ok (.iaload, 1) := by decide +kernel
theorem dX9_isDigit_14 : decode cX9_isDigit 14 = .ok (.bipush 48, 2) := by decide +kernel
theorem dX9_isDigit_16 : decode cX9_isDigit 16 = .ok (.if_icmp .lt 18, 3) := by decide +kernel
theorem dX9_isDigit_19 : decode cX9_isDigit 19 = .ok (.aload_n 0, 1) := by decide +kernel
theorem dX9_isDigit_20 : decode cX9_isDigit 20 = .ok (.getfield 7, 3) := by decide +kernel
theorem dX9_isDigit_23 : decode cX9_isDigit 23 = .ok (.iload_n 1, 1) := by decide +kernel
theorem dX9_isDigit_24 : decode cX9_isDigit 24 = .ok (.iaload, 1) := by decide +kernel
theorem dX9_isDigit_25 : decode cX9_isDigit 25 = .ok (.bipush 57, 2) := by decide +kernel
theorem dX9_isDigit_27 : decode cX9_isDigit 27 = .ok (.if_icmp .gt 7, 3) := by decide +kernel
theorem dX9_isDigit_30 : decode cX9_isDigit 30 = .ok (.iconst 1, 1) := by decide +kernel
theorem dX9_isDigit_31 : decode cX9_isDigit 31 = .ok (.goto 4, 3) := by decide +kernel
theorem dX9_isDigit_34 : decode cX9_isDigit 34 = .ok (.iconst 0, 1) := by decide +kernel
theorem dX9_isDigit_35 : decode cX9_isDigit 35 = .ok (.ireturn, 1) := by decide +kernel
theorem dX9_take_0 : decode cX9_take 0 = .ok (.aload_n 0, 1) := by decide +kernel
theorem dX9_take_1 : decode cX9_take 1 = .ok (.getfield 89, 3) := by decide +kernel
theorem dX9_take_4 : decode cX9_take 4 = .ok (.aload_n 0, 1) := by decide +kernel
theorem dX9_take_5 : decode cX9_take 5 = .ok (.getfield 86, 3) := by decide +kernel
theorem dX9_take_8 : decode cX9_take 8 = .ok (.if_icmp .ge 44, 3) := by decide +kernel
theorem dX9_take_11 : decode cX9_take 11 = .ok (.aload_n 0, 1) := by decide +kernel
theorem dX9_take_12 : decode cX9_take 12 = .ok (.getfield 7, 3) := by decide +kernel
theorem dX9_take_15 : decode cX9_take 15 = .ok (.aload_n 0, 1) := by decide +kernel
theorem dX9_take_16 : decode cX9_take 16 = .ok (.getfield 89, 3) := by decide +kernel
theorem dX9_take_19 : decode cX9_take 19 = .ok (.iaload, 1) := by decide +kernel
theorem dX9_take_20 : decode cX9_take 20 = .ok (.bipush 10, 2) := by decide +kernel
theorem dX9_take_22 : decode cX9_take 22 = .ok (.if_icmp .eq 17, 3) := by decide +kernel
theorem dX9_take_25 : decode cX9_take 25 = .ok (.aload_n 0, 1) := by decide +kernel
theorem dX9_take_26 : decode cX9_take 26 = .ok (.getfield 7, 3) := by decide +kernel
theorem dX9_take_29 : decode cX9_take 29 = .ok (.aload_n 0, 1) := by decide +kernel
theorem dX9_take_30 : decode cX9_take 30 = .ok (.getfield 89, 3) := by decide +kernel
theorem dX9_take_33 : decode cX9_take 33 = .ok (.iaload, 1) := by decide +kernel
theorem dX9_take_34 : decode cX9_take 34 = .ok (.bipush 32, 2) := by decide +kernel
theorem dX9_take_36 : decode cX9_take 36 = .ok (.if_icmp .ne 16, 3) := by decide +kernel
theorem dX9_take_39 : decode cX9_take 39 = .ok (.aload_n 0, 1) := by decide +kernel
theorem dX9_take_40 : decode cX9_take 40 = .ok (.dup, 1) := by decide +kernel
theorem dX9_take_41 : decode cX9_take 41 = .ok (.getfield 89, 3) := by decide +kernel
theorem dX9_take_44 : decode cX9_take 44 = .ok (.iconst 1, 1) := by decide +kernel
theorem dX9_take_45 : decode cX9_take 45 = .ok (.iadd, 1) := by decide +kernel
theorem dX9_take_46 : decode cX9_take 46 = .ok (.putfield 89, 3) := by decide +kernel
theorem dX9_take_49 : decode cX9_take 49 = .ok (.goto (-49), 3) := by decide +kernel
theorem dX9_take_52 : decode cX9_take 52 = .ok (.aload_n 0, 1) := by decide +kernel
theorem dX9_take_53 : decode cX9_take 53 = .ok (.aload_n 0, 1) := by decide +kernel
theorem dX9_take_54 : decode cX9_take 54 = .ok (.getfield 89, 3) := by decide +kernel
theorem dX9_take_57 : decode cX9_take 57 = .ok (.putfield 92, 3) := by decide +kernel
theorem dX9_take_60 : decode cX9_take 60 = .ok (.aload_n 0, 1) := by decide +kernel
theorem dX9_take_61 : decode cX9_take 61 = .ok (.getfield 89, 3) := by decide +kernel
theorem dX9_take_64 : decode cX9_take 64 = .ok (.aload_n 0, 1) := by decide +kernel
theorem dX9_take_65 : decode cX9_take 65 = .ok (.getfield 86, 3) := by decide +kernel
theorem dX9_take_68 : decode cX9_take 68 = .ok (.if_icmp .ne 11, 3) := by decide +kernel
theorem dX9_take_71 : decode cX9_take 71 = .ok (.aload_n 0, 1) := by decide +kernel
theorem dX9_take_72 : decode cX9_take 72 = .ok (.iconst 0, 1) := by decide +kernel
theorem dX9_take_73 : decode cX9_take 73 = .ok (.putfield 95, 3) := by decide +kernel
theorem dX9_take_76 : decode cX9_take 76 = .ok (.goto 191, 3) := by decide +kernel
theorem dX9_take_79 : decode cX9_take 79 = .ok (.aload_n 0, 1) := by decide +kernel
theorem dX9_take_80 : decode cX9_take 80 = .ok (.aload_n 0, 1) := by decide +kernel
theorem dX9_take_81 : decode cX9_take 81 = .ok (.getfield 89, 3) := by decide +kernel
theorem dX9_take_84 : decode cX9_take 84 = .ok (.invokevirtual 98, 3) := by decide +kernel
theorem dX9_take_87 : decode cX9_take 87 = .ok (.ifCond .eq 62, 3) := by decide +kernel
theorem dX9_take_90 : decode cX9_take 90 = .ok (.aload_n 0, 1) := by decide +kernel
theorem dX9_take_91 : decode cX9_take 91 = .ok (.aload_n 0, 1) := by decide +kernel
theorem dX9_take_92 : decode cX9_take 92 = .ok (.getfield 89, 3) := by decide +kernel
theorem dX9_take_95 : decode cX9_take 95 = .ok (.invokevirtual 98, 3) := by decide +kernel
theorem dX9_take_98 : decode cX9_take 98 = .ok (.ifCond .eq 16, 3) := by decide +kernel
theorem dX9_take_101 : decode cX9_take 101 = .ok (.aload_n 0, 1) := by decide +kernel
theorem dX9_take_102 : decode cX9_take 102 = .ok (.dup, 1) := by decide +kernel
theorem dX9_take_103 : decode cX9_take 103 = .ok (.getfield 89, 3) := by decide +kernel
theorem dX9_take_106 : decode cX9_take 106 = .ok (.iconst 1, 1) := by decide +kernel
theorem dX9_take_107 : decode cX9_take 107 = .ok (.iadd, 1) := by decide +kernel
theorem dX9_take_108 : decode cX9_take 108 = .ok (.putfield 89, 3) := by decide +kernel
theorem dX9_take_111 : decode cX9_take 111 = .ok (.goto (-21), 3) := by decide +kernel
theorem dX9_take_114 : decode cX9_take 114 = .ok (.aload_n 0, 1) := by decide +kernel
theorem dX9_take_115 : decode cX9_take 115 = .ok (.aload_n 0, 1) := by decide +kernel
theorem dX9_take_116 : decode cX9_take 116 = .ok (.aload_n 0, 1) := by decide +kernel
theorem dX9_take_117 : decode cX9_take 117 = .ok (.getfield 92, 3) := by decide +kernel
theorem dX9_take_120 : decode cX9_take 120 = .ok (.aload_n 0, 1) := by decide +kernel
theorem dX9_take_121 : decode cX9_take 121 = .ok (.getfield 89, 3) := by decide +kernel
theorem dX9_take_124 : decode cX9_take 124 = .ok (.invokevirtual 102, 3) := by decide +kernel
theorem dX9_take_127 : decode cX9_take 127 = .ok (.putfield 106, 3) := by decide +kernel
theorem dX9_take_130 : decode cX9_take 130 = .ok (.aload_n 0, 1) := by decide +kernel
theorem dX9_take_131 : decode cX9_take 131 = .ok (.aload_n 0, 1) := by decide +kernel
theorem dX9_take_132 : decode cX9_take 132 = .ok (.getfield 106, 3) := by decide +kernel
theorem dX9_take_135 : decode cX9_take 135 = .ok (.ifCond .ge 7, 3) := by decide +kernel
theorem dX9_take_138 : decode cX9_take 138 = .ok (.iconst 4, 1) := by decide +kernel
theorem dX9_take_139 : decode cX9_take 139 = .ok (.goto 4, 3) := by decide +kernel
theorem dX9_take_142 : decode cX9_take 142 = .ok (.iconst 1, 1) := by decide +kernel
theorem dX9_take_143 : decode cX9_take 143 = .ok (.putfield 95, 3) := by decide +kernel
theorem dX9_take_146 : decode cX9_take 146 = .ok (.goto 121, 3) := by decide +kernel
theorem dX9_take_149 : decode cX9_take 149 = .ok (.aload_n 0, 1) := by decide +kernel
theorem dX9_take_150 : decode cX9_take 150 = .ok (.aload_n 0, 1) := by decide +kernel
theorem dX9_take_151 : decode cX9_take 151 = .ok (.getfield 89, 3) := by decide +kernel
theorem dX9_take_154 : decode cX9_take 154 = .ok (.invokevirtual 109, 3) := by decide +kernel
theorem dX9_take_157 : decode cX9_take 157 = .ok (.ifCond .eq 77, 3) := by decide +kernel
theorem dX9_take_160 : decode cX9_take 160 = .ok (.aload_n 0, 1) := by decide +kernel
theorem dX9_take_161 : decode cX9_take 161 = .ok (.iconst 2, 1) := by decide +kernel
theorem dX9_take_162 : decode cX9_take 162 = .ok (.putfield 95, 3) := by decide +kernel
theorem dX9_take_165 : decode cX9_take 165 = .ok (.aload_n 0, 1) := by decide +kernel
theorem dX9_take_166 : decode cX9_take 166 = .ok (.iconst 0, 1) := by decide +kernel
theorem dX9_take_167 : decode cX9_take 167 = .ok (.putfield 106, 3) := by decide +kernel
theorem dX9_take_170 : decode cX9_take 170 = .ok (.aload_n 0, 1) := by decide +kernel
theorem dX9_take_171 : decode cX9_take 171 = .ok (.aload_n 0, 1) := by decide +kernel
theorem dX9_take_172 : decode cX9_take 172 = .ok (.getfield 89, 3) := by decide +kernel
theorem dX9_take_175 : decode cX9_take 175 = .ok (.invokevirtual 109, 3) := by decide +kernel
theorem dX9_take_178 : decode cX9_take 178 = .ok (.ifCond .eq 89, 3) := by decide +kernel
theorem dX9_take_181 : decode cX9_take 181 = .ok (.aload_n 0, 1) := by decide +kernel
theorem dX9_take_182 : decode cX9_take 182 = .ok (.aload_n 0, 1) := by decide +kernel
theorem dX9_take_183 : decode cX9_take 183 = .ok (.getfield 106, 3) := by decide +kernel
theorem dX9_take_186 : decode cX9_take 186 = .ok (.ldc 112, 2) := by decide +kernel
theorem dX9_take_188 : decode cX9_take 188 = .ok (.if_icmp .le 10, 3) := by decide +kernel
theorem dX9_take_191 : decode cX9_take 191 = .ok (.aload_n 0, 1) := by decide +kernel
theorem dX9_take_192 : decode cX9_take 192 = .ok (.getfield 106, 3) := by decide +kernel
theorem dX9_take_195 : decode cX9_take 195 = .ok (.goto 23, 3) := by decide +kernel
theorem dX9_take_198 : decode cX9_take 198 = .ok (.bipush 10, 2) := by decide +kernel
theorem dX9_take_200 : decode cX9_take 200 = .ok (.aload_n 0, 1) := by decide +kernel
theorem dX9_take_201 : decode cX9_take 201 = .ok (.getfield 106, 3) := by decide +kernel
theorem dX9_take_204 : decode cX9_take 204 = .ok (.imul, 1) := by decide +kernel
theorem dX9_take_205 : decode cX9_take 205 = .ok (.aload_n 0, 1) := by decide +kernel
theorem dX9_take_206 : decode cX9_take 206 = .ok (.getfield 7, 3) := by decide +kernel
theorem dX9_take_209 : decode cX9_take 209 = .ok (.aload_n 0, 1) := by decide +kernel
theorem dX9_take_210 : decode cX9_take 210 = .ok (.getfield 89, 3) := by decide +kernel
theorem dX9_take_213 : decode cX9_take 213 = .ok (.iaload, 1) := by decide +kernel
theorem dX9_take_214 : decode cX9_take 214 = .ok (.iadd, 1) := by decide +kernel
theorem dX9_take_215 : decode cX9_take 215 = .ok (.bipush 48, 2) := by decide +kernel
theorem dX9_take_217 : decode cX9_take 217 = .ok (.isub, 1) := by decide +kernel
theorem dX9_take_218 : decode cX9_take 218 = .ok (.putfield 106, 3) := by decide +kernel
theorem dX9_take_221 : decode cX9_take 221 = .ok (.aload_n 0, 1) := by decide +kernel
theorem dX9_take_222 : decode cX9_take 222 = .ok (.dup, 1) := by decide +kernel
theorem dX9_take_223 : decode cX9_take 223 = .ok (.getfield 89, 3) := by decide +kernel
theorem dX9_take_226 : decode cX9_take 226 = .ok (.iconst 1, 1) := by decide +kernel
theorem dX9_take_227 : decode cX9_take 227 = .ok (.iadd, 1) := by decide +kernel
theorem dX9_take_228 : decode cX9_take 228 = .ok (.putfield 89, 3) := by decide +kernel
theorem dX9_take_231 : decode cX9_take 231 = .ok (.goto (-61), 3) := by decide +kernel
theorem dX9_take_234 : decode cX9_take 234 = .ok (.aload_n 0, 1) := by decide +kernel
theorem dX9_take_235 : decode cX9_take 235 = .ok (.aload_n 0, 1) := by decide +kernel
theorem dX9_take_236 : decode cX9_take 236 = .ok (.getfield 7, 3) := by decide +kernel
theorem dX9_take_239 : decode cX9_take 239 = .ok (.aload_n 0, 1) := by decide +kernel
theorem dX9_take_240 : decode cX9_take 240 = .ok (.getfield 89, 3) := by decide +kernel
theorem dX9_take_243 : decode cX9_take 243 = .ok (.iaload, 1) := by decide +kernel
theorem dX9_take_244 : decode cX9_take 244 = .ok (.bipush 59, 2) := by decide +kernel
theorem dX9_take_246 : decode cX9_take 246 = .ok (.if_icmp .ne 7, 3) := by decide +kernel
theorem dX9_take_249 : decode cX9_take 249 = .ok (.iconst 3, 1) := by decide +kernel
theorem dX9_take_250 : decode cX9_take 250 = .ok (.goto 4, 3) := by decide +kernel
theorem dX9_take_253 : decode cX9_take 253 = .ok (.iconst 4, 1) := by decide +kernel
theorem dX9_take_254 : decode cX9_take 254 = .ok (.putfield 95, 3) := by decide +kernel
theorem dX9_take_257 : decode cX9_take 257 = .ok (.aload_n 0, 1) := by decide +kernel
theorem dX9_take_258 : decode cX9_take 258 = .ok (.dup, 1) := by decide +kernel
theorem dX9_take_259 : decode cX9_take 259 = .ok (.getfield 89, 3) := by decide +kernel
theorem dX9_take_262 : decode cX9_take 262 = .ok (.iconst 1, 1) := by decide +kernel
theorem dX9_take_263 : decode cX9_take 263 = .ok (.iadd, 1) := by decide +kernel
theorem dX9_take_264 : decode cX9_take 264 = .ok (.putfield 89, 3) := by decide +kernel
theorem dX9_take_267 : decode cX9_take 267 = .ok (.return_, 1) := by decide +kernel
theorem dX9_number_0 : decode cX9_number 0 = .ok (.aload_n 0, 1) := by decide +kernel
theorem dX9_number_1 : decode cX9_number 1 = .ok (.getfield 95, 3) := by decide +kernel
theorem dX9_number_4 : decode cX9_number 4 = .ok (.iconst 2, 1) := by decide +kernel
theorem dX9_number_5 : decode cX9_number 5 = .ok (.if_icmp .eq 13, 3) := by decide +kernel
theorem dX9_number_8 : decode cX9_number 8 = .ok (.aload_n 0, 1) := by decide +kernel
theorem dX9_number_9 : decode cX9_number 9 = .ok (.iconst 1, 1) := by decide +kernel
theorem dX9_number_10 : decode cX9_number 10 = .ok (.aload_n 0, 1) := by decide +kernel
theorem dX9_number_11 : decode cX9_number 11 = .ok (.getfield 92, 3) := by decide +kernel
theorem dX9_number_14 : decode cX9_number 14 = .ok (.invokevirtual 113, 3) := by decide +kernel
theorem dX9_number_17 : decode cX9_number 17 = .ok (.ireturn, 1) := by decide +kernel
theorem dX9_number_18 : decode cX9_number 18 = .ok (.aload_n 0, 1) := by decide +kernel
theorem dX9_number_19 : decode cX9_number 19 = .ok (.getfield 106, 3) := by decide +kernel
theorem dX9_number_22 : decode cX9_number 22 = .ok (.iload_n 1, 1) := by decide +kernel
theorem dX9_number_23 : decode cX9_number 23 = .ok (.if_icmp .le 13, 3) := by decide +kernel
theorem dX9_number_26 : decode cX9_number 26 = .ok (.aload_n 0, 1) := by decide +kernel
theorem dX9_number_27 : decode cX9_number 27 = .ok (.iconst 2, 1) := by decide +kernel
theorem dX9_number_28 : decode cX9_number 28 = .ok (.aload_n 0, 1) := by decide +kernel
theorem dX9_number_29 : decode cX9_number 29 = .ok (.getfield 92, 3) := by decide +kernel
theorem dX9_number_32 : decode cX9_number 32 = .ok (.invokevirtual 113, 3) := by decide +kernel
theorem dX9_number_35 : decode cX9_number 35 = .ok (.ireturn, 1) := by decide +kernel
theorem dX9_number_36 : decode cX9_number 36 = .ok (.aload_n 0, 1) := by decide +kernel
theorem dX9_number_37 : decode cX9_number 37 = .ok (.aload_n 0, 1) := by decide +kernel
theorem dX9_number_38 : decode cX9_number 38 = .ok (.getfield 106, 3) := by decide +kernel
theorem dX9_number_41 : decode cX9_number 41 = .ok (.putfield 117, 3) := by decide +kernel
theorem dX9_number_44 : decode cX9_number 44 = .ok (.aload_n 0, 1) := by decide +kernel
theorem dX9_number_45 : decode cX9_number 45 = .ok (.invokevirtual 120, 3) := by decide +kernel
theorem dX9_number_48 : decode cX9_number 48 = .ok (.iconst 1, 1) := by decide +kernel
theorem dX9_number_49 : decode cX9_number 49 = .ok (.ireturn, 1) := by decide +kernel
theorem dX9_most_0 : decode cX9_most 0 = .ok (.iload_n 0, 1) := by decide +kernel
theorem dX9_most_1 : decode cX9_most 1 = .ok (.iconst 3, 1) := by decide +kernel
theorem dX9_most_2 : decode cX9_most 2 = .ok (.if_icmp .eq 8, 3) := by decide +kernel
theorem dX9_most_5 : decode cX9_most 5 = .ok (.iload_n 0, 1) := by decide +kernel
theorem dX9_most_6 : decode cX9_most 6 = .ok (.iconst 5, 1) := by decide +kernel
theorem dX9_most_7 : decode cX9_most 7 = .ok (.if_icmp .ne 8, 3) := by decide +kernel
theorem dX9_most_10 : decode cX9_most 10 = .ok (.bipush 100, 2) := by decide +kernel
theorem dX9_most_12 : decode cX9_most 12 = .ok (.goto 16, 3) := by decide +kernel
theorem dX9_most_15 : decode cX9_most 15 = .ok (.iload_n 0, 1) := by decide +kernel
theorem dX9_most_16 : decode cX9_most 16 = .ok (.iconst 4, 1) := by decide +kernel
theorem dX9_most_17 : decode cX9_most 17 = .ok (.if_icmp .ne 8, 3) := by decide +kernel
theorem dX9_most_20 : decode cX9_most 20 = .ok (.ldc 123, 2) := by decide +kernel
theorem dX9_most_22 : decode cX9_most 22 = .ok (.goto 6, 3) := by decide +kernel
theorem dX9_most_25 : decode cX9_most 25 = .ok (.sipush 999, 3) := by decide +kernel
theorem dX9_most_28 : decode cX9_most 28 = .ok (.ireturn, 1) := by decide +kernel
theorem dX9_line_0 : decode cX9_line 0 = .ok (.aload_n 0, 1) := by decide +kernel
theorem dX9_line_1 : decode cX9_line 1 = .ok (.getfield 95, 3) := by decide +kernel
theorem dX9_line_4 : decode cX9_line 4 = .ok (.iconst 1, 1) := by decide +kernel
theorem dX9_line_5 : decode cX9_line 5 = .ok (.if_icmp .ne 12, 3) := by decide +kernel
theorem dX9_line_8 : decode cX9_line 8 = .ok (.aload_n 0, 1) := by decide +kernel
theorem dX9_line_9 : decode cX9_line 9 = .ok (.getfield 106, 3) := by decide +kernel
theorem dX9_line_12 : decode cX9_line 12 = .ok (.bipush 8, 2) := by decide +kernel
theorem dX9_line_14 : decode cX9_line 14 = .ok (.if_icmp .le 13, 3) := by decide +kernel
theorem dX9_line_17 : decode cX9_line 17 = .ok (.aload_n 0, 1) := by decide +kernel
theorem dX9_line_18 : decode cX9_line 18 = .ok (.iconst 1, 1) := by decide +kernel
theorem dX9_line_19 : decode cX9_line 19 = .ok (.aload_n 0, 1) := by decide +kernel
theorem dX9_line_20 : decode cX9_line 20 = .ok (.getfield 92, 3) := by decide +kernel
theorem dX9_line_23 : decode cX9_line 23 = .ok (.invokevirtual 113, 3) := by decide +kernel
theorem dX9_line_26 : decode cX9_line 26 = .ok (.ireturn, 1) := by decide +kernel
theorem dX9_line_27 : decode cX9_line 27 = .ok (.aload_n 0, 1) := by decide +kernel
theorem dX9_line_28 : decode cX9_line 28 = .ok (.getfield 106, 3) := by decide +kernel
theorem dX9_line_31 : decode cX9_line 31 = .ok (.istore_n 1, 1) := by decide +kernel
theorem dX9_line_32 : decode cX9_line 32 = .ok (.iload_n 1, 1) := by decide +kernel
theorem dX9_line_33 : decode cX9_line 33 = .ok (.bipush 8, 2) := by decide +kernel
theorem dX9_line_35 : decode cX9_line 35 = .ok (.if_icmp .ne 73, 3) := by decide +kernel
theorem dX9_line_38 : decode cX9_line 38 = .ok (.aload_n 0, 1) := by decide +kernel
theorem dX9_line_39 : decode cX9_line 39 = .ok (.invokevirtual 120, 3) := by decide +kernel
theorem dX9_line_42 : decode cX9_line 42 = .ok (.aload_n 0, 1) := by decide +kernel
theorem dX9_line_43 : decode cX9_line 43 = .ok (.getfield 92, 3) := by decide +kernel
theorem dX9_line_46 : decode cX9_line 46 = .ok (.istore_n 2, 1) := by decide +kernel
theorem dX9_line_47 : decode cX9_line 47 = .ok (.aload_n 0, 1) := by decide +kernel
theorem dX9_line_48 : decode cX9_line 48 = .ok (.iconst 3, 1) := by decide +kernel
theorem dX9_line_49 : decode cX9_line 49 = .ok (.invokevirtual 124, 3) := by decide +kernel
theorem dX9_line_52 : decode cX9_line 52 = .ok (.ifCond .ne 5, 3) := by decide +kernel
theorem dX9_line_55 : decode cX9_line 55 = .ok (.iconst 0, 1) := by decide +kernel
theorem dX9_line_56 : decode cX9_line 56 = .ok (.ireturn, 1) := by decide +kernel
theorem dX9_line_57 : decode cX9_line 57 = .ok (.aload_n 0, 1) := by decide +kernel
theorem dX9_line_58 : decode cX9_line 58 = .ok (.getfield 117, 3) := by decide +kernel
theorem dX9_line_61 : decode cX9_line 61 = .ok (.istore_n 3, 1) := by decide +kernel
theorem dX9_line_62 : decode cX9_line 62 = .ok (.aload_n 0, 1) := by decide +kernel
theorem dX9_line_63 : decode cX9_line 63 = .ok (.getfield 50, 3) := by decide +kernel
theorem dX9_line_66 : decode cX9_line 66 = .ok (.bipush 20, 2) := by decide +kernel
theorem dX9_line_68 : decode cX9_line 68 = .ok (.iload_n 3, 1) := by decide +kernel
theorem dX9_line_69 : decode cX9_line 69 = .ok (.iadd, 1) := by decide +kernel
theorem dX9_line_70 : decode cX9_line 70 = .ok (.iaload, 1) := by decide +kernel
theorem dX9_line_71 : decode cX9_line 71 = .ok (.ifCond .lt 10, 3) := by decide +kernel
theorem dX9_line_74 : decode cX9_line 74 = .ok (.aload_n 0, 1) := by decide +kernel
theorem dX9_line_75 : decode cX9_line 75 = .ok (.iconst 3, 1) := by decide +kernel
theorem dX9_line_76 : decode cX9_line 76 = .ok (.iload_n 2, 1) := by decide +kernel
theorem dX9_line_77 : decode cX9_line 77 = .ok (.invokevirtual 113, 3) := by decide +kernel
theorem dX9_line_80 : decode cX9_line 80 = .ok (.ireturn, 1) := by decide +kernel
theorem dX9_line_81 : decode cX9_line 81 = .ok (.aload_n 0, 1) := by decide +kernel
theorem dX9_line_82 : decode cX9_line 82 = .ok (.sipush 999, 3) := by decide +kernel
theorem dX9_line_85 : decode cX9_line 85 = .ok (.invokevirtual 124, 3) := by decide +kernel
theorem dX9_line_88 : decode cX9_line 88 = .ok (.ifCond .ne 5, 3) := by decide +kernel
theorem dX9_line_91 : decode cX9_line 91 = .ok (.iconst 0, 1) := by decide +kernel
theorem dX9_line_92 : decode cX9_line 92 = .ok (.ireturn, 1) := by decide +kernel
theorem dX9_line_93 : decode cX9_line 93 = .ok (.aload_n 0, 1) := by decide +kernel
theorem dX9_line_94 : decode cX9_line 94 = .ok (.getfield 50, 3) := by decide +kernel
theorem dX9_line_97 : decode cX9_line 97 = .ok (.bipush 20, 2) := by decide +kernel
theorem dX9_line_99 : decode cX9_line 99 = .ok (.iload_n 3, 1) := by decide +kernel
theorem dX9_line_100 : decode cX9_line 100 = .ok (.iadd, 1) := by decide +kernel
theorem dX9_line_101 : decode cX9_line 101 = .ok (.aload_n 0, 1) := by decide +kernel
theorem dX9_line_102 : decode cX9_line 102 = .ok (.getfield 117, 3) := by decide +kernel
theorem dX9_line_105 : decode cX9_line 105 = .ok (.iastore, 1) := by decide +kernel
theorem dX9_line_106 : decode cX9_line 106 = .ok (.iconst 1, 1) := by decide +kernel
theorem dX9_line_107 : decode cX9_line 107 = .ok (.ireturn, 1) := by decide +kernel
theorem dX9_line_108 : decode cX9_line 108 = .ok (.aload_n 0, 1) := by decide +kernel
theorem dX9_line_109 : decode cX9_line 109 = .ok (.getfield 50, 3) := by decide +kernel
theorem dX9_line_112 : decode cX9_line 112 = .ok (.bipush 12, 2) := by decide +kernel
theorem dX9_line_114 : decode cX9_line 114 = .ok (.iload_n 1, 1) := by decide +kernel
theorem dX9_line_115 : decode cX9_line 115 = .ok (.iadd, 1) := by decide +kernel
theorem dX9_line_116 : decode cX9_line 116 = .ok (.iaload, 1) := by decide +kernel
theorem dX9_line_117 : decode cX9_line 117 = .ok (.ifCond .lt 13, 3) := by decide +kernel
theorem dX9_line_120 : decode cX9_line 120 = .ok (.aload_n 0, 1) := by decide +kernel
theorem dX9_line_121 : decode cX9_line 121 = .ok (.iconst 3, 1) := by decide +kernel
theorem dX9_line_122 : decode cX9_line 122 = .ok (.aload_n 0, 1) := by decide +kernel
theorem dX9_line_123 : decode cX9_line 123 = .ok (.getfield 92, 3) := by decide +kernel
theorem dX9_line_126 : decode cX9_line 126 = .ok (.invokevirtual 113, 3) := by decide +kernel
theorem dX9_line_129 : decode cX9_line 129 = .ok (.ireturn, 1) := by decide +kernel
theorem dX9_line_130 : decode cX9_line 130 = .ok (.aload_n 0, 1) := by decide +kernel
theorem dX9_line_131 : decode cX9_line 131 = .ok (.invokevirtual 120, 3) := by decide +kernel
theorem dX9_line_134 : decode cX9_line 134 = .ok (.iload_n 1, 1) := by decide +kernel
theorem dX9_line_135 : decode cX9_line 135 = .ok (.iconst 2, 1) := by decide +kernel
theorem dX9_line_136 : decode cX9_line 136 = .ok (.if_icmp .le 31, 3) := by decide +kernel
theorem dX9_line_139 : decode cX9_line 139 = .ok (.aload_n 0, 1) := by decide +kernel
theorem dX9_line_140 : decode cX9_line 140 = .ok (.iload_n 1, 1) := by decide +kernel
theorem dX9_line_141 : decode cX9_line 141 = .ok (.invokestatic 127, 3) := by decide +kernel
theorem dX9_line_144 : decode cX9_line 144 = .ok (.invokevirtual 124, 3) := by decide +kernel
theorem dX9_line_147 : decode cX9_line 147 = .ok (.ifCond .ne 5, 3) := by decide +kernel
theorem dX9_line_150 : decode cX9_line 150 = .ok (.iconst 0, 1) := by decide +kernel
theorem dX9_line_151 : decode cX9_line 151 = .ok (.ireturn, 1) := by decide +kernel
theorem dX9_line_152 : decode cX9_line 152 = .ok (.aload_n 0, 1) := by decide +kernel
theorem dX9_line_153 : decode cX9_line 153 = .ok (.getfield 50, 3) := by decide +kernel
theorem dX9_line_156 : decode cX9_line 156 = .ok (.bipush 12, 2) := by decide +kernel
theorem dX9_line_158 : decode cX9_line 158 = .ok (.iload_n 1, 1) := by decide +kernel
theorem dX9_line_159 : decode cX9_line 159 = .ok (.iadd, 1) := by decide +kernel
theorem dX9_line_160 : decode cX9_line 160 = .ok (.aload_n 0, 1) := by decide +kernel
theorem dX9_line_161 : decode cX9_line 161 = .ok (.getfield 117, 3) := by decide +kernel
theorem dX9_line_164 : decode cX9_line 164 = .ok (.iastore, 1) := by decide +kernel
theorem dX9_line_165 : decode cX9_line 165 = .ok (.iconst 1, 1) := by decide +kernel
theorem dX9_line_166 : decode cX9_line 166 = .ok (.ireturn, 1) := by decide +kernel
theorem dX9_line_167 : decode cX9_line 167 = .ok (.iload_n 1, 1) := by decide +kernel
theorem dX9_line_168 : decode cX9_line 168 = .ok (.ifCond .ne 8, 3) := by decide +kernel
theorem dX9_line_171 : decode cX9_line 171 = .ok (.bipush 9, 2) := by decide +kernel
theorem dX9_line_173 : decode cX9_line 173 = .ok (.goto 15, 3) := by decide +kernel
theorem dX9_line_176 : decode cX9_line 176 = .ok (.iload_n 1, 1) := by decide +kernel
theorem dX9_line_177 : decode cX9_line 177 = .ok (.iconst 1, 1) := by decide +kernel
theorem dX9_line_178 : decode cX9_line 178 = .ok (.if_icmp .ne 8, 3) := by decide +kernel
theorem dX9_line_181 : decode cX9_line 181 = .ok (.bipush 9, 2) := by decide +kernel
theorem dX9_line_183 : decode cX9_line 183 = .ok (.goto 5, 3) := by decide +kernel
theorem dX9_line_186 : decode cX9_line 186 = .ok (.bipush 11, 2) := by decide +kernel
theorem dX9_line_188 : decode cX9_line 188 = .ok (.istore_n 2, 1) := by decide +kernel
theorem dX9_line_189 : decode cX9_line 189 = .ok (.iload_n 1, 1) := by decide +kernel
theorem dX9_line_190 : decode cX9_line 190 = .ok (.ifCond .ne 8, 3) := by decide +kernel
theorem dX9_line_193 : decode cX9_line 193 = .ok (.bipush 10, 2) := by decide +kernel
theorem dX9_line_195 : decode cX9_line 195 = .ok (.goto 15, 3) := by decide +kernel
theorem dX9_line_198 : decode cX9_line 198 = .ok (.iload_n 1, 1) := by decide +kernel
theorem dX9_line_199 : decode cX9_line 199 = .ok (.iconst 1, 1) := by decide +kernel
theorem dX9_line_200 : decode cX9_line 200 = .ok (.if_icmp .ne 8, 3) := by decide +kernel
theorem dX9_line_203 : decode cX9_line 203 = .ok (.bipush 11, 2) := by decide +kernel
theorem dX9_line_205 : decode cX9_line 205 = .ok (.goto 5, 3) := by decide +kernel
theorem dX9_line_208 : decode cX9_line 208 = .ok (.bipush 12, 2) := by decide +kernel
theorem dX9_line_210 : decode cX9_line 210 = .ok (.istore_n 3, 1) := by decide +kernel
theorem dX9_line_211 : decode cX9_line 211 = .ok (.aload_n 0, 1) := by decide +kernel
theorem dX9_line_212 : decode cX9_line 212 = .ok (.getfield 95, 3) := by decide +kernel
theorem dX9_line_215 : decode cX9_line 215 = .ok (.iconst 1, 1) := by decide +kernel
theorem dX9_line_216 : decode cX9_line 216 = .ok (.if_icmp .ne 19, 3) := by decide +kernel
theorem dX9_line_219 : decode cX9_line 219 = .ok (.aload_n 0, 1) := by decide +kernel
theorem dX9_line_220 : decode cX9_line 220 = .ok (.getfield 106, 3) := by decide +kernel
theorem dX9_line_223 : decode cX9_line 223 = .ok (.iload_n 2, 1) := by decide +kernel
theorem dX9_line_224 : decode cX9_line 224 = .ok (.if_icmp .eq 21, 3) := by decide +kernel
theorem dX9_line_227 : decode cX9_line 227 = .ok (.aload_n 0, 1) := by decide +kernel
theorem dX9_line_228 : decode cX9_line 228 = .ok (.getfield 106, 3) := by decide +kernel
theorem dX9_line_231 : decode cX9_line 231 = .ok (.iload_n 3, 1) := by decide +kernel
theorem dX9_line_232 : decode cX9_line 232 = .ok (.if_icmp .eq 13, 3) := by decide +kernel
theorem dX9_line_235 : decode cX9_line 235 = .ok (.aload_n 0, 1) := by decide +kernel
theorem dX9_line_236 : decode cX9_line 236 = .ok (.iconst 1, 1) := by decide +kernel
theorem dX9_line_237 : decode cX9_line 237 = .ok (.aload_n 0, 1) := by decide +kernel
theorem dX9_line_238 : decode cX9_line 238 = .ok (.getfield 92, 3) := by decide +kernel
theorem dX9_line_241 : decode cX9_line 241 = .ok (.invokevirtual 113, 3) := by decide +kernel
theorem dX9_line_244 : decode cX9_line 244 = .ok (.ireturn, 1) := by decide +kernel
theorem dX9_line_245 : decode cX9_line 245 = .ok (.aload_n 0, 1) := by decide +kernel
theorem dX9_line_246 : decode cX9_line 246 = .ok (.getfield 50, 3) := by decide +kernel
theorem dX9_line_249 : decode cX9_line 249 = .ok (.bipush 12, 2) := by decide +kernel
theorem dX9_line_251 : decode cX9_line 251 = .ok (.iload_n 1, 1) := by decide +kernel
theorem dX9_line_252 : decode cX9_line 252 = .ok (.iadd, 1) := by decide +kernel
theorem dX9_line_253 : decode cX9_line 253 = .ok (.aload_n 0, 1) := by decide +kernel
theorem dX9_line_254 : decode cX9_line 254 = .ok (.getfield 106, 3) := by decide +kernel
theorem dX9_line_257 : decode cX9_line 257 = .ok (.iload_n 3, 1) := by decide +kernel
theorem dX9_line_258 : decode cX9_line 258 = .ok (.if_icmp .ne 7, 3) := by decide +kernel
theorem dX9_line_261 : decode cX9_line 261 = .ok (.iconst 1, 1) := by decide +kernel
theorem dX9_line_262 : decode cX9_line 262 = .ok (.goto 4, 3) := by decide +kernel
theorem dX9_line_265 : decode cX9_line 265 = .ok (.iconst 0, 1) := by decide +kernel
theorem dX9_line_266 : decode cX9_line 266 = .ok (.iastore, 1) := by decide +kernel
theorem dX9_line_267 : decode cX9_line 267 = .ok (.aload_n 0, 1) := by decide +kernel
theorem dX9_line_268 : decode cX9_line 268 = .ok (.invokevirtual 120, 3) := by decide +kernel
theorem dX9_line_271 : decode cX9_line 271 = .ok (.iconst 1, 1) := by decide +kernel
theorem dX9_line_272 : decode cX9_line 272 = .ok (.ireturn, 1) := by decide +kernel
theorem dX9_customs_0 : decode cX9_customs 0 = .ok (.aload_n 0, 1) := by decide +kernel
theorem dX9_customs_1 : decode cX9_customs 1 = .ok (.iconst 0, 1) := by decide +kernel
theorem dX9_customs_2 : decode cX9_customs 2 = .ok (.putfield 77, 3) := by decide +kernel
theorem dX9_customs_5 : decode cX9_customs 5 = .ok (.iload_n 1, 1) := by decide +kernel
theorem dX9_customs_6 : decode cX9_customs 6 = .ok (.ifCond .lt 11, 3) := by decide +kernel
theorem dX9_customs_9 : decode cX9_customs 9 = .ok (.iload_n 1, 1) := by decide +kernel
theorem dX9_customs_10 : decode cX9_customs 10 = .ok (.aload_n 0, 1) := by decide +kernel
theorem dX9_customs_11 : decode cX9_customs 11 = .ok (.getfield 80, 3) := by decide +kernel
theorem dX9_customs_14 : decode cX9_customs 14 = .ok (.if_icmp .le 6, 3) := by decide +kernel
theorem dX9_customs_17 : decode cX9_customs 17 = .ok (.bipush (-2), 2) := by decide +kernel
theorem dX9_customs_19 : decode cX9_customs 19 = .ok (.ireturn, 1) := by decide +kernel
theorem dX9_customs_20 : decode cX9_customs 20 = .ok (.aload_n 0, 1) := by decide +kernel
theorem dX9_customs_21 : decode cX9_customs 21 = .ok (.iload_n 1, 1) := by decide +kernel
theorem dX9_customs_22 : decode cX9_customs 22 = .ok (.putfield 86, 3) := by decide +kernel
theorem dX9_customs_25 : decode cX9_customs 25 = .ok (.aload_n 0, 1) := by decide +kernel
theorem dX9_customs_26 : decode cX9_customs 26 = .ok (.iconst 0, 1) := by decide +kernel
theorem dX9_customs_27 : decode cX9_customs 27 = .ok (.putfield 80, 3) := by decide +kernel
theorem dX9_customs_30 : decode cX9_customs 30 = .ok (.aload_n 0, 1) := by decide +kernel
theorem dX9_customs_31 : decode cX9_customs 31 = .ok (.iconst 0, 1) := by decide +kernel
theorem dX9_customs_32 : decode cX9_customs 32 = .ok (.putfield 83, 3) := by decide +kernel
theorem dX9_customs_35 : decode cX9_customs 35 = .ok (.aload_n 0, 1) := by decide +kernel
theorem dX9_customs_36 : decode cX9_customs 36 = .ok (.iconst (-1), 1) := by decide +kernel
theorem dX9_customs_37 : decode cX9_customs 37 = .ok (.putfield 53, 3) := by decide +kernel
theorem dX9_customs_40 : decode cX9_customs 40 = .ok (.bipush 12, 2) := by decide +kernel
theorem dX9_customs_42 : decode cX9_customs 42 = .ok (.istore_n 2, 1) := by decide +kernel
theorem dX9_customs_43 : decode cX9_customs 43 = .ok (.iload_n 2, 1) := by decide +kernel
theorem dX9_customs_44 : decode cX9_customs 44 = .ok (.bipush 24, 2) := by decide +kernel
theorem dX9_customs_46 : decode cX9_customs 46 = .ok (.if_icmp .ge 16, 3) := by decide +kernel
theorem dX9_customs_49 : decode cX9_customs 49 = .ok (.aload_n 0, 1) := by decide +kernel
theorem dX9_customs_50 : decode cX9_customs 50 = .ok (.getfield 50, 3) := by decide +kernel
theorem dX9_customs_53 : decode cX9_customs 53 = .ok (.iload_n 2, 1) := by decide +kernel
theorem dX9_customs_54 : decode cX9_customs 54 = .ok (.iconst (-1), 1) := by decide +kernel
theorem dX9_customs_55 : decode cX9_customs 55 = .ok (.iastore, 1) := by decide +kernel
theorem dX9_customs_56 : decode cX9_customs 56 = .ok (.iinc 2 1, 3) := by decide +kernel
theorem dX9_customs_59 : decode cX9_customs 59 = .ok (.goto (-16), 3) := by decide +kernel
theorem dX9_customs_62 : decode cX9_customs 62 = .ok (.aload_n 0, 1) := by decide +kernel
theorem dX9_customs_63 : decode cX9_customs 63 = .ok (.iconst 0, 1) := by decide +kernel
theorem dX9_customs_64 : decode cX9_customs 64 = .ok (.putfield 89, 3) := by decide +kernel
theorem dX9_customs_67 : decode cX9_customs 67 = .ok (.iconst 0, 1) := by decide +kernel
theorem dX9_customs_68 : decode cX9_customs 68 = .ok (.istore_n 2, 1) := by decide +kernel
theorem dX9_customs_69 : decode cX9_customs 69 = .ok (.aload_n 0, 1) := by decide +kernel
theorem dX9_customs_70 : decode cX9_customs 70 = .ok (.invokevirtual 120, 3) := by decide +kernel
theorem dX9_customs_73 : decode cX9_customs 73 = .ok (.aload_n 0, 1) := by decide +kernel
theorem dX9_customs_74 : decode cX9_customs 74 = .ok (.getfield 95, 3) := by decide +kernel
theorem dX9_customs_77 : decode cX9_customs 77 = .ok (.ifCond .eq 42, 3) := by decide +kernel
theorem dX9_customs_80 : decode cX9_customs 80 = .ok (.aload_n 0, 1) := by decide +kernel
theorem dX9_customs_81 : decode cX9_customs 81 = .ok (.invokevirtual 131, 3) := by decide +kernel
theorem dX9_customs_84 : decode cX9_customs 84 = .ok (.ifCond .ne 5, 3) := by decide +kernel
theorem dX9_customs_87 : decode cX9_customs 87 = .ok (.iconst (-1), 1) := by decide +kernel
theorem dX9_customs_88 : decode cX9_customs 88 = .ok (.ireturn, 1) := by decide +kernel
theorem dX9_customs_89 : decode cX9_customs 89 = .ok (.aload_n 0, 1) := by decide +kernel
theorem dX9_customs_90 : decode cX9_customs 90 = .ok (.getfield 95, 3) := by decide +kernel
theorem dX9_customs_93 : decode cX9_customs 93 = .ok (.iconst 3, 1) := by decide +kernel
theorem dX9_customs_94 : decode cX9_customs 94 = .ok (.if_icmp .eq 15, 3) := by decide +kernel
theorem dX9_customs_97 : decode cX9_customs 97 = .ok (.aload_n 0, 1) := by decide +kernel
theorem dX9_customs_98 : decode cX9_customs 98 = .ok (.iconst 1, 1) := by decide +kernel
theorem dX9_customs_99 : decode cX9_customs 99 = .ok (.aload_n 0, 1) := by decide +kernel
theorem dX9_customs_100 : decode cX9_customs 100 = .ok (.getfield 92, 3) := by decide +kernel
theorem dX9_customs_103 : decode cX9_customs 103 = .ok (.invokevirtual 113, 3) := by decide +kernel
theorem dX9_customs_106 : decode cX9_customs 106 = .ok (.istore_n 3, 1) := by decide +kernel
theorem dX9_customs_107 : decode cX9_customs 107 = .ok (.iconst (-1), 1) := by decide +kernel
theorem dX9_customs_108 : decode cX9_customs 108 = .ok (.ireturn, 1) := by decide +kernel
theorem dX9_customs_109 : decode cX9_customs 109 = .ok (.iinc 2 1, 3) := by decide +kernel
theorem dX9_customs_112 : decode cX9_customs 112 = .ok (.aload_n 0, 1) := by decide +kernel
theorem dX9_customs_113 : decode cX9_customs 113 = .ok (.invokevirtual 120, 3) := by decide +kernel
theorem dX9_customs_116 : decode cX9_customs 116 = .ok (.goto (-43), 3) := by decide +kernel
theorem dX9_customs_119 : decode cX9_customs 119 = .ok (.iconst 0, 1) := by decide +kernel
theorem dX9_customs_120 : decode cX9_customs 120 = .ok (.istore_n 3, 1) := by decide +kernel
theorem dX9_customs_121 : decode cX9_customs 121 = .ok (.iload_n 3, 1) := by decide +kernel
theorem dX9_customs_122 : decode cX9_customs 122 = .ok (.bipush 12, 2) := by decide +kernel
theorem dX9_customs_124 : decode cX9_customs 124 = .ok (.if_icmp .ge 40, 3) := by decide +kernel
theorem dX9_customs_127 : decode cX9_customs 127 = .ok (.aload_n 0, 1) := by decide +kernel
theorem dX9_customs_128 : decode cX9_customs 128 = .ok (.getfield 50, 3) := by decide +kernel
theorem dX9_customs_131 : decode cX9_customs 131 = .ok (.iload_n 3, 1) := by decide +kernel
theorem dX9_customs_132 : decode cX9_customs 132 = .ok (.aload_n 0, 1) := by decide +kernel
theorem dX9_customs_133 : decode cX9_customs 133 = .ok (.getfield 50, 3) := by decide +kernel
theorem dX9_customs_136 : decode cX9_customs 136 = .ok (.bipush 12, 2) := by decide +kernel
theorem dX9_customs_138 : decode cX9_customs 138 = .ok (.iload_n 3, 1) := by decide +kernel
theorem dX9_customs_139 : decode cX9_customs 139 = .ok (.iadd, 1) := by decide +kernel
theorem dX9_customs_140 : decode cX9_customs 140 = .ok (.iaload, 1) := by decide +kernel
theorem dX9_customs_141 : decode cX9_customs 141 = .ok (.ifCond .ge 7, 3) := by decide +kernel
theorem dX9_customs_144 : decode cX9_customs 144 = .ok (.iconst 0, 1) := by decide +kernel
theorem dX9_customs_145 : decode cX9_customs 145 = .ok (.goto 12, 3) := by decide +kernel
theorem dX9_customs_148 : decode cX9_customs 148 = .ok (.aload_n 0, 1) := by decide +kernel
theorem dX9_customs_149 : decode cX9_customs 149 = .ok (.getfield 50, 3) := by decide +kernel
theorem dX9_customs_152 : decode cX9_customs 152 = .ok (.bipush 12, 2) := by decide +kernel
theorem dX9_customs_154 : decode cX9_customs 154 = .ok (.iload_n 3, 1) := by decide +kernel
theorem dX9_customs_155 : decode cX9_customs 155 = .ok (.iadd, 1) := by decide +kernel
theorem dX9_customs_156 : decode cX9_customs 156 = .ok (.iaload, 1) := by decide +kernel
theorem dX9_customs_157 : decode cX9_customs 157 = .ok (.iastore, 1) := by decide +kernel
theorem dX9_customs_158 : decode cX9_customs 158 = .ok (.iinc 3 1, 3) := by decide +kernel
theorem dX9_customs_161 : decode cX9_customs 161 = .ok (.goto (-40), 3) := by decide +kernel
theorem dX9_customs_164 : decode cX9_customs 164 = .ok (.iload_n 2, 1) := by decide +kernel
theorem dX9_customs_165 : decode cX9_customs 165 = .ok (.ireturn, 1) := by decide +kernel
theorem dX9_fault_0 : decode cX9_fault 0 = .ok (.aload_n 0, 1) := by decide +kernel
theorem dX9_fault_1 : decode cX9_fault 1 = .ok (.iconst 0, 1) := by decide +kernel
theorem dX9_fault_2 : decode cX9_fault 2 = .ok (.putfield 77, 3) := by decide +kernel
theorem dX9_fault_5 : decode cX9_fault 5 = .ok (.iload_n 1, 1) := by decide +kernel
theorem dX9_fault_6 : decode cX9_fault 6 = .ok (.ifCond .ne 10, 3) := by decide +kernel
theorem dX9_fault_9 : decode cX9_fault 9 = .ok (.aload_n 0, 1) := by decide +kernel
theorem dX9_fault_10 : decode cX9_fault 10 = .ok (.getfield 83, 3) := by decide +kernel
theorem dX9_fault_13 : decode cX9_fault 13 = .ok (.goto 16, 3) := by decide +kernel
theorem dX9_fault_16 : decode cX9_fault 16 = .ok (.iload_n 1, 1) := by decide +kernel
theorem dX9_fault_17 : decode cX9_fault 17 = .ok (.iconst 1, 1) := by decide +kernel
theorem dX9_fault_18 : decode cX9_fault 18 = .ok (.if_icmp .ne 10, 3) := by decide +kernel
theorem dX9_fault_21 : decode cX9_fault 21 = .ok (.aload_n 0, 1) := by decide +kernel
theorem dX9_fault_22 : decode cX9_fault 22 = .ok (.getfield 53, 3) := by decide +kernel
theorem dX9_fault_25 : decode cX9_fault 25 = .ok (.goto 4, 3) := by decide +kernel
theorem dX9_fault_28 : decode cX9_fault 28 = .ok (.iconst (-1), 1) := by decide +kernel
theorem dX9_fault_29 : decode cX9_fault 29 = .ok (.ireturn, 1) := by decide +kernel
theorem dX9_grade_0 : decode cX9_grade 0 = .ok (.aload_n 0, 1) := by decide +kernel
theorem dX9_grade_1 : decode cX9_grade 1 = .ok (.iconst 0, 1) := by decide +kernel
theorem dX9_grade_2 : decode cX9_grade 2 = .ok (.putfield 77, 3) := by decide +kernel
theorem dX9_grade_5 : decode cX9_grade 5 = .ok (.iload_n 1, 1) := by decide +kernel
theorem dX9_grade_6 : decode cX9_grade 6 = .ok (.ifCond .lt 18, 3) := by decide +kernel
theorem dX9_grade_9 : decode cX9_grade 9 = .ok (.iload_n 1, 1) := by decide +kernel
theorem dX9_grade_10 : decode cX9_grade 10 = .ok (.sipush 999, 3) := by decide +kernel
theorem dX9_grade_13 : decode cX9_grade 13 = .ok (.if_icmp .gt 11, 3) := by decide +kernel
theorem dX9_grade_16 : decode cX9_grade 16 = .ok (.aload_n 0, 1) := by decide +kernel
theorem dX9_grade_17 : decode cX9_grade 17 = .ok (.getfield 135, 3) := by decide +kernel
theorem dX9_grade_20 : decode cX9_grade 20 = .ok (.iconst 4, 1) := by decide +kernel
theorem dX9_grade_21 : decode cX9_grade 21 = .ok (.if_icmp .ne 5, 3) := by decide +kernel
theorem dX9_grade_24 : decode cX9_grade 24 = .ok (.iconst (-1), 1) := by decide +kernel
theorem dX9_grade_25 : decode cX9_grade 25 = .ok (.ireturn, 1) := by decide +kernel
theorem dX9_grade_26 : decode cX9_grade 26 = .ok (.aload_n 0, 1) := by decide +kernel
theorem dX9_grade_27 : decode cX9_grade 27 = .ok (.getfield 13, 3) := by decide +kernel
theorem dX9_grade_30 : decode cX9_grade 30 = .ok (.aload_n 0, 1) := by decide +kernel
theorem dX9_grade_31 : decode cX9_grade 31 = .ok (.getfield 135, 3) := by decide +kernel
theorem dX9_grade_34 : decode cX9_grade 34 = .ok (.iload_n 1, 1) := by decide +kernel
theorem dX9_grade_35 : decode cX9_grade 35 = .ok (.iastore, 1) := by decide +kernel
theorem dX9_grade_36 : decode cX9_grade 36 = .ok (.aload_n 0, 1) := by decide +kernel
theorem dX9_grade_37 : decode cX9_grade 37 = .ok (.dup, 1) := by decide +kernel
theorem dX9_grade_38 : decode cX9_grade 38 = .ok (.getfield 135, 3) := by decide +kernel
theorem dX9_grade_41 : decode cX9_grade 41 = .ok (.iconst 1, 1) := by decide +kernel
theorem dX9_grade_42 : decode cX9_grade 42 = .ok (.iadd, 1) := by decide +kernel
theorem dX9_grade_43 : decode cX9_grade 43 = .ok (.putfield 135, 3) := by decide +kernel
theorem dX9_grade_46 : decode cX9_grade 46 = .ok (.aload_n 0, 1) := by decide +kernel
theorem dX9_grade_47 : decode cX9_grade 47 = .ok (.getfield 135, 3) := by decide +kernel
theorem dX9_grade_50 : decode cX9_grade 50 = .ok (.iconst 1, 1) := by decide +kernel
theorem dX9_grade_51 : decode cX9_grade 51 = .ok (.isub, 1) := by decide +kernel
theorem dX9_grade_52 : decode cX9_grade 52 = .ok (.ireturn, 1) := by decide +kernel
theorem dX9_isWeight_0 : decode cX9_isWeight 0 = .ok (.iload_n 2, 1) := by decide +kernel
theorem dX9_isWeight_1 : decode cX9_isWeight 1 = .ok (.ifCond .lt 25, 3) := by decide +kernel
theorem dX9_isWeight_4 : decode cX9_isWeight 4 = .ok (.iload_n 2, 1) := by decide +kernel
theorem dX9_isWeight_5 : decode cX9_isWeight 5 = .ok (.bipush 16, 2) := by decide +kernel
theorem dX9_isWeight_7 : decode cX9_isWeight 7 = .ok (.if_icmp .gt 19, 3) := by decide +kernel
theorem dX9_isWeight_10 : decode cX9_isWeight 10 = .ok (.iload_n 2, 1) := by decide +kernel
theorem dX9_isWeight_11 : decode cX9_isWeight 11 = .ok (.ifCond .eq 11, 3) := by decide +kernel
theorem dX9_isWeight_14 : decode cX9_isWeight 14 = .ok (.iload_n 1, 1) := by decide +kernel
theorem dX9_isWeight_15 : decode cX9_isWeight 15 = .ok (.aload_n 0, 1) := by decide +kernel
theorem dX9_isWeight_16 : decode cX9_isWeight 16 = .ok (.getfield 135, 3) := by decide +kernel
theorem dX9_isWeight_19 : decode cX9_isWeight 19 = .ok (.if_icmp .ge 7, 3) := by decide +kernel
theorem dX9_isWeight_22 : decode cX9_isWeight 22 = .ok (.iconst 1, 1) := by decide +kernel
theorem dX9_isWeight_23 : decode cX9_isWeight 23 = .ok (.goto 4, 3) := by decide +kernel
theorem dX9_isWeight_26 : decode cX9_isWeight 26 = .ok (.iconst 0, 1) := by decide +kernel
theorem dX9_isWeight_27 : decode cX9_isWeight 27 = .ok (.ireturn, 1) := by decide +kernel
theorem dX9_kind_0 : decode cX9_kind 0 = .ok (.aload_n 0, 1) := by decide +kernel
theorem dX9_kind_1 : decode cX9_kind 1 = .ok (.iconst 0, 1) := by decide +kernel
theorem dX9_kind_2 : decode cX9_kind 2 = .ok (.putfield 77, 3) := by decide +kernel
theorem dX9_kind_5 : decode cX9_kind 5 = .ok (.aload_n 0, 1) := by decide +kernel
theorem dX9_kind_6 : decode cX9_kind 6 = .ok (.getfield 138, 3) := by decide +kernel
theorem dX9_kind_9 : decode cX9_kind 9 = .ok (.iconst 3, 1) := by decide +kernel
theorem dX9_kind_10 : decode cX9_kind 10 = .ok (.if_icmp .eq 66, 3) := by decide +kernel
theorem dX9_kind_13 : decode cX9_kind 13 = .ok (.iload_n 1, 1) := by decide +kernel
theorem dX9_kind_14 : decode cX9_kind 14 = .ok (.iconst 1, 1) := by decide +kernel
theorem dX9_kind_15 : decode cX9_kind 15 = .ok (.if_icmp .lt 61, 3) := by decide +kernel
theorem dX9_kind_18 : decode cX9_kind 18 = .ok (.iload_n 1, 1) := by decide +kernel
theorem dX9_kind_19 : decode cX9_kind 19 = .ok (.bipush 99, 2) := by decide +kernel
theorem dX9_kind_21 : decode cX9_kind 21 = .ok (.if_icmp .gt 55, 3) := by decide +kernel
theorem dX9_kind_24 : decode cX9_kind 24 = .ok (.aload_n 0, 1) := by decide +kernel
theorem dX9_kind_25 : decode cX9_kind 25 = .ok (.iconst 0, 1) := by decide +kernel
theorem dX9_kind_26 : decode cX9_kind 26 = .ok (.iload_n 2, 1) := by decide +kernel
theorem dX9_kind_27 : decode cX9_kind 27 = .ok (.invokevirtual 141, 3) := by decide +kernel
theorem dX9_kind_30 : decode cX9_kind 30 = .ok (.ifCond .eq 46, 3) := by decide +kernel
theorem dX9_kind_33 : decode cX9_kind 33 = .ok (.aload_n 0, 1) := by decide +kernel
theorem dX9_kind_34 : decode cX9_kind 34 = .ok (.iconst 1, 1) := by decide +kernel
theorem dX9_kind_35 : decode cX9_kind 35 = .ok (.iload_n 3, 1) := by decide +kernel
theorem dX9_kind_36 : decode cX9_kind 36 = .ok (.invokevirtual 141, 3) := by decide +kernel
theorem dX9_kind_39 : decode cX9_kind 39 = .ok (.ifCond .eq 37, 3) := by decide +kernel
theorem dX9_kind_42 : decode cX9_kind 42 = .ok (.aload_n 0, 1) := by decide +kernel
theorem dX9_kind_43 : decode cX9_kind 43 = .ok (.iconst 2, 1) := by decide +kernel
theorem dX9_kind_44 : decode cX9_kind 44 = .ok (.iload 4, 2) := by decide +kernel
theorem dX9_kind_46 : decode cX9_kind 46 = .ok (.invokevirtual 141, 3) := by decide +kernel
theorem dX9_kind_49 : decode cX9_kind 49 = .ok (.ifCond .eq 27, 3) := by decide +kernel
theorem dX9_kind_52 : decode cX9_kind 52 = .ok (.aload_n 0, 1) := by decide +kernel
theorem dX9_kind_53 : decode cX9_kind 53 = .ok (.iconst 3, 1) := by decide +kernel
theorem dX9_kind_54 : decode cX9_kind 54 = .ok (.iload 5, 2) := by decide +kernel
theorem dX9_kind_56 : decode cX9_kind 56 = .ok (.invokevirtual 141, 3) := by decide +kernel
theorem dX9_kind_59 : decode cX9_kind 59 = .ok (.ifCond .eq 17, 3) := by decide +kernel
theorem dX9_kind_62 : decode cX9_kind 62 = .ok (.iload_n 2, 1) := by decide +kernel
theorem dX9_kind_63 : decode cX9_kind 63 = .ok (.iload_n 3, 1) := by decide +kernel
theorem dX9_kind_64 : decode cX9_kind 64 = .ok (.iadd, 1) := by decide +kernel
theorem dX9_kind_65 : decode cX9_kind 65 = .ok (.iload 4, 2) := by decide +kernel
theorem dX9_kind_67 : decode cX9_kind 67 = .ok (.iadd, 1) := by decide +kernel
theorem dX9_kind_68 : decode cX9_kind 68 = .ok (.iload 5, 2) := by decide +kernel
theorem dX9_kind_70 : decode cX9_kind 70 = .ok (.iadd, 1) := by decide +kernel
theorem dX9_kind_71 : decode cX9_kind 71 = .ok (.bipush 16, 2) := by decide +kernel
theorem dX9_kind_73 : decode cX9_kind 73 = .ok (.if_icmp .eq 5, 3) := by decide +kernel
theorem dX9_kind_76 : decode cX9_kind 76 = .ok (.iconst (-1), 1) := by decide +kernel
theorem dX9_kind_77 : decode cX9_kind 77 = .ok (.ireturn, 1) := by decide +kernel
theorem dX9_kind_78 : decode cX9_kind 78 = .ok (.aload_n 0, 1) := by decide +kernel
theorem dX9_kind_79 : decode cX9_kind 79 = .ok (.getfield 16, 3) := by decide +kernel
theorem dX9_kind_82 : decode cX9_kind 82 = .ok (.aload_n 0, 1) := by decide +kernel
theorem dX9_kind_83 : decode cX9_kind 83 = .ok (.getfield 138, 3) := by decide +kernel
theorem dX9_kind_86 : decode cX9_kind 86 = .ok (.iload_n 1, 1) := by decide +kernel
theorem dX9_kind_87 : decode cX9_kind 87 = .ok (.iastore, 1) := by decide +kernel
theorem dX9_kind_88 : decode cX9_kind 88 = .ok (.aload_n 0, 1) := by decide +kernel
theorem dX9_kind_89 : decode cX9_kind 89 = .ok (.getfield 19, 3) := by decide +kernel
theorem dX9_kind_92 : decode cX9_kind 92 = .ok (.iconst 4, 1) := by decide +kernel
theorem dX9_kind_93 : decode cX9_kind 93 = .ok (.aload_n 0, 1) := by decide +kernel
theorem dX9_kind_94 : decode cX9_kind 94 = .ok (.getfield 138, 3) := by decide +kernel
theorem dX9_kind_97 : decode cX9_kind 97 = .ok (.imul, 1) := by decide +kernel
theorem dX9_kind_98 : decode cX9_kind 98 = .ok (.iload_n 2, 1) := by decide +kernel
theorem dX9_kind_99 : decode cX9_kind 99 = .ok (.iastore, 1) := by decide +kernel
theorem dX9_kind_100 : decode cX9_kind 100 = .ok (.aload_n 0, 1) := by decide +kernel
theorem dX9_kind_101 : decode cX9_kind 101 = .ok (.getfield 19, 3) := by decide +kernel
theorem dX9_kind_104 : decode cX9_kind 104 = .ok (.iconst 4, 1) := by decide +kernel
theorem dX9_kind_105 : decode cX9_kind 105 = .ok (.aload_n 0, 1) := by decide +kernel
theorem dX9_kind_106 : decode cX9_kind 106 = .ok (.getfield 138, 3) := by decide +kernel
theorem dX9_kind_109 : decode cX9_kind 109 = .ok (.imul, 1) := by decide +kernel
theorem dX9_kind_110 : decode cX9_kind 110 = .ok (.iconst 1, 1) := by decide +kernel
theorem dX9_kind_111 : decode cX9_kind 111 = .ok (.iadd, 1) := by decide +kernel
theorem dX9_kind_112 : decode cX9_kind 112 = .ok (.iload_n 3, 1) := by decide +kernel
theorem dX9_kind_113 : decode cX9_kind 113 = .ok (.iastore, 1) := by decide +kernel
theorem dX9_kind_114 : decode cX9_kind 114 = .ok (.aload_n 0, 1) := by decide +kernel
theorem dX9_kind_115 : decode cX9_kind 115 = .ok (.getfield 19, 3) := by decide +kernel
theorem dX9_kind_118 : decode cX9_kind 118 = .ok (.iconst 4, 1) := by decide +kernel
theorem dX9_kind_119 : decode cX9_kind 119 = .ok (.aload_n 0, 1) := by decide +kernel
theorem dX9_kind_120 : decode cX9_kind 120 = .ok (.getfield 138, 3) := by decide +kernel
theorem dX9_kind_123 : decode cX9_kind 123 = .ok (.imul, 1) := by decide +kernel
theorem dX9_kind_124 : decode cX9_kind 124 = .ok (.iconst 2, 1) := by decide +kernel
theorem dX9_kind_125 : decode cX9_kind 125 = .ok (.iadd, 1) := by decide +kernel
theorem dX9_kind_126 : decode cX9_kind 126 = .ok (.iload 4, 2) := by decide +kernel
theorem dX9_kind_128 : decode cX9_kind 128 = .ok (.iastore, 1) := by decide +kernel
theorem dX9_kind_129 : decode cX9_kind 129 = .ok (.aload_n 0, 1) := by decide +kernel
theorem dX9_kind_130 : decode cX9_kind 130 = .ok (.getfield 19, 3) := by decide +kernel
theorem dX9_kind_133 : decode cX9_kind 133 = .ok (.iconst 4, 1) := by decide +kernel
theorem dX9_kind_134 : decode cX9_kind 134 = .ok (.aload_n 0, 1) := by decide +kernel
theorem dX9_kind_135 : decode cX9_kind 135 = .ok (.getfield 138, 3) := by decide +kernel
theorem dX9_kind_138 : decode cX9_kind 138 = .ok (.imul, 1) := by decide +kernel
theorem dX9_kind_139 : decode cX9_kind 139 = .ok (.iconst 3, 1) := by decide +kernel
theorem dX9_kind_140 : decode cX9_kind 140 = .ok (.iadd, 1) := by decide +kernel
theorem dX9_kind_141 : decode cX9_kind 141 = .ok (.iload 5, 2) := by decide +kernel
theorem dX9_kind_143 : decode cX9_kind 143 = .ok (.iastore, 1) := by decide +kernel
theorem dX9_kind_144 : decode cX9_kind 144 = .ok (.aload_n 0, 1) := by decide +kernel
theorem dX9_kind_145 : decode cX9_kind 145 = .ok (.dup, 1) := by decide +kernel
theorem dX9_kind_146 : decode cX9_kind 146 = .ok (.getfield 138, 3) := by decide +kernel
theorem dX9_kind_149 : decode cX9_kind 149 = .ok (.iconst 1, 1) := by decide +kernel
theorem dX9_kind_150 : decode cX9_kind 150 = .ok (.iadd, 1) := by decide +kernel
theorem dX9_kind_151 : decode cX9_kind 151 = .ok (.putfield 138, 3) := by decide +kernel
theorem dX9_kind_154 : decode cX9_kind 154 = .ok (.aload_n 0, 1) := by decide +kernel
theorem dX9_kind_155 : decode cX9_kind 155 = .ok (.getfield 138, 3) := by decide +kernel
theorem dX9_kind_158 : decode cX9_kind 158 = .ok (.iconst 1, 1) := by decide +kernel
theorem dX9_kind_159 : decode cX9_kind 159 = .ok (.isub, 1) := by decide +kernel
theorem dX9_kind_160 : decode cX9_kind 160 = .ok (.ireturn, 1) := by decide +kernel
theorem dX9_man_0 : decode cX9_man 0 = .ok (.aload_n 0, 1) := by decide +kernel
theorem dX9_man_1 : decode cX9_man 1 = .ok (.iconst 0, 1) := by decide +kernel
theorem dX9_man_2 : decode cX9_man 2 = .ok (.putfield 77, 3) := by decide +kernel
theorem dX9_man_5 : decode cX9_man 5 = .ok (.iload_n 1, 1) := by decide +kernel
theorem dX9_man_6 : decode cX9_man 6 = .ok (.ifCond .lt 18, 3) := by decide +kernel
theorem dX9_man_9 : decode cX9_man 9 = .ok (.iload_n 1, 1) := by decide +kernel
theorem dX9_man_10 : decode cX9_man 10 = .ok (.ldc 112, 2) := by decide +kernel
theorem dX9_man_12 : decode cX9_man 12 = .ok (.if_icmp .gt 12, 3) := by decide +kernel
theorem dX9_man_15 : decode cX9_man 15 = .ok (.aload_n 0, 1) := by decide +kernel
theorem dX9_man_16 : decode cX9_man 16 = .ok (.getfield 144, 3) := by decide +kernel
theorem dX9_man_19 : decode cX9_man 19 = .ok (.bipush 8, 2) := by decide +kernel
theorem dX9_man_21 : decode cX9_man 21 = .ok (.if_icmp .ne 5, 3) := by decide +kernel
theorem dX9_man_24 : decode cX9_man 24 = .ok (.iconst (-1), 1) := by decide +kernel
theorem dX9_man_25 : decode cX9_man 25 = .ok (.ireturn, 1) := by decide +kernel
theorem dX9_man_26 : decode cX9_man 26 = .ok (.aload_n 0, 1) := by decide +kernel
theorem dX9_man_27 : decode cX9_man 27 = .ok (.getfield 22, 3) := by decide +kernel
theorem dX9_man_30 : decode cX9_man 30 = .ok (.aload_n 0, 1) := by decide +kernel
theorem dX9_man_31 : decode cX9_man 31 = .ok (.getfield 144, 3) := by decide +kernel
theorem dX9_man_34 : decode cX9_man 34 = .ok (.iload_n 1, 1) := by decide +kernel
theorem dX9_man_35 : decode cX9_man 35 = .ok (.iastore, 1) := by decide +kernel
theorem dX9_man_36 : decode cX9_man 36 = .ok (.aload_n 0, 1) := by decide +kernel
theorem dX9_man_37 : decode cX9_man 37 = .ok (.dup, 1) := by decide +kernel
theorem dX9_man_38 : decode cX9_man 38 = .ok (.getfield 144, 3) := by decide +kernel
theorem dX9_man_41 : decode cX9_man 41 = .ok (.iconst 1, 1) := by decide +kernel
theorem dX9_man_42 : decode cX9_man 42 = .ok (.iadd, 1) := by decide +kernel
theorem dX9_man_43 : decode cX9_man 43 = .ok (.putfield 144, 3) := by decide +kernel
theorem dX9_man_46 : decode cX9_man 46 = .ok (.aload_n 0, 1) := by decide +kernel
theorem dX9_man_47 : decode cX9_man 47 = .ok (.getfield 144, 3) := by decide +kernel
theorem dX9_man_50 : decode cX9_man 50 = .ok (.iconst 1, 1) := by decide +kernel
theorem dX9_man_51 : decode cX9_man 51 = .ok (.isub, 1) := by decide +kernel
theorem dX9_man_52 : decode cX9_man 52 = .ok (.ireturn, 1) := by decide +kernel
theorem dX9_isMan_0 : decode cX9_isMan 0 = .ok (.iload_n 1, 1) := by decide +kernel
theorem dX9_isMan_1 : decode cX9_isMan 1 = .ok (.ifCond .lt 15, 3) := by decide +kernel
theorem dX9_isMan_4 : decode cX9_isMan 4 = .ok (.iload_n 1, 1) := by decide +kernel
theorem dX9_isMan_5 : decode cX9_isMan 5 = .ok (.aload_n 0, 1) := by decide +kernel
theorem dX9_isMan_6 : decode cX9_isMan 6 = .ok (.getfield 144, 3) := by decide +kernel
theorem dX9_isMan_9 : decode cX9_isMan 9 = .ok (.if_icmp .ge 7, 3) := by decide +kernel
theorem dX9_isMan_12 : decode cX9_isMan 12 = .ok (.iconst 1, 1) := by decide +kernel
theorem dX9_isMan_13 : decode cX9_isMan 13 = .ok (.goto 4, 3) := by decide +kernel
theorem dX9_isMan_16 : decode cX9_isMan 16 = .ok (.iconst 0, 1) := by decide +kernel
theorem dX9_isMan_17 : decode cX9_isMan 17 = .ok (.ireturn, 1) := by decide +kernel
theorem dX9_isBoulder_0 : decode cX9_isBoulder 0 = .ok (.iload_n 1, 1) := by decide +kernel
theorem dX9_isBoulder_1 : decode cX9_isBoulder 1 = .ok (.ifCond .lt 15, 3) := by decide +kernel
theorem dX9_isBoulder_4 : decode cX9_isBoulder 4 = .ok (.iload_n 1, 1) := by decide +kernel
theorem dX9_isBoulder_5 : decode cX9_isBoulder 5 = .ok (.aload_n 0, 1) := by decide +kernel
theorem dX9_isBoulder_6 : decode cX9_isBoulder 6 = .ok (.getfield 147, 3) := by decide +kernel
theorem dX9_isBoulder_9 : decode cX9_isBoulder 9 = .ok (.if_icmp .ge 7, 3) := by decide +kernel
theorem dX9_isBoulder_12 : decode cX9_isBoulder 12 = .ok (.iconst 1, 1) := by decide +kernel
theorem dX9_isBoulder_13 : decode cX9_isBoulder 13 = .ok (.goto 4, 3) := by decide +kernel
theorem dX9_isBoulder_16 : decode cX9_isBoulder 16 = .ok (.iconst 0, 1) := by decide +kernel
theorem dX9_isBoulder_17 : decode cX9_isBoulder 17 = .ok (.ireturn, 1) := by decide +kernel
theorem dX9_isWhole_0 : decode cX9_isWhole 0 = .ok (.aload_n 0, 1) := by decide +kernel
theorem dX9_isWhole_1 : decode cX9_isWhole 1 = .ok (.iload_n 1, 1) := by decide +kernel
theorem dX9_isWhole_2 : decode cX9_isWhole 2 = .ok (.invokevirtual 150, 3) := by decide +kernel
theorem dX9_isWhole_5 : decode cX9_isWhole 5 = .ok (.ifCond .eq 16, 3) := by decide +kernel
theorem dX9_isWhole_8 : decode cX9_isWhole 8 = .ok (.aload_n 0, 1) := by decide +kernel
theorem dX9_isWhole_9 : decode cX9_isWhole 9 = .ok (.getfield 34, 3) := by decide +kernel
theorem dX9_isWhole_12 : decode cX9_isWhole 12 = .ok (.iload_n 1, 1) := by decide +kernel
theorem dX9_isWhole_13 : decode cX9_isWhole 13 = .ok (.baload, 1) := by decide +kernel
theorem dX9_isWhole_14 : decode cX9_isWhole 14 = .ok (.ifCond .ne 7, 3) := by decide +kernel
theorem dX9_isWhole_17 : decode cX9_isWhole 17 = .ok (.iconst 1, 1) := by decide +kernel
theorem dX9_isWhole_18 : decode cX9_isWhole 18 = .ok (.goto 4, 3) := by decide +kernel
theorem dX9_isWhole_21 : decode cX9_isWhole 21 = .ok (.iconst 0, 1) := by decide +kernel
theorem dX9_isWhole_22 : decode cX9_isWhole 22 = .ok (.ireturn, 1) := by decide +kernel
theorem dX9_boulder_0 : decode cX9_boulder 0 = .ok (.aload_n 0, 1) := by decide +kernel
theorem dX9_boulder_1 : decode cX9_boulder 1 = .ok (.iconst 0, 1) := by decide +kernel
theorem dX9_boulder_2 : decode cX9_boulder 2 = .ok (.putfield 77, 3) := by decide +kernel
theorem dX9_boulder_5 : decode cX9_boulder 5 = .ok (.aload_n 0, 1) := by decide +kernel
theorem dX9_boulder_6 : decode cX9_boulder 6 = .ok (.iload_n 1, 1) := by decide +kernel
theorem dX9_boulder_7 : decode cX9_boulder 7 = .ok (.invokevirtual 153, 3) := by decide +kernel
theorem dX9_boulder_10 : decode cX9_boulder 10 = .ok (.ifCond .eq 23, 3) := by decide +kernel
theorem dX9_boulder_13 : decode cX9_boulder 13 = .ok (.iload_n 2, 1) := by decide +kernel
theorem dX9_boulder_14 : decode cX9_boulder 14 = .ok (.iconst 1, 1) := by decide +kernel
theorem dX9_boulder_15 : decode cX9_boulder 15 = .ok (.if_icmp .lt 18, 3) := by decide +kernel
theorem dX9_boulder_18 : decode cX9_boulder 18 = .ok (.iload_n 2, 1) := by decide +kernel
theorem dX9_boulder_19 : decode cX9_boulder 19 = .ok (.bipush 8, 2) := by decide +kernel
theorem dX9_boulder_21 : decode cX9_boulder 21 = .ok (.if_icmp .gt 12, 3) := by decide +kernel
theorem dX9_boulder_24 : decode cX9_boulder 24 = .ok (.aload_n 0, 1) := by decide +kernel
theorem dX9_boulder_25 : decode cX9_boulder 25 = .ok (.getfield 147, 3) := by decide +kernel
theorem dX9_boulder_28 : decode cX9_boulder 28 = .ok (.bipush 10, 2) := by decide +kernel
theorem dX9_boulder_30 : decode cX9_boulder 30 = .ok (.if_icmp .ne 5, 3) := by decide +kernel
theorem dX9_boulder_33 : decode cX9_boulder 33 = .ok (.iconst (-1), 1) := by decide +kernel
theorem dX9_boulder_34 : decode cX9_boulder 34 = .ok (.ireturn, 1) := by decide +kernel
theorem dX9_boulder_35 : decode cX9_boulder 35 = .ok (.iconst 0, 1) := by decide +kernel
theorem dX9_boulder_36 : decode cX9_boulder 36 = .ok (.istore 4, 2) := by decide +kernel
theorem dX9_boulder_38 : decode cX9_boulder 38 = .ok (.iload 4, 2) := by decide +kernel
theorem dX9_boulder_40 : decode cX9_boulder 40 = .ok (.iload_n 2, 1) := by decide +kernel
theorem dX9_boulder_41 : decode cX9_boulder 41 = .ok (.if_icmp .ge 26, 3) := by decide +kernel
theorem dX9_boulder_44 : decode cX9_boulder 44 = .ok (.iload_n 3, 1) := by decide +kernel
theorem dX9_boulder_45 : decode cX9_boulder 45 = .ok (.iconst 2, 1) := by decide +kernel
theorem dX9_boulder_46 : decode cX9_boulder 46 = .ok (.iload 4, 2) := by decide +kernel
theorem dX9_boulder_48 : decode cX9_boulder 48 = .ok (.imul, 1) := by decide +kernel
theorem dX9_boulder_49 : decode cX9_boulder 49 = .ok (.ishr, 1) := by decide +kernel
theorem dX9_boulder_50 : decode cX9_boulder 50 = .ok (.iconst 3, 1) := by decide +kernel
theorem dX9_boulder_51 : decode cX9_boulder 51 = .ok (.iand, 1) := by decide +kernel
theorem dX9_boulder_52 : decode cX9_boulder 52 = .ok (.aload_n 0, 1) := by decide +kernel
theorem dX9_boulder_53 : decode cX9_boulder 53 = .ok (.getfield 135, 3) := by decide +kernel
theorem dX9_boulder_56 : decode cX9_boulder 56 = .ok (.if_icmp .lt 5, 3) := by decide +kernel
theorem dX9_boulder_59 : decode cX9_boulder 59 = .ok (.iconst (-1), 1) := by decide +kernel
theorem dX9_boulder_60 : decode cX9_boulder 60 = .ok (.ireturn, 1) := by decide +kernel
theorem dX9_boulder_61 : decode cX9_boulder 61 = .ok (.iinc 4 1, 3) := by decide +kernel
theorem dX9_boulder_64 : decode cX9_boulder 64 = .ok (.goto (-26), 3) := by decide +kernel
theorem dX9_boulder_67 : decode cX9_boulder 67 = .ok (.aload_n 0, 1) := by decide +kernel
theorem dX9_boulder_68 : decode cX9_boulder 68 = .ok (.getfield 25, 3) := by decide +kernel
theorem dX9_boulder_71 : decode cX9_boulder 71 = .ok (.aload_n 0, 1) := by decide +kernel
theorem dX9_boulder_72 : decode cX9_boulder 72 = .ok (.getfield 147, 3) := by decide +kernel
theorem dX9_boulder_75 : decode cX9_boulder 75 = .ok (.iload_n 2, 1) := by decide +kernel
theorem dX9_boulder_76 : decode cX9_boulder 76 = .ok (.iastore, 1) := by decide +kernel
theorem dX9_boulder_77 : decode cX9_boulder 77 = .ok (.aload_n 0, 1) := by decide +kernel
theorem dX9_boulder_78 : decode cX9_boulder 78 = .ok (.getfield 28, 3) := by decide +kernel
theorem dX9_boulder_81 : decode cX9_boulder 81 = .ok (.aload_n 0, 1) := by decide +kernel
theorem dX9_boulder_82 : decode cX9_boulder 82 = .ok (.getfield 147, 3) := by decide +kernel
theorem dX9_boulder_85 : decode cX9_boulder 85 = .ok (.iload_n 3, 1) := by decide +kernel
theorem dX9_boulder_86 : decode cX9_boulder 86 = .ok (.iastore, 1) := by decide +kernel
theorem dX9_boulder_87 : decode cX9_boulder 87 = .ok (.aload_n 0, 1) := by decide +kernel
theorem dX9_boulder_88 : decode cX9_boulder 88 = .ok (.getfield 31, 3) := by decide +kernel
theorem dX9_boulder_91 : decode cX9_boulder 91 = .ok (.aload_n 0, 1) := by decide +kernel
theorem dX9_boulder_92 : decode cX9_boulder 92 = .ok (.getfield 147, 3) := by decide +kernel
theorem dX9_boulder_95 : decode cX9_boulder 95 = .ok (.iconst 0, 1) := by decide +kernel
theorem dX9_boulder_96 : decode cX9_boulder 96 = .ok (.iastore, 1) := by decide +kernel
theorem dX9_boulder_97 : decode cX9_boulder 97 = .ok (.aload_n 0, 1) := by decide +kernel
theorem dX9_boulder_98 : decode cX9_boulder 98 = .ok (.getfield 34, 3) := by decide +kernel
theorem dX9_boulder_101 : decode cX9_boulder 101 = .ok (.aload_n 0, 1) := by decide +kernel
theorem dX9_boulder_102 : decode cX9_boulder 102 = .ok (.getfield 147, 3) := by decide +kernel
theorem dX9_boulder_105 : decode cX9_boulder 105 = .ok (.iconst 0, 1) := by decide +kernel
theorem dX9_boulder_106 : decode cX9_boulder 106 = .ok (.bastore, 1) := by decide +kernel
theorem dX9_boulder_107 : decode cX9_boulder 107 = .ok (.aload_n 0, 1) := by decide +kernel
theorem dX9_boulder_108 : decode cX9_boulder 108 = .ok (.getfield 41, 3) := by decide +kernel
theorem dX9_boulder_111 : decode cX9_boulder 111 = .ok (.aload_n 0, 1) := by decide +kernel
theorem dX9_boulder_112 : decode cX9_boulder 112 = .ok (.getfield 147, 3) := by decide +kernel
theorem dX9_boulder_115 : decode cX9_boulder 115 = .ok (.iconst 0, 1) := by decide +kernel
theorem dX9_boulder_116 : decode cX9_boulder 116 = .ok (.iastore, 1) := by decide +kernel
theorem dX9_boulder_117 : decode cX9_boulder 117 = .ok (.iconst 0, 1) := by decide +kernel
theorem dX9_boulder_118 : decode cX9_boulder 118 = .ok (.istore 4, 2) := by decide +kernel
theorem dX9_boulder_120 : decode cX9_boulder 120 = .ok (.iload 4, 2) := by decide +kernel
theorem dX9_boulder_122 : decode cX9_boulder 122 = .ok (.bipush 8, 2) := by decide +kernel
theorem dX9_boulder_124 : decode cX9_boulder 124 = .ok (.if_icmp .ge 36, 3) := by decide +kernel
theorem dX9_boulder_127 : decode cX9_boulder 127 = .ok (.aload_n 0, 1) := by decide +kernel
theorem dX9_boulder_128 : decode cX9_boulder 128 = .ok (.getfield 38, 3) := by decide +kernel
theorem dX9_boulder_131 : decode cX9_boulder 131 = .ok (.bipush 8, 2) := by decide +kernel
theorem dX9_boulder_133 : decode cX9_boulder 133 = .ok (.aload_n 0, 1) := by decide +kernel
theorem dX9_boulder_134 : decode cX9_boulder 134 = .ok (.getfield 147, 3) := by decide +kernel
theorem dX9_boulder_137 : decode cX9_boulder 137 = .ok (.imul, 1) := by decide +kernel
theorem dX9_boulder_138 : decode cX9_boulder 138 = .ok (.iload 4, 2) := by decide +kernel
theorem dX9_boulder_140 : decode cX9_boulder 140 = .ok (.iadd, 1) := by decide +kernel
theorem dX9_boulder_141 : decode cX9_boulder 141 = .ok (.iload 4, 2) := by decide +kernel
theorem dX9_boulder_143 : decode cX9_boulder 143 = .ok (.iload_n 1, 1) := by decide +kernel
theorem dX9_boulder_144 : decode cX9_boulder 144 = .ok (.if_icmp .ne 8, 3) := by decide +kernel
theorem dX9_boulder_147 : decode cX9_boulder 147 = .ok (.bipush 16, 2) := by decide +kernel
theorem dX9_boulder_149 : decode cX9_boulder 149 = .ok (.goto 4, 3) := by decide +kernel
theorem dX9_boulder_152 : decode cX9_boulder 152 = .ok (.iconst 0, 1) := by decide +kernel
theorem dX9_boulder_153 : decode cX9_boulder 153 = .ok (.iastore, 1) := by decide +kernel
theorem dX9_boulder_154 : decode cX9_boulder 154 = .ok (.iinc 4 1, 3) := by decide +kernel
theorem dX9_boulder_157 : decode cX9_boulder 157 = .ok (.goto (-37), 3) := by decide +kernel
theorem dX9_boulder_160 : decode cX9_boulder 160 = .ok (.aload_n 0, 1) := by decide +kernel
theorem dX9_boulder_161 : decode cX9_boulder 161 = .ok (.dup, 1) := by decide +kernel
theorem dX9_boulder_162 : decode cX9_boulder 162 = .ok (.getfield 147, 3) := by decide +kernel
theorem dX9_boulder_165 : decode cX9_boulder 165 = .ok (.iconst 1, 1) := by decide +kernel
theorem dX9_boulder_166 : decode cX9_boulder 166 = .ok (.iadd, 1) := by decide +kernel
theorem dX9_boulder_167 : decode cX9_boulder 167 = .ok (.putfield 147, 3) := by decide +kernel
theorem dX9_boulder_170 : decode cX9_boulder 170 = .ok (.aload_n 0, 1) := by decide +kernel
theorem dX9_boulder_171 : decode cX9_boulder 171 = .ok (.getfield 147, 3) := by decide +kernel
theorem dX9_boulder_174 : decode cX9_boulder 174 = .ok (.iconst 1, 1) := by decide +kernel
theorem dX9_boulder_175 : decode cX9_boulder 175 = .ok (.isub, 1) := by decide +kernel
theorem dX9_boulder_176 : decode cX9_boulder 176 = .ok (.ireturn, 1) := by decide +kernel
theorem dX9_share_0 : decode cX9_share 0 = .ok (.aload_n 0, 1) := by decide +kernel
theorem dX9_share_1 : decode cX9_share 1 = .ok (.iconst 0, 1) := by decide +kernel
theorem dX9_share_2 : decode cX9_share 2 = .ok (.putfield 77, 3) := by decide +kernel
theorem dX9_share_5 : decode cX9_share 5 = .ok (.aload_n 0, 1) := by decide +kernel
theorem dX9_share_6 : decode cX9_share 6 = .ok (.iload_n 1, 1) := by decide +kernel
theorem dX9_share_7 : decode cX9_share 7 = .ok (.invokevirtual 156, 3) := by decide +kernel
theorem dX9_share_10 : decode cX9_share 10 = .ok (.ifCond .eq 46, 3) := by decide +kernel
theorem dX9_share_13 : decode cX9_share 13 = .ok (.aload_n 0, 1) := by decide +kernel
theorem dX9_share_14 : decode cX9_share 14 = .ok (.iload_n 2, 1) := by decide +kernel
theorem dX9_share_15 : decode cX9_share 15 = .ok (.invokevirtual 153, 3) := by decide +kernel
theorem dX9_share_18 : decode cX9_share 18 = .ok (.ifCond .eq 38, 3) := by decide +kernel
theorem dX9_share_21 : decode cX9_share 21 = .ok (.aload_n 0, 1) := by decide +kernel
theorem dX9_share_22 : decode cX9_share 22 = .ok (.iload_n 3, 1) := by decide +kernel
theorem dX9_share_23 : decode cX9_share 23 = .ok (.invokevirtual 153, 3) := by decide +kernel
theorem dX9_share_26 : decode cX9_share 26 = .ok (.ifCond .eq 30, 3) := by decide +kernel
theorem dX9_share_29 : decode cX9_share 29 = .ok (.iload_n 2, 1) := by decide +kernel
theorem dX9_share_30 : decode cX9_share 30 = .ok (.iload_n 3, 1) := by decide +kernel
theorem dX9_share_31 : decode cX9_share 31 = .ok (.if_icmp .eq 25, 3) := by decide +kernel
theorem dX9_share_34 : decode cX9_share 34 = .ok (.iload 4, 2) := by decide +kernel
theorem dX9_share_36 : decode cX9_share 36 = .ok (.iconst 1, 1) := by decide +kernel
theorem dX9_share_37 : decode cX9_share 37 = .ok (.if_icmp .lt 19, 3) := by decide +kernel
theorem dX9_share_40 : decode cX9_share 40 = .ok (.iload 4, 2) := by decide +kernel
theorem dX9_share_42 : decode cX9_share 42 = .ok (.aload_n 0, 1) := by decide +kernel
theorem dX9_share_43 : decode cX9_share 43 = .ok (.getfield 38, 3) := by decide +kernel
theorem dX9_share_46 : decode cX9_share 46 = .ok (.bipush 8, 2) := by decide +kernel
theorem dX9_share_48 : decode cX9_share 48 = .ok (.iload_n 1, 1) := by decide +kernel
theorem dX9_share_49 : decode cX9_share 49 = .ok (.imul, 1) := by decide +kernel
theorem dX9_share_50 : decode cX9_share 50 = .ok (.iload_n 2, 1) := by decide +kernel
theorem dX9_share_51 : decode cX9_share 51 = .ok (.iadd, 1) := by decide +kernel
theorem dX9_share_52 : decode cX9_share 52 = .ok (.iaload, 1) := by decide +kernel
theorem dX9_share_53 : decode cX9_share 53 = .ok (.if_icmp .le 5, 3) := by decide +kernel
theorem dX9_share_56 : decode cX9_share 56 = .ok (.iconst 0, 1) := by decide +kernel
theorem dX9_share_57 : decode cX9_share 57 = .ok (.ireturn, 1) := by decide +kernel
theorem dX9_share_58 : decode cX9_share 58 = .ok (.aload_n 0, 1) := by decide +kernel
theorem dX9_share_59 : decode cX9_share 59 = .ok (.getfield 38, 3) := by decide +kernel
theorem dX9_share_62 : decode cX9_share 62 = .ok (.bipush 8, 2) := by decide +kernel
theorem dX9_share_64 : decode cX9_share 64 = .ok (.iload_n 1, 1) := by decide +kernel
theorem dX9_share_65 : decode cX9_share 65 = .ok (.imul, 1) := by decide +kernel
theorem dX9_share_66 : decode cX9_share 66 = .ok (.iload_n 2, 1) := by decide +kernel
theorem dX9_share_67 : decode cX9_share 67 = .ok (.iadd, 1) := by decide +kernel
theorem dX9_share_68 : decode cX9_share 68 = .ok (.dup2, 1) := by decide +kernel
theorem dX9_share_69 : decode cX9_share 69 = .ok (.iaload, 1) := by decide +kernel
theorem dX9_share_70 : decode cX9_share 70 = .ok (.iload 4, 2) := by decide +kernel
theorem dX9_share_72 : decode cX9_share 72 = .ok (.isub, 1) := by decide +kernel
theorem dX9_share_73 : decode cX9_share 73 = .ok (.iastore, 1) := by decide +kernel
theorem dX9_share_74 : decode cX9_share 74 = .ok (.aload_n 0, 1) := by decide +kernel
theorem dX9_share_75 : decode cX9_share 75 = .ok (.getfield 38, 3) := by decide +kernel
theorem dX9_share_78 : decode cX9_share 78 = .ok (.bipush 8, 2) := by decide +kernel
theorem dX9_share_80 : decode cX9_share 80 = .ok (.iload_n 1, 1) := by decide +kernel
theorem dX9_share_81 : decode cX9_share 81 = .ok (.imul, 1) := by decide +kernel
theorem dX9_share_82 : decode cX9_share 82 = .ok (.iload_n 3, 1) := by decide +kernel
theorem dX9_share_83 : decode cX9_share 83 = .ok (.iadd, 1) := by decide +kernel
theorem dX9_share_84 : decode cX9_share 84 = .ok (.dup2, 1) := by decide +kernel
theorem dX9_share_85 : decode cX9_share 85 = .ok (.iaload, 1) := by decide +kernel
theorem dX9_share_86 : decode cX9_share 86 = .ok (.iload 4, 2) := by decide +kernel
theorem dX9_share_88 : decode cX9_share 88 = .ok (.iadd, 1) := by decide +kernel
theorem dX9_share_89 : decode cX9_share 89 = .ok (.iastore, 1) := by decide +kernel
theorem dX9_share_90 : decode cX9_share 90 = .ok (.iconst 1, 1) := by decide +kernel
theorem dX9_share_91 : decode cX9_share 91 = .ok (.ireturn, 1) := by decide +kernel
theorem dX9_bid_0 : decode cX9_bid 0 = .ok (.aload_n 0, 1) := by decide +kernel
theorem dX9_bid_1 : decode cX9_bid 1 = .ok (.iconst 0, 1) := by decide +kernel
theorem dX9_bid_2 : decode cX9_bid 2 = .ok (.putfield 77, 3) := by decide +kernel
theorem dX9_bid_5 : decode cX9_bid 5 = .ok (.aload_n 0, 1) := by decide +kernel
theorem dX9_bid_6 : decode cX9_bid 6 = .ok (.iload_n 1, 1) := by decide +kernel
theorem dX9_bid_7 : decode cX9_bid 7 = .ok (.invokevirtual 153, 3) := by decide +kernel
theorem dX9_bid_10 : decode cX9_bid 10 = .ok (.ifCond .eq 36, 3) := by decide +kernel
theorem dX9_bid_13 : decode cX9_bid 13 = .ok (.aload_n 0, 1) := by decide +kernel
theorem dX9_bid_14 : decode cX9_bid 14 = .ok (.iload_n 2, 1) := by decide +kernel
theorem dX9_bid_15 : decode cX9_bid 15 = .ok (.invokevirtual 156, 3) := by decide +kernel
theorem dX9_bid_18 : decode cX9_bid 18 = .ok (.ifCond .eq 28, 3) := by decide +kernel
theorem dX9_bid_21 : decode cX9_bid 21 = .ok (.iload_n 3, 1) := by decide +kernel
theorem dX9_bid_22 : decode cX9_bid 22 = .ok (.iconst 1, 1) := by decide +kernel
theorem dX9_bid_23 : decode cX9_bid 23 = .ok (.if_icmp .lt 23, 3) := by decide +kernel
theorem dX9_bid_26 : decode cX9_bid 26 = .ok (.iload_n 3, 1) := by decide +kernel
theorem dX9_bid_27 : decode cX9_bid 27 = .ok (.ldc 123, 2) := by decide +kernel
theorem dX9_bid_29 : decode cX9_bid 29 = .ok (.if_icmp .gt 17, 3) := by decide +kernel
theorem dX9_bid_32 : decode cX9_bid 32 = .ok (.aload_n 0, 1) := by decide +kernel
theorem dX9_bid_33 : decode cX9_bid 33 = .ok (.getfield 38, 3) := by decide +kernel
theorem dX9_bid_36 : decode cX9_bid 36 = .ok (.bipush 8, 2) := by decide +kernel
theorem dX9_bid_38 : decode cX9_bid 38 = .ok (.iload_n 2, 1) := by decide +kernel
theorem dX9_bid_39 : decode cX9_bid 39 = .ok (.imul, 1) := by decide +kernel
theorem dX9_bid_40 : decode cX9_bid 40 = .ok (.iload_n 1, 1) := by decide +kernel
theorem dX9_bid_41 : decode cX9_bid 41 = .ok (.iadd, 1) := by decide +kernel
theorem dX9_bid_42 : decode cX9_bid 42 = .ok (.iaload, 1) := by decide +kernel
theorem dX9_bid_43 : decode cX9_bid 43 = .ok (.ifCond .le 5, 3) := by decide +kernel
theorem dX9_bid_46 : decode cX9_bid 46 = .ok (.iconst (-1), 1) := by decide +kernel
theorem dX9_bid_47 : decode cX9_bid 47 = .ok (.ireturn, 1) := by decide +kernel
theorem dX9_bid_48 : decode cX9_bid 48 = .ok (.iconst 0, 1) := by decide +kernel
theorem dX9_bid_49 : decode cX9_bid 49 = .ok (.istore 4, 2) := by decide +kernel
theorem dX9_bid_51 : decode cX9_bid 51 = .ok (.iload 4, 2) := by decide +kernel
theorem dX9_bid_53 : decode cX9_bid 53 = .ok (.aload_n 0, 1) := by decide +kernel
theorem dX9_bid_54 : decode cX9_bid 54 = .ok (.getfield 41, 3) := by decide +kernel
theorem dX9_bid_57 : decode cX9_bid 57 = .ok (.iload_n 2, 1) := by decide +kernel
theorem dX9_bid_58 : decode cX9_bid 58 = .ok (.iaload, 1) := by decide +kernel
theorem dX9_bid_59 : decode cX9_bid 59 = .ok (.if_icmp .ge 48, 3) := by decide +kernel
theorem dX9_bid_62 : decode cX9_bid 62 = .ok (.aload_n 0, 1) := by decide +kernel
theorem dX9_bid_63 : decode cX9_bid 63 = .ok (.getfield 44, 3) := by decide +kernel
theorem dX9_bid_66 : decode cX9_bid 66 = .ok (.bipush 8, 2) := by decide +kernel
theorem dX9_bid_68 : decode cX9_bid 68 = .ok (.iload_n 2, 1) := by decide +kernel
theorem dX9_bid_69 : decode cX9_bid 69 = .ok (.imul, 1) := by decide +kernel
theorem dX9_bid_70 : decode cX9_bid 70 = .ok (.iload 4, 2) := by decide +kernel
theorem dX9_bid_72 : decode cX9_bid 72 = .ok (.iadd, 1) := by decide +kernel
theorem dX9_bid_73 : decode cX9_bid 73 = .ok (.iaload, 1) := by decide +kernel
theorem dX9_bid_74 : decode cX9_bid 74 = .ok (.iload_n 1, 1) := by decide +kernel
theorem dX9_bid_75 : decode cX9_bid 75 = .ok (.if_icmp .eq 6, 3) := by decide +kernel
theorem dX9_bid_78 : decode cX9_bid 78 = .ok (.goto 23, 3) := by decide +kernel
theorem dX9_bid_81 : decode cX9_bid 81 = .ok (.aload_n 0, 1) := by decide +kernel
theorem dX9_bid_82 : decode cX9_bid 82 = .ok (.getfield 47, 3) := by decide +kernel
theorem dX9_bid_85 : decode cX9_bid 85 = .ok (.bipush 8, 2) := by decide +kernel
theorem dX9_bid_87 : decode cX9_bid 87 = .ok (.iload_n 2, 1) := by decide +kernel
theorem dX9_bid_88 : decode cX9_bid 88 = .ok (.imul, 1) := by decide +kernel
theorem dX9_bid_89 : decode cX9_bid 89 = .ok (.iload 4, 2) := by decide +kernel
theorem dX9_bid_91 : decode cX9_bid 91 = .ok (.iadd, 1) := by decide +kernel
theorem dX9_bid_92 : decode cX9_bid 92 = .ok (.iload_n 3, 1) := by decide +kernel
theorem dX9_bid_93 : decode cX9_bid 93 = .ok (.iastore, 1) := by decide +kernel
theorem dX9_bid_94 : decode cX9_bid 94 = .ok (.aload_n 0, 1) := by decide +kernel
theorem dX9_bid_95 : decode cX9_bid 95 = .ok (.getfield 41, 3) := by decide +kernel
theorem dX9_bid_98 : decode cX9_bid 98 = .ok (.iload_n 2, 1) := by decide +kernel
theorem dX9_bid_99 : decode cX9_bid 99 = .ok (.iaload, 1) := by decide +kernel
theorem dX9_bid_100 : decode cX9_bid 100 = .ok (.ireturn, 1) := by decide +kernel
theorem dX9_bid_101 : decode cX9_bid 101 = .ok (.iinc 4 1, 3) := by decide +kernel
