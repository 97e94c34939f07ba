abbrev MX9_init : ZM := (yX9_init, cX9_init, 1, (Option.none : Option FieldType), 1, 40)
theorem dX9_init_0 : decode cX9_init 0 = .ok (.aload_n 0, 1) := by decide +kernel
theorem dX9_init_1 : decode cX9_init 1 = .ok (.invokespecial 5, 3) := by decide +kernel
theorem dX9_init_4 : decode cX9_init 4 = .ok (.aload_n 0, 1) := by decide +kernel
theorem dX9_init_5 : decode cX9_init 5 = .ok (.sipush 1184, 3) := by decide +kernel
theorem dX9_init_8 : decode cX9_init 8 = .ok (.newarray .int, 2) := by decide +kernel
theorem dX9_init_10 : decode cX9_init 10 = .ok (.putfield 11, 3) := by decide +kernel
theorem dX9_init_13 : decode cX9_init 13 = .ok (.aload_n 0, 1) := by decide +kernel
theorem dX9_init_14 : decode cX9_init 14 = .ok (.bipush 74, 2) := by decide +kernel
theorem dX9_init_16 : decode cX9_init 16 = .ok (.newarray .int, 2) := by decide +kernel
theorem dX9_init_18 : decode cX9_init 18 = .ok (.putfield 15, 3) := by decide +kernel
theorem dX9_init_21 : decode cX9_init 21 = .ok (.aload_n 0, 1) := by decide +kernel
theorem dX9_init_22 : decode cX9_init 22 = .ok (.bipush 30, 2) := by decide +kernel
theorem dX9_init_24 : decode cX9_init 24 = .ok (.newarray .int, 2) := by decide +kernel
theorem dX9_init_26 : decode cX9_init 26 = .ok (.putfield 18, 3) := by decide +kernel
theorem dX9_init_29 : decode cX9_init 29 = .ok (.aload_n 0, 1) := by decide +kernel
theorem dX9_init_30 : decode cX9_init 30 = .ok (.bipush 30, 2) := by decide +kernel
theorem dX9_init_32 : decode cX9_init 32 = .ok (.newarray .int, 2) := by decide +kernel
theorem dX9_init_34 : decode cX9_init 34 = .ok (.putfield 21, 3) := by decide +kernel
theorem dX9_init_37 : decode cX9_init 37 = .ok (.aload_n 0, 1) := by decide +kernel
theorem dX9_init_38 : decode cX9_init 38 = .ok (.bipush 30, 2) := by decide +kernel
theorem dX9_init_40 : decode cX9_init 40 = .ok (.newarray .int, 2) := by decide +kernel
theorem dX9_init_42 : decode cX9_init 42 = .ok (.putfield 24, 3) := by decide +kernel
theorem dX9_init_45 : decode cX9_init 45 = .ok (.aload_n 0, 1) := by decide +kernel
theorem dX9_init_46 : decode cX9_init 46 = .ok (.bipush 30, 2) := by decide +kernel
theorem dX9_init_48 : decode cX9_init 48 = .ok (.newarray .int, 2) := by decide +kernel
theorem dX9_init_50 : decode cX9_init 50 = .ok (.putfield 27, 3) := by decide +kernel
theorem dX9_init_53 : decode cX9_init 53 = .ok (.aload_n 0, 1) := by decide +kernel
theorem dX9_init_54 : decode cX9_init 54 = .ok (.bipush 16, 2) := by decide +kernel
theorem dX9_init_56 : decode cX9_init 56 = .ok (.newarray .long, 2) := by decide +kernel
theorem dX9_init_58 : decode cX9_init 58 = .ok (.putfield 30, 3) := by decide +kernel
theorem dX9_init_61 : decode cX9_init 61 = .ok (.aload_n 0, 1) := by decide +kernel
theorem dX9_init_62 : decode cX9_init 62 = .ok (.iconst 4, 1) := by decide +kernel
theorem dX9_init_63 : decode cX9_init 63 = .ok (.newarray .long, 2) := by decide +kernel
theorem dX9_init_65 : decode cX9_init 65 = .ok (.putfield 34, 3) := by decide +kernel
theorem dX9_init_68 : decode cX9_init 68 = .ok (.aload_n 0, 1) := by decide +kernel
theorem dX9_init_69 : decode cX9_init 69 = .ok (.iconst 4, 1) := by decide +kernel
theorem dX9_init_70 : decode cX9_init 70 = .ok (.newarray .long, 2) := by decide +kernel
theorem dX9_init_72 : decode cX9_init 72 = .ok (.putfield 37, 3) := by decide +kernel
theorem dX9_init_75 : decode cX9_init 75 = .ok (.aload_n 0, 1) := by decide +kernel
theorem dX9_init_76 : decode cX9_init 76 = .ok (.bipush 101, 2) := by decide +kernel
theorem dX9_init_78 : decode cX9_init 78 = .ok (.newarray .int, 2) := by decide +kernel
theorem dX9_init_80 : decode cX9_init 80 = .ok (.putfield 40, 3) := by decide +kernel
theorem dX9_init_83 : decode cX9_init 83 = .ok (.aload_n 0, 1) := by decide +kernel
theorem dX9_init_84 : decode cX9_init 84 = .ok (.bipush 101, 2) := by decide +kernel
theorem dX9_init_86 : decode cX9_init 86 = .ok (.newarray .int, 2) := by decide +kernel
theorem dX9_init_88 : decode cX9_init 88 = .ok (.putfield 43, 3) := by decide +kernel
theorem dX9_init_91 : decode cX9_init 91 = .ok (.aload_n 0, 1) := by decide +kernel
theorem dX9_init_92 : decode cX9_init 92 = .ok (.sipush 404, 3) := by decide +kernel
theorem dX9_init_95 : decode cX9_init 95 = .ok (.newarray .int, 2) := by decide +kernel
theorem dX9_init_97 : decode cX9_init 97 = .ok (.putfield 46, 3) := by decide +kernel
theorem dX9_init_100 : decode cX9_init 100 = .ok (.aload_n 0, 1) := by decide +kernel
theorem dX9_init_101 : decode cX9_init 101 = .ok (.bipush 17, 2) := by decide +kernel
theorem dX9_init_103 : decode cX9_init 103 = .ok (.newarray .int, 2) := by decide +kernel
theorem dX9_init_105 : decode cX9_init 105 = .ok (.putfield 49, 3) := by decide +kernel
theorem dX9_init_108 : decode cX9_init 108 = .ok (.aload_n 0, 1) := by decide +kernel
theorem dX9_init_109 : decode cX9_init 109 = .ok (.bipush 33, 2) := by decide +kernel
theorem dX9_init_111 : decode cX9_init 111 = .ok (.newarray .int, 2) := by decide +kernel
theorem dX9_init_113 : decode cX9_init 113 = .ok (.dup, 1) := by decide +kernel
theorem dX9_init_114 : decode cX9_init 114 = .ok (.iconst 0, 1) := by decide +kernel
theorem dX9_init_115 : decode cX9_init 115 = .ok (.iconst 1, 1) := by decide +kernel
theorem dX9_init_116 : decode cX9_init 116 = .ok (.iastore, 1) := by decide +kernel
theorem dX9_init_117 : decode cX9_init 117 = .ok (.dup, 1) := by decide +kernel
theorem dX9_init_118 : decode cX9_init 118 = .ok (.iconst 1, 1) := by decide +kernel
theorem dX9_init_119 : decode cX9_init 119 = .ok (.iconst 2, 1) := by decide +kernel
theorem dX9_init_120 : decode cX9_init 120 = .ok (.iastore, 1) := by decide +kernel
theorem dX9_init_121 : decode cX9_init 121 = .ok (.dup, 1) := by decide +kernel
theorem dX9_init_122 : decode cX9_init 122 = .ok (.iconst 2, 1) := by decide +kernel
theorem dX9_init_123 : decode cX9_init 123 = .ok (.iconst 3, 1) := by decide +kernel
theorem dX9_init_124 : decode cX9_init 124 = .ok (.iastore, 1) := by decide +kernel
theorem dX9_init_125 : decode cX9_init 125 = .ok (.dup, 1) := by decide +kernel
theorem dX9_init_126 : decode cX9_init 126 = .ok (.iconst 3, 1) := by decide +kernel
theorem dX9_init_127 : decode cX9_init 127 = .ok (.iconst 5, 1) := by decide +kernel
theorem dX9_init_128 : decode cX9_init 128 = .ok (.iastore, 1) := by decide +kernel
theorem dX9_init_129 : decode cX9_init 129 = .ok (.dup, 1) := by decide +kernel
theorem dX9_init_130 : decode cX9_init 130 = .ok (.iconst 4, 1) := by decide +kernel
theorem dX9_init_131 : decode cX9_init 131 = .ok (.bipush 6, 2) := by decide +kernel
theorem dX9_init_133 : decode cX9_init 133 = .ok (.iastore, 1) := by decide +kernel
theorem dX9_init_134 : decode cX9_init 134 = .ok (.dup, 1) := by decide +kernel
theorem dX9_init_135 : decode cX9_init 135 = .ok (.iconst 5, 1) := by decide +kernel
theorem dX9_init_136 : decode cX9_init 136 = .ok (.bipush 7, 2) := by decide +kernel
theorem dX9_init_138 : decode cX9_init 138 = .ok (.iastore, 1) := by decide +kernel
theorem dX9_init_139 : decode cX9_init 139 = .ok (.dup, 1) := by decide +kernel
theorem dX9_init_140 : decode cX9_init 140 = .ok (.bipush 6, 2) := by decide +kernel
theorem dX9_init_142 : decode cX9_init 142 = .ok (.bipush 10, 2) := by decide +kernel
theorem dX9_init_144 : decode cX9_init 144 = .ok (.iastore, 1) := by decide +kernel
theorem dX9_init_145 : decode cX9_init 145 = .ok (.dup, 1) := by decide +kernel
theorem dX9_init_146 : decode cX9_init 146 = .ok (.bipush 7, 2) := by decide +kernel
theorem dX9_init_148 : decode cX9_init 148 = .ok (.bipush 14, 2) := by decide +kernel
theorem dX9_init_150 : decode cX9_init 150 = .ok (.iastore, 1) := by decide +kernel
theorem dX9_init_151 : decode cX9_init 151 = .ok (.dup, 1) := by decide +kernel
theorem dX9_init_152 : decode cX9_init 152 = .ok (.bipush 8, 2) := by decide +kernel
theorem dX9_init_154 : decode cX9_init 154 = .ok (.bipush 15, 2) := by decide +kernel
theorem dX9_init_156 : decode cX9_init 156 = .ok (.iastore, 1) := by decide +kernel
theorem dX9_init_157 : decode cX9_init 157 = .ok (.dup, 1) := by decide +kernel
theorem dX9_init_158 : decode cX9_init 158 = .ok (.bipush 9, 2) := by decide +kernel
theorem dX9_init_160 : decode cX9_init 160 = .ok (.iconst 1, 1) := by decide +kernel
theorem dX9_init_161 : decode cX9_init 161 = .ok (.iastore, 1) := by decide +kernel
theorem dX9_init_162 : decode cX9_init 162 = .ok (.dup, 1) := by decide +kernel
theorem dX9_init_163 : decode cX9_init 163 = .ok (.bipush 10, 2) := by decide +kernel
theorem dX9_init_165 : decode cX9_init 165 = .ok (.iconst 3, 1) := by decide +kernel
theorem dX9_init_166 : decode cX9_init 166 = .ok (.iastore, 1) := by decide +kernel
theorem dX9_init_167 : decode cX9_init 167 = .ok (.dup, 1) := by decide +kernel
theorem dX9_init_168 : decode cX9_init 168 = .ok (.bipush 11, 2) := by decide +kernel
theorem dX9_init_170 : decode cX9_init 170 = .ok (.iconst 5, 1) := by decide +kernel
theorem dX9_init_171 : decode cX9_init 171 = .ok (.iastore, 1) := by decide +kernel
theorem dX9_init_172 : decode cX9_init 172 = .ok (.dup, 1) := by decide +kernel
theorem dX9_init_173 : decode cX9_init 173 = .ok (.bipush 12, 2) := by decide +kernel
theorem dX9_init_175 : decode cX9_init 175 = .ok (.bipush 7, 2) := by decide +kernel
theorem dX9_init_177 : decode cX9_init 177 = .ok (.iastore, 1) := by decide +kernel
theorem dX9_init_178 : decode cX9_init 178 = .ok (.dup, 1) := by decide +kernel
theorem dX9_init_179 : decode cX9_init 179 = .ok (.bipush 13, 2) := by decide +kernel
theorem dX9_init_181 : decode cX9_init 181 = .ok (.bipush 11, 2) := by decide +kernel
theorem dX9_init_183 : decode cX9_init 183 = .ok (.iastore, 1) := by decide +kernel
theorem dX9_init_184 : decode cX9_init 184 = .ok (.dup, 1) := by decide +kernel
theorem dX9_init_185 : decode cX9_init 185 = .ok (.bipush 14, 2) := by decide +kernel
theorem dX9_init_187 : decode cX9_init 187 = .ok (.bipush 15, 2) := by decide +kernel
theorem dX9_init_189 : decode cX9_init 189 = .ok (.iastore, 1) := by decide +kernel
theorem dX9_init_190 : decode cX9_init 190 = .ok (.dup, 1) := by decide +kernel
theorem dX9_init_191 : decode cX9_init 191 = .ok (.bipush 15, 2) := by decide +kernel
theorem dX9_init_193 : decode cX9_init 193 = .ok (.bipush 33, 2) := by decide +kernel
theorem dX9_init_195 : decode cX9_init 195 = .ok (.iastore, 1) := by decide +kernel
theorem dX9_init_196 : decode cX9_init 196 = .ok (.dup, 1) := by decide +kernel
theorem dX9_init_197 : decode cX9_init 197 = .ok (.bipush 16, 2) := by decide +kernel
theorem dX9_init_199 : decode cX9_init 199 = .ok (.iconst 2, 1) := by decide +kernel
theorem dX9_init_200 : decode cX9_init 200 = .ok (.iastore, 1) := by decide +kernel
theorem dX9_init_201 : decode cX9_init 201 = .ok (.dup, 1) := by decide +kernel
theorem dX9_init_202 : decode cX9_init 202 = .ok (.bipush 17, 2) := by decide +kernel
theorem dX9_init_204 : decode cX9_init 204 = .ok (.iconst 3, 1) := by decide +kernel
theorem dX9_init_205 : decode cX9_init 205 = .ok (.iastore, 1) := by decide +kernel
theorem dX9_init_206 : decode cX9_init 206 = .ok (.dup, 1) := by decide +kernel
theorem dX9_init_207 : decode cX9_init 207 = .ok (.bipush 18, 2) := by decide +kernel
theorem dX9_init_209 : decode cX9_init 209 = .ok (.iconst 5, 1) := by decide +kernel
theorem dX9_init_210 : decode cX9_init 210 = .ok (.iastore, 1) := by decide +kernel
theorem dX9_init_211 : decode cX9_init 211 = .ok (.dup, 1) := by decide +kernel
theorem dX9_init_212 : decode cX9_init 212 = .ok (.bipush 19, 2) := by decide +kernel
theorem dX9_init_214 : decode cX9_init 214 = .ok (.bipush 7, 2) := by decide +kernel
theorem dX9_init_216 : decode cX9_init 216 = .ok (.iastore, 1) := by decide +kernel
theorem dX9_init_217 : decode cX9_init 217 = .ok (.dup, 1) := by decide +kernel
theorem dX9_init_218 : decode cX9_init 218 = .ok (.bipush 20, 2) := by decide +kernel
theorem dX9_init_220 : decode cX9_init 220 = .ok (.bipush 11, 2) := by decide +kernel
theorem dX9_init_222 : decode cX9_init 222 = .ok (.iastore, 1) := by decide +kernel
theorem dX9_init_223 : decode cX9_init 223 = .ok (.dup, 1) := by decide +kernel
theorem dX9_init_224 : decode cX9_init 224 = .ok (.bipush 21, 2) := by decide +kernel
theorem dX9_init_226 : decode cX9_init 226 = .ok (.bipush 13, 2) := by decide +kernel
theorem dX9_init_228 : decode cX9_init 228 = .ok (.iastore, 1) := by decide +kernel
theorem dX9_init_229 : decode cX9_init 229 = .ok (.dup, 1) := by decide +kernel
theorem dX9_init_230 : decode cX9_init 230 = .ok (.bipush 22, 2) := by decide +kernel
theorem dX9_init_232 : decode cX9_init 232 = .ok (.bipush 17, 2) := by decide +kernel
theorem dX9_init_234 : decode cX9_init 234 = .ok (.iastore, 1) := by decide +kernel
theorem dX9_init_235 : decode cX9_init 235 = .ok (.dup, 1) := by decide +kernel
theorem dX9_init_236 : decode cX9_init 236 = .ok (.bipush 23, 2) := by decide +kernel
theorem dX9_init_238 : decode cX9_init 238 = .ok (.bipush 19, 2) := by decide +kernel
theorem dX9_init_240 : decode cX9_init 240 = .ok (.iastore, 1) := by decide +kernel
theorem dX9_init_241 : decode cX9_init 241 = .ok (.dup, 1) := by decide +kernel
theorem dX9_init_242 : decode cX9_init 242 = .ok (.bipush 24, 2) := by decide +kernel
theorem dX9_init_244 : decode cX9_init 244 = .ok (.bipush 23, 2) := by decide +kernel
theorem dX9_init_246 : decode cX9_init 246 = .ok (.iastore, 1) := by decide +kernel
theorem dX9_init_247 : decode cX9_init 247 = .ok (.dup, 1) := by decide +kernel
theorem dX9_init_248 : decode cX9_init 248 = .ok (.bipush 25, 2) := by decide +kernel
theorem dX9_init_250 : decode cX9_init 250 = .ok (.bipush 29, 2) := by decide +kernel
theorem dX9_init_252 : decode cX9_init 252 = .ok (.iastore, 1) := by decide +kernel
theorem dX9_init_253 : decode cX9_init 253 = .ok (.dup, 1) := by decide +kernel
theorem dX9_init_254 : decode cX9_init 254 = .ok (.bipush 26, 2) := by decide +kernel
theorem dX9_init_256 : decode cX9_init 256 = .ok (.bipush 31, 2) := by decide +kernel
theorem dX9_init_258 : decode cX9_init 258 = .ok (.iastore, 1) := by decide +kernel
theorem dX9_init_259 : decode cX9_init 259 = .ok (.dup, 1) := by decide +kernel
theorem dX9_init_260 : decode cX9_init 260 = .ok (.bipush 27, 2) := by decide +kernel
theorem dX9_init_262 : decode cX9_init 262 = .ok (.bipush 37, 2) := by decide +kernel
theorem dX9_init_264 : decode cX9_init 264 = .ok (.iastore, 1) := by decide +kernel
theorem dX9_init_265 : decode cX9_init 265 = .ok (.dup, 1) := by decide +kernel
theorem dX9_init_266 : decode cX9_init 266 = .ok (.bipush 28, 2) := by decide +kernel
theorem dX9_init_268 : decode cX9_init 268 = .ok (.bipush 41, 2) := by decide +kernel
theorem dX9_init_270 : decode cX9_init 270 = .ok (.iastore, 1) := by decide +kernel
theorem dX9_init_271 : decode cX9_init 271 = .ok (.dup, 1) := by decide +kernel
theorem dX9_init_272 : decode cX9_init 272 = .ok (.bipush 29, 2) := by decide +kernel
theorem dX9_init_274 : decode cX9_init 274 = .ok (.bipush 43, 2) := by decide +kernel
theorem dX9_init_276 : decode cX9_init 276 = .ok (.iastore, 1) := by decide +kernel
theorem dX9_init_277 : decode cX9_init 277 = .ok (.dup, 1) := by decide +kernel
theorem dX9_init_278 : decode cX9_init 278 = .ok (.bipush 30, 2) := by decide +kernel
theorem dX9_init_280 : decode cX9_init 280 = .ok (.bipush 47, 2) := by decide +kernel
theorem dX9_init_282 : decode cX9_init 282 = .ok (.iastore, 1) := by decide +kernel
theorem dX9_init_283 : decode cX9_init 283 = .ok (.dup, 1) := by decide +kernel
theorem dX9_init_284 : decode cX9_init 284 = .ok (.bipush 31, 2) := by decide +kernel
theorem dX9_init_286 : decode cX9_init 286 = .ok (.bipush 67, 2) := by decide +kernel
theorem dX9_init_288 : decode cX9_init 288 = .ok (.iastore, 1) := by decide +kernel
theorem dX9_init_289 : decode cX9_init 289 = .ok (.dup, 1) := by decide +kernel
theorem dX9_init_290 : decode cX9_init 290 = .ok (.bipush 32, 2) := by decide +kernel
theorem dX9_init_292 : decode cX9_init 292 = .ok (.bipush 73, 2) := by decide +kernel
theorem dX9_init_294 : decode cX9_init 294 = .ok (.iastore, 1) := by decide +kernel
theorem dX9_init_295 : decode cX9_init 295 = .ok (.putfield 52, 3) := by decide +kernel
theorem dX9_init_298 : decode cX9_init 298 = .ok (.aload_n 0, 1) := by decide +kernel
theorem dX9_init_299 : decode cX9_init 299 = .ok (.iconst 3, 1) := by decide +kernel
theorem dX9_init_300 : decode cX9_init 300 = .ok (.newarray .int, 2) := by decide +kernel
theorem dX9_init_302 : decode cX9_init 302 = .ok (.putfield 55, 3) := by decide +kernel
theorem dX9_init_305 : decode cX9_init 305 = .ok (.aload_n 0, 1) := by decide +kernel
theorem dX9_init_306 : decode cX9_init 306 = .ok (.iconst 3, 1) := by decide +kernel
theorem dX9_init_307 : decode cX9_init 307 = .ok (.newarray .int, 2) := by decide +kernel
theorem dX9_init_309 : decode cX9_init 309 = .ok (.putfield 58, 3) := by decide +kernel
theorem dX9_init_312 : decode cX9_init 312 = .ok (.aload_n 0, 1) := by decide +kernel
theorem dX9_init_313 : decode cX9_init 313 = .ok (.bipush 30, 2) := by decide +kernel
theorem dX9_init_315 : decode cX9_init 315 = .ok (.newarray .int, 2) := by decide +kernel
theorem dX9_init_317 : decode cX9_init 317 = .ok (.putfield 61, 3) := by decide +kernel
theorem dX9_init_320 : decode cX9_init 320 = .ok (.aload_n 0, 1) := by decide +kernel
theorem dX9_init_321 : decode cX9_init 321 = .ok (.bipush 30, 2) := by decide +kernel
theorem dX9_init_323 : decode cX9_init 323 = .ok (.newarray .int, 2) := by decide +kernel
theorem dX9_init_325 : decode cX9_init 325 = .ok (.putfield 64, 3) := by decide +kernel
theorem dX9_init_328 : decode cX9_init 328 = .ok (.aload_n 0, 1) := by decide +kernel
theorem dX9_init_329 : decode cX9_init 329 = .ok (.bipush 30, 2) := by decide +kernel
theorem dX9_init_331 : decode cX9_init 331 = .ok (.newarray .int, 2) := by decide +kernel
theorem dX9_init_333 : decode cX9_init 333 = .ok (.putfield 67, 3) := by decide +kernel
theorem dX9_init_336 : decode cX9_init 336 = .ok (.aload_n 0, 1) := by decide +kernel
theorem dX9_init_337 : decode cX9_init 337 = .ok (.bipush 30, 2) := by decide +kernel
theorem dX9_init_339 : decode cX9_init 339 = .ok (.newarray .int, 2) := by decide +kernel
theorem dX9_init_341 : decode cX9_init 341 = .ok (.putfield 70, 3) := by decide +kernel
theorem dX9_init_344 : decode cX9_init 344 = .ok (.aload_n 0, 1) := by decide +kernel
theorem dX9_init_345 : decode cX9_init 345 = .ok (.iconst 4, 1) := by decide +kernel
theorem dX9_init_346 : decode cX9_init 346 = .ok (.newarray .int, 2) := by decide +kernel
theorem dX9_init_348 : decode cX9_init 348 = .ok (.dup, 1) := by decide +kernel
theorem dX9_init_349 : decode cX9_init 349 = .ok (.iconst 0, 1) := by decide +kernel
theorem dX9_init_350 : decode cX9_init 350 = .ok (.iconst (-1), 1) := by decide +kernel
theorem dX9_init_351 : decode cX9_init 351 = .ok (.iastore, 1) := by decide +kernel
theorem dX9_init_352 : decode cX9_init 352 = .ok (.dup, 1) := by decide +kernel
theorem dX9_init_353 : decode cX9_init 353 = .ok (.iconst 1, 1) := by decide +kernel
theorem dX9_init_354 : decode cX9_init 354 = .ok (.iconst (-1), 1) := by decide +kernel
theorem dX9_init_355 : decode cX9_init 355 = .ok (.iastore, 1) := by decide +kernel
theorem dX9_init_356 : decode cX9_init 356 = .ok (.dup, 1) := by decide +kernel
theorem dX9_init_357 : decode cX9_init 357 = .ok (.iconst 2, 1) := by decide +kernel
theorem dX9_init_358 : decode cX9_init 358 = .ok (.iconst (-1), 1) := by decide +kernel
theorem dX9_init_359 : decode cX9_init 359 = .ok (.iastore, 1) := by decide +kernel
theorem dX9_init_360 : decode cX9_init 360 = .ok (.dup, 1) := by decide +kernel
theorem dX9_init_361 : decode cX9_init 361 = .ok (.iconst 3, 1) := by decide +kernel
theorem dX9_init_362 : decode cX9_init 362 = .ok (.iconst (-1), 1) := by decide +kernel
theorem dX9_init_363 : decode cX9_init 363 = .ok (.iastore, 1) := by decide +kernel
theorem dX9_init_364 : decode cX9_init 364 = .ok (.putfield 73, 3) := by decide +kernel
theorem dX9_init_367 : decode cX9_init 367 = .ok (.aload_n 0, 1) := by decide +kernel
theorem dX9_init_368 : decode cX9_init 368 = .ok (.iconst 4, 1) := by decide +kernel
theorem dX9_init_369 : decode cX9_init 369 = .ok (.newarray .int, 2) := by decide +kernel
theorem dX9_init_371 : decode cX9_init 371 = .ok (.putfield 76, 3) := by decide +kernel
theorem dX9_init_374 : decode cX9_init 374 = .ok (.aload_n 0, 1) := by decide +kernel
theorem dX9_init_375 : decode cX9_init 375 = .ok (.sipush 160, 3) := by decide +kernel
theorem dX9_init_378 : decode cX9_init 378 = .ok (.newarray .int, 2) := by decide +kernel
theorem dX9_init_380 : decode cX9_init 380 = .ok (.putfield 79, 3) := by decide +kernel
theorem dX9_init_383 : decode cX9_init 383 = .ok (.aload_n 0, 1) := by decide +kernel
theorem dX9_init_384 : decode cX9_init 384 = .ok (.iconst 0, 1) := by decide +kernel
theorem dX9_init_385 : decode cX9_init 385 = .ok (.putfield 82, 3) := by decide +kernel
theorem dX9_init_388 : decode cX9_init 388 = .ok (.return_, 1) := by decide +kernel
abbrev MX9_in : ZM := (yX9_in, cX9_in, 6, (Option.some FieldType.boolean), 0, 0)
theorem dX9_in_0 : decode cX9_in 0 = .ok (.lload_n 0, 1) := by decide +kernel
theorem dX9_in_1 : decode cX9_in 1 = .ok (.lload_n 2, 1) := by decide +kernel
theorem dX9_in_2 : decode cX9_in 2 = .ok (.lcmp, 1) := by decide +kernel
theorem dX9_in_3 : decode cX9_in 3 = .ok (.ifCond .lt 14, 3) := by decide +kernel
theorem dX9_in_6 : decode cX9_in 6 = .ok (.lload_n 0, 1) := by decide +kernel
theorem dX9_in_7 : decode cX9_in 7 = .ok (.lload 4, 2) := by decide +kernel
theorem dX9_in_9 : decode cX9_in 9 = .ok (.lcmp, 1) := by decide +kernel
theorem dX9_in_10 : decode cX9_in 10 = .ok (.ifCond .gt 7, 3) := by decide +kernel
theorem dX9_in_13 : decode cX9_in 13 = .ok (.iconst 1, 1) := by decide +kernel
theorem dX9_in_14 : decode cX9_in 14 = .ok (.goto 4, 3) := by decide +kernel
theorem dX9_in_17 : decode cX9_in 17 = .ok (.iconst 0, 1) := by decide +kernel
theorem dX9_in_18 : decode cX9_in 18 = .ok (.ireturn, 1) := by decide +kernel
abbrev MX9_size : ZM := (yX9_size, cX9_size, 1, (Option.some FieldType.int), 0, 0)
theorem dX9_size_0 : decode cX9_size 0 = .ok (.iload_n 0, 1) := by decide +kernel
theorem dX9_size_1 : decode cX9_size 1 = .ok (.ifCond .ge 8, 3) := by decide +kernel
theorem dX9_size_4 : decode cX9_size 4 = .ok (.iload_n 0, 1) := by decide +kernel
theorem dX9_size_5 : decode cX9_size 5 = .ok (.ineg, 1) := by decide +kernel
theorem dX9_size_6 : decode cX9_size 6 = .ok (.goto 4, 3) := by decide +kernel
theorem dX9_size_9 : decode cX9_size 9 = .ok (.iload_n 0, 1) := by decide +kernel
theorem dX9_size_10 : decode cX9_size 10 = .ok (.ireturn, 1) := by decide +kernel
abbrev MX9_entryAt : ZM := (yX9_entryAt, cX9_entryAt, 4, (Option.some FieldType.int), 0, 0)
theorem dX9_entryAt_0 : decode cX9_entryAt 0 = .ok (.aload_n 0, 1) := by decide +kernel
theorem dX9_entryAt_1 : decode cX9_entryAt 1 = .ok (.getfield 11, 3) := by decide +kernel
theorem dX9_entryAt_4 : decode cX9_entryAt 4 = .ok (.bipush 16, 2) := by decide +kernel
theorem dX9_entryAt_6 : decode cX9_entryAt 6 = .ok (.iload_n 1, 1) := by decide +kernel
theorem dX9_entryAt_7 : decode cX9_entryAt 7 = .ok (.imul, 1) := by decide +kernel
theorem dX9_entryAt_8 : decode cX9_entryAt 8 = .ok (.iconst 4, 1) := by decide +kernel
theorem dX9_entryAt_9 : decode cX9_entryAt 9 = .ok (.iload_n 2, 1) := by decide +kernel
theorem dX9_entryAt_10 : decode cX9_entryAt 10 = .ok (.imul, 1) := by decide +kernel
theorem dX9_entryAt_11 : decode cX9_entryAt 11 = .ok (.iadd, 1) := by decide +kernel
theorem dX9_entryAt_12 : decode cX9_entryAt 12 = .ok (.iload_n 3, 1) := by decide +kernel
theorem dX9_entryAt_13 : decode cX9_entryAt 13 = .ok (.iadd, 1) := by decide +kernel
theorem dX9_entryAt_14 : decode cX9_entryAt 14 = .ok (.iaload, 1) := by decide +kernel
theorem dX9_entryAt_15 : decode cX9_entryAt 15 = .ok (.ireturn, 1) := by decide +kernel
abbrev MX9_layEntry : ZM := (yX9_layEntry, cX9_layEntry, 5, (Option.none : Option FieldType), 0, 0)
theorem dX9_layEntry_0 : decode cX9_layEntry 0 = .ok (.aload_n 0, 1) := by decide +kernel
theorem dX9_layEntry_1 : decode cX9_layEntry 1 = .ok (.getfield 11, 3) := by decide +kernel
theorem dX9_layEntry_4 : decode cX9_layEntry 4 = .ok (.bipush 16, 2) := by decide +kernel
theorem dX9_layEntry_6 : decode cX9_layEntry 6 = .ok (.iload_n 1, 1) := by decide +kernel
theorem dX9_layEntry_7 : decode cX9_layEntry 7 = .ok (.imul, 1) := by decide +kernel
theorem dX9_layEntry_8 : decode cX9_layEntry 8 = .ok (.iconst 4, 1) := by decide +kernel
theorem dX9_layEntry_9 : decode cX9_layEntry 9 = .ok (.iload_n 2, 1) := by decide +kernel
theorem dX9_layEntry_10 : decode cX9_layEntry 10 = .ok (.imul, 1) := by decide +kernel
theorem dX9_layEntry_11 : decode cX9_layEntry 11 = .ok (.iadd, 1) := by decide +kernel
theorem dX9_layEntry_12 : decode cX9_layEntry 12 = .ok (.iload_n 3, 1) := by decide +kernel
theorem dX9_layEntry_13 : decode cX9_layEntry 13 = .ok (.iadd, 1) := by decide +kernel
theorem dX9_layEntry_14 : decode cX9_layEntry 14 = .ok (.iload 4, 2) := by decide +kernel
theorem dX9_layEntry_16 : decode cX9_layEntry 16 = .ok (.iastore, 1) := by decide +kernel
theorem dX9_layEntry_17 : decode cX9_layEntry 17 = .ok (.aload_n 0, 1) := by decide +kernel
theorem dX9_layEntry_18 : decode cX9_layEntry 18 = .ok (.getfield 11, 3) := by decide +kernel
theorem dX9_layEntry_21 : decode cX9_layEntry 21 = .ok (.bipush 16, 2) := by decide +kernel
theorem dX9_layEntry_23 : decode cX9_layEntry 23 = .ok (.iload_n 1, 1) := by decide +kernel
theorem dX9_layEntry_24 : decode cX9_layEntry 24 = .ok (.imul, 1) := by decide +kernel
theorem dX9_layEntry_25 : decode cX9_layEntry 25 = .ok (.iconst 4, 1) := by decide +kernel
theorem dX9_layEntry_26 : decode cX9_layEntry 26 = .ok (.iload_n 3, 1) := by decide +kernel
theorem dX9_layEntry_27 : decode cX9_layEntry 27 = .ok (.imul, 1) := by decide +kernel
theorem dX9_layEntry_28 : decode cX9_layEntry 28 = .ok (.iadd, 1) := by decide +kernel
theorem dX9_layEntry_29 : decode cX9_layEntry 29 = .ok (.iload_n 2, 1) := by decide +kernel
theorem dX9_layEntry_30 : decode cX9_layEntry 30 = .ok (.iadd, 1) := by decide +kernel
theorem dX9_layEntry_31 : decode cX9_layEntry 31 = .ok (.iload 4, 2) := by decide +kernel
theorem dX9_layEntry_33 : decode cX9_layEntry 33 = .ok (.iastore, 1) := by decide +kernel
theorem dX9_layEntry_34 : decode cX9_layEntry 34 = .ok (.return_, 1) := by decide +kernel
abbrev MX9_clearAt : ZM := (yX9_clearAt, cX9_clearAt, 3, (Option.none : Option FieldType), 0, 0)
theorem dX9_clearAt_0 : decode cX9_clearAt 0 = .ok (.aload_n 0, 1) := by decide +kernel
theorem dX9_clearAt_1 : decode cX9_clearAt 1 = .ok (.getfield 15, 3) := by decide +kernel
theorem dX9_clearAt_4 : decode cX9_clearAt 4 = .ok (.iload_n 1, 1) := by decide +kernel
theorem dX9_clearAt_5 : decode cX9_clearAt 5 = .ok (.iconst 0, 1) := by decide +kernel
theorem dX9_clearAt_6 : decode cX9_clearAt 6 = .ok (.iastore, 1) := by decide +kernel
theorem dX9_clearAt_7 : decode cX9_clearAt 7 = .ok (.iconst 0, 1) := by decide +kernel
theorem dX9_clearAt_8 : decode cX9_clearAt 8 = .ok (.istore_n 2, 1) := by decide +kernel
theorem dX9_clearAt_9 : decode cX9_clearAt 9 = .ok (.iload_n 2, 1) := by decide +kernel
theorem dX9_clearAt_10 : decode cX9_clearAt 10 = .ok (.bipush 16, 2) := by decide +kernel
theorem dX9_clearAt_12 : decode cX9_clearAt 12 = .ok (.if_icmp .ge 21, 3) := by decide +kernel
theorem dX9_clearAt_15 : decode cX9_clearAt 15 = .ok (.aload_n 0, 1) := by decide +kernel
theorem dX9_clearAt_16 : decode cX9_clearAt 16 = .ok (.getfield 11, 3) := by decide +kernel
theorem dX9_clearAt_19 : decode cX9_clearAt 19 = .ok (.bipush 16, 2) := by decide +kernel
theorem dX9_clearAt_21 : decode cX9_clearAt 21 = .ok (.iload_n 1, 1) := by decide +kernel
theorem dX9_clearAt_22 : decode cX9_clearAt 22 = .ok (.imul, 1) := by decide +kernel
theorem dX9_clearAt_23 : decode cX9_clearAt 23 = .ok (.iload_n 2, 1) := by decide +kernel
theorem dX9_clearAt_24 : decode cX9_clearAt 24 = .ok (.iadd, 1) := by decide +kernel
theorem dX9_clearAt_25 : decode cX9_clearAt 25 = .ok (.iconst 0, 1) := by decide +kernel
theorem dX9_clearAt_26 : decode cX9_clearAt 26 = .ok (.iastore, 1) := by decide +kernel
theorem dX9_clearAt_27 : decode cX9_clearAt 27 = .ok (.iinc 2 1, 3) := by decide +kernel
theorem dX9_clearAt_30 : decode cX9_clearAt 30 = .ok (.goto (-21), 3) := by decide +kernel
theorem dX9_clearAt_33 : decode cX9_clearAt 33 = .ok (.return_, 1) := by decide +kernel
abbrev MX9_copyTo : ZM := (yX9_copyTo, cX9_copyTo, 4, (Option.none : Option FieldType), 0, 0)
theorem dX9_copyTo_0 : decode cX9_copyTo 0 = .ok (.aload_n 0, 1) := by decide +kernel
theorem dX9_copyTo_1 : decode cX9_copyTo 1 = .ok (.getfield 15, 3) := by decide +kernel
theorem dX9_copyTo_4 : decode cX9_copyTo 4 = .ok (.iload_n 2, 1) := by decide +kernel
theorem dX9_copyTo_5 : decode cX9_copyTo 5 = .ok (.aload_n 0, 1) := by decide +kernel
theorem dX9_copyTo_6 : decode cX9_copyTo 6 = .ok (.getfield 15, 3) := by decide +kernel
theorem dX9_copyTo_9 : decode cX9_copyTo 9 = .ok (.iload_n 1, 1) := by decide +kernel
theorem dX9_copyTo_10 : decode cX9_copyTo 10 = .ok (.iaload, 1) := by decide +kernel
theorem dX9_copyTo_11 : decode cX9_copyTo 11 = .ok (.iastore, 1) := by decide +kernel
theorem dX9_copyTo_12 : decode cX9_copyTo 12 = .ok (.iconst 0, 1) := by decide +kernel
theorem dX9_copyTo_13 : decode cX9_copyTo 13 = .ok (.istore_n 3, 1) := by decide +kernel
theorem dX9_copyTo_14 : decode cX9_copyTo 14 = .ok (.iload_n 3, 1) := by decide +kernel
theorem dX9_copyTo_15 : decode cX9_copyTo 15 = .ok (.bipush 16, 2) := by decide +kernel
theorem dX9_copyTo_17 : decode cX9_copyTo 17 = .ok (.if_icmp .ge 31, 3) := by decide +kernel
theorem dX9_copyTo_20 : decode cX9_copyTo 20 = .ok (.aload_n 0, 1) := by decide +kernel
theorem dX9_copyTo_21 : decode cX9_copyTo 21 = .ok (.getfield 11, 3) := by decide +kernel
theorem dX9_copyTo_24 : decode cX9_copyTo 24 = .ok (.bipush 16, 2) := by decide +kernel
theorem dX9_copyTo_26 : decode cX9_copyTo 26 = .ok (.iload_n 2, 1) := by decide +kernel
theorem dX9_copyTo_27 : decode cX9_copyTo 27 = .ok (.imul, 1) := by decide +kernel
theorem dX9_copyTo_28 : decode cX9_copyTo 28 = .ok (.iload_n 3, 1) := by decide +kernel
theorem dX9_copyTo_29 : decode cX9_copyTo 29 = .ok (.iadd, 1) := by decide +kernel
theorem dX9_copyTo_30 : decode cX9_copyTo 30 = .ok (.aload_n 0, 1) := by decide +kernel
theorem dX9_copyTo_31 : decode cX9_copyTo 31 = .ok (.getfield 11, 3) := by decide +kernel
theorem dX9_copyTo_34 : decode cX9_copyTo 34 = .ok (.bipush 16, 2) := by decide +kernel
theorem dX9_copyTo_36 : decode cX9_copyTo 36 = .ok (.iload_n 1, 1) := by decide +kernel
theorem dX9_copyTo_37 : decode cX9_copyTo 37 = .ok (.imul, 1) := by decide +kernel
theorem dX9_copyTo_38 : decode cX9_copyTo 38 = .ok (.iload_n 3, 1) := by decide +kernel
theorem dX9_copyTo_39 : decode cX9_copyTo 39 = .ok (.iadd, 1) := by decide +kernel
theorem dX9_copyTo_40 : decode cX9_copyTo 40 = .ok (.iaload, 1) := by decide +kernel
theorem dX9_copyTo_41 : decode cX9_copyTo 41 = .ok (.iastore, 1) := by decide +kernel
theorem dX9_copyTo_42 : decode cX9_copyTo 42 = .ok (.iinc 3 1, 3) := by decide +kernel
theorem dX9_copyTo_45 : decode cX9_copyTo 45 = .ok (.goto (-31), 3) := by decide +kernel
theorem dX9_copyTo_48 : decode cX9_copyTo 48 = .ok (.return_, 1) := by decide +kernel
abbrev MX9_isSlot : ZM := (yX9_isSlot, cX9_isSlot, 1, (Option.some FieldType.boolean), 0, 0)
theorem dX9_isSlot_0 : decode cX9_isSlot 0 = .ok (.iload_n 0, 1) := by decide +kernel
theorem dX9_isSlot_1 : decode cX9_isSlot 1 = .ok (.ifCond .lt 13, 3) := by decide +kernel
theorem dX9_isSlot_4 : decode cX9_isSlot 4 = .ok (.iload_n 0, 1) := by decide +kernel
theorem dX9_isSlot_5 : decode cX9_isSlot 5 = .ok (.bipush 6, 2) := by decide +kernel
theorem dX9_isSlot_7 : decode cX9_isSlot 7 = .ok (.if_icmp .ge 7, 3) := by decide +kernel
theorem dX9_isSlot_10 : decode cX9_isSlot 10 = .ok (.iconst 1, 1) := by decide +kernel
theorem dX9_isSlot_11 : decode cX9_isSlot 11 = .ok (.goto 4, 3) := by decide +kernel
theorem dX9_isSlot_14 : decode cX9_isSlot 14 = .ok (.iconst 0, 1) := by decide +kernel
theorem dX9_isSlot_15 : decode cX9_isSlot 15 = .ok (.ireturn, 1) := by decide +kernel
abbrev MX9_hasForm : ZM := (yX9_hasForm, cX9_hasForm, 2, (Option.some FieldType.boolean), 1, 20)
theorem dX9_hasForm_0 : decode cX9_hasForm 0 = .ok (.iload_n 1, 1) := by decide +kernel
theorem dX9_hasForm_1 : decode cX9_hasForm 1 = .ok (.invokestatic 86, 3) := by decide +kernel
theorem dX9_hasForm_4 : decode cX9_hasForm 4 = .ok (.ifCond .eq 16, 3) := by decide +kernel
theorem dX9_hasForm_7 : decode cX9_hasForm 7 = .ok (.aload_n 0, 1) := by decide +kernel
theorem dX9_hasForm_8 : decode cX9_hasForm 8 = .ok (.getfield 15, 3) := by decide +kernel
theorem dX9_hasForm_11 : decode cX9_hasForm 11 = .ok (.iload_n 1, 1) := by decide +kernel
theorem dX9_hasForm_12 : decode cX9_hasForm 12 = .ok (.iaload, 1) := by decide +kernel
theorem dX9_hasForm_13 : decode cX9_hasForm 13 = .ok (.ifCond .le 7, 3) := by decide +kernel
theorem dX9_hasForm_16 : decode cX9_hasForm 16 = .ok (.iconst 1, 1) := by decide +kernel
theorem dX9_hasForm_17 : decode cX9_hasForm 17 = .ok (.goto 4, 3) := by decide +kernel
theorem dX9_hasForm_20 : decode cX9_hasForm 20 = .ok (.iconst 0, 1) := by decide +kernel
theorem dX9_hasForm_21 : decode cX9_hasForm 21 = .ok (.ireturn, 1) := by decide +kernel
abbrev MX9_isLetter : ZM := (yX9_isLetter, cX9_isLetter, 3, (Option.some FieldType.boolean), 0, 0)
theorem dX9_isLetter_0 : decode cX9_isLetter 0 = .ok (.iload_n 2, 1) := by decide +kernel
theorem dX9_isLetter_1 : decode cX9_isLetter 1 = .ok (.ifCond .lt 17, 3) := by decide +kernel
theorem dX9_isLetter_4 : decode cX9_isLetter 4 = .ok (.iload_n 2, 1) := by decide +kernel
theorem dX9_isLetter_5 : decode cX9_isLetter 5 = .ok (.aload_n 0, 1) := by decide +kernel
theorem dX9_isLetter_6 : decode cX9_isLetter 6 = .ok (.getfield 15, 3) := by decide +kernel
theorem dX9_isLetter_9 : decode cX9_isLetter 9 = .ok (.iload_n 1, 1) := by decide +kernel
theorem dX9_isLetter_10 : decode cX9_isLetter 10 = .ok (.iaload, 1) := by decide +kernel
theorem dX9_isLetter_11 : decode cX9_isLetter 11 = .ok (.if_icmp .ge 7, 3) := by decide +kernel
theorem dX9_isLetter_14 : decode cX9_isLetter 14 = .ok (.iconst 1, 1) := by decide +kernel
theorem dX9_isLetter_15 : decode cX9_isLetter 15 = .ok (.goto 4, 3) := by decide +kernel
theorem dX9_isLetter_18 : decode cX9_isLetter 18 = .ok (.iconst 0, 1) := by decide +kernel
theorem dX9_isLetter_19 : decode cX9_isLetter 19 = .ok (.ireturn, 1) := by decide +kernel
abbrev MX9_detOf : ZM := (yX9_detOf, cX9_detOf, 10, (Option.some FieldType.long), 1, 26)
theorem dX9_detOf_0 : decode cX9_detOf 0 = .ok (.iconst 0, 1) := by decide +kernel
theorem dX9_detOf_1 : decode cX9_detOf 1 = .ok (.istore 4, 2) := by decide +kernel
theorem dX9_detOf_3 : decode cX9_detOf 3 = .ok (.iconst 0, 1) := by decide +kernel
theorem dX9_detOf_4 : decode cX9_detOf 4 = .ok (.istore 5, 2) := by decide +kernel
theorem dX9_detOf_6 : decode cX9_detOf 6 = .ok (.iload 5, 2) := by decide +kernel
theorem dX9_detOf_8 : decode cX9_detOf 8 = .ok (.iload_n 2, 1) := by decide +kernel
theorem dX9_detOf_9 : decode cX9_detOf 9 = .ok (.if_icmp .ge 74, 3) := by decide +kernel
theorem dX9_detOf_12 : decode cX9_detOf 12 = .ok (.iload 5, 2) := by decide +kernel
theorem dX9_detOf_14 : decode cX9_detOf 14 = .ok (.iload_n 3, 1) := by decide +kernel
theorem dX9_detOf_15 : decode cX9_detOf 15 = .ok (.if_icmp .eq 62, 3) := by decide +kernel
theorem dX9_detOf_18 : decode cX9_detOf 18 = .ok (.iconst 0, 1) := by decide +kernel
theorem dX9_detOf_19 : decode cX9_detOf 19 = .ok (.istore 6, 2) := by decide +kernel
theorem dX9_detOf_21 : decode cX9_detOf 21 = .ok (.iconst 0, 1) := by decide +kernel
theorem dX9_detOf_22 : decode cX9_detOf 22 = .ok (.istore 7, 2) := by decide +kernel
theorem dX9_detOf_24 : decode cX9_detOf 24 = .ok (.iload 7, 2) := by decide +kernel
theorem dX9_detOf_26 : decode cX9_detOf 26 = .ok (.iload_n 2, 1) := by decide +kernel
theorem dX9_detOf_27 : decode cX9_detOf 27 = .ok (.if_icmp .ge 47, 3) := by decide +kernel
theorem dX9_detOf_30 : decode cX9_detOf 30 = .ok (.aload_n 0, 1) := by decide +kernel
theorem dX9_detOf_31 : decode cX9_detOf 31 = .ok (.getfield 30, 3) := by decide +kernel
theorem dX9_detOf_34 : decode cX9_detOf 34 = .ok (.iconst 4, 1) := by decide +kernel
theorem dX9_detOf_35 : decode cX9_detOf 35 = .ok (.iload 4, 2) := by decide +kernel
theorem dX9_detOf_37 : decode cX9_detOf 37 = .ok (.imul, 1) := by decide +kernel
theorem dX9_detOf_38 : decode cX9_detOf 38 = .ok (.iload 6, 2) := by decide +kernel
theorem dX9_detOf_40 : decode cX9_detOf 40 = .ok (.iadd, 1) := by decide +kernel
theorem dX9_detOf_41 : decode cX9_detOf 41 = .ok (.aload_n 0, 1) := by decide +kernel
theorem dX9_detOf_42 : decode cX9_detOf 42 = .ok (.iload_n 1, 1) := by decide +kernel
theorem dX9_detOf_43 : decode cX9_detOf 43 = .ok (.iload 5, 2) := by decide +kernel
theorem dX9_detOf_45 : decode cX9_detOf 45 = .ok (.iload 7, 2) := by decide +kernel
theorem dX9_detOf_47 : decode cX9_detOf 47 = .ok (.invokevirtual 90, 3) := by decide +kernel
theorem dX9_detOf_50 : decode cX9_detOf 50 = .ok (.i2l, 1) := by decide +kernel
theorem dX9_detOf_51 : decode cX9_detOf 51 = .ok (.lastore, 1) := by decide +kernel
theorem dX9_detOf_52 : decode cX9_detOf 52 = .ok (.iload 6, 2) := by decide +kernel
theorem dX9_detOf_54 : decode cX9_detOf 54 = .ok (.iload 7, 2) := by decide +kernel
theorem dX9_detOf_56 : decode cX9_detOf 56 = .ok (.iload_n 3, 1) := by decide +kernel
theorem dX9_detOf_57 : decode cX9_detOf 57 = .ok (.if_icmp .eq 7, 3) := by decide +kernel
theorem dX9_detOf_60 : decode cX9_detOf 60 = .ok (.iconst 1, 1) := by decide +kernel
theorem dX9_detOf_61 : decode cX9_detOf 61 = .ok (.goto 4, 3) := by decide +kernel
theorem dX9_detOf_64 : decode cX9_detOf 64 = .ok (.iconst 0, 1) := by decide +kernel
theorem dX9_detOf_65 : decode cX9_detOf 65 = .ok (.iadd, 1) := by decide +kernel
theorem dX9_detOf_66 : decode cX9_detOf 66 = .ok (.istore 6, 2) := by decide +kernel
theorem dX9_detOf_68 : decode cX9_detOf 68 = .ok (.iinc 7 1, 3) := by decide +kernel
theorem dX9_detOf_71 : decode cX9_detOf 71 = .ok (.goto (-47), 3) := by decide +kernel
theorem dX9_detOf_74 : decode cX9_detOf 74 = .ok (.iinc 4 1, 3) := by decide +kernel
theorem dX9_detOf_77 : decode cX9_detOf 77 = .ok (.iinc 5 1, 3) := by decide +kernel
theorem dX9_detOf_80 : decode cX9_detOf 80 = .ok (.goto (-74), 3) := by decide +kernel
theorem dX9_detOf_83 : decode cX9_detOf 83 = .ok (.lconst 1, 1) := by decide +kernel
theorem dX9_detOf_84 : decode cX9_detOf 84 = .ok (.lstore 5, 2) := by decide +kernel
theorem dX9_detOf_86 : decode cX9_detOf 86 = .ok (.iconst 0, 1) := by decide +kernel
theorem dX9_detOf_87 : decode cX9_detOf 87 = .ok (.istore 7, 2) := by decide +kernel
theorem dX9_detOf_89 : decode cX9_detOf 89 = .ok (.iload 7, 2) := by decide +kernel
theorem dX9_detOf_91 : decode cX9_detOf 91 = .ok (.iload 4, 2) := by decide +kernel
theorem dX9_detOf_93 : decode cX9_detOf 93 = .ok (.if_icmp .ge 43, 3) := by decide +kernel
theorem dX9_detOf_96 : decode cX9_detOf 96 = .ok (.aload_n 0, 1) := by decide +kernel
theorem dX9_detOf_97 : decode cX9_detOf 97 = .ok (.getfield 30, 3) := by decide +kernel
theorem dX9_detOf_100 : decode cX9_detOf 100 = .ok (.iconst 5, 1) := by decide +kernel
theorem dX9_detOf_101 : decode cX9_detOf 101 = .ok (.iload 7, 2) := by decide +kernel
theorem dX9_detOf_103 : decode cX9_detOf 103 = .ok (.imul, 1) := by decide +kernel
theorem dX9_detOf_104 : decode cX9_detOf 104 = .ok (.laload, 1) := by decide +kernel
theorem dX9_detOf_105 : decode cX9_detOf 105 = .ok (.lstore 8, 2) := by decide +kernel
theorem dX9_detOf_107 : decode cX9_detOf 107 = .ok (.lload 8, 2) := by decide +kernel
theorem dX9_detOf_109 : decode cX9_detOf 109 = .ok (.lconst 0, 1) := by decide +kernel
theorem dX9_detOf_110 : decode cX9_detOf 110 = .ok (.lcmp, 1) := by decide +kernel
theorem dX9_detOf_111 : decode cX9_detOf 111 = .ok (.ifCond .gt 5, 3) := by decide +kernel
theorem dX9_detOf_114 : decode cX9_detOf 114 = .ok (.lconst 0, 1) := by decide +kernel
theorem dX9_detOf_115 : decode cX9_detOf 115 = .ok (.lreturn, 1) := by decide +kernel
theorem dX9_detOf_116 : decode cX9_detOf 116 = .ok (.aload_n 0, 1) := by decide +kernel
theorem dX9_detOf_117 : decode cX9_detOf 117 = .ok (.iload 7, 2) := by decide +kernel
theorem dX9_detOf_119 : decode cX9_detOf 119 = .ok (.iload 4, 2) := by decide +kernel
theorem dX9_detOf_121 : decode cX9_detOf 121 = .ok (.lload 5, 2) := by decide +kernel
theorem dX9_detOf_123 : decode cX9_detOf 123 = .ok (.invokevirtual 94, 3) := by decide +kernel
theorem dX9_detOf_126 : decode cX9_detOf 126 = .ok (.lload 8, 2) := by decide +kernel
theorem dX9_detOf_128 : decode cX9_detOf 128 = .ok (.lstore 5, 2) := by decide +kernel
theorem dX9_detOf_130 : decode cX9_detOf 130 = .ok (.iinc 7 1, 3) := by decide +kernel
theorem dX9_detOf_133 : decode cX9_detOf 133 = .ok (.goto (-44), 3) := by decide +kernel
theorem dX9_detOf_136 : decode cX9_detOf 136 = .ok (.lload 5, 2) := by decide +kernel
theorem dX9_detOf_138 : decode cX9_detOf 138 = .ok (.lreturn, 1) := by decide +kernel
abbrev MX9_clearBelow : ZM := (yX9_clearBelow, cX9_clearBelow, 7, (Option.none : Option FieldType), 0, 0)
theorem dX9_clearBelow_0 : decode cX9_clearBelow 0 = .ok (.iload_n 1, 1) := by decide +kernel
theorem dX9_clearBelow_1 : decode cX9_clearBelow 1 = .ok (.iconst 1, 1) := by decide +kernel
theorem dX9_clearBelow_2 : decode cX9_clearBelow 2 = .ok (.iadd, 1) := by decide +kernel
theorem dX9_clearBelow_3 : decode cX9_clearBelow 3 = .ok (.istore 5, 2) := by decide +kernel
theorem dX9_clearBelow_5 : decode cX9_clearBelow 5 = .ok (.iload 5, 2) := by decide +kernel
theorem dX9_clearBelow_7 : decode cX9_clearBelow 7 = .ok (.iload_n 2, 1) := by decide +kernel
theorem dX9_clearBelow_8 : decode cX9_clearBelow 8 = .ok (.if_icmp .ge 85, 3) := by decide +kernel
theorem dX9_clearBelow_11 : decode cX9_clearBelow 11 = .ok (.iload_n 1, 1) := by decide +kernel
theorem dX9_clearBelow_12 : decode cX9_clearBelow 12 = .ok (.iconst 1, 1) := by decide +kernel
theorem dX9_clearBelow_13 : decode cX9_clearBelow 13 = .ok (.iadd, 1) := by decide +kernel
theorem dX9_clearBelow_14 : decode cX9_clearBelow 14 = .ok (.istore 6, 2) := by decide +kernel
theorem dX9_clearBelow_16 : decode cX9_clearBelow 16 = .ok (.iload 6, 2) := by decide +kernel
theorem dX9_clearBelow_18 : decode cX9_clearBelow 18 = .ok (.iload_n 2, 1) := by decide +kernel
theorem dX9_clearBelow_19 : decode cX9_clearBelow 19 = .ok (.if_icmp .ge 68, 3) := by decide +kernel
theorem dX9_clearBelow_22 : decode cX9_clearBelow 22 = .ok (.aload_n 0, 1) := by decide +kernel
theorem dX9_clearBelow_23 : decode cX9_clearBelow 23 = .ok (.getfield 30, 3) := by decide +kernel
theorem dX9_clearBelow_26 : decode cX9_clearBelow 26 = .ok (.iconst 4, 1) := by decide +kernel
theorem dX9_clearBelow_27 : decode cX9_clearBelow 27 = .ok (.iload 5, 2) := by decide +kernel
theorem dX9_clearBelow_29 : decode cX9_clearBelow 29 = .ok (.imul, 1) := by decide +kernel
theorem dX9_clearBelow_30 : decode cX9_clearBelow 30 = .ok (.iload 6, 2) := by decide +kernel
theorem dX9_clearBelow_32 : decode cX9_clearBelow 32 = .ok (.iadd, 1) := by decide +kernel
theorem dX9_clearBelow_33 : decode cX9_clearBelow 33 = .ok (.aload_n 0, 1) := by decide +kernel
theorem dX9_clearBelow_34 : decode cX9_clearBelow 34 = .ok (.getfield 30, 3) := by decide +kernel
theorem dX9_clearBelow_37 : decode cX9_clearBelow 37 = .ok (.iconst 4, 1) := by decide +kernel
theorem dX9_clearBelow_38 : decode cX9_clearBelow 38 = .ok (.iload 5, 2) := by decide +kernel
theorem dX9_clearBelow_40 : decode cX9_clearBelow 40 = .ok (.imul, 1) := by decide +kernel
theorem dX9_clearBelow_41 : decode cX9_clearBelow 41 = .ok (.iload 6, 2) := by decide +kernel
theorem dX9_clearBelow_43 : decode cX9_clearBelow 43 = .ok (.iadd, 1) := by decide +kernel
theorem dX9_clearBelow_44 : decode cX9_clearBelow 44 = .ok (.laload, 1) := by decide +kernel
theorem dX9_clearBelow_45 : decode cX9_clearBelow 45 = .ok (.aload_n 0, 1) := by decide +kernel
theorem dX9_clearBelow_46 : decode cX9_clearBelow 46 = .ok (.getfield 30, 3) := by decide +kernel
theorem dX9_clearBelow_49 : decode cX9_clearBelow 49 = .ok (.iconst 5, 1) := by decide +kernel
theorem dX9_clearBelow_50 : decode cX9_clearBelow 50 = .ok (.iload_n 1, 1) := by decide +kernel
theorem dX9_clearBelow_51 : decode cX9_clearBelow 51 = .ok (.imul, 1) := by decide +kernel
theorem dX9_clearBelow_52 : decode cX9_clearBelow 52 = .ok (.laload, 1) := by decide +kernel
theorem dX9_clearBelow_53 : decode cX9_clearBelow 53 = .ok (.lmul, 1) := by decide +kernel
theorem dX9_clearBelow_54 : decode cX9_clearBelow 54 = .ok (.aload_n 0, 1) := by decide +kernel
theorem dX9_clearBelow_55 : decode cX9_clearBelow 55 = .ok (.getfield 30, 3) := by decide +kernel
theorem dX9_clearBelow_58 : decode cX9_clearBelow 58 = .ok (.iconst 4, 1) := by decide +kernel
theorem dX9_clearBelow_59 : decode cX9_clearBelow 59 = .ok (.iload 5, 2) := by decide +kernel
theorem dX9_clearBelow_61 : decode cX9_clearBelow 61 = .ok (.imul, 1) := by decide +kernel
theorem dX9_clearBelow_62 : decode cX9_clearBelow 62 = .ok (.iload_n 1, 1) := by decide +kernel
theorem dX9_clearBelow_63 : decode cX9_clearBelow 63 = .ok (.iadd, 1) := by decide +kernel
theorem dX9_clearBelow_64 : decode cX9_clearBelow 64 = .ok (.laload, 1) := by decide +kernel
theorem dX9_clearBelow_65 : decode cX9_clearBelow 65 = .ok (.aload_n 0, 1) := by decide +kernel
theorem dX9_clearBelow_66 : decode cX9_clearBelow 66 = .ok (.getfield 30, 3) := by decide +kernel
theorem dX9_clearBelow_69 : decode cX9_clearBelow 69 = .ok (.iconst 4, 1) := by decide +kernel
theorem dX9_clearBelow_70 : decode cX9_clearBelow 70 = .ok (.iload_n 1, 1) := by decide +kernel
theorem dX9_clearBelow_71 : decode cX9_clearBelow 71 = .ok (.imul, 1) := by decide +kernel
theorem dX9_clearBelow_72 : decode cX9_clearBelow 72 = .ok (.iload 6, 2) := by decide +kernel
theorem dX9_clearBelow_74 : decode cX9_clearBelow 74 = .ok (.iadd, 1) := by decide +kernel
theorem dX9_clearBelow_75 : decode cX9_clearBelow 75 = .ok (.laload, 1) := by decide +kernel
theorem dX9_clearBelow_76 : decode cX9_clearBelow 76 = .ok (.lmul, 1) := by decide +kernel
theorem dX9_clearBelow_77 : decode cX9_clearBelow 77 = .ok (.lsub, 1) := by decide +kernel
theorem dX9_clearBelow_78 : decode cX9_clearBelow 78 = .ok (.lload_n 3, 1) := by decide +kernel
theorem dX9_clearBelow_79 : decode cX9_clearBelow 79 = .ok (.ldiv, 1) := by decide +kernel
theorem dX9_clearBelow_80 : decode cX9_clearBelow 80 = .ok (.lastore, 1) := by decide +kernel
theorem dX9_clearBelow_81 : decode cX9_clearBelow 81 = .ok (.iinc 6 1, 3) := by decide +kernel
theorem dX9_clearBelow_84 : decode cX9_clearBelow 84 = .ok (.goto (-68), 3) := by decide +kernel
theorem dX9_clearBelow_87 : decode cX9_clearBelow 87 = .ok (.iinc 5 1, 3) := by decide +kernel
theorem dX9_clearBelow_90 : decode cX9_clearBelow 90 = .ok (.goto (-85), 3) := by decide +kernel
theorem dX9_clearBelow_93 : decode cX9_clearBelow 93 = .ok (.return_, 1) := by decide +kernel
abbrev MX9_root : ZM := (yX9_root, cX9_root, 6, (Option.some FieldType.long), 0, 0)
theorem dX9_root_0 : decode cX9_root 0 = .ok (.lconst 0, 1) := by decide +kernel
theorem dX9_root_1 : decode cX9_root 1 = .ok (.lstore_n 2, 1) := by decide +kernel
theorem dX9_root_2 : decode cX9_root 2 = .ok (.ldc2_w 98, 3) := by decide +kernel
theorem dX9_root_5 : decode cX9_root 5 = .ok (.lstore 4, 2) := by decide +kernel
theorem dX9_root_7 : decode cX9_root 7 = .ok (.lload 4, 2) := by decide +kernel
theorem dX9_root_9 : decode cX9_root 9 = .ok (.lconst 0, 1) := by decide +kernel
theorem dX9_root_10 : decode cX9_root 10 = .ok (.lcmp, 1) := by decide +kernel
theorem dX9_root_11 : decode cX9_root 11 = .ok (.ifCond .le 35, 3) := by decide +kernel
theorem dX9_root_14 : decode cX9_root 14 = .ok (.lload_n 2, 1) := by decide +kernel
theorem dX9_root_15 : decode cX9_root 15 = .ok (.lload 4, 2) := by decide +kernel
theorem dX9_root_17 : decode cX9_root 17 = .ok (.ladd, 1) := by decide +kernel
theorem dX9_root_18 : decode cX9_root 18 = .ok (.lload_n 2, 1) := by decide +kernel
theorem dX9_root_19 : decode cX9_root 19 = .ok (.lload 4, 2) := by decide +kernel
theorem dX9_root_21 : decode cX9_root 21 = .ok (.ladd, 1) := by decide +kernel
theorem dX9_root_22 : decode cX9_root 22 = .ok (.lmul, 1) := by decide +kernel
theorem dX9_root_23 : decode cX9_root 23 = .ok (.lload_n 0, 1) := by decide +kernel
theorem dX9_root_24 : decode cX9_root 24 = .ok (.lcmp, 1) := by decide +kernel
theorem dX9_root_25 : decode cX9_root 25 = .ok (.ifCond .gt 10, 3) := by decide +kernel
theorem dX9_root_28 : decode cX9_root 28 = .ok (.lload_n 2, 1) := by decide +kernel
theorem dX9_root_29 : decode cX9_root 29 = .ok (.lload 4, 2) := by decide +kernel
theorem dX9_root_31 : decode cX9_root 31 = .ok (.ladd, 1) := by decide +kernel
theorem dX9_root_32 : decode cX9_root 32 = .ok (.goto 4, 3) := by decide +kernel
theorem dX9_root_35 : decode cX9_root 35 = .ok (.lload_n 2, 1) := by decide +kernel
theorem dX9_root_36 : decode cX9_root 36 = .ok (.lstore_n 2, 1) := by decide +kernel
theorem dX9_root_37 : decode cX9_root 37 = .ok (.lload 4, 2) := by decide +kernel
theorem dX9_root_39 : decode cX9_root 39 = .ok (.iconst 1, 1) := by decide +kernel
theorem dX9_root_40 : decode cX9_root 40 = .ok (.lshr, 1) := by decide +kernel
theorem dX9_root_41 : decode cX9_root 41 = .ok (.lstore 4, 2) := by decide +kernel
theorem dX9_root_43 : decode cX9_root 43 = .ok (.goto (-36), 3) := by decide +kernel
theorem dX9_root_46 : decode cX9_root 46 = .ok (.lload_n 2, 1) := by decide +kernel
theorem dX9_root_47 : decode cX9_root 47 = .ok (.lreturn, 1) := by decide +kernel
abbrev MX9_isLawful : ZM := (yX9_isLawful, cX9_isLawful, 4, (Option.some FieldType.boolean), 2, 55)
theorem dX9_isLawful_0 : decode cX9_isLawful 0 = .ok (.aload_n 0, 1) := by decide +kernel
theorem dX9_isLawful_1 : decode cX9_isLawful 1 = .ok (.getfield 15, 3) := by decide +kernel
theorem dX9_isLawful_4 : decode cX9_isLawful 4 = .ok (.iload_n 1, 1) := by decide +kernel
theorem dX9_isLawful_5 : decode cX9_isLawful 5 = .ok (.iaload, 1) := by decide +kernel
theorem dX9_isLawful_6 : decode cX9_isLawful 6 = .ok (.istore_n 2, 1) := by decide +kernel
theorem dX9_isLawful_7 : decode cX9_isLawful 7 = .ok (.iconst 0, 1) := by decide +kernel
theorem dX9_isLawful_8 : decode cX9_isLawful 8 = .ok (.istore_n 3, 1) := by decide +kernel
theorem dX9_isLawful_9 : decode cX9_isLawful 9 = .ok (.iload_n 3, 1) := by decide +kernel
theorem dX9_isLawful_10 : decode cX9_isLawful 10 = .ok (.bipush 16, 2) := by decide +kernel
theorem dX9_isLawful_12 : decode cX9_isLawful 12 = .ok (.if_icmp .ge 30, 3) := by decide +kernel
theorem dX9_isLawful_15 : decode cX9_isLawful 15 = .ok (.aload_n 0, 1) := by decide +kernel
theorem dX9_isLawful_16 : decode cX9_isLawful 16 = .ok (.getfield 11, 3) := by decide +kernel
theorem dX9_isLawful_19 : decode cX9_isLawful 19 = .ok (.bipush 16, 2) := by decide +kernel
theorem dX9_isLawful_21 : decode cX9_isLawful 21 = .ok (.iload_n 1, 1) := by decide +kernel
theorem dX9_isLawful_22 : decode cX9_isLawful 22 = .ok (.imul, 1) := by decide +kernel
theorem dX9_isLawful_23 : decode cX9_isLawful 23 = .ok (.iload_n 3, 1) := by decide +kernel
theorem dX9_isLawful_24 : decode cX9_isLawful 24 = .ok (.iadd, 1) := by decide +kernel
theorem dX9_isLawful_25 : decode cX9_isLawful 25 = .ok (.iaload, 1) := by decide +kernel
theorem dX9_isLawful_26 : decode cX9_isLawful 26 = .ok (.invokestatic 100, 3) := by decide +kernel
theorem dX9_isLawful_29 : decode cX9_isLawful 29 = .ok (.bipush 99, 2) := by decide +kernel
theorem dX9_isLawful_31 : decode cX9_isLawful 31 = .ok (.if_icmp .le 5, 3) := by decide +kernel
theorem dX9_isLawful_34 : decode cX9_isLawful 34 = .ok (.iconst 0, 1) := by decide +kernel
theorem dX9_isLawful_35 : decode cX9_isLawful 35 = .ok (.ireturn, 1) := by decide +kernel
theorem dX9_isLawful_36 : decode cX9_isLawful 36 = .ok (.iinc 3 1, 3) := by decide +kernel
theorem dX9_isLawful_39 : decode cX9_isLawful 39 = .ok (.goto (-30), 3) := by decide +kernel
theorem dX9_isLawful_42 : decode cX9_isLawful 42 = .ok (.aload_n 0, 1) := by decide +kernel
theorem dX9_isLawful_43 : decode cX9_isLawful 43 = .ok (.aload_n 0, 1) := by decide +kernel
theorem dX9_isLawful_44 : decode cX9_isLawful 44 = .ok (.iload_n 1, 1) := by decide +kernel
theorem dX9_isLawful_45 : decode cX9_isLawful 45 = .ok (.iload_n 2, 1) := by decide +kernel
theorem dX9_isLawful_46 : decode cX9_isLawful 46 = .ok (.iconst (-1), 1) := by decide +kernel
theorem dX9_isLawful_47 : decode cX9_isLawful 47 = .ok (.invokevirtual 104, 3) := by decide +kernel
theorem dX9_isLawful_50 : decode cX9_isLawful 50 = .ok (.putfield 108, 3) := by decide +kernel
theorem dX9_isLawful_53 : decode cX9_isLawful 53 = .ok (.aload_n 0, 1) := by decide +kernel
theorem dX9_isLawful_54 : decode cX9_isLawful 54 = .ok (.getfield 108, 3) := by decide +kernel
theorem dX9_isLawful_57 : decode cX9_isLawful 57 = .ok (.lconst 0, 1) := by decide +kernel
theorem dX9_isLawful_58 : decode cX9_isLawful 58 = .ok (.lcmp, 1) := by decide +kernel
theorem dX9_isLawful_59 : decode cX9_isLawful 59 = .ok (.ifCond .gt 5, 3) := by decide +kernel
theorem dX9_isLawful_62 : decode cX9_isLawful 62 = .ok (.iconst 0, 1) := by decide +kernel
theorem dX9_isLawful_63 : decode cX9_isLawful 63 = .ok (.ireturn, 1) := by decide +kernel
theorem dX9_isLawful_64 : decode cX9_isLawful 64 = .ok (.aload_n 0, 1) := by decide +kernel
theorem dX9_isLawful_65 : decode cX9_isLawful 65 = .ok (.lconst 1, 1) := by decide +kernel
theorem dX9_isLawful_66 : decode cX9_isLawful 66 = .ok (.putfield 112, 3) := by decide +kernel
theorem dX9_isLawful_69 : decode cX9_isLawful 69 = .ok (.iconst 0, 1) := by decide +kernel
theorem dX9_isLawful_70 : decode cX9_isLawful 70 = .ok (.istore_n 3, 1) := by decide +kernel
theorem dX9_isLawful_71 : decode cX9_isLawful 71 = .ok (.iload_n 3, 1) := by decide +kernel
theorem dX9_isLawful_72 : decode cX9_isLawful 72 = .ok (.iconst 4, 1) := by decide +kernel
theorem dX9_isLawful_73 : decode cX9_isLawful 73 = .ok (.if_icmp .ge 82, 3) := by decide +kernel
theorem dX9_isLawful_76 : decode cX9_isLawful 76 = .ok (.aload_n 0, 1) := by decide +kernel
theorem dX9_isLawful_77 : decode cX9_isLawful 77 = .ok (.getfield 34, 3) := by decide +kernel
theorem dX9_isLawful_80 : decode cX9_isLawful 80 = .ok (.iload_n 3, 1) := by decide +kernel
theorem dX9_isLawful_81 : decode cX9_isLawful 81 = .ok (.iload_n 3, 1) := by decide +kernel
theorem dX9_isLawful_82 : decode cX9_isLawful 82 = .ok (.iload_n 2, 1) := by decide +kernel
theorem dX9_isLawful_83 : decode cX9_isLawful 83 = .ok (.if_icmp .ge 25, 3) := by decide +kernel
theorem dX9_isLawful_86 : decode cX9_isLawful 86 = .ok (.ldc2_w 115, 3) := by decide +kernel
theorem dX9_isLawful_89 : decode cX9_isLawful 89 = .ok (.aload_n 0, 1) := by decide +kernel
theorem dX9_isLawful_90 : decode cX9_isLawful 90 = .ok (.iload_n 1, 1) := by decide +kernel
theorem dX9_isLawful_91 : decode cX9_isLawful 91 = .ok (.iload_n 2, 1) := by decide +kernel
theorem dX9_isLawful_92 : decode cX9_isLawful 92 = .ok (.iload_n 3, 1) := by decide +kernel
theorem dX9_isLawful_93 : decode cX9_isLawful 93 = .ok (.invokevirtual 104, 3) := by decide +kernel
theorem dX9_isLawful_96 : decode cX9_isLawful 96 = .ok (.lmul, 1) := by decide +kernel
theorem dX9_isLawful_97 : decode cX9_isLawful 97 = .ok (.aload_n 0, 1) := by decide +kernel
theorem dX9_isLawful_98 : decode cX9_isLawful 98 = .ok (.getfield 108, 3) := by decide +kernel
theorem dX9_isLawful_101 : decode cX9_isLawful 101 = .ok (.ldiv, 1) := by decide +kernel
theorem dX9_isLawful_102 : decode cX9_isLawful 102 = .ok (.invokestatic 117, 3) := by decide +kernel
theorem dX9_isLawful_105 : decode cX9_isLawful 105 = .ok (.goto 4, 3) := by decide +kernel
theorem dX9_isLawful_108 : decode cX9_isLawful 108 = .ok (.lconst 0, 1) := by decide +kernel
theorem dX9_isLawful_109 : decode cX9_isLawful 109 = .ok (.lastore, 1) := by decide +kernel
theorem dX9_isLawful_110 : decode cX9_isLawful 110 = .ok (.aload_n 0, 1) := by decide +kernel
theorem dX9_isLawful_111 : decode cX9_isLawful 111 = .ok (.aload_n 0, 1) := by decide +kernel
theorem dX9_isLawful_112 : decode cX9_isLawful 112 = .ok (.getfield 112, 3) := by decide +kernel
theorem dX9_isLawful_115 : decode cX9_isLawful 115 = .ok (.ldc2_w 121, 3) := by decide +kernel
theorem dX9_isLawful_118 : decode cX9_isLawful 118 = .ok (.lcmp, 1) := by decide +kernel
theorem dX9_isLawful_119 : decode cX9_isLawful 119 = .ok (.ifCond .le 10, 3) := by decide +kernel
theorem dX9_isLawful_122 : decode cX9_isLawful 122 = .ok (.aload_n 0, 1) := by decide +kernel
theorem dX9_isLawful_123 : decode cX9_isLawful 123 = .ok (.getfield 112, 3) := by decide +kernel
theorem dX9_isLawful_126 : decode cX9_isLawful 126 = .ok (.goto 20, 3) := by decide +kernel
theorem dX9_isLawful_129 : decode cX9_isLawful 129 = .ok (.aload_n 0, 1) := by decide +kernel
theorem dX9_isLawful_130 : decode cX9_isLawful 130 = .ok (.getfield 112, 3) := by decide +kernel
theorem dX9_isLawful_133 : decode cX9_isLawful 133 = .ok (.ldc2_w 123, 3) := by decide +kernel
theorem dX9_isLawful_136 : decode cX9_isLawful 136 = .ok (.aload_n 0, 1) := by decide +kernel
theorem dX9_isLawful_137 : decode cX9_isLawful 137 = .ok (.getfield 34, 3) := by decide +kernel
theorem dX9_isLawful_140 : decode cX9_isLawful 140 = .ok (.iload_n 3, 1) := by decide +kernel
theorem dX9_isLawful_141 : decode cX9_isLawful 141 = .ok (.laload, 1) := by decide +kernel
theorem dX9_isLawful_142 : decode cX9_isLawful 142 = .ok (.lmul, 1) := by decide +kernel
theorem dX9_isLawful_143 : decode cX9_isLawful 143 = .ok (.lconst 1, 1) := by decide +kernel
theorem dX9_isLawful_144 : decode cX9_isLawful 144 = .ok (.ladd, 1) := by decide +kernel
theorem dX9_isLawful_145 : decode cX9_isLawful 145 = .ok (.lmul, 1) := by decide +kernel
theorem dX9_isLawful_146 : decode cX9_isLawful 146 = .ok (.putfield 112, 3) := by decide +kernel
theorem dX9_isLawful_149 : decode cX9_isLawful 149 = .ok (.iinc 3 1, 3) := by decide +kernel
theorem dX9_isLawful_152 : decode cX9_isLawful 152 = .ok (.goto (-81), 3) := by decide +kernel
theorem dX9_isLawful_155 : decode cX9_isLawful 155 = .ok (.aload_n 0, 1) := by decide +kernel
theorem dX9_isLawful_156 : decode cX9_isLawful 156 = .ok (.getfield 112, 3) := by decide +kernel
theorem dX9_isLawful_159 : decode cX9_isLawful 159 = .ok (.ldc2_w 121, 3) := by decide +kernel
theorem dX9_isLawful_162 : decode cX9_isLawful 162 = .ok (.lcmp, 1) := by decide +kernel
theorem dX9_isLawful_163 : decode cX9_isLawful 163 = .ok (.ifCond .gt 7, 3) := by decide +kernel
theorem dX9_isLawful_166 : decode cX9_isLawful 166 = .ok (.iconst 1, 1) := by decide +kernel
theorem dX9_isLawful_167 : decode cX9_isLawful 167 = .ok (.goto 4, 3) := by decide +kernel
theorem dX9_isLawful_170 : decode cX9_isLawful 170 = .ok (.iconst 0, 1) := by decide +kernel
theorem dX9_isLawful_171 : decode cX9_isLawful 171 = .ok (.ireturn, 1) := by decide +kernel
abbrev MX9_comes : ZM := (yX9_comes, cX9_comes, 2, (Option.some FieldType.int), 3, 78)
theorem dX9_comes_0 : decode cX9_comes 0 = .ok (.aload_n 0, 1) := by decide +kernel
theorem dX9_comes_1 : decode cX9_comes 1 = .ok (.bipush 72, 2) := by decide +kernel
theorem dX9_comes_3 : decode cX9_comes 3 = .ok (.invokevirtual 125, 3) := by decide +kernel
theorem dX9_comes_6 : decode cX9_comes 6 = .ok (.ifCond .ne 6, 3) := by decide +kernel
theorem dX9_comes_9 : decode cX9_comes 9 = .ok (.bipush (-5), 2) := by decide +kernel
theorem dX9_comes_11 : decode cX9_comes 11 = .ok (.ireturn, 1) := by decide +kernel
theorem dX9_comes_12 : decode cX9_comes 12 = .ok (.aload_n 0, 1) := by decide +kernel
theorem dX9_comes_13 : decode cX9_comes 13 = .ok (.bipush 72, 2) := by decide +kernel
theorem dX9_comes_15 : decode cX9_comes 15 = .ok (.iload_n 1, 1) := by decide +kernel
theorem dX9_comes_16 : decode cX9_comes 16 = .ok (.invokevirtual 128, 3) := by decide +kernel
theorem dX9_comes_19 : decode cX9_comes 19 = .ok (.aload_n 0, 1) := by decide +kernel
theorem dX9_comes_20 : decode cX9_comes 20 = .ok (.getfield 108, 3) := by decide +kernel
theorem dX9_comes_23 : decode cX9_comes 23 = .ok (.l2i, 1) := by decide +kernel
theorem dX9_comes_24 : decode cX9_comes 24 = .ok (.ireturn, 1) := by decide +kernel
abbrev MX9_single : ZM := (yX9_single, cX9_single, 3, (Option.some FieldType.int), 1, 25)
theorem dX9_single_0 : decode cX9_single 0 = .ok (.iload_n 1, 1) := by decide +kernel
theorem dX9_single_1 : decode cX9_single 1 = .ok (.invokestatic 86, 3) := by decide +kernel
theorem dX9_single_4 : decode cX9_single 4 = .ok (.ifCond .eq 15, 3) := by decide +kernel
theorem dX9_single_7 : decode cX9_single 7 = .ok (.iload_n 2, 1) := by decide +kernel
theorem dX9_single_8 : decode cX9_single 8 = .ok (.i2l, 1) := by decide +kernel
theorem dX9_single_9 : decode cX9_single 9 = .ok (.lconst 1, 1) := by decide +kernel
theorem dX9_single_10 : decode cX9_single 10 = .ok (.ldc2_w 132, 3) := by decide +kernel
theorem dX9_single_13 : decode cX9_single 13 = .ok (.invokestatic 134, 3) := by decide +kernel
theorem dX9_single_16 : decode cX9_single 16 = .ok (.ifCond .ne 5, 3) := by decide +kernel
theorem dX9_single_19 : decode cX9_single 19 = .ok (.iconst (-1), 1) := by decide +kernel
theorem dX9_single_20 : decode cX9_single 20 = .ok (.ireturn, 1) := by decide +kernel
theorem dX9_single_21 : decode cX9_single 21 = .ok (.aload_n 0, 1) := by decide +kernel
theorem dX9_single_22 : decode cX9_single 22 = .ok (.iload_n 1, 1) := by decide +kernel
theorem dX9_single_23 : decode cX9_single 23 = .ok (.invokevirtual 138, 3) := by decide +kernel
theorem dX9_single_26 : decode cX9_single 26 = .ok (.aload_n 0, 1) := by decide +kernel
theorem dX9_single_27 : decode cX9_single 27 = .ok (.getfield 15, 3) := by decide +kernel
theorem dX9_single_30 : decode cX9_single 30 = .ok (.iload_n 1, 1) := by decide +kernel
theorem dX9_single_31 : decode cX9_single 31 = .ok (.iconst 1, 1) := by decide +kernel
theorem dX9_single_32 : decode cX9_single 32 = .ok (.iastore, 1) := by decide +kernel
theorem dX9_single_33 : decode cX9_single 33 = .ok (.aload_n 0, 1) := by decide +kernel
theorem dX9_single_34 : decode cX9_single 34 = .ok (.iload_n 1, 1) := by decide +kernel
theorem dX9_single_35 : decode cX9_single 35 = .ok (.iconst 0, 1) := by decide +kernel
theorem dX9_single_36 : decode cX9_single 36 = .ok (.iconst 0, 1) := by decide +kernel
theorem dX9_single_37 : decode cX9_single 37 = .ok (.iload_n 2, 1) := by decide +kernel
theorem dX9_single_38 : decode cX9_single 38 = .ok (.invokevirtual 142, 3) := by decide +kernel
theorem dX9_single_41 : decode cX9_single 41 = .ok (.iload_n 2, 1) := by decide +kernel
theorem dX9_single_42 : decode cX9_single 42 = .ok (.ireturn, 1) := by decide +kernel
abbrev MX9_form : ZM := (yX9_form, cX9_form, 10, (Option.some FieldType.int), 4, 99)
theorem dX9_form_0 : decode cX9_form 0 = .ok (.iload_n 1, 1) := by decide +kernel
theorem dX9_form_1 : decode cX9_form 1 = .ok (.invokestatic 86, 3) := by decide +kernel
theorem dX9_form_4 : decode cX9_form 4 = .ok (.ifCond .eq 23, 3) := by decide +kernel
theorem dX9_form_7 : decode cX9_form 7 = .ok (.iload_n 2, 1) := by decide +kernel
theorem dX9_form_8 : decode cX9_form 8 = .ok (.invokestatic 146, 3) := by decide +kernel
theorem dX9_form_11 : decode cX9_form 11 = .ok (.ifCond .eq 16, 3) := by decide +kernel
theorem dX9_form_14 : decode cX9_form 14 = .ok (.iload 4, 2) := by decide +kernel
theorem dX9_form_16 : decode cX9_form 16 = .ok (.i2l, 1) := by decide +kernel
theorem dX9_form_17 : decode cX9_form 17 = .ok (.lconst 1, 1) := by decide +kernel
theorem dX9_form_18 : decode cX9_form 18 = .ok (.ldc2_w 149, 3) := by decide +kernel
theorem dX9_form_21 : decode cX9_form 21 = .ok (.invokestatic 134, 3) := by decide +kernel
theorem dX9_form_24 : decode cX9_form 24 = .ok (.ifCond .ne 5, 3) := by decide +kernel
theorem dX9_form_27 : decode cX9_form 27 = .ok (.iconst (-1), 1) := by decide +kernel
theorem dX9_form_28 : decode cX9_form 28 = .ok (.ireturn, 1) := by decide +kernel
theorem dX9_form_29 : decode cX9_form 29 = .ok (.aload_n 0, 1) := by decide +kernel
theorem dX9_form_30 : decode cX9_form 30 = .ok (.getfield 73, 3) := by decide +kernel
theorem dX9_form_33 : decode cX9_form 33 = .ok (.iload_n 2, 1) := by decide +kernel
theorem dX9_form_34 : decode cX9_form 34 = .ok (.iaload, 1) := by decide +kernel
theorem dX9_form_35 : decode cX9_form 35 = .ok (.ifCond .ge 6, 3) := by decide +kernel
theorem dX9_form_38 : decode cX9_form 38 = .ok (.bipush (-11), 2) := by decide +kernel
theorem dX9_form_40 : decode cX9_form 40 = .ok (.ireturn, 1) := by decide +kernel
theorem dX9_form_41 : decode cX9_form 41 = .ok (.iload 4, 2) := by decide +kernel
theorem dX9_form_43 : decode cX9_form 43 = .ok (.iload 4, 2) := by decide +kernel
theorem dX9_form_45 : decode cX9_form 45 = .ok (.iconst 1, 1) := by decide +kernel
theorem dX9_form_46 : decode cX9_form 46 = .ok (.iadd, 1) := by decide +kernel
theorem dX9_form_47 : decode cX9_form 47 = .ok (.imul, 1) := by decide +kernel
theorem dX9_form_48 : decode cX9_form 48 = .ok (.iconst 2, 1) := by decide +kernel
theorem dX9_form_49 : decode cX9_form 49 = .ok (.idiv, 1) := by decide +kernel
theorem dX9_form_50 : decode cX9_form 50 = .ok (.istore 5, 2) := by decide +kernel
theorem dX9_form_52 : decode cX9_form 52 = .ok (.iload_n 3, 1) := by decide +kernel
theorem dX9_form_53 : decode cX9_form 53 = .ok (.ifCond .lt 16, 3) := by decide +kernel
theorem dX9_form_56 : decode cX9_form 56 = .ok (.iload_n 3, 1) := by decide +kernel
theorem dX9_form_57 : decode cX9_form 57 = .ok (.aload_n 0, 1) := by decide +kernel
theorem dX9_form_58 : decode cX9_form 58 = .ok (.getfield 76, 3) := by decide +kernel
theorem dX9_form_61 : decode cX9_form 61 = .ok (.iload_n 2, 1) := by decide +kernel
theorem dX9_form_62 : decode cX9_form 62 = .ok (.iaload, 1) := by decide +kernel
theorem dX9_form_63 : decode cX9_form 63 = .ok (.iload 5, 2) := by decide +kernel
theorem dX9_form_65 : decode cX9_form 65 = .ok (.isub, 1) := by decide +kernel
theorem dX9_form_66 : decode cX9_form 66 = .ok (.if_icmp .le 6, 3) := by decide +kernel
theorem dX9_form_69 : decode cX9_form 69 = .ok (.bipush (-12), 2) := by decide +kernel
theorem dX9_form_71 : decode cX9_form 71 = .ok (.ireturn, 1) := by decide +kernel
theorem dX9_form_72 : decode cX9_form 72 = .ok (.aload_n 0, 1) := by decide +kernel
theorem dX9_form_73 : decode cX9_form 73 = .ok (.bipush 72, 2) := by decide +kernel
theorem dX9_form_75 : decode cX9_form 75 = .ok (.invokevirtual 138, 3) := by decide +kernel
theorem dX9_form_78 : decode cX9_form 78 = .ok (.aload_n 0, 1) := by decide +kernel
theorem dX9_form_79 : decode cX9_form 79 = .ok (.getfield 15, 3) := by decide +kernel
theorem dX9_form_82 : decode cX9_form 82 = .ok (.bipush 72, 2) := by decide +kernel
theorem dX9_form_84 : decode cX9_form 84 = .ok (.iload 4, 2) := by decide +kernel
theorem dX9_form_86 : decode cX9_form 86 = .ok (.iastore, 1) := by decide +kernel
theorem dX9_form_87 : decode cX9_form 87 = .ok (.bipush 40, 2) := by decide +kernel
theorem dX9_form_89 : decode cX9_form 89 = .ok (.iload_n 2, 1) := by decide +kernel
theorem dX9_form_90 : decode cX9_form 90 = .ok (.imul, 1) := by decide +kernel
theorem dX9_form_91 : decode cX9_form 91 = .ok (.iload_n 3, 1) := by decide +kernel
theorem dX9_form_92 : decode cX9_form 92 = .ok (.iadd, 1) := by decide +kernel
theorem dX9_form_93 : decode cX9_form 93 = .ok (.istore 6, 2) := by decide +kernel
theorem dX9_form_95 : decode cX9_form 95 = .ok (.iconst 1, 1) := by decide +kernel
theorem dX9_form_96 : decode cX9_form 96 = .ok (.istore 7, 2) := by decide +kernel
theorem dX9_form_98 : decode cX9_form 98 = .ok (.iconst 0, 1) := by decide +kernel
theorem dX9_form_99 : decode cX9_form 99 = .ok (.istore 8, 2) := by decide +kernel
theorem dX9_form_101 : decode cX9_form 101 = .ok (.iload 8, 2) := by decide +kernel
theorem dX9_form_103 : decode cX9_form 103 = .ok (.iload 4, 2) := by decide +kernel
theorem dX9_form_105 : decode cX9_form 105 = .ok (.if_icmp .ge 77, 3) := by decide +kernel
theorem dX9_form_108 : decode cX9_form 108 = .ok (.iconst 0, 1) := by decide +kernel
theorem dX9_form_109 : decode cX9_form 109 = .ok (.istore 9, 2) := by decide +kernel
theorem dX9_form_111 : decode cX9_form 111 = .ok (.iload 9, 2) := by decide +kernel
theorem dX9_form_113 : decode cX9_form 113 = .ok (.iload 8, 2) := by decide +kernel
theorem dX9_form_115 : decode cX9_form 115 = .ok (.if_icmp .gt 61, 3) := by decide +kernel
theorem dX9_form_118 : decode cX9_form 118 = .ok (.iload 7, 2) := by decide +kernel
theorem dX9_form_120 : decode cX9_form 120 = .ok (.ifCond .eq 27, 3) := by decide +kernel
theorem dX9_form_123 : decode cX9_form 123 = .ok (.aload_n 0, 1) := by decide +kernel
theorem dX9_form_124 : decode cX9_form 124 = .ok (.getfield 79, 3) := by decide +kernel
theorem dX9_form_127 : decode cX9_form 127 = .ok (.iload 6, 2) := by decide +kernel
theorem dX9_form_129 : decode cX9_form 129 = .ok (.iaload, 1) := by decide +kernel
theorem dX9_form_130 : decode cX9_form 130 = .ok (.i2l, 1) := by decide +kernel
theorem dX9_form_131 : decode cX9_form 131 = .ok (.ldc2_w 151, 3) := by decide +kernel
theorem dX9_form_134 : decode cX9_form 134 = .ok (.ldc2_w 132, 3) := by decide +kernel
theorem dX9_form_137 : decode cX9_form 137 = .ok (.invokestatic 134, 3) := by decide +kernel
theorem dX9_form_140 : decode cX9_form 140 = .ok (.ifCond .eq 7, 3) := by decide +kernel
theorem dX9_form_143 : decode cX9_form 143 = .ok (.iconst 1, 1) := by decide +kernel
theorem dX9_form_144 : decode cX9_form 144 = .ok (.goto 4, 3) := by decide +kernel
theorem dX9_form_147 : decode cX9_form 147 = .ok (.iconst 0, 1) := by decide +kernel
theorem dX9_form_148 : decode cX9_form 148 = .ok (.istore 7, 2) := by decide +kernel
theorem dX9_form_150 : decode cX9_form 150 = .ok (.aload_n 0, 1) := by decide +kernel
theorem dX9_form_151 : decode cX9_form 151 = .ok (.bipush 72, 2) := by decide +kernel
theorem dX9_form_153 : decode cX9_form 153 = .ok (.iload 8, 2) := by decide +kernel
theorem dX9_form_155 : decode cX9_form 155 = .ok (.iload 9, 2) := by decide +kernel
theorem dX9_form_157 : decode cX9_form 157 = .ok (.aload_n 0, 1) := by decide +kernel
theorem dX9_form_158 : decode cX9_form 158 = .ok (.getfield 79, 3) := by decide +kernel
theorem dX9_form_161 : decode cX9_form 161 = .ok (.iload 6, 2) := by decide +kernel
theorem dX9_form_163 : decode cX9_form 163 = .ok (.iaload, 1) := by decide +kernel
theorem dX9_form_164 : decode cX9_form 164 = .ok (.invokevirtual 142, 3) := by decide +kernel
theorem dX9_form_167 : decode cX9_form 167 = .ok (.iinc 6 1, 3) := by decide +kernel
theorem dX9_form_170 : decode cX9_form 170 = .ok (.iinc 9 1, 3) := by decide +kernel
theorem dX9_form_173 : decode cX9_form 173 = .ok (.goto (-62), 3) := by decide +kernel
theorem dX9_form_176 : decode cX9_form 176 = .ok (.iinc 8 1, 3) := by decide +kernel
theorem dX9_form_179 : decode cX9_form 179 = .ok (.goto (-78), 3) := by decide +kernel
theorem dX9_form_182 : decode cX9_form 182 = .ok (.iload 7, 2) := by decide +kernel
theorem dX9_form_184 : decode cX9_form 184 = .ok (.ifCond .ne 5, 3) := by decide +kernel
theorem dX9_form_187 : decode cX9_form 187 = .ok (.iconst (-1), 1) := by decide +kernel
theorem dX9_form_188 : decode cX9_form 188 = .ok (.ireturn, 1) := by decide +kernel
theorem dX9_form_189 : decode cX9_form 189 = .ok (.aload_n 0, 1) := by decide +kernel
theorem dX9_form_190 : decode cX9_form 190 = .ok (.iload_n 1, 1) := by decide +kernel
theorem dX9_form_191 : decode cX9_form 191 = .ok (.invokevirtual 153, 3) := by decide +kernel
theorem dX9_form_194 : decode cX9_form 194 = .ok (.ifCond .ge 8, 3) := by decide +kernel
theorem dX9_form_197 : decode cX9_form 197 = .ok (.bipush (-5), 2) := by decide +kernel
theorem dX9_form_199 : decode cX9_form 199 = .ok (.goto 5, 3) := by decide +kernel
theorem dX9_form_202 : decode cX9_form 202 = .ok (.iload 4, 2) := by decide +kernel
theorem dX9_form_204 : decode cX9_form 204 = .ok (.ireturn, 1) := by decide +kernel
abbrev MX9_spread : ZM := (yX9_spread, cX9_spread, 9, (Option.some FieldType.int), 2, 41)
theorem dX9_spread_0 : decode cX9_spread 0 = .ok (.aload_n 0, 1) := by decide +kernel
theorem dX9_spread_1 : decode cX9_spread 1 = .ok (.iload_n 1, 1) := by decide +kernel
theorem dX9_spread_2 : decode cX9_spread 2 = .ok (.invokevirtual 156, 3) := by decide +kernel
theorem dX9_spread_5 : decode cX9_spread 5 = .ok (.ifCond .eq 10, 3) := by decide +kernel
theorem dX9_spread_8 : decode cX9_spread 8 = .ok (.iload_n 2, 1) := by decide +kernel
theorem dX9_spread_9 : decode cX9_spread 9 = .ok (.invokestatic 146, 3) := by decide +kernel
theorem dX9_spread_12 : decode cX9_spread 12 = .ok (.ifCond .ne 5, 3) := by decide +kernel
theorem dX9_spread_15 : decode cX9_spread 15 = .ok (.iconst (-1), 1) := by decide +kernel
theorem dX9_spread_16 : decode cX9_spread 16 = .ok (.ireturn, 1) := by decide +kernel
theorem dX9_spread_17 : decode cX9_spread 17 = .ok (.aload_n 0, 1) := by decide +kernel
theorem dX9_spread_18 : decode cX9_spread 18 = .ok (.getfield 73, 3) := by decide +kernel
theorem dX9_spread_21 : decode cX9_spread 21 = .ok (.iload_n 2, 1) := by decide +kernel
theorem dX9_spread_22 : decode cX9_spread 22 = .ok (.iaload, 1) := by decide +kernel
theorem dX9_spread_23 : decode cX9_spread 23 = .ok (.ifCond .ge 6, 3) := by decide +kernel
theorem dX9_spread_26 : decode cX9_spread 26 = .ok (.bipush (-11), 2) := by decide +kernel
theorem dX9_spread_28 : decode cX9_spread 28 = .ok (.ireturn, 1) := by decide +kernel
theorem dX9_spread_29 : decode cX9_spread 29 = .ok (.aload_n 0, 1) := by decide +kernel
theorem dX9_spread_30 : decode cX9_spread 30 = .ok (.getfield 15, 3) := by decide +kernel
theorem dX9_spread_33 : decode cX9_spread 33 = .ok (.iload_n 1, 1) := by decide +kernel
theorem dX9_spread_34 : decode cX9_spread 34 = .ok (.iaload, 1) := by decide +kernel
theorem dX9_spread_35 : decode cX9_spread 35 = .ok (.istore 4, 2) := by decide +kernel
theorem dX9_spread_37 : decode cX9_spread 37 = .ok (.iload 4, 2) := by decide +kernel
theorem dX9_spread_39 : decode cX9_spread 39 = .ok (.iload 4, 2) := by decide +kernel
theorem dX9_spread_41 : decode cX9_spread 41 = .ok (.iconst 1, 1) := by decide +kernel
theorem dX9_spread_42 : decode cX9_spread 42 = .ok (.iadd, 1) := by decide +kernel
theorem dX9_spread_43 : decode cX9_spread 43 = .ok (.imul, 1) := by decide +kernel
theorem dX9_spread_44 : decode cX9_spread 44 = .ok (.iconst 2, 1) := by decide +kernel
theorem dX9_spread_45 : decode cX9_spread 45 = .ok (.idiv, 1) := by decide +kernel
theorem dX9_spread_46 : decode cX9_spread 46 = .ok (.istore 5, 2) := by decide +kernel
theorem dX9_spread_48 : decode cX9_spread 48 = .ok (.iload_n 3, 1) := by decide +kernel
theorem dX9_spread_49 : decode cX9_spread 49 = .ok (.ifCond .lt 16, 3) := by decide +kernel
theorem dX9_spread_52 : decode cX9_spread 52 = .ok (.iload_n 3, 1) := by decide +kernel
theorem dX9_spread_53 : decode cX9_spread 53 = .ok (.aload_n 0, 1) := by decide +kernel
theorem dX9_spread_54 : decode cX9_spread 54 = .ok (.getfield 76, 3) := by decide +kernel
theorem dX9_spread_57 : decode cX9_spread 57 = .ok (.iload_n 2, 1) := by decide +kernel
theorem dX9_spread_58 : decode cX9_spread 58 = .ok (.iaload, 1) := by decide +kernel
theorem dX9_spread_59 : decode cX9_spread 59 = .ok (.iload 5, 2) := by decide +kernel
theorem dX9_spread_61 : decode cX9_spread 61 = .ok (.isub, 1) := by decide +kernel
theorem dX9_spread_62 : decode cX9_spread 62 = .ok (.if_icmp .le 6, 3) := by decide +kernel
theorem dX9_spread_65 : decode cX9_spread 65 = .ok (.bipush (-12), 2) := by decide +kernel
theorem dX9_spread_67 : decode cX9_spread 67 = .ok (.ireturn, 1) := by decide +kernel
theorem dX9_spread_68 : decode cX9_spread 68 = .ok (.bipush 40, 2) := by decide +kernel
theorem dX9_spread_70 : decode cX9_spread 70 = .ok (.iload_n 2, 1) := by decide +kernel
theorem dX9_spread_71 : decode cX9_spread 71 = .ok (.imul, 1) := by decide +kernel
theorem dX9_spread_72 : decode cX9_spread 72 = .ok (.iload_n 3, 1) := by decide +kernel
theorem dX9_spread_73 : decode cX9_spread 73 = .ok (.iadd, 1) := by decide +kernel
theorem dX9_spread_74 : decode cX9_spread 74 = .ok (.istore 6, 2) := by decide +kernel
theorem dX9_spread_76 : decode cX9_spread 76 = .ok (.iconst 0, 1) := by decide +kernel
theorem dX9_spread_77 : decode cX9_spread 77 = .ok (.istore 7, 2) := by decide +kernel
theorem dX9_spread_79 : decode cX9_spread 79 = .ok (.iload 7, 2) := by decide +kernel
theorem dX9_spread_81 : decode cX9_spread 81 = .ok (.iload 4, 2) := by decide +kernel
theorem dX9_spread_83 : decode cX9_spread 83 = .ok (.if_icmp .ge 44, 3) := by decide +kernel
theorem dX9_spread_86 : decode cX9_spread 86 = .ok (.iconst 0, 1) := by decide +kernel
theorem dX9_spread_87 : decode cX9_spread 87 = .ok (.istore 8, 2) := by decide +kernel
theorem dX9_spread_89 : decode cX9_spread 89 = .ok (.iload 8, 2) := by decide +kernel
theorem dX9_spread_91 : decode cX9_spread 91 = .ok (.iload 7, 2) := by decide +kernel
theorem dX9_spread_93 : decode cX9_spread 93 = .ok (.if_icmp .gt 28, 3) := by decide +kernel
theorem dX9_spread_96 : decode cX9_spread 96 = .ok (.aload_n 0, 1) := by decide +kernel
theorem dX9_spread_97 : decode cX9_spread 97 = .ok (.getfield 79, 3) := by decide +kernel
theorem dX9_spread_100 : decode cX9_spread 100 = .ok (.iload 6, 2) := by decide +kernel
theorem dX9_spread_102 : decode cX9_spread 102 = .ok (.aload_n 0, 1) := by decide +kernel
theorem dX9_spread_103 : decode cX9_spread 103 = .ok (.iload_n 1, 1) := by decide +kernel
theorem dX9_spread_104 : decode cX9_spread 104 = .ok (.iload 7, 2) := by decide +kernel
theorem dX9_spread_106 : decode cX9_spread 106 = .ok (.iload 8, 2) := by decide +kernel
theorem dX9_spread_108 : decode cX9_spread 108 = .ok (.invokevirtual 90, 3) := by decide +kernel
theorem dX9_spread_111 : decode cX9_spread 111 = .ok (.iastore, 1) := by decide +kernel
theorem dX9_spread_112 : decode cX9_spread 112 = .ok (.iinc 6 1, 3) := by decide +kernel
theorem dX9_spread_115 : decode cX9_spread 115 = .ok (.iinc 8 1, 3) := by decide +kernel
theorem dX9_spread_118 : decode cX9_spread 118 = .ok (.goto (-29), 3) := by decide +kernel
theorem dX9_spread_121 : decode cX9_spread 121 = .ok (.iinc 7 1, 3) := by decide +kernel
theorem dX9_spread_124 : decode cX9_spread 124 = .ok (.goto (-45), 3) := by decide +kernel
theorem dX9_spread_127 : decode cX9_spread 127 = .ok (.iload 5, 2) := by decide +kernel
theorem dX9_spread_129 : decode cX9_spread 129 = .ok (.ireturn, 1) := by decide +kernel
abbrev MX9_clear : ZM := (yX9_clear, cX9_clear, 3, (Option.some FieldType.int), 1, 22)
theorem dX9_clear_0 : decode cX9_clear 0 = .ok (.iload_n 1, 1) := by decide +kernel
theorem dX9_clear_1 : decode cX9_clear 1 = .ok (.invokestatic 86, 3) := by decide +kernel
theorem dX9_clear_4 : decode cX9_clear 4 = .ok (.ifCond .ne 5, 3) := by decide +kernel
theorem dX9_clear_7 : decode cX9_clear 7 = .ok (.iconst (-1), 1) := by decide +kernel
theorem dX9_clear_8 : decode cX9_clear 8 = .ok (.ireturn, 1) := by decide +kernel
theorem dX9_clear_9 : decode cX9_clear 9 = .ok (.aload_n 0, 1) := by decide +kernel
theorem dX9_clear_10 : decode cX9_clear 10 = .ok (.getfield 15, 3) := by decide +kernel
theorem dX9_clear_13 : decode cX9_clear 13 = .ok (.iload_n 1, 1) := by decide +kernel
theorem dX9_clear_14 : decode cX9_clear 14 = .ok (.iaload, 1) := by decide +kernel
theorem dX9_clear_15 : decode cX9_clear 15 = .ok (.istore_n 2, 1) := by decide +kernel
theorem dX9_clear_16 : decode cX9_clear 16 = .ok (.aload_n 0, 1) := by decide +kernel
theorem dX9_clear_17 : decode cX9_clear 17 = .ok (.iload_n 1, 1) := by decide +kernel
theorem dX9_clear_18 : decode cX9_clear 18 = .ok (.invokevirtual 138, 3) := by decide +kernel
theorem dX9_clear_21 : decode cX9_clear 21 = .ok (.iload_n 2, 1) := by decide +kernel
theorem dX9_clear_22 : decode cX9_clear 22 = .ok (.ireturn, 1) := by decide +kernel
abbrev MX9_entry : ZM := (yX9_entry, cX9_entry, 5, (Option.some FieldType.int), 4, 99)
theorem dX9_entry_0 : decode cX9_entry 0 = .ok (.aload_n 0, 1) := by decide +kernel
theorem dX9_entry_1 : decode cX9_entry 1 = .ok (.iload_n 1, 1) := by decide +kernel
theorem dX9_entry_2 : decode cX9_entry 2 = .ok (.invokevirtual 156, 3) := by decide +kernel
theorem dX9_entry_5 : decode cX9_entry 5 = .ok (.ifCond .eq 36, 3) := by decide +kernel
theorem dX9_entry_8 : decode cX9_entry 8 = .ok (.aload_n 0, 1) := by decide +kernel
theorem dX9_entry_9 : decode cX9_entry 9 = .ok (.iload_n 1, 1) := by decide +kernel
theorem dX9_entry_10 : decode cX9_entry 10 = .ok (.iload_n 2, 1) := by decide +kernel
theorem dX9_entry_11 : decode cX9_entry 11 = .ok (.invokevirtual 159, 3) := by decide +kernel
theorem dX9_entry_14 : decode cX9_entry 14 = .ok (.ifCond .eq 27, 3) := by decide +kernel
theorem dX9_entry_17 : decode cX9_entry 17 = .ok (.aload_n 0, 1) := by decide +kernel
theorem dX9_entry_18 : decode cX9_entry 18 = .ok (.iload_n 1, 1) := by decide +kernel
theorem dX9_entry_19 : decode cX9_entry 19 = .ok (.iload_n 3, 1) := by decide +kernel
theorem dX9_entry_20 : decode cX9_entry 20 = .ok (.invokevirtual 159, 3) := by decide +kernel
theorem dX9_entry_23 : decode cX9_entry 23 = .ok (.ifCond .eq 18, 3) := by decide +kernel
theorem dX9_entry_26 : decode cX9_entry 26 = .ok (.iload 4, 2) := by decide +kernel
theorem dX9_entry_28 : decode cX9_entry 28 = .ok (.i2l, 1) := by decide +kernel
theorem dX9_entry_29 : decode cX9_entry 29 = .ok (.ldc2_w 151, 3) := by decide +kernel
theorem dX9_entry_32 : decode cX9_entry 32 = .ok (.ldc2_w 132, 3) := by decide +kernel
theorem dX9_entry_35 : decode cX9_entry 35 = .ok (.invokestatic 134, 3) := by decide +kernel
theorem dX9_entry_38 : decode cX9_entry 38 = .ok (.ifCond .ne 5, 3) := by decide +kernel
theorem dX9_entry_41 : decode cX9_entry 41 = .ok (.iconst (-1), 1) := by decide +kernel
theorem dX9_entry_42 : decode cX9_entry 42 = .ok (.ireturn, 1) := by decide +kernel
theorem dX9_entry_43 : decode cX9_entry 43 = .ok (.aload_n 0, 1) := by decide +kernel
theorem dX9_entry_44 : decode cX9_entry 44 = .ok (.iload_n 1, 1) := by decide +kernel
theorem dX9_entry_45 : decode cX9_entry 45 = .ok (.bipush 72, 2) := by decide +kernel
theorem dX9_entry_47 : decode cX9_entry 47 = .ok (.invokevirtual 128, 3) := by decide +kernel
theorem dX9_entry_50 : decode cX9_entry 50 = .ok (.aload_n 0, 1) := by decide +kernel
theorem dX9_entry_51 : decode cX9_entry 51 = .ok (.bipush 72, 2) := by decide +kernel
theorem dX9_entry_53 : decode cX9_entry 53 = .ok (.iload_n 2, 1) := by decide +kernel
theorem dX9_entry_54 : decode cX9_entry 54 = .ok (.iload_n 3, 1) := by decide +kernel
theorem dX9_entry_55 : decode cX9_entry 55 = .ok (.iload 4, 2) := by decide +kernel
theorem dX9_entry_57 : decode cX9_entry 57 = .ok (.invokevirtual 142, 3) := by decide +kernel
theorem dX9_entry_60 : decode cX9_entry 60 = .ok (.aload_n 0, 1) := by decide +kernel
theorem dX9_entry_61 : decode cX9_entry 61 = .ok (.iload_n 1, 1) := by decide +kernel
theorem dX9_entry_62 : decode cX9_entry 62 = .ok (.invokevirtual 153, 3) := by decide +kernel
theorem dX9_entry_65 : decode cX9_entry 65 = .ok (.ireturn, 1) := by decide +kernel
abbrev MX9_at : ZM := (yX9_at, cX9_at, 4, (Option.some FieldType.int), 2, 41)
theorem dX9_at_0 : decode cX9_at 0 = .ok (.aload_n 0, 1) := by decide +kernel
theorem dX9_at_1 : decode cX9_at 1 = .ok (.iload_n 1, 1) := by decide +kernel
theorem dX9_at_2 : decode cX9_at 2 = .ok (.invokevirtual 156, 3) := by decide +kernel
theorem dX9_at_5 : decode cX9_at 5 = .ok (.ifCond .eq 31, 3) := by decide +kernel
theorem dX9_at_8 : decode cX9_at 8 = .ok (.aload_n 0, 1) := by decide +kernel
theorem dX9_at_9 : decode cX9_at 9 = .ok (.iload_n 1, 1) := by decide +kernel
theorem dX9_at_10 : decode cX9_at 10 = .ok (.iload_n 2, 1) := by decide +kernel
theorem dX9_at_11 : decode cX9_at 11 = .ok (.invokevirtual 159, 3) := by decide +kernel
theorem dX9_at_14 : decode cX9_at 14 = .ok (.ifCond .eq 22, 3) := by decide +kernel
theorem dX9_at_17 : decode cX9_at 17 = .ok (.aload_n 0, 1) := by decide +kernel
theorem dX9_at_18 : decode cX9_at 18 = .ok (.iload_n 1, 1) := by decide +kernel
theorem dX9_at_19 : decode cX9_at 19 = .ok (.iload_n 3, 1) := by decide +kernel
theorem dX9_at_20 : decode cX9_at 20 = .ok (.invokevirtual 159, 3) := by decide +kernel
theorem dX9_at_23 : decode cX9_at 23 = .ok (.ifCond .eq 13, 3) := by decide +kernel
theorem dX9_at_26 : decode cX9_at 26 = .ok (.aload_n 0, 1) := by decide +kernel
theorem dX9_at_27 : decode cX9_at 27 = .ok (.iload_n 1, 1) := by decide +kernel
theorem dX9_at_28 : decode cX9_at 28 = .ok (.iload_n 2, 1) := by decide +kernel
theorem dX9_at_29 : decode cX9_at 29 = .ok (.iload_n 3, 1) := by decide +kernel
theorem dX9_at_30 : decode cX9_at 30 = .ok (.invokevirtual 90, 3) := by decide +kernel
theorem dX9_at_33 : decode cX9_at 33 = .ok (.goto 5, 3) := by decide +kernel
theorem dX9_at_36 : decode cX9_at 36 = .ok (.ldc 163, 2) := by decide +kernel
theorem dX9_at_38 : decode cX9_at 38 = .ok (.ireturn, 1) := by decide +kernel
abbrev MX9_minor : ZM := (yX9_minor, cX9_minor, 3, (Option.some FieldType.int), 2, 55)
theorem dX9_minor_0 : decode cX9_minor 0 = .ok (.aload_n 0, 1) := by decide +kernel
theorem dX9_minor_1 : decode cX9_minor 1 = .ok (.iload_n 1, 1) := by decide +kernel
theorem dX9_minor_2 : decode cX9_minor 2 = .ok (.invokevirtual 156, 3) := by decide +kernel
theorem dX9_minor_5 : decode cX9_minor 5 = .ok (.ifCond .eq 30, 3) := by decide +kernel
theorem dX9_minor_8 : decode cX9_minor 8 = .ok (.iload_n 2, 1) := by decide +kernel
theorem dX9_minor_9 : decode cX9_minor 9 = .ok (.i2l, 1) := by decide +kernel
theorem dX9_minor_10 : decode cX9_minor 10 = .ok (.lconst 0, 1) := by decide +kernel
theorem dX9_minor_11 : decode cX9_minor 11 = .ok (.aload_n 0, 1) := by decide +kernel
theorem dX9_minor_12 : decode cX9_minor 12 = .ok (.getfield 15, 3) := by decide +kernel
theorem dX9_minor_15 : decode cX9_minor 15 = .ok (.iload_n 1, 1) := by decide +kernel
theorem dX9_minor_16 : decode cX9_minor 16 = .ok (.iaload, 1) := by decide +kernel
theorem dX9_minor_17 : decode cX9_minor 17 = .ok (.i2l, 1) := by decide +kernel
theorem dX9_minor_18 : decode cX9_minor 18 = .ok (.invokestatic 134, 3) := by decide +kernel
theorem dX9_minor_21 : decode cX9_minor 21 = .ok (.ifCond .eq 14, 3) := by decide +kernel
theorem dX9_minor_24 : decode cX9_minor 24 = .ok (.aload_n 0, 1) := by decide +kernel
theorem dX9_minor_25 : decode cX9_minor 25 = .ok (.iload_n 1, 1) := by decide +kernel
theorem dX9_minor_26 : decode cX9_minor 26 = .ok (.iload_n 2, 1) := by decide +kernel
theorem dX9_minor_27 : decode cX9_minor 27 = .ok (.iconst (-1), 1) := by decide +kernel
theorem dX9_minor_28 : decode cX9_minor 28 = .ok (.invokevirtual 104, 3) := by decide +kernel
theorem dX9_minor_31 : decode cX9_minor 31 = .ok (.l2i, 1) := by decide +kernel
theorem dX9_minor_32 : decode cX9_minor 32 = .ok (.goto 4, 3) := by decide +kernel
theorem dX9_minor_35 : decode cX9_minor 35 = .ok (.iconst (-1), 1) := by decide +kernel
theorem dX9_minor_36 : decode cX9_minor 36 = .ok (.ireturn, 1) := by decide +kernel
abbrev MX9_of : ZM := (yX9_of, cX9_of, 6, (Option.some FieldType.int), 3, 78)
theorem dX9_of_0 : decode cX9_of 0 = .ok (.iload_n 1, 1) := by decide +kernel
theorem dX9_of_1 : decode cX9_of 1 = .ok (.invokestatic 86, 3) := by decide +kernel
theorem dX9_of_4 : decode cX9_of 4 = .ok (.ifCond .eq 15, 3) := by decide +kernel
theorem dX9_of_7 : decode cX9_of 7 = .ok (.iload_n 2, 1) := by decide +kernel
theorem dX9_of_8 : decode cX9_of 8 = .ok (.i2l, 1) := by decide +kernel
theorem dX9_of_9 : decode cX9_of 9 = .ok (.lconst 0, 1) := by decide +kernel
theorem dX9_of_10 : decode cX9_of 10 = .ok (.ldc2_w 164, 3) := by decide +kernel
theorem dX9_of_13 : decode cX9_of 13 = .ok (.invokestatic 134, 3) := by decide +kernel
theorem dX9_of_16 : decode cX9_of 16 = .ok (.ifCond .ne 5, 3) := by decide +kernel
theorem dX9_of_19 : decode cX9_of 19 = .ok (.iconst (-1), 1) := by decide +kernel
theorem dX9_of_20 : decode cX9_of 20 = .ok (.ireturn, 1) := by decide +kernel
theorem dX9_of_21 : decode cX9_of 21 = .ok (.aload_n 0, 1) := by decide +kernel
theorem dX9_of_22 : decode cX9_of 22 = .ok (.getfield 15, 3) := by decide +kernel
theorem dX9_of_25 : decode cX9_of 25 = .ok (.iload_n 1, 1) := by decide +kernel
theorem dX9_of_26 : decode cX9_of 26 = .ok (.iaload, 1) := by decide +kernel
theorem dX9_of_27 : decode cX9_of 27 = .ok (.ifCond .ne 14, 3) := by decide +kernel
theorem dX9_of_30 : decode cX9_of 30 = .ok (.iload_n 2, 1) := by decide +kernel
theorem dX9_of_31 : decode cX9_of 31 = .ok (.ifCond .ne 7, 3) := by decide +kernel
theorem dX9_of_34 : decode cX9_of 34 = .ok (.iconst 0, 1) := by decide +kernel
theorem dX9_of_35 : decode cX9_of 35 = .ok (.goto 5, 3) := by decide +kernel
theorem dX9_of_38 : decode cX9_of 38 = .ok (.bipush (-2), 2) := by decide +kernel
theorem dX9_of_40 : decode cX9_of 40 = .ok (.ireturn, 1) := by decide +kernel
theorem dX9_of_41 : decode cX9_of 41 = .ok (.aload_n 0, 1) := by decide +kernel
theorem dX9_of_42 : decode cX9_of 42 = .ok (.iload_n 1, 1) := by decide +kernel
theorem dX9_of_43 : decode cX9_of 43 = .ok (.invokevirtual 125, 3) := by decide +kernel
theorem dX9_of_46 : decode cX9_of 46 = .ok (.istore_n 3, 1) := by decide +kernel
theorem dX9_of_47 : decode cX9_of 47 = .ok (.iconst 0, 1) := by decide +kernel
theorem dX9_of_48 : decode cX9_of 48 = .ok (.istore 4, 2) := by decide +kernel
theorem dX9_of_50 : decode cX9_of 50 = .ok (.iconst 0, 1) := by decide +kernel
theorem dX9_of_51 : decode cX9_of 51 = .ok (.istore 5, 2) := by decide +kernel
theorem dX9_of_53 : decode cX9_of 53 = .ok (.iload 5, 2) := by decide +kernel
theorem dX9_of_55 : decode cX9_of 55 = .ok (.aload_n 0, 1) := by decide +kernel
theorem dX9_of_56 : decode cX9_of 56 = .ok (.getfield 15, 3) := by decide +kernel
theorem dX9_of_59 : decode cX9_of 59 = .ok (.iload_n 1, 1) := by decide +kernel
theorem dX9_of_60 : decode cX9_of 60 = .ok (.iaload, 1) := by decide +kernel
theorem dX9_of_61 : decode cX9_of 61 = .ok (.if_icmp .ge 39, 3) := by decide +kernel
theorem dX9_of_64 : decode cX9_of 64 = .ok (.aload_n 0, 1) := by decide +kernel
theorem dX9_of_65 : decode cX9_of 65 = .ok (.iload_n 1, 1) := by decide +kernel
theorem dX9_of_66 : decode cX9_of 66 = .ok (.iload 5, 2) := by decide +kernel
theorem dX9_of_68 : decode cX9_of 68 = .ok (.iload 5, 2) := by decide +kernel
theorem dX9_of_70 : decode cX9_of 70 = .ok (.invokevirtual 90, 3) := by decide +kernel
theorem dX9_of_73 : decode cX9_of 73 = .ok (.iload 4, 2) := by decide +kernel
theorem dX9_of_75 : decode cX9_of 75 = .ok (.if_icmp .le 15, 3) := by decide +kernel
theorem dX9_of_78 : decode cX9_of 78 = .ok (.aload_n 0, 1) := by decide +kernel
theorem dX9_of_79 : decode cX9_of 79 = .ok (.iload_n 1, 1) := by decide +kernel
theorem dX9_of_80 : decode cX9_of 80 = .ok (.iload 5, 2) := by decide +kernel
theorem dX9_of_82 : decode cX9_of 82 = .ok (.iload 5, 2) := by decide +kernel
theorem dX9_of_84 : decode cX9_of 84 = .ok (.invokevirtual 90, 3) := by decide +kernel
theorem dX9_of_87 : decode cX9_of 87 = .ok (.goto 5, 3) := by decide +kernel
theorem dX9_of_90 : decode cX9_of 90 = .ok (.iload 4, 2) := by decide +kernel
theorem dX9_of_92 : decode cX9_of 92 = .ok (.istore 4, 2) := by decide +kernel
theorem dX9_of_94 : decode cX9_of 94 = .ok (.iinc 5 1, 3) := by decide +kernel
theorem dX9_of_97 : decode cX9_of 97 = .ok (.goto (-44), 3) := by decide +kernel
theorem dX9_of_100 : decode cX9_of 100 = .ok (.iload_n 2, 1) := by decide +kernel
theorem dX9_of_101 : decode cX9_of 101 = .ok (.ifCond .ne 12, 3) := by decide +kernel
theorem dX9_of_104 : decode cX9_of 104 = .ok (.aload_n 0, 1) := by decide +kernel
theorem dX9_of_105 : decode cX9_of 105 = .ok (.getfield 15, 3) := by decide +kernel
theorem dX9_of_108 : decode cX9_of 108 = .ok (.iload_n 1, 1) := by decide +kernel
theorem dX9_of_109 : decode cX9_of 109 = .ok (.iaload, 1) := by decide +kernel
theorem dX9_of_110 : decode cX9_of 110 = .ok (.goto 31, 3) := by decide +kernel
theorem dX9_of_113 : decode cX9_of 113 = .ok (.iload_n 2, 1) := by decide +kernel
theorem dX9_of_114 : decode cX9_of 114 = .ok (.iconst 1, 1) := by decide +kernel
theorem dX9_of_115 : decode cX9_of 115 = .ok (.if_icmp .ne 11, 3) := by decide +kernel
theorem dX9_of_118 : decode cX9_of 118 = .ok (.aload_n 0, 1) := by decide +kernel
theorem dX9_of_119 : decode cX9_of 119 = .ok (.getfield 108, 3) := by decide +kernel
theorem dX9_of_122 : decode cX9_of 122 = .ok (.l2i, 1) := by decide +kernel
theorem dX9_of_123 : decode cX9_of 123 = .ok (.goto 18, 3) := by decide +kernel
theorem dX9_of_126 : decode cX9_of 126 = .ok (.iload_n 2, 1) := by decide +kernel
theorem dX9_of_127 : decode cX9_of 127 = .ok (.iconst 2, 1) := by decide +kernel
theorem dX9_of_128 : decode cX9_of 128 = .ok (.if_icmp .ne 11, 3) := by decide +kernel
theorem dX9_of_131 : decode cX9_of 131 = .ok (.aload_n 0, 1) := by decide +kernel
theorem dX9_of_132 : decode cX9_of 132 = .ok (.getfield 112, 3) := by decide +kernel
theorem dX9_of_135 : decode cX9_of 135 = .ok (.l2i, 1) := by decide +kernel
theorem dX9_of_136 : decode cX9_of 136 = .ok (.goto 5, 3) := by decide +kernel
theorem dX9_of_139 : decode cX9_of 139 = .ok (.iload 4, 2) := by decide +kernel
theorem dX9_of_141 : decode cX9_of 141 = .ok (.ireturn, 1) := by decide +kernel
abbrev MX9_worth : ZM := (yX9_worth, cX9_worth, 20, (Option.some FieldType.long), 2, 41)
theorem dX9_worth_0 : decode cX9_worth 0 = .ok (.aload_n 0, 1) := by decide +kernel
theorem dX9_worth_1 : decode cX9_worth 1 = .ok (.iload_n 1, 1) := by decide +kernel
theorem dX9_worth_2 : decode cX9_worth 2 = .ok (.invokevirtual 156, 3) := by decide +kernel
theorem dX9_worth_5 : decode cX9_worth 5 = .ok (.ifCond .ne 7, 3) := by decide +kernel
theorem dX9_worth_8 : decode cX9_worth 8 = .ok (.ldc2_w 166, 3) := by decide +kernel
theorem dX9_worth_11 : decode cX9_worth 11 = .ok (.lreturn, 1) := by decide +kernel
theorem dX9_worth_12 : decode cX9_worth 12 = .ok (.aload_n 0, 1) := by decide +kernel
theorem dX9_worth_13 : decode cX9_worth 13 = .ok (.getfield 37, 3) := by decide +kernel
theorem dX9_worth_16 : decode cX9_worth 16 = .ok (.iconst 0, 1) := by decide +kernel
theorem dX9_worth_17 : decode cX9_worth 17 = .ok (.iload_n 2, 1) := by decide +kernel
theorem dX9_worth_18 : decode cX9_worth 18 = .ok (.i2l, 1) := by decide +kernel
theorem dX9_worth_19 : decode cX9_worth 19 = .ok (.lastore, 1) := by decide +kernel
theorem dX9_worth_20 : decode cX9_worth 20 = .ok (.aload_n 0, 1) := by decide +kernel
theorem dX9_worth_21 : decode cX9_worth 21 = .ok (.getfield 37, 3) := by decide +kernel
theorem dX9_worth_24 : decode cX9_worth 24 = .ok (.iconst 1, 1) := by decide +kernel
theorem dX9_worth_25 : decode cX9_worth 25 = .ok (.iload_n 3, 1) := by decide +kernel
theorem dX9_worth_26 : decode cX9_worth 26 = .ok (.i2l, 1) := by decide +kernel
theorem dX9_worth_27 : decode cX9_worth 27 = .ok (.lastore, 1) := by decide +kernel
theorem dX9_worth_28 : decode cX9_worth 28 = .ok (.aload_n 0, 1) := by decide +kernel
theorem dX9_worth_29 : decode cX9_worth 29 = .ok (.getfield 37, 3) := by decide +kernel
theorem dX9_worth_32 : decode cX9_worth 32 = .ok (.iconst 2, 1) := by decide +kernel
theorem dX9_worth_33 : decode cX9_worth 33 = .ok (.iload 4, 2) := by decide +kernel
theorem dX9_worth_35 : decode cX9_worth 35 = .ok (.i2l, 1) := by decide +kernel
theorem dX9_worth_36 : decode cX9_worth 36 = .ok (.lastore, 1) := by decide +kernel
theorem dX9_worth_37 : decode cX9_worth 37 = .ok (.aload_n 0, 1) := by decide +kernel
theorem dX9_worth_38 : decode cX9_worth 38 = .ok (.getfield 37, 3) := by decide +kernel
theorem dX9_worth_41 : decode cX9_worth 41 = .ok (.iconst 3, 1) := by decide +kernel
theorem dX9_worth_42 : decode cX9_worth 42 = .ok (.iload 5, 2) := by decide +kernel
theorem dX9_worth_44 : decode cX9_worth 44 = .ok (.i2l, 1) := by decide +kernel
theorem dX9_worth_45 : decode cX9_worth 45 = .ok (.lastore, 1) := by decide +kernel
theorem dX9_worth_46 : decode cX9_worth 46 = .ok (.lconst 0, 1) := by decide +kernel
theorem dX9_worth_47 : decode cX9_worth 47 = .ok (.lstore 6, 2) := by decide +kernel
theorem dX9_worth_49 : decode cX9_worth 49 = .ok (.lconst 0, 1) := by decide +kernel
theorem dX9_worth_50 : decode cX9_worth 50 = .ok (.lstore 8, 2) := by decide +kernel
theorem dX9_worth_52 : decode cX9_worth 52 = .ok (.iconst 0, 1) := by decide +kernel
theorem dX9_worth_53 : decode cX9_worth 53 = .ok (.istore 10, 2) := by decide +kernel
theorem dX9_worth_55 : decode cX9_worth 55 = .ok (.iload 10, 2) := by decide +kernel
theorem dX9_worth_57 : decode cX9_worth 57 = .ok (.aload_n 0, 1) := by decide +kernel
theorem dX9_worth_58 : decode cX9_worth 58 = .ok (.getfield 15, 3) := by decide +kernel
theorem dX9_worth_61 : decode cX9_worth 61 = .ok (.iload_n 1, 1) := by decide +kernel
theorem dX9_worth_62 : decode cX9_worth 62 = .ok (.iaload, 1) := by decide +kernel
theorem dX9_worth_63 : decode cX9_worth 63 = .ok (.if_icmp .ge 138, 3) := by decide +kernel
theorem dX9_worth_66 : decode cX9_worth 66 = .ok (.iconst 0, 1) := by decide +kernel
theorem dX9_worth_67 : decode cX9_worth 67 = .ok (.istore 11, 2) := by decide +kernel
theorem dX9_worth_69 : decode cX9_worth 69 = .ok (.iload 11, 2) := by decide +kernel
theorem dX9_worth_71 : decode cX9_worth 71 = .ok (.aload_n 0, 1) := by decide +kernel
theorem dX9_worth_72 : decode cX9_worth 72 = .ok (.getfield 15, 3) := by decide +kernel
theorem dX9_worth_75 : decode cX9_worth 75 = .ok (.iload_n 1, 1) := by decide +kernel
theorem dX9_worth_76 : decode cX9_worth 76 = .ok (.iaload, 1) := by decide +kernel
theorem dX9_worth_77 : decode cX9_worth 77 = .ok (.if_icmp .ge 118, 3) := by decide +kernel
theorem dX9_worth_80 : decode cX9_worth 80 = .ok (.aload_n 0, 1) := by decide +kernel
theorem dX9_worth_81 : decode cX9_worth 81 = .ok (.iload_n 1, 1) := by decide +kernel
theorem dX9_worth_82 : decode cX9_worth 82 = .ok (.iload 10, 2) := by decide +kernel
theorem dX9_worth_84 : decode cX9_worth 84 = .ok (.iload 11, 2) := by decide +kernel
theorem dX9_worth_86 : decode cX9_worth 86 = .ok (.invokevirtual 90, 3) := by decide +kernel
theorem dX9_worth_89 : decode cX9_worth 89 = .ok (.i2l, 1) := by decide +kernel
theorem dX9_worth_90 : decode cX9_worth 90 = .ok (.lstore 12, 2) := by decide +kernel
theorem dX9_worth_92 : decode cX9_worth 92 = .ok (.aload_n 0, 1) := by decide +kernel
theorem dX9_worth_93 : decode cX9_worth 93 = .ok (.getfield 37, 3) := by decide +kernel
theorem dX9_worth_96 : decode cX9_worth 96 = .ok (.iload 10, 2) := by decide +kernel
theorem dX9_worth_98 : decode cX9_worth 98 = .ok (.laload, 1) := by decide +kernel
theorem dX9_worth_99 : decode cX9_worth 99 = .ok (.aload_n 0, 1) := by decide +kernel
theorem dX9_worth_100 : decode cX9_worth 100 = .ok (.getfield 37, 3) := by decide +kernel
theorem dX9_worth_103 : decode cX9_worth 103 = .ok (.iload 11, 2) := by decide +kernel
theorem dX9_worth_105 : decode cX9_worth 105 = .ok (.laload, 1) := by decide +kernel
theorem dX9_worth_106 : decode cX9_worth 106 = .ok (.lmul, 1) := by decide +kernel
theorem dX9_worth_107 : decode cX9_worth 107 = .ok (.lstore 14, 2) := by decide +kernel
theorem dX9_worth_109 : decode cX9_worth 109 = .ok (.lload 14, 2) := by decide +kernel
theorem dX9_worth_111 : decode cX9_worth 111 = .ok (.lconst 0, 1) := by decide +kernel
theorem dX9_worth_112 : decode cX9_worth 112 = .ok (.lcmp, 1) := by decide +kernel
theorem dX9_worth_113 : decode cX9_worth 113 = .ok (.ifCond .ge 9, 3) := by decide +kernel
theorem dX9_worth_116 : decode cX9_worth 116 = .ok (.lload 14, 2) := by decide +kernel
theorem dX9_worth_118 : decode cX9_worth 118 = .ok (.lneg, 1) := by decide +kernel
theorem dX9_worth_119 : decode cX9_worth 119 = .ok (.goto 5, 3) := by decide +kernel
theorem dX9_worth_122 : decode cX9_worth 122 = .ok (.lload 14, 2) := by decide +kernel
theorem dX9_worth_124 : decode cX9_worth 124 = .ok (.lstore 16, 2) := by decide +kernel
theorem dX9_worth_126 : decode cX9_worth 126 = .ok (.lload 12, 2) := by decide +kernel
theorem dX9_worth_128 : decode cX9_worth 128 = .ok (.lconst 0, 1) := by decide +kernel
theorem dX9_worth_129 : decode cX9_worth 129 = .ok (.lcmp, 1) := by decide +kernel
theorem dX9_worth_130 : decode cX9_worth 130 = .ok (.ifCond .ge 9, 3) := by decide +kernel
theorem dX9_worth_133 : decode cX9_worth 133 = .ok (.lload 12, 2) := by decide +kernel
theorem dX9_worth_135 : decode cX9_worth 135 = .ok (.lneg, 1) := by decide +kernel
theorem dX9_worth_136 : decode cX9_worth 136 = .ok (.goto 5, 3) := by decide +kernel
theorem dX9_worth_139 : decode cX9_worth 139 = .ok (.lload 12, 2) := by decide +kernel
theorem dX9_worth_141 : decode cX9_worth 141 = .ok (.lstore 18, 2) := by decide +kernel
theorem dX9_worth_143 : decode cX9_worth 143 = .ok (.lload 18, 2) := by decide +kernel
theorem dX9_worth_145 : decode cX9_worth 145 = .ok (.lconst 0, 1) := by decide +kernel
theorem dX9_worth_146 : decode cX9_worth 146 = .ok (.lcmp, 1) := by decide +kernel
theorem dX9_worth_147 : decode cX9_worth 147 = .ok (.ifCond .le 22, 3) := by decide +kernel
theorem dX9_worth_150 : decode cX9_worth 150 = .ok (.lload 16, 2) := by decide +kernel
theorem dX9_worth_152 : decode cX9_worth 152 = .ok (.ldc2_w 168, 3) := by decide +kernel
theorem dX9_worth_155 : decode cX9_worth 155 = .ok (.lload 8, 2) := by decide +kernel
theorem dX9_worth_157 : decode cX9_worth 157 = .ok (.lsub, 1) := by decide +kernel
theorem dX9_worth_158 : decode cX9_worth 158 = .ok (.lload 18, 2) := by decide +kernel
theorem dX9_worth_160 : decode cX9_worth 160 = .ok (.ldiv, 1) := by decide +kernel
theorem dX9_worth_161 : decode cX9_worth 161 = .ok (.lcmp, 1) := by decide +kernel
theorem dX9_worth_162 : decode cX9_worth 162 = .ok (.ifCond .le 7, 3) := by decide +kernel
theorem dX9_worth_165 : decode cX9_worth 165 = .ok (.ldc2_w 170, 3) := by decide +kernel
theorem dX9_worth_168 : decode cX9_worth 168 = .ok (.lreturn, 1) := by decide +kernel
theorem dX9_worth_169 : decode cX9_worth 169 = .ok (.lload 8, 2) := by decide +kernel
theorem dX9_worth_171 : decode cX9_worth 171 = .ok (.lload 18, 2) := by decide +kernel
theorem dX9_worth_173 : decode cX9_worth 173 = .ok (.lload 16, 2) := by decide +kernel
theorem dX9_worth_175 : decode cX9_worth 175 = .ok (.lmul, 1) := by decide +kernel
theorem dX9_worth_176 : decode cX9_worth 176 = .ok (.ladd, 1) := by decide +kernel
theorem dX9_worth_177 : decode cX9_worth 177 = .ok (.lstore 8, 2) := by decide +kernel
theorem dX9_worth_179 : decode cX9_worth 179 = .ok (.lload 6, 2) := by decide +kernel
theorem dX9_worth_181 : decode cX9_worth 181 = .ok (.lload 12, 2) := by decide +kernel
theorem dX9_worth_183 : decode cX9_worth 183 = .ok (.lload 14, 2) := by decide +kernel
theorem dX9_worth_185 : decode cX9_worth 185 = .ok (.lmul, 1) := by decide +kernel
theorem dX9_worth_186 : decode cX9_worth 186 = .ok (.ladd, 1) := by decide +kernel
theorem dX9_worth_187 : decode cX9_worth 187 = .ok (.lstore 6, 2) := by decide +kernel
theorem dX9_worth_189 : decode cX9_worth 189 = .ok (.iinc 11 1, 3) := by decide +kernel
theorem dX9_worth_192 : decode cX9_worth 192 = .ok (.goto (-123), 3) := by decide +kernel
theorem dX9_worth_195 : decode cX9_worth 195 = .ok (.iinc 10 1, 3) := by decide +kernel
theorem dX9_worth_198 : decode cX9_worth 198 = .ok (.goto (-143), 3) := by decide +kernel
theorem dX9_worth_201 : decode cX9_worth 201 = .ok (.lload 6, 2) := by decide +kernel
theorem dX9_worth_203 : decode cX9_worth 203 = .ok (.lreturn, 1) := by decide +kernel
abbrev MX9_changeAt : ZM := (yX9_changeAt, cX9_changeAt, 7, (Option.none : Option FieldType), 1, 24)
theorem dX9_changeAt_0 : decode cX9_changeAt 0 = .ok (.aload_n 0, 1) := by decide +kernel
theorem dX9_changeAt_1 : decode cX9_changeAt 1 = .ok (.iload_n 1, 1) := by decide +kernel
theorem dX9_changeAt_2 : decode cX9_changeAt 2 = .ok (.iload_n 2, 1) := by decide +kernel
theorem dX9_changeAt_3 : decode cX9_changeAt 3 = .ok (.iload_n 2, 1) := by decide +kernel
theorem dX9_changeAt_4 : decode cX9_changeAt 4 = .ok (.invokevirtual 90, 3) := by decide +kernel
theorem dX9_changeAt_7 : decode cX9_changeAt 7 = .ok (.iconst 2, 1) := by decide +kernel
theorem dX9_changeAt_8 : decode cX9_changeAt 8 = .ok (.iload 4, 2) := by decide +kernel
theorem dX9_changeAt_10 : decode cX9_changeAt 10 = .ok (.imul, 1) := by decide +kernel
theorem dX9_changeAt_11 : decode cX9_changeAt 11 = .ok (.aload_n 0, 1) := by decide +kernel
theorem dX9_changeAt_12 : decode cX9_changeAt 12 = .ok (.iload_n 1, 1) := by decide +kernel
theorem dX9_changeAt_13 : decode cX9_changeAt 13 = .ok (.iload_n 2, 1) := by decide +kernel
theorem dX9_changeAt_14 : decode cX9_changeAt 14 = .ok (.iload_n 3, 1) := by decide +kernel
theorem dX9_changeAt_15 : decode cX9_changeAt 15 = .ok (.invokevirtual 90, 3) := by decide +kernel
theorem dX9_changeAt_18 : decode cX9_changeAt 18 = .ok (.imul, 1) := by decide +kernel
theorem dX9_changeAt_19 : decode cX9_changeAt 19 = .ok (.iadd, 1) := by decide +kernel
theorem dX9_changeAt_20 : decode cX9_changeAt 20 = .ok (.iload 4, 2) := by decide +kernel
theorem dX9_changeAt_22 : decode cX9_changeAt 22 = .ok (.iload 4, 2) := by decide +kernel
theorem dX9_changeAt_24 : decode cX9_changeAt 24 = .ok (.imul, 1) := by decide +kernel
theorem dX9_changeAt_25 : decode cX9_changeAt 25 = .ok (.aload_n 0, 1) := by decide +kernel
theorem dX9_changeAt_26 : decode cX9_changeAt 26 = .ok (.iload_n 1, 1) := by decide +kernel
theorem dX9_changeAt_27 : decode cX9_changeAt 27 = .ok (.iload_n 3, 1) := by decide +kernel
theorem dX9_changeAt_28 : decode cX9_changeAt 28 = .ok (.iload_n 3, 1) := by decide +kernel
theorem dX9_changeAt_29 : decode cX9_changeAt 29 = .ok (.invokevirtual 90, 3) := by decide +kernel
theorem dX9_changeAt_32 : decode cX9_changeAt 32 = .ok (.imul, 1) := by decide +kernel
theorem dX9_changeAt_33 : decode cX9_changeAt 33 = .ok (.iadd, 1) := by decide +kernel
theorem dX9_changeAt_34 : decode cX9_changeAt 34 = .ok (.istore 5, 2) := by decide +kernel
theorem dX9_changeAt_36 : decode cX9_changeAt 36 = .ok (.iconst 0, 1) := by decide +kernel
theorem dX9_changeAt_37 : decode cX9_changeAt 37 = .ok (.istore 6, 2) := by decide +kernel
theorem dX9_changeAt_39 : decode cX9_changeAt 39 = .ok (.iload 6, 2) := by decide +kernel
theorem dX9_changeAt_41 : decode cX9_changeAt 41 = .ok (.aload_n 0, 1) := by decide +kernel
theorem dX9_changeAt_42 : decode cX9_changeAt 42 = .ok (.getfield 15, 3) := by decide +kernel
theorem dX9_changeAt_45 : decode cX9_changeAt 45 = .ok (.iload_n 1, 1) := by decide +kernel
theorem dX9_changeAt_46 : decode cX9_changeAt 46 = .ok (.iaload, 1) := by decide +kernel
theorem dX9_changeAt_47 : decode cX9_changeAt 47 = .ok (.if_icmp .ge 43, 3) := by decide +kernel
theorem dX9_changeAt_50 : decode cX9_changeAt 50 = .ok (.iload 6, 2) := by decide +kernel
theorem dX9_changeAt_52 : decode cX9_changeAt 52 = .ok (.iload_n 2, 1) := by decide +kernel
theorem dX9_changeAt_53 : decode cX9_changeAt 53 = .ok (.if_icmp .eq 31, 3) := by decide +kernel
theorem dX9_changeAt_56 : decode cX9_changeAt 56 = .ok (.aload_n 0, 1) := by decide +kernel
theorem dX9_changeAt_57 : decode cX9_changeAt 57 = .ok (.iload_n 1, 1) := by decide +kernel
theorem dX9_changeAt_58 : decode cX9_changeAt 58 = .ok (.iload_n 2, 1) := by decide +kernel
theorem dX9_changeAt_59 : decode cX9_changeAt 59 = .ok (.iload 6, 2) := by decide +kernel
theorem dX9_changeAt_61 : decode cX9_changeAt 61 = .ok (.aload_n 0, 1) := by decide +kernel
theorem dX9_changeAt_62 : decode cX9_changeAt 62 = .ok (.iload_n 1, 1) := by decide +kernel
theorem dX9_changeAt_63 : decode cX9_changeAt 63 = .ok (.iload_n 2, 1) := by decide +kernel
theorem dX9_changeAt_64 : decode cX9_changeAt 64 = .ok (.iload 6, 2) := by decide +kernel
theorem dX9_changeAt_66 : decode cX9_changeAt 66 = .ok (.invokevirtual 90, 3) := by decide +kernel
theorem dX9_changeAt_69 : decode cX9_changeAt 69 = .ok (.iload 4, 2) := by decide +kernel
theorem dX9_changeAt_71 : decode cX9_changeAt 71 = .ok (.aload_n 0, 1) := by decide +kernel
theorem dX9_changeAt_72 : decode cX9_changeAt 72 = .ok (.iload_n 1, 1) := by decide +kernel
theorem dX9_changeAt_73 : decode cX9_changeAt 73 = .ok (.iload_n 3, 1) := by decide +kernel
theorem dX9_changeAt_74 : decode cX9_changeAt 74 = .ok (.iload 6, 2) := by decide +kernel
theorem dX9_changeAt_76 : decode cX9_changeAt 76 = .ok (.invokevirtual 90, 3) := by decide +kernel
theorem dX9_changeAt_79 : decode cX9_changeAt 79 = .ok (.imul, 1) := by decide +kernel
theorem dX9_changeAt_80 : decode cX9_changeAt 80 = .ok (.iadd, 1) := by decide +kernel
theorem dX9_changeAt_81 : decode cX9_changeAt 81 = .ok (.invokevirtual 142, 3) := by decide +kernel
theorem dX9_changeAt_84 : decode cX9_changeAt 84 = .ok (.iinc 6 1, 3) := by decide +kernel
theorem dX9_changeAt_87 : decode cX9_changeAt 87 = .ok (.goto (-48), 3) := by decide +kernel
theorem dX9_changeAt_90 : decode cX9_changeAt 90 = .ok (.aload_n 0, 1) := by decide +kernel
theorem dX9_changeAt_91 : decode cX9_changeAt 91 = .ok (.iload_n 1, 1) := by decide +kernel
theorem dX9_changeAt_92 : decode cX9_changeAt 92 = .ok (.iload_n 2, 1) := by decide +kernel
theorem dX9_changeAt_93 : decode cX9_changeAt 93 = .ok (.iload_n 2, 1) := by decide +kernel
theorem dX9_changeAt_94 : decode cX9_changeAt 94 = .ok (.iload 5, 2) := by decide +kernel
theorem dX9_changeAt_96 : decode cX9_changeAt 96 = .ok (.invokevirtual 142, 3) := by decide +kernel
theorem dX9_changeAt_99 : decode cX9_changeAt 99 = .ok (.return_, 1) := by decide +kernel
abbrev MX9_change : ZM := (yX9_change, cX9_change, 5, (Option.some FieldType.int), 4, 99)
theorem dX9_change_0 : decode cX9_change 0 = .ok (.aload_n 0, 1) := by decide +kernel
theorem dX9_change_1 : decode cX9_change 1 = .ok (.iload_n 1, 1) := by decide +kernel
theorem dX9_change_2 : decode cX9_change 2 = .ok (.invokevirtual 156, 3) := by decide +kernel
theorem dX9_change_5 : decode cX9_change 5 = .ok (.ifCond .eq 41, 3) := by decide +kernel
theorem dX9_change_8 : decode cX9_change 8 = .ok (.aload_n 0, 1) := by decide +kernel
theorem dX9_change_9 : decode cX9_change 9 = .ok (.iload_n 1, 1) := by decide +kernel
theorem dX9_change_10 : decode cX9_change 10 = .ok (.iload_n 2, 1) := by decide +kernel
theorem dX9_change_11 : decode cX9_change 11 = .ok (.invokevirtual 159, 3) := by decide +kernel
theorem dX9_change_14 : decode cX9_change 14 = .ok (.ifCond .eq 32, 3) := by decide +kernel
theorem dX9_change_17 : decode cX9_change 17 = .ok (.aload_n 0, 1) := by decide +kernel
theorem dX9_change_18 : decode cX9_change 18 = .ok (.iload_n 1, 1) := by decide +kernel
theorem dX9_change_19 : decode cX9_change 19 = .ok (.iload_n 3, 1) := by decide +kernel
theorem dX9_change_20 : decode cX9_change 20 = .ok (.invokevirtual 159, 3) := by decide +kernel
theorem dX9_change_23 : decode cX9_change 23 = .ok (.ifCond .eq 23, 3) := by decide +kernel
theorem dX9_change_26 : decode cX9_change 26 = .ok (.iload_n 2, 1) := by decide +kernel
theorem dX9_change_27 : decode cX9_change 27 = .ok (.iload_n 3, 1) := by decide +kernel
theorem dX9_change_28 : decode cX9_change 28 = .ok (.if_icmp .eq 18, 3) := by decide +kernel
theorem dX9_change_31 : decode cX9_change 31 = .ok (.iload 4, 2) := by decide +kernel
theorem dX9_change_33 : decode cX9_change 33 = .ok (.i2l, 1) := by decide +kernel
theorem dX9_change_34 : decode cX9_change 34 = .ok (.ldc2_w 172, 3) := by decide +kernel
theorem dX9_change_37 : decode cX9_change 37 = .ok (.ldc2_w 174, 3) := by decide +kernel
theorem dX9_change_40 : decode cX9_change 40 = .ok (.invokestatic 134, 3) := by decide +kernel
theorem dX9_change_43 : decode cX9_change 43 = .ok (.ifCond .ne 5, 3) := by decide +kernel
theorem dX9_change_46 : decode cX9_change 46 = .ok (.iconst (-1), 1) := by decide +kernel
theorem dX9_change_47 : decode cX9_change 47 = .ok (.ireturn, 1) := by decide +kernel
theorem dX9_change_48 : decode cX9_change 48 = .ok (.aload_n 0, 1) := by decide +kernel
theorem dX9_change_49 : decode cX9_change 49 = .ok (.iload_n 1, 1) := by decide +kernel
theorem dX9_change_50 : decode cX9_change 50 = .ok (.bipush 72, 2) := by decide +kernel
theorem dX9_change_52 : decode cX9_change 52 = .ok (.invokevirtual 128, 3) := by decide +kernel
theorem dX9_change_55 : decode cX9_change 55 = .ok (.aload_n 0, 1) := by decide +kernel
theorem dX9_change_56 : decode cX9_change 56 = .ok (.bipush 72, 2) := by decide +kernel
theorem dX9_change_58 : decode cX9_change 58 = .ok (.iload_n 2, 1) := by decide +kernel
theorem dX9_change_59 : decode cX9_change 59 = .ok (.iload_n 3, 1) := by decide +kernel
theorem dX9_change_60 : decode cX9_change 60 = .ok (.iload 4, 2) := by decide +kernel
theorem dX9_change_62 : decode cX9_change 62 = .ok (.invokevirtual 176, 3) := by decide +kernel
theorem dX9_change_65 : decode cX9_change 65 = .ok (.aload_n 0, 1) := by decide +kernel
theorem dX9_change_66 : decode cX9_change 66 = .ok (.iload_n 1, 1) := by decide +kernel
theorem dX9_change_67 : decode cX9_change 67 = .ok (.invokevirtual 153, 3) := by decide +kernel
theorem dX9_change_70 : decode cX9_change 70 = .ok (.ireturn, 1) := by decide +kernel
abbrev MX9_swap : ZM := (yX9_swap, cX9_swap, 8, (Option.some FieldType.int), 2, 41)
theorem dX9_swap_0 : decode cX9_swap 0 = .ok (.aload_n 0, 1) := by decide +kernel
theorem dX9_swap_1 : decode cX9_swap 1 = .ok (.iload_n 1, 1) := by decide +kernel
theorem dX9_swap_2 : decode cX9_swap 2 = .ok (.invokevirtual 156, 3) := by decide +kernel
theorem dX9_swap_5 : decode cX9_swap 5 = .ok (.ifCond .eq 21, 3) := by decide +kernel
theorem dX9_swap_8 : decode cX9_swap 8 = .ok (.aload_n 0, 1) := by decide +kernel
theorem dX9_swap_9 : decode cX9_swap 9 = .ok (.iload_n 1, 1) := by decide +kernel
theorem dX9_swap_10 : decode cX9_swap 10 = .ok (.iload_n 2, 1) := by decide +kernel
theorem dX9_swap_11 : decode cX9_swap 11 = .ok (.invokevirtual 159, 3) := by decide +kernel
theorem dX9_swap_14 : decode cX9_swap 14 = .ok (.ifCond .eq 12, 3) := by decide +kernel
theorem dX9_swap_17 : decode cX9_swap 17 = .ok (.aload_n 0, 1) := by decide +kernel
theorem dX9_swap_18 : decode cX9_swap 18 = .ok (.iload_n 1, 1) := by decide +kernel
theorem dX9_swap_19 : decode cX9_swap 19 = .ok (.iload_n 3, 1) := by decide +kernel
theorem dX9_swap_20 : decode cX9_swap 20 = .ok (.invokevirtual 159, 3) := by decide +kernel
theorem dX9_swap_23 : decode cX9_swap 23 = .ok (.ifCond .ne 5, 3) := by decide +kernel
theorem dX9_swap_26 : decode cX9_swap 26 = .ok (.iconst (-1), 1) := by decide +kernel
theorem dX9_swap_27 : decode cX9_swap 27 = .ok (.ireturn, 1) := by decide +kernel
theorem dX9_swap_28 : decode cX9_swap 28 = .ok (.aload_n 0, 1) := by decide +kernel
theorem dX9_swap_29 : decode cX9_swap 29 = .ok (.iload_n 1, 1) := by decide +kernel
theorem dX9_swap_30 : decode cX9_swap 30 = .ok (.bipush 72, 2) := by decide +kernel
theorem dX9_swap_32 : decode cX9_swap 32 = .ok (.invokevirtual 128, 3) := by decide +kernel
theorem dX9_swap_35 : decode cX9_swap 35 = .ok (.iconst 0, 1) := by decide +kernel
theorem dX9_swap_36 : decode cX9_swap 36 = .ok (.istore 4, 2) := by decide +kernel
theorem dX9_swap_38 : decode cX9_swap 38 = .ok (.iload 4, 2) := by decide +kernel
theorem dX9_swap_40 : decode cX9_swap 40 = .ok (.aload_n 0, 1) := by decide +kernel
theorem dX9_swap_41 : decode cX9_swap 41 = .ok (.getfield 15, 3) := by decide +kernel
theorem dX9_swap_44 : decode cX9_swap 44 = .ok (.iload_n 1, 1) := by decide +kernel
theorem dX9_swap_45 : decode cX9_swap 45 = .ok (.iaload, 1) := by decide +kernel
theorem dX9_swap_46 : decode cX9_swap 46 = .ok (.if_icmp .ge 104, 3) := by decide +kernel
theorem dX9_swap_49 : decode cX9_swap 49 = .ok (.iconst 0, 1) := by decide +kernel
theorem dX9_swap_50 : decode cX9_swap 50 = .ok (.istore 5, 2) := by decide +kernel
theorem dX9_swap_52 : decode cX9_swap 52 = .ok (.iload 5, 2) := by decide +kernel
theorem dX9_swap_54 : decode cX9_swap 54 = .ok (.aload_n 0, 1) := by decide +kernel
theorem dX9_swap_55 : decode cX9_swap 55 = .ok (.getfield 15, 3) := by decide +kernel
theorem dX9_swap_58 : decode cX9_swap 58 = .ok (.iload_n 1, 1) := by decide +kernel
theorem dX9_swap_59 : decode cX9_swap 59 = .ok (.iaload, 1) := by decide +kernel
theorem dX9_swap_60 : decode cX9_swap 60 = .ok (.if_icmp .ge 84, 3) := by decide +kernel
theorem dX9_swap_63 : decode cX9_swap 63 = .ok (.iload 4, 2) := by decide +kernel
theorem dX9_swap_65 : decode cX9_swap 65 = .ok (.iload_n 2, 1) := by decide +kernel
theorem dX9_swap_66 : decode cX9_swap 66 = .ok (.if_icmp .ne 7, 3) := by decide +kernel
theorem dX9_swap_69 : decode cX9_swap 69 = .ok (.iload_n 3, 1) := by decide +kernel
theorem dX9_swap_70 : decode cX9_swap 70 = .ok (.goto 15, 3) := by decide +kernel
theorem dX9_swap_73 : decode cX9_swap 73 = .ok (.iload 4, 2) := by decide +kernel
theorem dX9_swap_75 : decode cX9_swap 75 = .ok (.iload_n 3, 1) := by decide +kernel
theorem dX9_swap_76 : decode cX9_swap 76 = .ok (.if_icmp .ne 7, 3) := by decide +kernel
theorem dX9_swap_79 : decode cX9_swap 79 = .ok (.iload_n 2, 1) := by decide +kernel
theorem dX9_swap_80 : decode cX9_swap 80 = .ok (.goto 5, 3) := by decide +kernel
theorem dX9_swap_83 : decode cX9_swap 83 = .ok (.iload 4, 2) := by decide +kernel
theorem dX9_swap_85 : decode cX9_swap 85 = .ok (.istore 6, 2) := by decide +kernel
theorem dX9_swap_87 : decode cX9_swap 87 = .ok (.iload 5, 2) := by decide +kernel
theorem dX9_swap_89 : decode cX9_swap 89 = .ok (.iload_n 2, 1) := by decide +kernel
theorem dX9_swap_90 : decode cX9_swap 90 = .ok (.if_icmp .ne 7, 3) := by decide +kernel
theorem dX9_swap_93 : decode cX9_swap 93 = .ok (.iload_n 3, 1) := by decide +kernel
theorem dX9_swap_94 : decode cX9_swap 94 = .ok (.goto 15, 3) := by decide +kernel
theorem dX9_swap_97 : decode cX9_swap 97 = .ok (.iload 5, 2) := by decide +kernel
theorem dX9_swap_99 : decode cX9_swap 99 = .ok (.iload_n 3, 1) := by decide +kernel
theorem dX9_swap_100 : decode cX9_swap 100 = .ok (.if_icmp .ne 7, 3) := by decide +kernel
theorem dX9_swap_103 : decode cX9_swap 103 = .ok (.iload_n 2, 1) := by decide +kernel
theorem dX9_swap_104 : decode cX9_swap 104 = .ok (.goto 5, 3) := by decide +kernel
theorem dX9_swap_107 : decode cX9_swap 107 = .ok (.iload 5, 2) := by decide +kernel
theorem dX9_swap_109 : decode cX9_swap 109 = .ok (.istore 7, 2) := by decide +kernel
theorem dX9_swap_111 : decode cX9_swap 111 = .ok (.aload_n 0, 1) := by decide +kernel
theorem dX9_swap_112 : decode cX9_swap 112 = .ok (.getfield 11, 3) := by decide +kernel
theorem dX9_swap_115 : decode cX9_swap 115 = .ok (.bipush 16, 2) := by decide +kernel
theorem dX9_swap_117 : decode cX9_swap 117 = .ok (.iload_n 1, 1) := by decide +kernel
theorem dX9_swap_118 : decode cX9_swap 118 = .ok (.imul, 1) := by decide +kernel
theorem dX9_swap_119 : decode cX9_swap 119 = .ok (.iconst 4, 1) := by decide +kernel
theorem dX9_swap_120 : decode cX9_swap 120 = .ok (.iload 4, 2) := by decide +kernel
theorem dX9_swap_122 : decode cX9_swap 122 = .ok (.imul, 1) := by decide +kernel
theorem dX9_swap_123 : decode cX9_swap 123 = .ok (.iadd, 1) := by decide +kernel
theorem dX9_swap_124 : decode cX9_swap 124 = .ok (.iload 5, 2) := by decide +kernel
theorem dX9_swap_126 : decode cX9_swap 126 = .ok (.iadd, 1) := by decide +kernel
theorem dX9_swap_127 : decode cX9_swap 127 = .ok (.aload_n 0, 1) := by decide +kernel
theorem dX9_swap_128 : decode cX9_swap 128 = .ok (.bipush 72, 2) := by decide +kernel
theorem dX9_swap_130 : decode cX9_swap 130 = .ok (.iload 6, 2) := by decide +kernel
theorem dX9_swap_132 : decode cX9_swap 132 = .ok (.iload 7, 2) := by decide +kernel
theorem dX9_swap_134 : decode cX9_swap 134 = .ok (.invokevirtual 90, 3) := by decide +kernel
theorem dX9_swap_137 : decode cX9_swap 137 = .ok (.iastore, 1) := by decide +kernel
theorem dX9_swap_138 : decode cX9_swap 138 = .ok (.iinc 5 1, 3) := by decide +kernel
theorem dX9_swap_141 : decode cX9_swap 141 = .ok (.goto (-89), 3) := by decide +kernel
theorem dX9_swap_144 : decode cX9_swap 144 = .ok (.iinc 4 1, 3) := by decide +kernel
theorem dX9_swap_147 : decode cX9_swap 147 = .ok (.goto (-109), 3) := by decide +kernel
theorem dX9_swap_150 : decode cX9_swap 150 = .ok (.aload_n 0, 1) := by decide +kernel
theorem dX9_swap_151 : decode cX9_swap 151 = .ok (.getfield 15, 3) := by decide +kernel
theorem dX9_swap_154 : decode cX9_swap 154 = .ok (.iload_n 1, 1) := by decide +kernel
theorem dX9_swap_155 : decode cX9_swap 155 = .ok (.iaload, 1) := by decide +kernel
theorem dX9_swap_156 : decode cX9_swap 156 = .ok (.ireturn, 1) := by decide +kernel
abbrev MX9_scale : ZM := (yX9_scale, cX9_scale, 4, (Option.some FieldType.int), 4, 99)
theorem dX9_scale_0 : decode cX9_scale 0 = .ok (.aload_n 0, 1) := by decide +kernel
theorem dX9_scale_1 : decode cX9_scale 1 = .ok (.iload_n 1, 1) := by decide +kernel
theorem dX9_scale_2 : decode cX9_scale 2 = .ok (.invokevirtual 156, 3) := by decide +kernel
theorem dX9_scale_5 : decode cX9_scale 5 = .ok (.ifCond .eq 15, 3) := by decide +kernel
theorem dX9_scale_8 : decode cX9_scale 8 = .ok (.iload_n 2, 1) := by decide +kernel
theorem dX9_scale_9 : decode cX9_scale 9 = .ok (.i2l, 1) := by decide +kernel
theorem dX9_scale_10 : decode cX9_scale 10 = .ok (.lconst 1, 1) := by decide +kernel
theorem dX9_scale_11 : decode cX9_scale 11 = .ok (.ldc2_w 132, 3) := by decide +kernel
theorem dX9_scale_14 : decode cX9_scale 14 = .ok (.invokestatic 134, 3) := by decide +kernel
theorem dX9_scale_17 : decode cX9_scale 17 = .ok (.ifCond .ne 5, 3) := by decide +kernel
theorem dX9_scale_20 : decode cX9_scale 20 = .ok (.iconst (-1), 1) := by decide +kernel
theorem dX9_scale_21 : decode cX9_scale 21 = .ok (.ireturn, 1) := by decide +kernel
theorem dX9_scale_22 : decode cX9_scale 22 = .ok (.aload_n 0, 1) := by decide +kernel
theorem dX9_scale_23 : decode cX9_scale 23 = .ok (.iload_n 1, 1) := by decide +kernel
theorem dX9_scale_24 : decode cX9_scale 24 = .ok (.bipush 72, 2) := by decide +kernel
theorem dX9_scale_26 : decode cX9_scale 26 = .ok (.invokevirtual 128, 3) := by decide +kernel
theorem dX9_scale_29 : decode cX9_scale 29 = .ok (.iconst 0, 1) := by decide +kernel
theorem dX9_scale_30 : decode cX9_scale 30 = .ok (.istore_n 3, 1) := by decide +kernel
theorem dX9_scale_31 : decode cX9_scale 31 = .ok (.iload_n 3, 1) := by decide +kernel
theorem dX9_scale_32 : decode cX9_scale 32 = .ok (.bipush 16, 2) := by decide +kernel
theorem dX9_scale_34 : decode cX9_scale 34 = .ok (.if_icmp .ge 23, 3) := by decide +kernel
theorem dX9_scale_37 : decode cX9_scale 37 = .ok (.aload_n 0, 1) := by decide +kernel
theorem dX9_scale_38 : decode cX9_scale 38 = .ok (.getfield 11, 3) := by decide +kernel
theorem dX9_scale_41 : decode cX9_scale 41 = .ok (.sipush 1152, 3) := by decide +kernel
theorem dX9_scale_44 : decode cX9_scale 44 = .ok (.iload_n 3, 1) := by decide +kernel
theorem dX9_scale_45 : decode cX9_scale 45 = .ok (.iadd, 1) := by decide +kernel
theorem dX9_scale_46 : decode cX9_scale 46 = .ok (.dup2, 1) := by decide +kernel
theorem dX9_scale_47 : decode cX9_scale 47 = .ok (.iaload, 1) := by decide +kernel
theorem dX9_scale_48 : decode cX9_scale 48 = .ok (.iload_n 2, 1) := by decide +kernel
theorem dX9_scale_49 : decode cX9_scale 49 = .ok (.imul, 1) := by decide +kernel
theorem dX9_scale_50 : decode cX9_scale 50 = .ok (.iastore, 1) := by decide +kernel
theorem dX9_scale_51 : decode cX9_scale 51 = .ok (.iinc 3 1, 3) := by decide +kernel
theorem dX9_scale_54 : decode cX9_scale 54 = .ok (.goto (-23), 3) := by decide +kernel
theorem dX9_scale_57 : decode cX9_scale 57 = .ok (.aload_n 0, 1) := by decide +kernel
theorem dX9_scale_58 : decode cX9_scale 58 = .ok (.iload_n 1, 1) := by decide +kernel
theorem dX9_scale_59 : decode cX9_scale 59 = .ok (.invokevirtual 153, 3) := by decide +kernel
theorem dX9_scale_62 : decode cX9_scale 62 = .ok (.ireturn, 1) := by decide +kernel
abbrev MX9_join : ZM := (yX9_join, cX9_join, 7, (Option.some FieldType.int), 4, 99)
theorem dX9_join_0 : decode cX9_join 0 = .ok (.aload_n 0, 1) := by decide +kernel
theorem dX9_join_1 : decode cX9_join 1 = .ok (.iload_n 1, 1) := by decide +kernel
theorem dX9_join_2 : decode cX9_join 2 = .ok (.invokevirtual 156, 3) := by decide +kernel
theorem dX9_join_5 : decode cX9_join 5 = .ok (.ifCond .eq 18, 3) := by decide +kernel
theorem dX9_join_8 : decode cX9_join 8 = .ok (.aload_n 0, 1) := by decide +kernel
theorem dX9_join_9 : decode cX9_join 9 = .ok (.iload_n 2, 1) := by decide +kernel
theorem dX9_join_10 : decode cX9_join 10 = .ok (.invokevirtual 156, 3) := by decide +kernel
theorem dX9_join_13 : decode cX9_join 13 = .ok (.ifCond .eq 10, 3) := by decide +kernel
theorem dX9_join_16 : decode cX9_join 16 = .ok (.iload_n 3, 1) := by decide +kernel
theorem dX9_join_17 : decode cX9_join 17 = .ok (.invokestatic 86, 3) := by decide +kernel
theorem dX9_join_20 : decode cX9_join 20 = .ok (.ifCond .ne 5, 3) := by decide +kernel
theorem dX9_join_23 : decode cX9_join 23 = .ok (.iconst (-1), 1) := by decide +kernel
theorem dX9_join_24 : decode cX9_join 24 = .ok (.ireturn, 1) := by decide +kernel
theorem dX9_join_25 : decode cX9_join 25 = .ok (.aload_n 0, 1) := by decide +kernel
theorem dX9_join_26 : decode cX9_join 26 = .ok (.getfield 15, 3) := by decide +kernel
theorem dX9_join_29 : decode cX9_join 29 = .ok (.iload_n 1, 1) := by decide +kernel
theorem dX9_join_30 : decode cX9_join 30 = .ok (.iaload, 1) := by decide +kernel
theorem dX9_join_31 : decode cX9_join 31 = .ok (.istore 4, 2) := by decide +kernel
theorem dX9_join_33 : decode cX9_join 33 = .ok (.iload 4, 2) := by decide +kernel
theorem dX9_join_35 : decode cX9_join 35 = .ok (.aload_n 0, 1) := by decide +kernel
theorem dX9_join_36 : decode cX9_join 36 = .ok (.getfield 15, 3) := by decide +kernel
theorem dX9_join_39 : decode cX9_join 39 = .ok (.iload_n 2, 1) := by decide +kernel
theorem dX9_join_40 : decode cX9_join 40 = .ok (.iaload, 1) := by decide +kernel
theorem dX9_join_41 : decode cX9_join 41 = .ok (.iadd, 1) := by decide +kernel
theorem dX9_join_42 : decode cX9_join 42 = .ok (.iconst 4, 1) := by decide +kernel
theorem dX9_join_43 : decode cX9_join 43 = .ok (.if_icmp .le 6, 3) := by decide +kernel
theorem dX9_join_46 : decode cX9_join 46 = .ok (.bipush (-4), 2) := by decide +kernel
theorem dX9_join_48 : decode cX9_join 48 = .ok (.ireturn, 1) := by decide +kernel
theorem dX9_join_49 : decode cX9_join 49 = .ok (.aload_n 0, 1) := by decide +kernel
theorem dX9_join_50 : decode cX9_join 50 = .ok (.iload_n 1, 1) := by decide +kernel
theorem dX9_join_51 : decode cX9_join 51 = .ok (.bipush 72, 2) := by decide +kernel
theorem dX9_join_53 : decode cX9_join 53 = .ok (.invokevirtual 128, 3) := by decide +kernel
theorem dX9_join_56 : decode cX9_join 56 = .ok (.aload_n 0, 1) := by decide +kernel
theorem dX9_join_57 : decode cX9_join 57 = .ok (.getfield 15, 3) := by decide +kernel
theorem dX9_join_60 : decode cX9_join 60 = .ok (.bipush 72, 2) := by decide +kernel
theorem dX9_join_62 : decode cX9_join 62 = .ok (.iload 4, 2) := by decide +kernel
theorem dX9_join_64 : decode cX9_join 64 = .ok (.aload_n 0, 1) := by decide +kernel
theorem dX9_join_65 : decode cX9_join 65 = .ok (.getfield 15, 3) := by decide +kernel
theorem dX9_join_68 : decode cX9_join 68 = .ok (.iload_n 2, 1) := by decide +kernel
theorem dX9_join_69 : decode cX9_join 69 = .ok (.iaload, 1) := by decide +kernel
theorem dX9_join_70 : decode cX9_join 70 = .ok (.iadd, 1) := by decide +kernel
theorem dX9_join_71 : decode cX9_join 71 = .ok (.iastore, 1) := by decide +kernel
theorem dX9_join_72 : decode cX9_join 72 = .ok (.iconst 0, 1) := by decide +kernel
theorem dX9_join_73 : decode cX9_join 73 = .ok (.istore 5, 2) := by decide +kernel
theorem dX9_join_75 : decode cX9_join 75 = .ok (.iload 5, 2) := by decide +kernel
theorem dX9_join_77 : decode cX9_join 77 = .ok (.aload_n 0, 1) := by decide +kernel
theorem dX9_join_78 : decode cX9_join 78 = .ok (.getfield 15, 3) := by decide +kernel
theorem dX9_join_81 : decode cX9_join 81 = .ok (.iload_n 2, 1) := by decide +kernel
theorem dX9_join_82 : decode cX9_join 82 = .ok (.iaload, 1) := by decide +kernel
theorem dX9_join_83 : decode cX9_join 83 = .ok (.if_icmp .ge 50, 3) := by decide +kernel
theorem dX9_join_86 : decode cX9_join 86 = .ok (.iconst 0, 1) := by decide +kernel
theorem dX9_join_87 : decode cX9_join 87 = .ok (.istore 6, 2) := by decide +kernel
theorem dX9_join_89 : decode cX9_join 89 = .ok (.iload 6, 2) := by decide +kernel
theorem dX9_join_91 : decode cX9_join 91 = .ok (.iload 5, 2) := by decide +kernel
theorem dX9_join_93 : decode cX9_join 93 = .ok (.if_icmp .gt 34, 3) := by decide +kernel
theorem dX9_join_96 : decode cX9_join 96 = .ok (.aload_n 0, 1) := by decide +kernel
theorem dX9_join_97 : decode cX9_join 97 = .ok (.bipush 72, 2) := by decide +kernel
theorem dX9_join_99 : decode cX9_join 99 = .ok (.iload 4, 2) := by decide +kernel
theorem dX9_join_101 : decode cX9_join 101 = .ok (.iload 5, 2) := by decide +kernel
theorem dX9_join_103 : decode cX9_join 103 = .ok (.iadd, 1) := by decide +kernel
theorem dX9_join_104 : decode cX9_join 104 = .ok (.iload 4, 2) := by decide +kernel
theorem dX9_join_106 : decode cX9_join 106 = .ok (.iload 6, 2) := by decide +kernel
theorem dX9_join_108 : decode cX9_join 108 = .ok (.iadd, 1) := by decide +kernel
theorem dX9_join_109 : decode cX9_join 109 = .ok (.aload_n 0, 1) := by decide +kernel
theorem dX9_join_110 : decode cX9_join 110 = .ok (.iload_n 2, 1) := by decide +kernel
theorem dX9_join_111 : decode cX9_join 111 = .ok (.iload 5, 2) := by decide +kernel
theorem dX9_join_113 : decode cX9_join 113 = .ok (.iload 6, 2) := by decide +kernel
theorem dX9_join_115 : decode cX9_join 115 = .ok (.invokevirtual 90, 3) := by decide +kernel
theorem dX9_join_118 : decode cX9_join 118 = .ok (.invokevirtual 142, 3) := by decide +kernel
theorem dX9_join_121 : decode cX9_join 121 = .ok (.iinc 6 1, 3) := by decide +kernel
theorem dX9_join_124 : decode cX9_join 124 = .ok (.goto (-35), 3) := by decide +kernel
theorem dX9_join_127 : decode cX9_join 127 = .ok (.iinc 5 1, 3) := by decide +kernel
theorem dX9_join_130 : decode cX9_join 130 = .ok (.goto (-55), 3) := by decide +kernel
theorem dX9_join_133 : decode cX9_join 133 = .ok (.aload_n 0, 1) := by decide +kernel
theorem dX9_join_134 : decode cX9_join 134 = .ok (.getfield 15, 3) := by decide +kernel
theorem dX9_join_137 : decode cX9_join 137 = .ok (.bipush 72, 2) := by decide +kernel
theorem dX9_join_139 : decode cX9_join 139 = .ok (.iaload, 1) := by decide +kernel
theorem dX9_join_140 : decode cX9_join 140 = .ok (.istore 5, 2) := by decide +kernel
theorem dX9_join_142 : decode cX9_join 142 = .ok (.aload_n 0, 1) := by decide +kernel
theorem dX9_join_143 : decode cX9_join 143 = .ok (.iload_n 3, 1) := by decide +kernel
theorem dX9_join_144 : decode cX9_join 144 = .ok (.invokevirtual 153, 3) := by decide +kernel
theorem dX9_join_147 : decode cX9_join 147 = .ok (.ifCond .ge 8, 3) := by decide +kernel
theorem dX9_join_150 : decode cX9_join 150 = .ok (.bipush (-5), 2) := by decide +kernel
theorem dX9_join_152 : decode cX9_join 152 = .ok (.goto 5, 3) := by decide +kernel
theorem dX9_join_155 : decode cX9_join 155 = .ok (.iload 5, 2) := by decide +kernel
theorem dX9_join_157 : decode cX9_join 157 = .ok (.ireturn, 1) := by decide +kernel
abbrev MX9_reduce : ZM := (yX9_reduce, cX9_reduce, 9, (Option.some FieldType.int), 4, 99)
theorem dX9_reduce_0 : decode cX9_reduce 0 = .ok (.aload_n 0, 1) := by decide +kernel
theorem dX9_reduce_1 : decode cX9_reduce 1 = .ok (.iload_n 1, 1) := by decide +kernel
theorem dX9_reduce_2 : decode cX9_reduce 2 = .ok (.invokevirtual 156, 3) := by decide +kernel
theorem dX9_reduce_5 : decode cX9_reduce 5 = .ok (.ifCond .ne 5, 3) := by decide +kernel
theorem dX9_reduce_8 : decode cX9_reduce 8 = .ok (.iconst (-1), 1) := by decide +kernel
theorem dX9_reduce_9 : decode cX9_reduce 9 = .ok (.ireturn, 1) := by decide +kernel
theorem dX9_reduce_10 : decode cX9_reduce 10 = .ok (.aload_n 0, 1) := by decide +kernel
theorem dX9_reduce_11 : decode cX9_reduce 11 = .ok (.iload_n 1, 1) := by decide +kernel
theorem dX9_reduce_12 : decode cX9_reduce 12 = .ok (.bipush 72, 2) := by decide +kernel
theorem dX9_reduce_14 : decode cX9_reduce 14 = .ok (.invokevirtual 128, 3) := by decide +kernel
theorem dX9_reduce_17 : decode cX9_reduce 17 = .ok (.iconst 0, 1) := by decide +kernel
theorem dX9_reduce_18 : decode cX9_reduce 18 = .ok (.istore_n 2, 1) := by decide +kernel
theorem dX9_reduce_19 : decode cX9_reduce 19 = .ok (.aload_n 0, 1) := by decide +kernel
theorem dX9_reduce_20 : decode cX9_reduce 20 = .ok (.invokevirtual 179, 3) := by decide +kernel
theorem dX9_reduce_23 : decode cX9_reduce 23 = .ok (.istore_n 3, 1) := by decide +kernel
theorem dX9_reduce_24 : decode cX9_reduce 24 = .ok (.iload_n 3, 1) := by decide +kernel
theorem dX9_reduce_25 : decode cX9_reduce 25 = .ok (.ifCond .lt 90, 3) := by decide +kernel
theorem dX9_reduce_28 : decode cX9_reduce 28 = .ok (.iload_n 3, 1) := by decide +kernel
theorem dX9_reduce_29 : decode cX9_reduce 29 = .ok (.iconst 4, 1) := by decide +kernel
theorem dX9_reduce_30 : decode cX9_reduce 30 = .ok (.idiv, 1) := by decide +kernel
theorem dX9_reduce_31 : decode cX9_reduce 31 = .ok (.istore 4, 2) := by decide +kernel
theorem dX9_reduce_33 : decode cX9_reduce 33 = .ok (.iload_n 3, 1) := by decide +kernel
theorem dX9_reduce_34 : decode cX9_reduce 34 = .ok (.iconst 4, 1) := by decide +kernel
theorem dX9_reduce_35 : decode cX9_reduce 35 = .ok (.irem, 1) := by decide +kernel
theorem dX9_reduce_36 : decode cX9_reduce 36 = .ok (.istore 5, 2) := by decide +kernel
theorem dX9_reduce_38 : decode cX9_reduce 38 = .ok (.aload_n 0, 1) := by decide +kernel
theorem dX9_reduce_39 : decode cX9_reduce 39 = .ok (.bipush 72, 2) := by decide +kernel
theorem dX9_reduce_41 : decode cX9_reduce 41 = .ok (.iload 4, 2) := by decide +kernel
theorem dX9_reduce_43 : decode cX9_reduce 43 = .ok (.iload 5, 2) := by decide +kernel
theorem dX9_reduce_45 : decode cX9_reduce 45 = .ok (.invokevirtual 90, 3) := by decide +kernel
theorem dX9_reduce_48 : decode cX9_reduce 48 = .ok (.istore 6, 2) := by decide +kernel
theorem dX9_reduce_50 : decode cX9_reduce 50 = .ok (.aload_n 0, 1) := by decide +kernel
theorem dX9_reduce_51 : decode cX9_reduce 51 = .ok (.bipush 72, 2) := by decide +kernel
theorem dX9_reduce_53 : decode cX9_reduce 53 = .ok (.iload 5, 2) := by decide +kernel
theorem dX9_reduce_55 : decode cX9_reduce 55 = .ok (.iload 5, 2) := by decide +kernel
theorem dX9_reduce_57 : decode cX9_reduce 57 = .ok (.invokevirtual 90, 3) := by decide +kernel
theorem dX9_reduce_60 : decode cX9_reduce 60 = .ok (.istore 7, 2) := by decide +kernel
theorem dX9_reduce_62 : decode cX9_reduce 62 = .ok (.iconst 2, 1) := by decide +kernel
theorem dX9_reduce_63 : decode cX9_reduce 63 = .ok (.iload 6, 2) := by decide +kernel
theorem dX9_reduce_65 : decode cX9_reduce 65 = .ok (.invokestatic 100, 3) := by decide +kernel
theorem dX9_reduce_68 : decode cX9_reduce 68 = .ok (.imul, 1) := by decide +kernel
theorem dX9_reduce_69 : decode cX9_reduce 69 = .ok (.iload 7, 2) := by decide +kernel
theorem dX9_reduce_71 : decode cX9_reduce 71 = .ok (.iadd, 1) := by decide +kernel
theorem dX9_reduce_72 : decode cX9_reduce 72 = .ok (.iconst 1, 1) := by decide +kernel
theorem dX9_reduce_73 : decode cX9_reduce 73 = .ok (.isub, 1) := by decide +kernel
theorem dX9_reduce_74 : decode cX9_reduce 74 = .ok (.iconst 2, 1) := by decide +kernel
theorem dX9_reduce_75 : decode cX9_reduce 75 = .ok (.iload 7, 2) := by decide +kernel
theorem dX9_reduce_77 : decode cX9_reduce 77 = .ok (.imul, 1) := by decide +kernel
theorem dX9_reduce_78 : decode cX9_reduce 78 = .ok (.idiv, 1) := by decide +kernel
theorem dX9_reduce_79 : decode cX9_reduce 79 = .ok (.istore 8, 2) := by decide +kernel
theorem dX9_reduce_81 : decode cX9_reduce 81 = .ok (.aload_n 0, 1) := by decide +kernel
theorem dX9_reduce_82 : decode cX9_reduce 82 = .ok (.bipush 72, 2) := by decide +kernel
theorem dX9_reduce_84 : decode cX9_reduce 84 = .ok (.iload 4, 2) := by decide +kernel
theorem dX9_reduce_86 : decode cX9_reduce 86 = .ok (.iload 5, 2) := by decide +kernel
theorem dX9_reduce_88 : decode cX9_reduce 88 = .ok (.iload 6, 2) := by decide +kernel
theorem dX9_reduce_90 : decode cX9_reduce 90 = .ok (.ifCond .ge 8, 3) := by decide +kernel
theorem dX9_reduce_93 : decode cX9_reduce 93 = .ok (.iload 8, 2) := by decide +kernel
theorem dX9_reduce_95 : decode cX9_reduce 95 = .ok (.goto 6, 3) := by decide +kernel
theorem dX9_reduce_98 : decode cX9_reduce 98 = .ok (.iload 8, 2) := by decide +kernel
theorem dX9_reduce_100 : decode cX9_reduce 100 = .ok (.ineg, 1) := by decide +kernel
theorem dX9_reduce_101 : decode cX9_reduce 101 = .ok (.invokevirtual 176, 3) := by decide +kernel
theorem dX9_reduce_104 : decode cX9_reduce 104 = .ok (.iinc 2 1, 3) := by decide +kernel
theorem dX9_reduce_107 : decode cX9_reduce 107 = .ok (.aload_n 0, 1) := by decide +kernel
theorem dX9_reduce_108 : decode cX9_reduce 108 = .ok (.invokevirtual 179, 3) := by decide +kernel
theorem dX9_reduce_111 : decode cX9_reduce 111 = .ok (.istore_n 3, 1) := by decide +kernel
theorem dX9_reduce_112 : decode cX9_reduce 112 = .ok (.goto (-88), 3) := by decide +kernel
theorem dX9_reduce_115 : decode cX9_reduce 115 = .ok (.aload_n 0, 1) := by decide +kernel
theorem dX9_reduce_116 : decode cX9_reduce 116 = .ok (.iload_n 1, 1) := by decide +kernel
theorem dX9_reduce_117 : decode cX9_reduce 117 = .ok (.invokevirtual 153, 3) := by decide +kernel
theorem dX9_reduce_120 : decode cX9_reduce 120 = .ok (.ifCond .ge 8, 3) := by decide +kernel
theorem dX9_reduce_123 : decode cX9_reduce 123 = .ok (.bipush (-5), 2) := by decide +kernel
theorem dX9_reduce_125 : decode cX9_reduce 125 = .ok (.goto 4, 3) := by decide +kernel
theorem dX9_reduce_128 : decode cX9_reduce 128 = .ok (.iload_n 2, 1) := by decide +kernel
theorem dX9_reduce_129 : decode cX9_reduce 129 = .ok (.ireturn, 1) := by decide +kernel
abbrev MX9_nextStep : ZM := (yX9_nextStep, cX9_nextStep, 3, (Option.some FieldType.int), 1, 23)
theorem dX9_nextStep_0 : decode cX9_nextStep 0 = .ok (.iconst 0, 1) := by decide +kernel
theorem dX9_nextStep_1 : decode cX9_nextStep 1 = .ok (.istore_n 1, 1) := by decide +kernel
theorem dX9_nextStep_2 : decode cX9_nextStep 2 = .ok (.iload_n 1, 1) := by decide +kernel
theorem dX9_nextStep_3 : decode cX9_nextStep 3 = .ok (.aload_n 0, 1) := by decide +kernel
theorem dX9_nextStep_4 : decode cX9_nextStep 4 = .ok (.getfield 15, 3) := by decide +kernel
theorem dX9_nextStep_7 : decode cX9_nextStep 7 = .ok (.bipush 72, 2) := by decide +kernel
theorem dX9_nextStep_9 : decode cX9_nextStep 9 = .ok (.iaload, 1) := by decide +kernel
theorem dX9_nextStep_10 : decode cX9_nextStep 10 = .ok (.if_icmp .ge 63, 3) := by decide +kernel
theorem dX9_nextStep_13 : decode cX9_nextStep 13 = .ok (.iconst 0, 1) := by decide +kernel
theorem dX9_nextStep_14 : decode cX9_nextStep 14 = .ok (.istore_n 2, 1) := by decide +kernel
theorem dX9_nextStep_15 : decode cX9_nextStep 15 = .ok (.iload_n 2, 1) := by decide +kernel
theorem dX9_nextStep_16 : decode cX9_nextStep 16 = .ok (.aload_n 0, 1) := by decide +kernel
theorem dX9_nextStep_17 : decode cX9_nextStep 17 = .ok (.getfield 15, 3) := by decide +kernel
theorem dX9_nextStep_20 : decode cX9_nextStep 20 = .ok (.bipush 72, 2) := by decide +kernel
theorem dX9_nextStep_22 : decode cX9_nextStep 22 = .ok (.iaload, 1) := by decide +kernel
theorem dX9_nextStep_23 : decode cX9_nextStep 23 = .ok (.if_icmp .ge 44, 3) := by decide +kernel
theorem dX9_nextStep_26 : decode cX9_nextStep 26 = .ok (.iload_n 1, 1) := by decide +kernel
theorem dX9_nextStep_27 : decode cX9_nextStep 27 = .ok (.iload_n 2, 1) := by decide +kernel
theorem dX9_nextStep_28 : decode cX9_nextStep 28 = .ok (.if_icmp .eq 33, 3) := by decide +kernel
theorem dX9_nextStep_31 : decode cX9_nextStep 31 = .ok (.iconst 2, 1) := by decide +kernel
theorem dX9_nextStep_32 : decode cX9_nextStep 32 = .ok (.aload_n 0, 1) := by decide +kernel
theorem dX9_nextStep_33 : decode cX9_nextStep 33 = .ok (.bipush 72, 2) := by decide +kernel
theorem dX9_nextStep_35 : decode cX9_nextStep 35 = .ok (.iload_n 1, 1) := by decide +kernel
theorem dX9_nextStep_36 : decode cX9_nextStep 36 = .ok (.iload_n 2, 1) := by decide +kernel
theorem dX9_nextStep_37 : decode cX9_nextStep 37 = .ok (.invokevirtual 90, 3) := by decide +kernel
theorem dX9_nextStep_40 : decode cX9_nextStep 40 = .ok (.invokestatic 100, 3) := by decide +kernel
theorem dX9_nextStep_43 : decode cX9_nextStep 43 = .ok (.imul, 1) := by decide +kernel
theorem dX9_nextStep_44 : decode cX9_nextStep 44 = .ok (.aload_n 0, 1) := by decide +kernel
theorem dX9_nextStep_45 : decode cX9_nextStep 45 = .ok (.bipush 72, 2) := by decide +kernel
theorem dX9_nextStep_47 : decode cX9_nextStep 47 = .ok (.iload_n 2, 1) := by decide +kernel
theorem dX9_nextStep_48 : decode cX9_nextStep 48 = .ok (.iload_n 2, 1) := by decide +kernel
theorem dX9_nextStep_49 : decode cX9_nextStep 49 = .ok (.invokevirtual 90, 3) := by decide +kernel
theorem dX9_nextStep_52 : decode cX9_nextStep 52 = .ok (.if_icmp .le 9, 3) := by decide +kernel
theorem dX9_nextStep_55 : decode cX9_nextStep 55 = .ok (.iconst 4, 1) := by decide +kernel
theorem dX9_nextStep_56 : decode cX9_nextStep 56 = .ok (.iload_n 1, 1) := by decide +kernel
theorem dX9_nextStep_57 : decode cX9_nextStep 57 = .ok (.imul, 1) := by decide +kernel
theorem dX9_nextStep_58 : decode cX9_nextStep 58 = .ok (.iload_n 2, 1) := by decide +kernel
theorem dX9_nextStep_59 : decode cX9_nextStep 59 = .ok (.iadd, 1) := by decide +kernel
theorem dX9_nextStep_60 : decode cX9_nextStep 60 = .ok (.ireturn, 1) := by decide +kernel
theorem dX9_nextStep_61 : decode cX9_nextStep 61 = .ok (.iinc 2 1, 3) := by decide +kernel
theorem dX9_nextStep_64 : decode cX9_nextStep 64 = .ok (.goto (-49), 3) := by decide +kernel
theorem dX9_nextStep_67 : decode cX9_nextStep 67 = .ok (.iinc 1 1, 3) := by decide +kernel
theorem dX9_nextStep_70 : decode cX9_nextStep 70 = .ok (.goto (-68), 3) := by decide +kernel
theorem dX9_nextStep_73 : decode cX9_nextStep 73 = .ok (.iconst (-1), 1) := by decide +kernel
theorem dX9_nextStep_74 : decode cX9_nextStep 74 = .ok (.ireturn, 1) := by decide +kernel
abbrev MX9_same : ZM := (yX9_same, cX9_same, 5, (Option.some FieldType.int), 2, 41)
theorem dX9_same_0 : decode cX9_same 0 = .ok (.aload_n 0, 1) := by decide +kernel
theorem dX9_same_1 : decode cX9_same 1 = .ok (.iload_n 1, 1) := by decide +kernel
theorem dX9_same_2 : decode cX9_same 2 = .ok (.invokevirtual 156, 3) := by decide +kernel
theorem dX9_same_5 : decode cX9_same 5 = .ok (.ifCond .eq 11, 3) := by decide +kernel
theorem dX9_same_8 : decode cX9_same 8 = .ok (.aload_n 0, 1) := by decide +kernel
theorem dX9_same_9 : decode cX9_same 9 = .ok (.iload_n 2, 1) := by decide +kernel
theorem dX9_same_10 : decode cX9_same 10 = .ok (.invokevirtual 156, 3) := by decide +kernel
theorem dX9_same_13 : decode cX9_same 13 = .ok (.ifCond .ne 5, 3) := by decide +kernel
theorem dX9_same_16 : decode cX9_same 16 = .ok (.iconst (-1), 1) := by decide +kernel
theorem dX9_same_17 : decode cX9_same 17 = .ok (.ireturn, 1) := by decide +kernel
theorem dX9_same_18 : decode cX9_same 18 = .ok (.aload_n 0, 1) := by decide +kernel
theorem dX9_same_19 : decode cX9_same 19 = .ok (.getfield 15, 3) := by decide +kernel
theorem dX9_same_22 : decode cX9_same 22 = .ok (.iload_n 1, 1) := by decide +kernel
theorem dX9_same_23 : decode cX9_same 23 = .ok (.iaload, 1) := by decide +kernel
theorem dX9_same_24 : decode cX9_same 24 = .ok (.aload_n 0, 1) := by decide +kernel
theorem dX9_same_25 : decode cX9_same 25 = .ok (.getfield 15, 3) := by decide +kernel
theorem dX9_same_28 : decode cX9_same 28 = .ok (.iload_n 2, 1) := by decide +kernel
theorem dX9_same_29 : decode cX9_same 29 = .ok (.iaload, 1) := by decide +kernel
theorem dX9_same_30 : decode cX9_same 30 = .ok (.if_icmp .ne 7, 3) := by decide +kernel
theorem dX9_same_33 : decode cX9_same 33 = .ok (.iconst 1, 1) := by decide +kernel
theorem dX9_same_34 : decode cX9_same 34 = .ok (.goto 4, 3) := by decide +kernel
theorem dX9_same_37 : decode cX9_same 37 = .ok (.iconst 0, 1) := by decide +kernel
theorem dX9_same_38 : decode cX9_same 38 = .ok (.istore_n 3, 1) := by decide +kernel
theorem dX9_same_39 : decode cX9_same 39 = .ok (.iconst 0, 1) := by decide +kernel
theorem dX9_same_40 : decode cX9_same 40 = .ok (.istore 4, 2) := by decide +kernel
theorem dX9_same_42 : decode cX9_same 42 = .ok (.iload 4, 2) := by decide +kernel
theorem dX9_same_44 : decode cX9_same 44 = .ok (.bipush 16, 2) := by decide +kernel
theorem dX9_same_46 : decode cX9_same 46 = .ok (.if_icmp .ge 46, 3) := by decide +kernel
theorem dX9_same_49 : decode cX9_same 49 = .ok (.iload_n 3, 1) := by decide +kernel
theorem dX9_same_50 : decode cX9_same 50 = .ok (.ifCond .eq 34, 3) := by decide +kernel
theorem dX9_same_53 : decode cX9_same 53 = .ok (.aload_n 0, 1) := by decide +kernel
theorem dX9_same_54 : decode cX9_same 54 = .ok (.getfield 11, 3) := by decide +kernel
theorem dX9_same_57 : decode cX9_same 57 = .ok (.bipush 16, 2) := by decide +kernel
theorem dX9_same_59 : decode cX9_same 59 = .ok (.iload_n 1, 1) := by decide +kernel
theorem dX9_same_60 : decode cX9_same 60 = .ok (.imul, 1) := by decide +kernel
theorem dX9_same_61 : decode cX9_same 61 = .ok (.iload 4, 2) := by decide +kernel
theorem dX9_same_63 : decode cX9_same 63 = .ok (.iadd, 1) := by decide +kernel
theorem dX9_same_64 : decode cX9_same 64 = .ok (.iaload, 1) := by decide +kernel
theorem dX9_same_65 : decode cX9_same 65 = .ok (.aload_n 0, 1) := by decide +kernel
theorem dX9_same_66 : decode cX9_same 66 = .ok (.getfield 11, 3) := by decide +kernel
theorem dX9_same_69 : decode cX9_same 69 = .ok (.bipush 16, 2) := by decide +kernel
theorem dX9_same_71 : decode cX9_same 71 = .ok (.iload_n 2, 1) := by decide +kernel
theorem dX9_same_72 : decode cX9_same 72 = .ok (.imul, 1) := by decide +kernel
theorem dX9_same_73 : decode cX9_same 73 = .ok (.iload 4, 2) := by decide +kernel
theorem dX9_same_75 : decode cX9_same 75 = .ok (.iadd, 1) := by decide +kernel
theorem dX9_same_76 : decode cX9_same 76 = .ok (.iaload, 1) := by decide +kernel
theorem dX9_same_77 : decode cX9_same 77 = .ok (.if_icmp .ne 7, 3) := by decide +kernel
theorem dX9_same_80 : decode cX9_same 80 = .ok (.iconst 1, 1) := by decide +kernel
theorem dX9_same_81 : decode cX9_same 81 = .ok (.goto 4, 3) := by decide +kernel
theorem dX9_same_84 : decode cX9_same 84 = .ok (.iconst 0, 1) := by decide +kernel
theorem dX9_same_85 : decode cX9_same 85 = .ok (.istore_n 3, 1) := by decide +kernel
theorem dX9_same_86 : decode cX9_same 86 = .ok (.iinc 4 1, 3) := by decide +kernel
theorem dX9_same_89 : decode cX9_same 89 = .ok (.goto (-47), 3) := by decide +kernel
theorem dX9_same_92 : decode cX9_same 92 = .ok (.iload_n 3, 1) := by decide +kernel
theorem dX9_same_93 : decode cX9_same 93 = .ok (.ifCond .eq 7, 3) := by decide +kernel
theorem dX9_same_96 : decode cX9_same 96 = .ok (.iconst 1, 1) := by decide +kernel
theorem dX9_same_97 : decode cX9_same 97 = .ok (.goto 4, 3) := by decide +kernel
theorem dX9_same_100 : decode cX9_same 100 = .ok (.iconst 0, 1) := by decide +kernel
theorem dX9_same_101 : decode cX9_same 101 = .ok (.ireturn, 1) := by decide +kernel
abbrev MX9_layCounts : ZM := (yX9_layCounts, cX9_layCounts, 6, (Option.none : Option FieldType), 3, 78)
theorem dX9_layCounts_0 : decode cX9_layCounts 0 = .ok (.aload_n 0, 1) := by decide +kernel
theorem dX9_layCounts_1 : decode cX9_layCounts 1 = .ok (.iload_n 1, 1) := by decide +kernel
theorem dX9_layCounts_2 : decode cX9_layCounts 2 = .ok (.invokevirtual 125, 3) := by decide +kernel
theorem dX9_layCounts_5 : decode cX9_layCounts 5 = .ok (.istore_n 2, 1) := by decide +kernel
theorem dX9_layCounts_6 : decode cX9_layCounts 6 = .ok (.iconst 0, 1) := by decide +kernel
theorem dX9_layCounts_7 : decode cX9_layCounts 7 = .ok (.istore_n 3, 1) := by decide +kernel
theorem dX9_layCounts_8 : decode cX9_layCounts 8 = .ok (.iload_n 3, 1) := by decide +kernel
theorem dX9_layCounts_9 : decode cX9_layCounts 9 = .ok (.bipush 101, 2) := by decide +kernel
theorem dX9_layCounts_11 : decode cX9_layCounts 11 = .ok (.if_icmp .ge 16, 3) := by decide +kernel
theorem dX9_layCounts_14 : decode cX9_layCounts 14 = .ok (.aload_n 0, 1) := by decide +kernel
theorem dX9_layCounts_15 : decode cX9_layCounts 15 = .ok (.getfield 40, 3) := by decide +kernel
theorem dX9_layCounts_18 : decode cX9_layCounts 18 = .ok (.iload_n 3, 1) := by decide +kernel
theorem dX9_layCounts_19 : decode cX9_layCounts 19 = .ok (.iconst 0, 1) := by decide +kernel
theorem dX9_layCounts_20 : decode cX9_layCounts 20 = .ok (.iastore, 1) := by decide +kernel
theorem dX9_layCounts_21 : decode cX9_layCounts 21 = .ok (.iinc 3 1, 3) := by decide +kernel
theorem dX9_layCounts_24 : decode cX9_layCounts 24 = .ok (.goto (-16), 3) := by decide +kernel
theorem dX9_layCounts_27 : decode cX9_layCounts 27 = .ok (.aload_n 0, 1) := by decide +kernel
theorem dX9_layCounts_28 : decode cX9_layCounts 28 = .ok (.getfield 34, 3) := by decide +kernel
theorem dX9_layCounts_31 : decode cX9_layCounts 31 = .ok (.iconst 0, 1) := by decide +kernel
theorem dX9_layCounts_32 : decode cX9_layCounts 32 = .ok (.laload, 1) := by decide +kernel
theorem dX9_layCounts_33 : decode cX9_layCounts 33 = .ok (.l2i, 1) := by decide +kernel
theorem dX9_layCounts_34 : decode cX9_layCounts 34 = .ok (.istore_n 3, 1) := by decide +kernel
theorem dX9_layCounts_35 : decode cX9_layCounts 35 = .ok (.aload_n 0, 1) := by decide +kernel
theorem dX9_layCounts_36 : decode cX9_layCounts 36 = .ok (.getfield 34, 3) := by decide +kernel
theorem dX9_layCounts_39 : decode cX9_layCounts 39 = .ok (.iconst 1, 1) := by decide +kernel
theorem dX9_layCounts_40 : decode cX9_layCounts 40 = .ok (.laload, 1) := by decide +kernel
theorem dX9_layCounts_41 : decode cX9_layCounts 41 = .ok (.l2i, 1) := by decide +kernel
theorem dX9_layCounts_42 : decode cX9_layCounts 42 = .ok (.istore 4, 2) := by decide +kernel
theorem dX9_layCounts_44 : decode cX9_layCounts 44 = .ok (.aload_n 0, 1) := by decide +kernel
theorem dX9_layCounts_45 : decode cX9_layCounts 45 = .ok (.getfield 34, 3) := by decide +kernel
theorem dX9_layCounts_48 : decode cX9_layCounts 48 = .ok (.iconst 2, 1) := by decide +kernel
theorem dX9_layCounts_49 : decode cX9_layCounts 49 = .ok (.laload, 1) := by decide +kernel
theorem dX9_layCounts_50 : decode cX9_layCounts 50 = .ok (.l2i, 1) := by decide +kernel
theorem dX9_layCounts_51 : decode cX9_layCounts 51 = .ok (.istore 5, 2) := by decide +kernel
theorem dX9_layCounts_53 : decode cX9_layCounts 53 = .ok (.aload_n 0, 1) := by decide +kernel
theorem dX9_layCounts_54 : decode cX9_layCounts 54 = .ok (.iload_n 3, 1) := by decide +kernel
theorem dX9_layCounts_55 : decode cX9_layCounts 55 = .ok (.putfield 183, 3) := by decide +kernel
theorem dX9_layCounts_58 : decode cX9_layCounts 58 = .ok (.aload_n 0, 1) := by decide +kernel
theorem dX9_layCounts_59 : decode cX9_layCounts 59 = .ok (.getfield 183, 3) := by decide +kernel
theorem dX9_layCounts_62 : decode cX9_layCounts 62 = .ok (.iload_n 3, 1) := by decide +kernel
theorem dX9_layCounts_63 : decode cX9_layCounts 63 = .ok (.ineg, 1) := by decide +kernel
theorem dX9_layCounts_64 : decode cX9_layCounts 64 = .ok (.if_icmp .lt 86, 3) := by decide +kernel
theorem dX9_layCounts_67 : decode cX9_layCounts 67 = .ok (.aload_n 0, 1) := by decide +kernel
theorem dX9_layCounts_68 : decode cX9_layCounts 68 = .ok (.iload 4, 2) := by decide +kernel
theorem dX9_layCounts_70 : decode cX9_layCounts 70 = .ok (.putfield 186, 3) := by decide +kernel
theorem dX9_layCounts_73 : decode cX9_layCounts 73 = .ok (.aload_n 0, 1) := by decide +kernel
theorem dX9_layCounts_74 : decode cX9_layCounts 74 = .ok (.getfield 186, 3) := by decide +kernel
theorem dX9_layCounts_77 : decode cX9_layCounts 77 = .ok (.iload 4, 2) := by decide +kernel
theorem dX9_layCounts_79 : decode cX9_layCounts 79 = .ok (.ineg, 1) := by decide +kernel
theorem dX9_layCounts_80 : decode cX9_layCounts 80 = .ok (.if_icmp .lt 57, 3) := by decide +kernel
theorem dX9_layCounts_83 : decode cX9_layCounts 83 = .ok (.aload_n 0, 1) := by decide +kernel
theorem dX9_layCounts_84 : decode cX9_layCounts 84 = .ok (.iload 5, 2) := by decide +kernel
theorem dX9_layCounts_86 : decode cX9_layCounts 86 = .ok (.putfield 189, 3) := by decide +kernel
theorem dX9_layCounts_89 : decode cX9_layCounts 89 = .ok (.aload_n 0, 1) := by decide +kernel
theorem dX9_layCounts_90 : decode cX9_layCounts 90 = .ok (.getfield 189, 3) := by decide +kernel
theorem dX9_layCounts_93 : decode cX9_layCounts 93 = .ok (.iload 5, 2) := by decide +kernel
theorem dX9_layCounts_95 : decode cX9_layCounts 95 = .ok (.ineg, 1) := by decide +kernel
theorem dX9_layCounts_96 : decode cX9_layCounts 96 = .ok (.if_icmp .lt 28, 3) := by decide +kernel
theorem dX9_layCounts_99 : decode cX9_layCounts 99 = .ok (.aload_n 0, 1) := by decide +kernel
theorem dX9_layCounts_100 : decode cX9_layCounts 100 = .ok (.iload_n 1, 1) := by decide +kernel
theorem dX9_layCounts_101 : decode cX9_layCounts 101 = .ok (.aload_n 0, 1) := by decide +kernel
theorem dX9_layCounts_102 : decode cX9_layCounts 102 = .ok (.getfield 34, 3) := by decide +kernel
theorem dX9_layCounts_105 : decode cX9_layCounts 105 = .ok (.iconst 3, 1) := by decide +kernel
theorem dX9_layCounts_106 : decode cX9_layCounts 106 = .ok (.laload, 1) := by decide +kernel
theorem dX9_layCounts_107 : decode cX9_layCounts 107 = .ok (.l2i, 1) := by decide +kernel
theorem dX9_layCounts_108 : decode cX9_layCounts 108 = .ok (.invokevirtual 192, 3) := by decide +kernel
theorem dX9_layCounts_111 : decode cX9_layCounts 111 = .ok (.aload_n 0, 1) := by decide +kernel
theorem dX9_layCounts_112 : decode cX9_layCounts 112 = .ok (.dup, 1) := by decide +kernel
theorem dX9_layCounts_113 : decode cX9_layCounts 113 = .ok (.getfield 189, 3) := by decide +kernel
theorem dX9_layCounts_116 : decode cX9_layCounts 116 = .ok (.iconst 1, 1) := by decide +kernel
theorem dX9_layCounts_117 : decode cX9_layCounts 117 = .ok (.isub, 1) := by decide +kernel
theorem dX9_layCounts_118 : decode cX9_layCounts 118 = .ok (.putfield 189, 3) := by decide +kernel
theorem dX9_layCounts_121 : decode cX9_layCounts 121 = .ok (.goto (-32), 3) := by decide +kernel
theorem dX9_layCounts_124 : decode cX9_layCounts 124 = .ok (.aload_n 0, 1) := by decide +kernel
theorem dX9_layCounts_125 : decode cX9_layCounts 125 = .ok (.dup, 1) := by decide +kernel
theorem dX9_layCounts_126 : decode cX9_layCounts 126 = .ok (.getfield 186, 3) := by decide +kernel
theorem dX9_layCounts_129 : decode cX9_layCounts 129 = .ok (.iconst 1, 1) := by decide +kernel
theorem dX9_layCounts_130 : decode cX9_layCounts 130 = .ok (.isub, 1) := by decide +kernel
theorem dX9_layCounts_131 : decode cX9_layCounts 131 = .ok (.putfield 186, 3) := by decide +kernel
theorem dX9_layCounts_134 : decode cX9_layCounts 134 = .ok (.goto (-61), 3) := by decide +kernel
theorem dX9_layCounts_137 : decode cX9_layCounts 137 = .ok (.aload_n 0, 1) := by decide +kernel
theorem dX9_layCounts_138 : decode cX9_layCounts 138 = .ok (.dup, 1) := by decide +kernel
theorem dX9_layCounts_139 : decode cX9_layCounts 139 = .ok (.getfield 183, 3) := by decide +kernel
theorem dX9_layCounts_142 : decode cX9_layCounts 142 = .ok (.iconst 1, 1) := by decide +kernel
theorem dX9_layCounts_143 : decode cX9_layCounts 143 = .ok (.isub, 1) := by decide +kernel
theorem dX9_layCounts_144 : decode cX9_layCounts 144 = .ok (.putfield 183, 3) := by decide +kernel
theorem dX9_layCounts_147 : decode cX9_layCounts 147 = .ok (.goto (-89), 3) := by decide +kernel
theorem dX9_layCounts_150 : decode cX9_layCounts 150 = .ok (.return_, 1) := by decide +kernel
abbrev MX9_layLast : ZM := (yX9_layLast, cX9_layLast, 12, (Option.none : Option FieldType), 1, 23)
theorem dX9_layLast_0 : decode cX9_layLast 0 = .ok (.aload_n 0, 1) := by decide +kernel
theorem dX9_layLast_1 : decode cX9_layLast 1 = .ok (.iload_n 1, 1) := by decide +kernel
theorem dX9_layLast_2 : decode cX9_layLast 2 = .ok (.iconst 0, 1) := by decide +kernel
theorem dX9_layLast_3 : decode cX9_layLast 3 = .ok (.iconst 0, 1) := by decide +kernel
theorem dX9_layLast_4 : decode cX9_layLast 4 = .ok (.invokevirtual 90, 3) := by decide +kernel
theorem dX9_layLast_7 : decode cX9_layLast 7 = .ok (.i2l, 1) := by decide +kernel
theorem dX9_layLast_8 : decode cX9_layLast 8 = .ok (.aload_n 0, 1) := by decide +kernel
theorem dX9_layLast_9 : decode cX9_layLast 9 = .ok (.getfield 183, 3) := by decide +kernel
theorem dX9_layLast_12 : decode cX9_layLast 12 = .ok (.i2l, 1) := by decide +kernel
theorem dX9_layLast_13 : decode cX9_layLast 13 = .ok (.lmul, 1) := by decide +kernel
theorem dX9_layLast_14 : decode cX9_layLast 14 = .ok (.aload_n 0, 1) := by decide +kernel
theorem dX9_layLast_15 : decode cX9_layLast 15 = .ok (.getfield 183, 3) := by decide +kernel
theorem dX9_layLast_18 : decode cX9_layLast 18 = .ok (.i2l, 1) := by decide +kernel
theorem dX9_layLast_19 : decode cX9_layLast 19 = .ok (.lmul, 1) := by decide +kernel
theorem dX9_layLast_20 : decode cX9_layLast 20 = .ok (.aload_n 0, 1) := by decide +kernel
theorem dX9_layLast_21 : decode cX9_layLast 21 = .ok (.iload_n 1, 1) := by decide +kernel
theorem dX9_layLast_22 : decode cX9_layLast 22 = .ok (.iconst 1, 1) := by decide +kernel
theorem dX9_layLast_23 : decode cX9_layLast 23 = .ok (.iconst 1, 1) := by decide +kernel
theorem dX9_layLast_24 : decode cX9_layLast 24 = .ok (.invokevirtual 90, 3) := by decide +kernel
theorem dX9_layLast_27 : decode cX9_layLast 27 = .ok (.i2l, 1) := by decide +kernel
theorem dX9_layLast_28 : decode cX9_layLast 28 = .ok (.aload_n 0, 1) := by decide +kernel
theorem dX9_layLast_29 : decode cX9_layLast 29 = .ok (.getfield 186, 3) := by decide +kernel
theorem dX9_layLast_32 : decode cX9_layLast 32 = .ok (.i2l, 1) := by decide +kernel
theorem dX9_layLast_33 : decode cX9_layLast 33 = .ok (.lmul, 1) := by decide +kernel
theorem dX9_layLast_34 : decode cX9_layLast 34 = .ok (.aload_n 0, 1) := by decide +kernel
theorem dX9_layLast_35 : decode cX9_layLast 35 = .ok (.getfield 186, 3) := by decide +kernel
theorem dX9_layLast_38 : decode cX9_layLast 38 = .ok (.i2l, 1) := by decide +kernel
theorem dX9_layLast_39 : decode cX9_layLast 39 = .ok (.lmul, 1) := by decide +kernel
theorem dX9_layLast_40 : decode cX9_layLast 40 = .ok (.ladd, 1) := by decide +kernel
theorem dX9_layLast_41 : decode cX9_layLast 41 = .ok (.aload_n 0, 1) := by decide +kernel
theorem dX9_layLast_42 : decode cX9_layLast 42 = .ok (.iload_n 1, 1) := by decide +kernel
theorem dX9_layLast_43 : decode cX9_layLast 43 = .ok (.iconst 2, 1) := by decide +kernel
theorem dX9_layLast_44 : decode cX9_layLast 44 = .ok (.iconst 2, 1) := by decide +kernel
theorem dX9_layLast_45 : decode cX9_layLast 45 = .ok (.invokevirtual 90, 3) := by decide +kernel
theorem dX9_layLast_48 : decode cX9_layLast 48 = .ok (.i2l, 1) := by decide +kernel
theorem dX9_layLast_49 : decode cX9_layLast 49 = .ok (.aload_n 0, 1) := by decide +kernel
theorem dX9_layLast_50 : decode cX9_layLast 50 = .ok (.getfield 189, 3) := by decide +kernel
theorem dX9_layLast_53 : decode cX9_layLast 53 = .ok (.i2l, 1) := by decide +kernel
theorem dX9_layLast_54 : decode cX9_layLast 54 = .ok (.lmul, 1) := by decide +kernel
theorem dX9_layLast_55 : decode cX9_layLast 55 = .ok (.aload_n 0, 1) := by decide +kernel
theorem dX9_layLast_56 : decode cX9_layLast 56 = .ok (.getfield 189, 3) := by decide +kernel
theorem dX9_layLast_59 : decode cX9_layLast 59 = .ok (.i2l, 1) := by decide +kernel
theorem dX9_layLast_60 : decode cX9_layLast 60 = .ok (.lmul, 1) := by decide +kernel
theorem dX9_layLast_61 : decode cX9_layLast 61 = .ok (.ladd, 1) := by decide +kernel
theorem dX9_layLast_62 : decode cX9_layLast 62 = .ok (.lstore_n 3, 1) := by decide +kernel
theorem dX9_layLast_63 : decode cX9_layLast 63 = .ok (.lload_n 3, 1) := by decide +kernel
theorem dX9_layLast_64 : decode cX9_layLast 64 = .ok (.ldc2_w 123, 3) := by decide +kernel
theorem dX9_layLast_67 : decode cX9_layLast 67 = .ok (.aload_n 0, 1) := by decide +kernel
theorem dX9_layLast_68 : decode cX9_layLast 68 = .ok (.iload_n 1, 1) := by decide +kernel
theorem dX9_layLast_69 : decode cX9_layLast 69 = .ok (.iconst 0, 1) := by decide +kernel
theorem dX9_layLast_70 : decode cX9_layLast 70 = .ok (.iconst 1, 1) := by decide +kernel
theorem dX9_layLast_71 : decode cX9_layLast 71 = .ok (.invokevirtual 90, 3) := by decide +kernel
theorem dX9_layLast_74 : decode cX9_layLast 74 = .ok (.i2l, 1) := by decide +kernel
theorem dX9_layLast_75 : decode cX9_layLast 75 = .ok (.lmul, 1) := by decide +kernel
theorem dX9_layLast_76 : decode cX9_layLast 76 = .ok (.aload_n 0, 1) := by decide +kernel
theorem dX9_layLast_77 : decode cX9_layLast 77 = .ok (.getfield 183, 3) := by decide +kernel
theorem dX9_layLast_80 : decode cX9_layLast 80 = .ok (.i2l, 1) := by decide +kernel
theorem dX9_layLast_81 : decode cX9_layLast 81 = .ok (.lmul, 1) := by decide +kernel
theorem dX9_layLast_82 : decode cX9_layLast 82 = .ok (.aload_n 0, 1) := by decide +kernel
theorem dX9_layLast_83 : decode cX9_layLast 83 = .ok (.getfield 186, 3) := by decide +kernel
theorem dX9_layLast_86 : decode cX9_layLast 86 = .ok (.i2l, 1) := by decide +kernel
theorem dX9_layLast_87 : decode cX9_layLast 87 = .ok (.lmul, 1) := by decide +kernel
theorem dX9_layLast_88 : decode cX9_layLast 88 = .ok (.ldc2_w 123, 3) := by decide +kernel
theorem dX9_layLast_91 : decode cX9_layLast 91 = .ok (.aload_n 0, 1) := by decide +kernel
theorem dX9_layLast_92 : decode cX9_layLast 92 = .ok (.iload_n 1, 1) := by decide +kernel
theorem dX9_layLast_93 : decode cX9_layLast 93 = .ok (.iconst 0, 1) := by decide +kernel
theorem dX9_layLast_94 : decode cX9_layLast 94 = .ok (.iconst 2, 1) := by decide +kernel
theorem dX9_layLast_95 : decode cX9_layLast 95 = .ok (.invokevirtual 90, 3) := by decide +kernel
theorem dX9_layLast_98 : decode cX9_layLast 98 = .ok (.i2l, 1) := by decide +kernel
theorem dX9_layLast_99 : decode cX9_layLast 99 = .ok (.lmul, 1) := by decide +kernel
theorem dX9_layLast_100 : decode cX9_layLast 100 = .ok (.aload_n 0, 1) := by decide +kernel
theorem dX9_layLast_101 : decode cX9_layLast 101 = .ok (.getfield 183, 3) := by decide +kernel
theorem dX9_layLast_104 : decode cX9_layLast 104 = .ok (.i2l, 1) := by decide +kernel
theorem dX9_layLast_105 : decode cX9_layLast 105 = .ok (.lmul, 1) := by decide +kernel
theorem dX9_layLast_106 : decode cX9_layLast 106 = .ok (.aload_n 0, 1) := by decide +kernel
theorem dX9_layLast_107 : decode cX9_layLast 107 = .ok (.getfield 189, 3) := by decide +kernel
theorem dX9_layLast_110 : decode cX9_layLast 110 = .ok (.i2l, 1) := by decide +kernel
theorem dX9_layLast_111 : decode cX9_layLast 111 = .ok (.lmul, 1) := by decide +kernel
theorem dX9_layLast_112 : decode cX9_layLast 112 = .ok (.ladd, 1) := by decide +kernel
theorem dX9_layLast_113 : decode cX9_layLast 113 = .ok (.ldc2_w 123, 3) := by decide +kernel
theorem dX9_layLast_116 : decode cX9_layLast 116 = .ok (.aload_n 0, 1) := by decide +kernel
theorem dX9_layLast_117 : decode cX9_layLast 117 = .ok (.iload_n 1, 1) := by decide +kernel
theorem dX9_layLast_118 : decode cX9_layLast 118 = .ok (.iconst 1, 1) := by decide +kernel
theorem dX9_layLast_119 : decode cX9_layLast 119 = .ok (.iconst 2, 1) := by decide +kernel
theorem dX9_layLast_120 : decode cX9_layLast 120 = .ok (.invokevirtual 90, 3) := by decide +kernel
theorem dX9_layLast_123 : decode cX9_layLast 123 = .ok (.i2l, 1) := by decide +kernel
theorem dX9_layLast_124 : decode cX9_layLast 124 = .ok (.lmul, 1) := by decide +kernel
theorem dX9_layLast_125 : decode cX9_layLast 125 = .ok (.aload_n 0, 1) := by decide +kernel
theorem dX9_layLast_126 : decode cX9_layLast 126 = .ok (.getfield 186, 3) := by decide +kernel
theorem dX9_layLast_129 : decode cX9_layLast 129 = .ok (.i2l, 1) := by decide +kernel
theorem dX9_layLast_130 : decode cX9_layLast 130 = .ok (.lmul, 1) := by decide +kernel
theorem dX9_layLast_131 : decode cX9_layLast 131 = .ok (.aload_n 0, 1) := by decide +kernel
theorem dX9_layLast_132 : decode cX9_layLast 132 = .ok (.getfield 189, 3) := by decide +kernel
theorem dX9_layLast_135 : decode cX9_layLast 135 = .ok (.i2l, 1) := by decide +kernel
theorem dX9_layLast_136 : decode cX9_layLast 136 = .ok (.lmul, 1) := by decide +kernel
theorem dX9_layLast_137 : decode cX9_layLast 137 = .ok (.ladd, 1) := by decide +kernel
theorem dX9_layLast_138 : decode cX9_layLast 138 = .ok (.ladd, 1) := by decide +kernel
theorem dX9_layLast_139 : decode cX9_layLast 139 = .ok (.lstore_n 3, 1) := by decide +kernel
theorem dX9_layLast_140 : decode cX9_layLast 140 = .ok (.ldc2_w 123, 3) := by decide +kernel
theorem dX9_layLast_143 : decode cX9_layLast 143 = .ok (.aload_n 0, 1) := by decide +kernel
theorem dX9_layLast_144 : decode cX9_layLast 144 = .ok (.iload_n 1, 1) := by decide +kernel
theorem dX9_layLast_145 : decode cX9_layLast 145 = .ok (.iconst 0, 1) := by decide +kernel
theorem dX9_layLast_146 : decode cX9_layLast 146 = .ok (.iconst 3, 1) := by decide +kernel
theorem dX9_layLast_147 : decode cX9_layLast 147 = .ok (.invokevirtual 90, 3) := by decide +kernel
theorem dX9_layLast_150 : decode cX9_layLast 150 = .ok (.i2l, 1) := by decide +kernel
theorem dX9_layLast_151 : decode cX9_layLast 151 = .ok (.lmul, 1) := by decide +kernel
theorem dX9_layLast_152 : decode cX9_layLast 152 = .ok (.aload_n 0, 1) := by decide +kernel
theorem dX9_layLast_153 : decode cX9_layLast 153 = .ok (.getfield 183, 3) := by decide +kernel
theorem dX9_layLast_156 : decode cX9_layLast 156 = .ok (.i2l, 1) := by decide +kernel
theorem dX9_layLast_157 : decode cX9_layLast 157 = .ok (.lmul, 1) := by decide +kernel
theorem dX9_layLast_158 : decode cX9_layLast 158 = .ok (.ldc2_w 123, 3) := by decide +kernel
theorem dX9_layLast_161 : decode cX9_layLast 161 = .ok (.aload_n 0, 1) := by decide +kernel
theorem dX9_layLast_162 : decode cX9_layLast 162 = .ok (.iload_n 1, 1) := by decide +kernel
theorem dX9_layLast_163 : decode cX9_layLast 163 = .ok (.iconst 1, 1) := by decide +kernel
theorem dX9_layLast_164 : decode cX9_layLast 164 = .ok (.iconst 3, 1) := by decide +kernel
theorem dX9_layLast_165 : decode cX9_layLast 165 = .ok (.invokevirtual 90, 3) := by decide +kernel
theorem dX9_layLast_168 : decode cX9_layLast 168 = .ok (.i2l, 1) := by decide +kernel
theorem dX9_layLast_169 : decode cX9_layLast 169 = .ok (.lmul, 1) := by decide +kernel
theorem dX9_layLast_170 : decode cX9_layLast 170 = .ok (.aload_n 0, 1) := by decide +kernel
theorem dX9_layLast_171 : decode cX9_layLast 171 = .ok (.getfield 186, 3) := by decide +kernel
theorem dX9_layLast_174 : decode cX9_layLast 174 = .ok (.i2l, 1) := by decide +kernel
theorem dX9_layLast_175 : decode cX9_layLast 175 = .ok (.lmul, 1) := by decide +kernel
theorem dX9_layLast_176 : decode cX9_layLast 176 = .ok (.ladd, 1) := by decide +kernel
theorem dX9_layLast_177 : decode cX9_layLast 177 = .ok (.ldc2_w 123, 3) := by decide +kernel
theorem dX9_layLast_180 : decode cX9_layLast 180 = .ok (.aload_n 0, 1) := by decide +kernel
theorem dX9_layLast_181 : decode cX9_layLast 181 = .ok (.iload_n 1, 1) := by decide +kernel
theorem dX9_layLast_182 : decode cX9_layLast 182 = .ok (.iconst 2, 1) := by decide +kernel
theorem dX9_layLast_183 : decode cX9_layLast 183 = .ok (.iconst 3, 1) := by decide +kernel
theorem dX9_layLast_184 : decode cX9_layLast 184 = .ok (.invokevirtual 90, 3) := by decide +kernel
theorem dX9_layLast_187 : decode cX9_layLast 187 = .ok (.i2l, 1) := by decide +kernel
theorem dX9_layLast_188 : decode cX9_layLast 188 = .ok (.lmul, 1) := by decide +kernel
theorem dX9_layLast_189 : decode cX9_layLast 189 = .ok (.aload_n 0, 1) := by decide +kernel
theorem dX9_layLast_190 : decode cX9_layLast 190 = .ok (.getfield 189, 3) := by decide +kernel
theorem dX9_layLast_193 : decode cX9_layLast 193 = .ok (.i2l, 1) := by decide +kernel
theorem dX9_layLast_194 : decode cX9_layLast 194 = .ok (.lmul, 1) := by decide +kernel
theorem dX9_layLast_195 : decode cX9_layLast 195 = .ok (.ladd, 1) := by decide +kernel
theorem dX9_layLast_196 : decode cX9_layLast 196 = .ok (.lstore 5, 2) := by decide +kernel
theorem dX9_layLast_198 : decode cX9_layLast 198 = .ok (.aload_n 0, 1) := by decide +kernel
theorem dX9_layLast_199 : decode cX9_layLast 199 = .ok (.iload_n 1, 1) := by decide +kernel
theorem dX9_layLast_200 : decode cX9_layLast 200 = .ok (.iconst 3, 1) := by decide +kernel
theorem dX9_layLast_201 : decode cX9_layLast 201 = .ok (.iconst 3, 1) := by decide +kernel
theorem dX9_layLast_202 : decode cX9_layLast 202 = .ok (.invokevirtual 90, 3) := by decide +kernel
theorem dX9_layLast_205 : decode cX9_layLast 205 = .ok (.i2l, 1) := by decide +kernel
theorem dX9_layLast_206 : decode cX9_layLast 206 = .ok (.lstore 7, 2) := by decide +kernel
theorem dX9_layLast_208 : decode cX9_layLast 208 = .ok (.iload_n 2, 1) := by decide +kernel
theorem dX9_layLast_209 : decode cX9_layLast 209 = .ok (.istore 9, 2) := by decide +kernel
theorem dX9_layLast_211 : decode cX9_layLast 211 = .ok (.iload 9, 2) := by decide +kernel
theorem dX9_layLast_213 : decode cX9_layLast 213 = .ok (.iload_n 2, 1) := by decide +kernel
theorem dX9_layLast_214 : decode cX9_layLast 214 = .ok (.ineg, 1) := by decide +kernel
theorem dX9_layLast_215 : decode cX9_layLast 215 = .ok (.if_icmp .lt 48, 3) := by decide +kernel
theorem dX9_layLast_218 : decode cX9_layLast 218 = .ok (.lload_n 3, 1) := by decide +kernel
theorem dX9_layLast_219 : decode cX9_layLast 219 = .ok (.lload 5, 2) := by decide +kernel
theorem dX9_layLast_221 : decode cX9_layLast 221 = .ok (.iload 9, 2) := by decide +kernel
theorem dX9_layLast_223 : decode cX9_layLast 223 = .ok (.i2l, 1) := by decide +kernel
theorem dX9_layLast_224 : decode cX9_layLast 224 = .ok (.lmul, 1) := by decide +kernel
theorem dX9_layLast_225 : decode cX9_layLast 225 = .ok (.ladd, 1) := by decide +kernel
theorem dX9_layLast_226 : decode cX9_layLast 226 = .ok (.lload 7, 2) := by decide +kernel
theorem dX9_layLast_228 : decode cX9_layLast 228 = .ok (.iload 9, 2) := by decide +kernel
theorem dX9_layLast_230 : decode cX9_layLast 230 = .ok (.i2l, 1) := by decide +kernel
theorem dX9_layLast_231 : decode cX9_layLast 231 = .ok (.lmul, 1) := by decide +kernel
theorem dX9_layLast_232 : decode cX9_layLast 232 = .ok (.iload 9, 2) := by decide +kernel
theorem dX9_layLast_234 : decode cX9_layLast 234 = .ok (.i2l, 1) := by decide +kernel
theorem dX9_layLast_235 : decode cX9_layLast 235 = .ok (.lmul, 1) := by decide +kernel
theorem dX9_layLast_236 : decode cX9_layLast 236 = .ok (.ladd, 1) := by decide +kernel
theorem dX9_layLast_237 : decode cX9_layLast 237 = .ok (.lstore 10, 2) := by decide +kernel
theorem dX9_layLast_239 : decode cX9_layLast 239 = .ok (.lload 10, 2) := by decide +kernel
theorem dX9_layLast_241 : decode cX9_layLast 241 = .ok (.ldc2_w 115, 3) := by decide +kernel
theorem dX9_layLast_244 : decode cX9_layLast 244 = .ok (.lcmp, 1) := by decide +kernel
theorem dX9_layLast_245 : decode cX9_layLast 245 = .ok (.ifCond .gt 12, 3) := by decide +kernel
theorem dX9_layLast_248 : decode cX9_layLast 248 = .ok (.aload_n 0, 1) := by decide +kernel
theorem dX9_layLast_249 : decode cX9_layLast 249 = .ok (.lload 10, 2) := by decide +kernel
theorem dX9_layLast_251 : decode cX9_layLast 251 = .ok (.l2i, 1) := by decide +kernel
theorem dX9_layLast_252 : decode cX9_layLast 252 = .ok (.iload 9, 2) := by decide +kernel
theorem dX9_layLast_254 : decode cX9_layLast 254 = .ok (.invokevirtual 195, 3) := by decide +kernel
theorem dX9_layLast_257 : decode cX9_layLast 257 = .ok (.iinc 9 (-1), 3) := by decide +kernel
theorem dX9_layLast_260 : decode cX9_layLast 260 = .ok (.goto (-49), 3) := by decide +kernel
theorem dX9_layLast_263 : decode cX9_layLast 263 = .ok (.return_, 1) := by decide +kernel
abbrev MX9_seeAt : ZM := (yX9_seeAt, cX9_seeAt, 3, (Option.none : Option FieldType), 0, 0)
theorem dX9_seeAt_0 : decode cX9_seeAt 0 = .ok (.aload_n 0, 1) := by decide +kernel
theorem dX9_seeAt_1 : decode cX9_seeAt 1 = .ok (.getfield 40, 3) := by decide +kernel
theorem dX9_seeAt_4 : decode cX9_seeAt 4 = .ok (.iload_n 1, 1) := by decide +kernel
theorem dX9_seeAt_5 : decode cX9_seeAt 5 = .ok (.iaload, 1) := by decide +kernel
theorem dX9_seeAt_6 : decode cX9_seeAt 6 = .ok (.ifCond .ne 54, 3) := by decide +kernel
theorem dX9_seeAt_9 : decode cX9_seeAt 9 = .ok (.aload_n 0, 1) := by decide +kernel
theorem dX9_seeAt_10 : decode cX9_seeAt 10 = .ok (.getfield 46, 3) := by decide +kernel
theorem dX9_seeAt_13 : decode cX9_seeAt 13 = .ok (.iconst 4, 1) := by decide +kernel
theorem dX9_seeAt_14 : decode cX9_seeAt 14 = .ok (.iload_n 1, 1) := by decide +kernel
theorem dX9_seeAt_15 : decode cX9_seeAt 15 = .ok (.imul, 1) := by decide +kernel
theorem dX9_seeAt_16 : decode cX9_seeAt 16 = .ok (.aload_n 0, 1) := by decide +kernel
theorem dX9_seeAt_17 : decode cX9_seeAt 17 = .ok (.getfield 183, 3) := by decide +kernel
theorem dX9_seeAt_20 : decode cX9_seeAt 20 = .ok (.iastore, 1) := by decide +kernel
theorem dX9_seeAt_21 : decode cX9_seeAt 21 = .ok (.aload_n 0, 1) := by decide +kernel
theorem dX9_seeAt_22 : decode cX9_seeAt 22 = .ok (.getfield 46, 3) := by decide +kernel
theorem dX9_seeAt_25 : decode cX9_seeAt 25 = .ok (.iconst 4, 1) := by decide +kernel
theorem dX9_seeAt_26 : decode cX9_seeAt 26 = .ok (.iload_n 1, 1) := by decide +kernel
theorem dX9_seeAt_27 : decode cX9_seeAt 27 = .ok (.imul, 1) := by decide +kernel
theorem dX9_seeAt_28 : decode cX9_seeAt 28 = .ok (.iconst 1, 1) := by decide +kernel
theorem dX9_seeAt_29 : decode cX9_seeAt 29 = .ok (.iadd, 1) := by decide +kernel
theorem dX9_seeAt_30 : decode cX9_seeAt 30 = .ok (.aload_n 0, 1) := by decide +kernel
theorem dX9_seeAt_31 : decode cX9_seeAt 31 = .ok (.getfield 186, 3) := by decide +kernel
theorem dX9_seeAt_34 : decode cX9_seeAt 34 = .ok (.iastore, 1) := by decide +kernel
theorem dX9_seeAt_35 : decode cX9_seeAt 35 = .ok (.aload_n 0, 1) := by decide +kernel
theorem dX9_seeAt_36 : decode cX9_seeAt 36 = .ok (.getfield 46, 3) := by decide +kernel
theorem dX9_seeAt_39 : decode cX9_seeAt 39 = .ok (.iconst 4, 1) := by decide +kernel
theorem dX9_seeAt_40 : decode cX9_seeAt 40 = .ok (.iload_n 1, 1) := by decide +kernel
theorem dX9_seeAt_41 : decode cX9_seeAt 41 = .ok (.imul, 1) := by decide +kernel
theorem dX9_seeAt_42 : decode cX9_seeAt 42 = .ok (.iconst 2, 1) := by decide +kernel
theorem dX9_seeAt_43 : decode cX9_seeAt 43 = .ok (.iadd, 1) := by decide +kernel
theorem dX9_seeAt_44 : decode cX9_seeAt 44 = .ok (.aload_n 0, 1) := by decide +kernel
theorem dX9_seeAt_45 : decode cX9_seeAt 45 = .ok (.getfield 189, 3) := by decide +kernel
theorem dX9_seeAt_48 : decode cX9_seeAt 48 = .ok (.iastore, 1) := by decide +kernel
theorem dX9_seeAt_49 : decode cX9_seeAt 49 = .ok (.aload_n 0, 1) := by decide +kernel
theorem dX9_seeAt_50 : decode cX9_seeAt 50 = .ok (.getfield 46, 3) := by decide +kernel
theorem dX9_seeAt_53 : decode cX9_seeAt 53 = .ok (.iconst 4, 1) := by decide +kernel
theorem dX9_seeAt_54 : decode cX9_seeAt 54 = .ok (.iload_n 1, 1) := by decide +kernel
theorem dX9_seeAt_55 : decode cX9_seeAt 55 = .ok (.imul, 1) := by decide +kernel
theorem dX9_seeAt_56 : decode cX9_seeAt 56 = .ok (.iconst 3, 1) := by decide +kernel
theorem dX9_seeAt_57 : decode cX9_seeAt 57 = .ok (.iadd, 1) := by decide +kernel
theorem dX9_seeAt_58 : decode cX9_seeAt 58 = .ok (.iload_n 2, 1) := by decide +kernel
theorem dX9_seeAt_59 : decode cX9_seeAt 59 = .ok (.iastore, 1) := by decide +kernel
theorem dX9_seeAt_60 : decode cX9_seeAt 60 = .ok (.aload_n 0, 1) := by decide +kernel
theorem dX9_seeAt_61 : decode cX9_seeAt 61 = .ok (.getfield 40, 3) := by decide +kernel
theorem dX9_seeAt_64 : decode cX9_seeAt 64 = .ok (.iload_n 1, 1) := by decide +kernel
theorem dX9_seeAt_65 : decode cX9_seeAt 65 = .ok (.dup2, 1) := by decide +kernel
theorem dX9_seeAt_66 : decode cX9_seeAt 66 = .ok (.iaload, 1) := by decide +kernel
theorem dX9_seeAt_67 : decode cX9_seeAt 67 = .ok (.iconst 1, 1) := by decide +kernel
theorem dX9_seeAt_68 : decode cX9_seeAt 68 = .ok (.iadd, 1) := by decide +kernel
theorem dX9_seeAt_69 : decode cX9_seeAt 69 = .ok (.iastore, 1) := by decide +kernel
theorem dX9_seeAt_70 : decode cX9_seeAt 70 = .ok (.return_, 1) := by decide +kernel
abbrev MX9_unlike : ZM := (yX9_unlike, cX9_unlike, 4, (Option.some FieldType.int), 4, 103)
theorem dX9_unlike_0 : decode cX9_unlike 0 = .ok (.aload_n 0, 1) := by decide +kernel
theorem dX9_unlike_1 : decode cX9_unlike 1 = .ok (.iload_n 1, 1) := by decide +kernel
theorem dX9_unlike_2 : decode cX9_unlike 2 = .ok (.invokevirtual 156, 3) := by decide +kernel
theorem dX9_unlike_5 : decode cX9_unlike 5 = .ok (.ifCond .eq 11, 3) := by decide +kernel
theorem dX9_unlike_8 : decode cX9_unlike 8 = .ok (.aload_n 0, 1) := by decide +kernel
theorem dX9_unlike_9 : decode cX9_unlike 9 = .ok (.iload_n 2, 1) := by decide +kernel
theorem dX9_unlike_10 : decode cX9_unlike 10 = .ok (.invokevirtual 156, 3) := by decide +kernel
theorem dX9_unlike_13 : decode cX9_unlike 13 = .ok (.ifCond .ne 5, 3) := by decide +kernel
theorem dX9_unlike_16 : decode cX9_unlike 16 = .ok (.iconst (-1), 1) := by decide +kernel
theorem dX9_unlike_17 : decode cX9_unlike 17 = .ok (.ireturn, 1) := by decide +kernel
theorem dX9_unlike_18 : decode cX9_unlike 18 = .ok (.aload_n 0, 1) := by decide +kernel
theorem dX9_unlike_19 : decode cX9_unlike 19 = .ok (.iload_n 1, 1) := by decide +kernel
theorem dX9_unlike_20 : decode cX9_unlike 20 = .ok (.invokevirtual 198, 3) := by decide +kernel
theorem dX9_unlike_23 : decode cX9_unlike 23 = .ok (.iconst 0, 1) := by decide +kernel
theorem dX9_unlike_24 : decode cX9_unlike 24 = .ok (.istore_n 3, 1) := by decide +kernel
theorem dX9_unlike_25 : decode cX9_unlike 25 = .ok (.iload_n 3, 1) := by decide +kernel
theorem dX9_unlike_26 : decode cX9_unlike 26 = .ok (.bipush 101, 2) := by decide +kernel
theorem dX9_unlike_28 : decode cX9_unlike 28 = .ok (.if_icmp .ge 21, 3) := by decide +kernel
theorem dX9_unlike_31 : decode cX9_unlike 31 = .ok (.aload_n 0, 1) := by decide +kernel
theorem dX9_unlike_32 : decode cX9_unlike 32 = .ok (.getfield 43, 3) := by decide +kernel
theorem dX9_unlike_35 : decode cX9_unlike 35 = .ok (.iload_n 3, 1) := by decide +kernel
theorem dX9_unlike_36 : decode cX9_unlike 36 = .ok (.aload_n 0, 1) := by decide +kernel
theorem dX9_unlike_37 : decode cX9_unlike 37 = .ok (.getfield 40, 3) := by decide +kernel
theorem dX9_unlike_40 : decode cX9_unlike 40 = .ok (.iload_n 3, 1) := by decide +kernel
theorem dX9_unlike_41 : decode cX9_unlike 41 = .ok (.iaload, 1) := by decide +kernel
theorem dX9_unlike_42 : decode cX9_unlike 42 = .ok (.iastore, 1) := by decide +kernel
theorem dX9_unlike_43 : decode cX9_unlike 43 = .ok (.iinc 3 1, 3) := by decide +kernel
theorem dX9_unlike_46 : decode cX9_unlike 46 = .ok (.goto (-21), 3) := by decide +kernel
theorem dX9_unlike_49 : decode cX9_unlike 49 = .ok (.aload_n 0, 1) := by decide +kernel
theorem dX9_unlike_50 : decode cX9_unlike 50 = .ok (.iload_n 2, 1) := by decide +kernel
theorem dX9_unlike_51 : decode cX9_unlike 51 = .ok (.invokevirtual 198, 3) := by decide +kernel
theorem dX9_unlike_54 : decode cX9_unlike 54 = .ok (.iconst 0, 1) := by decide +kernel
theorem dX9_unlike_55 : decode cX9_unlike 55 = .ok (.istore_n 3, 1) := by decide +kernel
theorem dX9_unlike_56 : decode cX9_unlike 56 = .ok (.iload_n 3, 1) := by decide +kernel
theorem dX9_unlike_57 : decode cX9_unlike 57 = .ok (.bipush 101, 2) := by decide +kernel
theorem dX9_unlike_59 : decode cX9_unlike 59 = .ok (.if_icmp .ge 26, 3) := by decide +kernel
theorem dX9_unlike_62 : decode cX9_unlike 62 = .ok (.aload_n 0, 1) := by decide +kernel
theorem dX9_unlike_63 : decode cX9_unlike 63 = .ok (.getfield 40, 3) := by decide +kernel
theorem dX9_unlike_66 : decode cX9_unlike 66 = .ok (.iload_n 3, 1) := by decide +kernel
theorem dX9_unlike_67 : decode cX9_unlike 67 = .ok (.iaload, 1) := by decide +kernel
theorem dX9_unlike_68 : decode cX9_unlike 68 = .ok (.aload_n 0, 1) := by decide +kernel
theorem dX9_unlike_69 : decode cX9_unlike 69 = .ok (.getfield 43, 3) := by decide +kernel
theorem dX9_unlike_72 : decode cX9_unlike 72 = .ok (.iload_n 3, 1) := by decide +kernel
theorem dX9_unlike_73 : decode cX9_unlike 73 = .ok (.iaload, 1) := by decide +kernel
theorem dX9_unlike_74 : decode cX9_unlike 74 = .ok (.if_icmp .eq 5, 3) := by decide +kernel
theorem dX9_unlike_77 : decode cX9_unlike 77 = .ok (.iload_n 3, 1) := by decide +kernel
theorem dX9_unlike_78 : decode cX9_unlike 78 = .ok (.ireturn, 1) := by decide +kernel
theorem dX9_unlike_79 : decode cX9_unlike 79 = .ok (.iinc 3 1, 3) := by decide +kernel
theorem dX9_unlike_82 : decode cX9_unlike 82 = .ok (.goto (-26), 3) := by decide +kernel
theorem dX9_unlike_85 : decode cX9_unlike 85 = .ok (.bipush (-2), 2) := by decide +kernel
theorem dX9_unlike_87 : decode cX9_unlike 87 = .ok (.ireturn, 1) := by decide +kernel
abbrev MX9_takes : ZM := (yX9_takes, cX9_takes, 3, (Option.some FieldType.int), 4, 103)
theorem dX9_takes_0 : decode cX9_takes 0 = .ok (.aload_n 0, 1) := by decide +kernel
theorem dX9_takes_1 : decode cX9_takes 1 = .ok (.iload_n 1, 1) := by decide +kernel
theorem dX9_takes_2 : decode cX9_takes 2 = .ok (.invokevirtual 156, 3) := by decide +kernel
theorem dX9_takes_5 : decode cX9_takes 5 = .ok (.ifCond .eq 15, 3) := by decide +kernel
theorem dX9_takes_8 : decode cX9_takes 8 = .ok (.iload_n 2, 1) := by decide +kernel
theorem dX9_takes_9 : decode cX9_takes 9 = .ok (.i2l, 1) := by decide +kernel
theorem dX9_takes_10 : decode cX9_takes 10 = .ok (.lconst 0, 1) := by decide +kernel
theorem dX9_takes_11 : decode cX9_takes 11 = .ok (.ldc2_w 115, 3) := by decide +kernel
theorem dX9_takes_14 : decode cX9_takes 14 = .ok (.invokestatic 134, 3) := by decide +kernel
theorem dX9_takes_17 : decode cX9_takes 17 = .ok (.ifCond .ne 5, 3) := by decide +kernel
theorem dX9_takes_20 : decode cX9_takes 20 = .ok (.iconst (-1), 1) := by decide +kernel
theorem dX9_takes_21 : decode cX9_takes 21 = .ok (.ireturn, 1) := by decide +kernel
theorem dX9_takes_22 : decode cX9_takes 22 = .ok (.aload_n 0, 1) := by decide +kernel
theorem dX9_takes_23 : decode cX9_takes 23 = .ok (.iload_n 1, 1) := by decide +kernel
theorem dX9_takes_24 : decode cX9_takes 24 = .ok (.invokevirtual 198, 3) := by decide +kernel
theorem dX9_takes_27 : decode cX9_takes 27 = .ok (.aload_n 0, 1) := by decide +kernel
theorem dX9_takes_28 : decode cX9_takes 28 = .ok (.getfield 40, 3) := by decide +kernel
theorem dX9_takes_31 : decode cX9_takes 31 = .ok (.iload_n 2, 1) := by decide +kernel
theorem dX9_takes_32 : decode cX9_takes 32 = .ok (.iaload, 1) := by decide +kernel
theorem dX9_takes_33 : decode cX9_takes 33 = .ok (.ireturn, 1) := by decide +kernel
abbrev MX9_vector : ZM := (yX9_vector, cX9_vector, 4, (Option.some FieldType.int), 4, 103)
theorem dX9_vector_0 : decode cX9_vector 0 = .ok (.aload_n 0, 1) := by decide +kernel
theorem dX9_vector_1 : decode cX9_vector 1 = .ok (.iload_n 1, 1) := by decide +kernel
theorem dX9_vector_2 : decode cX9_vector 2 = .ok (.invokevirtual 156, 3) := by decide +kernel
theorem dX9_vector_5 : decode cX9_vector 5 = .ok (.ifCond .eq 24, 3) := by decide +kernel
theorem dX9_vector_8 : decode cX9_vector 8 = .ok (.iload_n 2, 1) := by decide +kernel
theorem dX9_vector_9 : decode cX9_vector 9 = .ok (.i2l, 1) := by decide +kernel
theorem dX9_vector_10 : decode cX9_vector 10 = .ok (.lconst 0, 1) := by decide +kernel
theorem dX9_vector_11 : decode cX9_vector 11 = .ok (.ldc2_w 115, 3) := by decide +kernel
theorem dX9_vector_14 : decode cX9_vector 14 = .ok (.invokestatic 134, 3) := by decide +kernel
theorem dX9_vector_17 : decode cX9_vector 17 = .ok (.ifCond .eq 12, 3) := by decide +kernel
theorem dX9_vector_20 : decode cX9_vector 20 = .ok (.aload_n 0, 1) := by decide +kernel
theorem dX9_vector_21 : decode cX9_vector 21 = .ok (.iload_n 1, 1) := by decide +kernel
theorem dX9_vector_22 : decode cX9_vector 22 = .ok (.iload_n 3, 1) := by decide +kernel
theorem dX9_vector_23 : decode cX9_vector 23 = .ok (.invokevirtual 159, 3) := by decide +kernel
theorem dX9_vector_26 : decode cX9_vector 26 = .ok (.ifCond .ne 6, 3) := by decide +kernel
theorem dX9_vector_29 : decode cX9_vector 29 = .ok (.ldc 163, 2) := by decide +kernel
theorem dX9_vector_31 : decode cX9_vector 31 = .ok (.ireturn, 1) := by decide +kernel
theorem dX9_vector_32 : decode cX9_vector 32 = .ok (.aload_n 0, 1) := by decide +kernel
theorem dX9_vector_33 : decode cX9_vector 33 = .ok (.iload_n 1, 1) := by decide +kernel
theorem dX9_vector_34 : decode cX9_vector 34 = .ok (.invokevirtual 198, 3) := by decide +kernel
theorem dX9_vector_37 : decode cX9_vector 37 = .ok (.aload_n 0, 1) := by decide +kernel
theorem dX9_vector_38 : decode cX9_vector 38 = .ok (.getfield 40, 3) := by decide +kernel
theorem dX9_vector_41 : decode cX9_vector 41 = .ok (.iload_n 2, 1) := by decide +kernel
theorem dX9_vector_42 : decode cX9_vector 42 = .ok (.iaload, 1) := by decide +kernel
theorem dX9_vector_43 : decode cX9_vector 43 = .ok (.ifCond .ne 8, 3) := by decide +kernel
theorem dX9_vector_46 : decode cX9_vector 46 = .ok (.ldc 163, 2) := by decide +kernel
theorem dX9_vector_48 : decode cX9_vector 48 = .ok (.goto 13, 3) := by decide +kernel
theorem dX9_vector_51 : decode cX9_vector 51 = .ok (.aload_n 0, 1) := by decide +kernel
theorem dX9_vector_52 : decode cX9_vector 52 = .ok (.getfield 46, 3) := by decide +kernel
theorem dX9_vector_55 : decode cX9_vector 55 = .ok (.iconst 4, 1) := by decide +kernel
theorem dX9_vector_56 : decode cX9_vector 56 = .ok (.iload_n 2, 1) := by decide +kernel
theorem dX9_vector_57 : decode cX9_vector 57 = .ok (.imul, 1) := by decide +kernel
theorem dX9_vector_58 : decode cX9_vector 58 = .ok (.iload_n 3, 1) := by decide +kernel
theorem dX9_vector_59 : decode cX9_vector 59 = .ok (.iadd, 1) := by decide +kernel
theorem dX9_vector_60 : decode cX9_vector 60 = .ok (.iaload, 1) := by decide +kernel
theorem dX9_vector_61 : decode cX9_vector 61 = .ok (.ireturn, 1) := by decide +kernel
abbrev MX9_truantOf : ZM := (yX9_truantOf, cX9_truantOf, 4, (Option.some FieldType.int), 4, 103)
theorem dX9_truantOf_0 : decode cX9_truantOf 0 = .ok (.aload_n 0, 1) := by decide +kernel
theorem dX9_truantOf_1 : decode cX9_truantOf 1 = .ok (.iload_n 1, 1) := by decide +kernel
theorem dX9_truantOf_2 : decode cX9_truantOf 2 = .ok (.invokevirtual 198, 3) := by decide +kernel
theorem dX9_truantOf_5 : decode cX9_truantOf 5 = .ok (.iconst 0, 1) := by decide +kernel
theorem dX9_truantOf_6 : decode cX9_truantOf 6 = .ok (.istore_n 2, 1) := by decide +kernel
theorem dX9_truantOf_7 : decode cX9_truantOf 7 = .ok (.bipush 100, 2) := by decide +kernel
theorem dX9_truantOf_9 : decode cX9_truantOf 9 = .ok (.istore_n 3, 1) := by decide +kernel
theorem dX9_truantOf_10 : decode cX9_truantOf 10 = .ok (.iload_n 3, 1) := by decide +kernel
theorem dX9_truantOf_11 : decode cX9_truantOf 11 = .ok (.ifCond .le 24, 3) := by decide +kernel
theorem dX9_truantOf_14 : decode cX9_truantOf 14 = .ok (.aload_n 0, 1) := by decide +kernel
theorem dX9_truantOf_15 : decode cX9_truantOf 15 = .ok (.getfield 40, 3) := by decide +kernel
theorem dX9_truantOf_18 : decode cX9_truantOf 18 = .ok (.iload_n 3, 1) := by decide +kernel
theorem dX9_truantOf_19 : decode cX9_truantOf 19 = .ok (.iaload, 1) := by decide +kernel
theorem dX9_truantOf_20 : decode cX9_truantOf 20 = .ok (.ifCond .ne 7, 3) := by decide +kernel
theorem dX9_truantOf_23 : decode cX9_truantOf 23 = .ok (.iload_n 3, 1) := by decide +kernel
theorem dX9_truantOf_24 : decode cX9_truantOf 24 = .ok (.goto 4, 3) := by decide +kernel
theorem dX9_truantOf_27 : decode cX9_truantOf 27 = .ok (.iload_n 2, 1) := by decide +kernel
theorem dX9_truantOf_28 : decode cX9_truantOf 28 = .ok (.istore_n 2, 1) := by decide +kernel
theorem dX9_truantOf_29 : decode cX9_truantOf 29 = .ok (.iinc 3 (-1), 3) := by decide +kernel
theorem dX9_truantOf_32 : decode cX9_truantOf 32 = .ok (.goto (-22), 3) := by decide +kernel
theorem dX9_truantOf_35 : decode cX9_truantOf 35 = .ok (.iload_n 2, 1) := by decide +kernel
theorem dX9_truantOf_36 : decode cX9_truantOf 36 = .ok (.ireturn, 1) := by decide +kernel
abbrev MX9_truant : ZM := (yX9_truant, cX9_truant, 3, (Option.some FieldType.int), 5, 126)
theorem dX9_truant_0 : decode cX9_truant 0 = .ok (.aload_n 0, 1) := by decide +kernel
theorem dX9_truant_1 : decode cX9_truant 1 = .ok (.iload_n 1, 1) := by decide +kernel
theorem dX9_truant_2 : decode cX9_truant 2 = .ok (.invokevirtual 156, 3) := by decide +kernel
theorem dX9_truant_5 : decode cX9_truant 5 = .ok (.ifCond .ne 5, 3) := by decide +kernel
theorem dX9_truant_8 : decode cX9_truant 8 = .ok (.iconst (-1), 1) := by decide +kernel
theorem dX9_truant_9 : decode cX9_truant 9 = .ok (.ireturn, 1) := by decide +kernel
theorem dX9_truant_10 : decode cX9_truant 10 = .ok (.aload_n 0, 1) := by decide +kernel
theorem dX9_truant_11 : decode cX9_truant 11 = .ok (.iload_n 1, 1) := by decide +kernel
theorem dX9_truant_12 : decode cX9_truant 12 = .ok (.invokevirtual 201, 3) := by decide +kernel
theorem dX9_truant_15 : decode cX9_truant 15 = .ok (.istore_n 2, 1) := by decide +kernel
theorem dX9_truant_16 : decode cX9_truant 16 = .ok (.iload_n 2, 1) := by decide +kernel
theorem dX9_truant_17 : decode cX9_truant 17 = .ok (.ifCond .ne 8, 3) := by decide +kernel
theorem dX9_truant_20 : decode cX9_truant 20 = .ok (.bipush (-2), 2) := by decide +kernel
theorem dX9_truant_22 : decode cX9_truant 22 = .ok (.goto 4, 3) := by decide +kernel
theorem dX9_truant_25 : decode cX9_truant 25 = .ok (.iload_n 2, 1) := by decide +kernel
theorem dX9_truant_26 : decode cX9_truant 26 = .ok (.ireturn, 1) := by decide +kernel
abbrev MX9_layRests : ZM := (yX9_layRests, cX9_layRests, 3, (Option.none : Option FieldType), 2, 54)
theorem dX9_layRests_0 : decode cX9_layRests 0 = .ok (.iconst 2, 1) := by decide +kernel
theorem dX9_layRests_1 : decode cX9_layRests 1 = .ok (.istore_n 2, 1) := by decide +kernel
theorem dX9_layRests_2 : decode cX9_layRests 2 = .ok (.iload_n 2, 1) := by decide +kernel
theorem dX9_layRests_3 : decode cX9_layRests 3 = .ok (.bipush 16, 2) := by decide +kernel
theorem dX9_layRests_5 : decode cX9_layRests 5 = .ok (.if_icmp .gt 21, 3) := by decide +kernel
theorem dX9_layRests_8 : decode cX9_layRests 8 = .ok (.aload_n 0, 1) := by decide +kernel
theorem dX9_layRests_9 : decode cX9_layRests 9 = .ok (.getfield 49, 3) := by decide +kernel
theorem dX9_layRests_12 : decode cX9_layRests 12 = .ok (.iload_n 2, 1) := by decide +kernel
theorem dX9_layRests_13 : decode cX9_layRests 13 = .ok (.aload_n 0, 1) := by decide +kernel
theorem dX9_layRests_14 : decode cX9_layRests 14 = .ok (.iload_n 1, 1) := by decide +kernel
theorem dX9_layRests_15 : decode cX9_layRests 15 = .ok (.iload_n 2, 1) := by decide +kernel
theorem dX9_layRests_16 : decode cX9_layRests 16 = .ok (.invokevirtual 204, 3) := by decide +kernel
theorem dX9_layRests_19 : decode cX9_layRests 19 = .ok (.iastore, 1) := by decide +kernel
theorem dX9_layRests_20 : decode cX9_layRests 20 = .ok (.iinc 2 1, 3) := by decide +kernel
theorem dX9_layRests_23 : decode cX9_layRests 23 = .ok (.goto (-21), 3) := by decide +kernel
theorem dX9_layRests_26 : decode cX9_layRests 26 = .ok (.return_, 1) := by decide +kernel
abbrev MX9_restsBy : ZM := (yX9_restsBy, cX9_restsBy, 12, (Option.some FieldType.int), 1, 23)
theorem dX9_restsBy_0 : decode cX9_restsBy 0 = .ok (.iconst 0, 1) := by decide +kernel
theorem dX9_restsBy_1 : decode cX9_restsBy 1 = .ok (.istore_n 3, 1) := by decide +kernel
theorem dX9_restsBy_2 : decode cX9_restsBy 2 = .ok (.aload_n 0, 1) := by decide +kernel
theorem dX9_restsBy_3 : decode cX9_restsBy 3 = .ok (.getfield 15, 3) := by decide +kernel
theorem dX9_restsBy_6 : decode cX9_restsBy 6 = .ok (.iload_n 1, 1) := by decide +kernel
theorem dX9_restsBy_7 : decode cX9_restsBy 7 = .ok (.iaload, 1) := by decide +kernel
theorem dX9_restsBy_8 : decode cX9_restsBy 8 = .ok (.istore 4, 2) := by decide +kernel
theorem dX9_restsBy_10 : decode cX9_restsBy 10 = .ok (.iload 4, 2) := by decide +kernel
theorem dX9_restsBy_12 : decode cX9_restsBy 12 = .ok (.iconst 1, 1) := by decide +kernel
theorem dX9_restsBy_13 : decode cX9_restsBy 13 = .ok (.if_icmp .ne 7, 3) := by decide +kernel
theorem dX9_restsBy_16 : decode cX9_restsBy 16 = .ok (.iload_n 2, 1) := by decide +kernel
theorem dX9_restsBy_17 : decode cX9_restsBy 17 = .ok (.goto 36, 3) := by decide +kernel
theorem dX9_restsBy_20 : decode cX9_restsBy 20 = .ok (.iload 4, 2) := by decide +kernel
theorem dX9_restsBy_22 : decode cX9_restsBy 22 = .ok (.iconst 2, 1) := by decide +kernel
theorem dX9_restsBy_23 : decode cX9_restsBy 23 = .ok (.if_icmp .ne 9, 3) := by decide +kernel
theorem dX9_restsBy_26 : decode cX9_restsBy 26 = .ok (.iload_n 2, 1) := by decide +kernel
theorem dX9_restsBy_27 : decode cX9_restsBy 27 = .ok (.iload_n 2, 1) := by decide +kernel
theorem dX9_restsBy_28 : decode cX9_restsBy 28 = .ok (.imul, 1) := by decide +kernel
theorem dX9_restsBy_29 : decode cX9_restsBy 29 = .ok (.goto 24, 3) := by decide +kernel
theorem dX9_restsBy_32 : decode cX9_restsBy 32 = .ok (.iload 4, 2) := by decide +kernel
theorem dX9_restsBy_34 : decode cX9_restsBy 34 = .ok (.iconst 3, 1) := by decide +kernel
theorem dX9_restsBy_35 : decode cX9_restsBy 35 = .ok (.if_icmp .ne 11, 3) := by decide +kernel
theorem dX9_restsBy_38 : decode cX9_restsBy 38 = .ok (.iload_n 2, 1) := by decide +kernel
theorem dX9_restsBy_39 : decode cX9_restsBy 39 = .ok (.iload_n 2, 1) := by decide +kernel
theorem dX9_restsBy_40 : decode cX9_restsBy 40 = .ok (.imul, 1) := by decide +kernel
theorem dX9_restsBy_41 : decode cX9_restsBy 41 = .ok (.iload_n 2, 1) := by decide +kernel
theorem dX9_restsBy_42 : decode cX9_restsBy 42 = .ok (.imul, 1) := by decide +kernel
theorem dX9_restsBy_43 : decode cX9_restsBy 43 = .ok (.goto 10, 3) := by decide +kernel
theorem dX9_restsBy_46 : decode cX9_restsBy 46 = .ok (.iload_n 2, 1) := by decide +kernel
theorem dX9_restsBy_47 : decode cX9_restsBy 47 = .ok (.iload_n 2, 1) := by decide +kernel
theorem dX9_restsBy_48 : decode cX9_restsBy 48 = .ok (.imul, 1) := by decide +kernel
theorem dX9_restsBy_49 : decode cX9_restsBy 49 = .ok (.iload_n 2, 1) := by decide +kernel
theorem dX9_restsBy_50 : decode cX9_restsBy 50 = .ok (.imul, 1) := by decide +kernel
theorem dX9_restsBy_51 : decode cX9_restsBy 51 = .ok (.iload_n 2, 1) := by decide +kernel
theorem dX9_restsBy_52 : decode cX9_restsBy 52 = .ok (.imul, 1) := by decide +kernel
theorem dX9_restsBy_53 : decode cX9_restsBy 53 = .ok (.istore 5, 2) := by decide +kernel
theorem dX9_restsBy_55 : decode cX9_restsBy 55 = .ok (.iconst 0, 1) := by decide +kernel
theorem dX9_restsBy_56 : decode cX9_restsBy 56 = .ok (.istore 6, 2) := by decide +kernel
theorem dX9_restsBy_58 : decode cX9_restsBy 58 = .ok (.iload 6, 2) := by decide +kernel
theorem dX9_restsBy_60 : decode cX9_restsBy 60 = .ok (.iload 5, 2) := by decide +kernel
theorem dX9_restsBy_62 : decode cX9_restsBy 62 = .ok (.if_icmp .ge 134, 3) := by decide +kernel
theorem dX9_restsBy_65 : decode cX9_restsBy 65 = .ok (.iload 6, 2) := by decide +kernel
theorem dX9_restsBy_67 : decode cX9_restsBy 67 = .ok (.istore 7, 2) := by decide +kernel
theorem dX9_restsBy_69 : decode cX9_restsBy 69 = .ok (.iconst 0, 1) := by decide +kernel
theorem dX9_restsBy_70 : decode cX9_restsBy 70 = .ok (.istore 8, 2) := by decide +kernel
theorem dX9_restsBy_72 : decode cX9_restsBy 72 = .ok (.iload 8, 2) := by decide +kernel
theorem dX9_restsBy_74 : decode cX9_restsBy 74 = .ok (.iconst 4, 1) := by decide +kernel
theorem dX9_restsBy_75 : decode cX9_restsBy 75 = .ok (.if_icmp .ge 38, 3) := by decide +kernel
theorem dX9_restsBy_78 : decode cX9_restsBy 78 = .ok (.aload_n 0, 1) := by decide +kernel
theorem dX9_restsBy_79 : decode cX9_restsBy 79 = .ok (.getfield 37, 3) := by decide +kernel
theorem dX9_restsBy_82 : decode cX9_restsBy 82 = .ok (.iload 8, 2) := by decide +kernel
theorem dX9_restsBy_84 : decode cX9_restsBy 84 = .ok (.iload 8, 2) := by decide +kernel
theorem dX9_restsBy_86 : decode cX9_restsBy 86 = .ok (.iload 4, 2) := by decide +kernel
theorem dX9_restsBy_88 : decode cX9_restsBy 88 = .ok (.if_icmp .ge 11, 3) := by decide +kernel
theorem dX9_restsBy_91 : decode cX9_restsBy 91 = .ok (.iload 7, 2) := by decide +kernel
theorem dX9_restsBy_93 : decode cX9_restsBy 93 = .ok (.iload_n 2, 1) := by decide +kernel
theorem dX9_restsBy_94 : decode cX9_restsBy 94 = .ok (.irem, 1) := by decide +kernel
theorem dX9_restsBy_95 : decode cX9_restsBy 95 = .ok (.i2l, 1) := by decide +kernel
theorem dX9_restsBy_96 : decode cX9_restsBy 96 = .ok (.goto 4, 3) := by decide +kernel
theorem dX9_restsBy_99 : decode cX9_restsBy 99 = .ok (.lconst 0, 1) := by decide +kernel
theorem dX9_restsBy_100 : decode cX9_restsBy 100 = .ok (.lastore, 1) := by decide +kernel
theorem dX9_restsBy_101 : decode cX9_restsBy 101 = .ok (.iload 7, 2) := by decide +kernel
theorem dX9_restsBy_103 : decode cX9_restsBy 103 = .ok (.iload_n 2, 1) := by decide +kernel
theorem dX9_restsBy_104 : decode cX9_restsBy 104 = .ok (.idiv, 1) := by decide +kernel
theorem dX9_restsBy_105 : decode cX9_restsBy 105 = .ok (.istore 7, 2) := by decide +kernel
theorem dX9_restsBy_107 : decode cX9_restsBy 107 = .ok (.iinc 8 1, 3) := by decide +kernel
theorem dX9_restsBy_110 : decode cX9_restsBy 110 = .ok (.goto (-38), 3) := by decide +kernel
theorem dX9_restsBy_113 : decode cX9_restsBy 113 = .ok (.lconst 0, 1) := by decide +kernel
theorem dX9_restsBy_114 : decode cX9_restsBy 114 = .ok (.lstore 8, 2) := by decide +kernel
theorem dX9_restsBy_116 : decode cX9_restsBy 116 = .ok (.iconst 0, 1) := by decide +kernel
theorem dX9_restsBy_117 : decode cX9_restsBy 117 = .ok (.istore 10, 2) := by decide +kernel
theorem dX9_restsBy_119 : decode cX9_restsBy 119 = .ok (.iload 10, 2) := by decide +kernel
theorem dX9_restsBy_121 : decode cX9_restsBy 121 = .ok (.iload 4, 2) := by decide +kernel
theorem dX9_restsBy_123 : decode cX9_restsBy 123 = .ok (.if_icmp .ge 56, 3) := by decide +kernel
theorem dX9_restsBy_126 : decode cX9_restsBy 126 = .ok (.iconst 0, 1) := by decide +kernel
theorem dX9_restsBy_127 : decode cX9_restsBy 127 = .ok (.istore 11, 2) := by decide +kernel
theorem dX9_restsBy_129 : decode cX9_restsBy 129 = .ok (.iload 11, 2) := by decide +kernel
theorem dX9_restsBy_131 : decode cX9_restsBy 131 = .ok (.iload 4, 2) := by decide +kernel
theorem dX9_restsBy_133 : decode cX9_restsBy 133 = .ok (.if_icmp .ge 40, 3) := by decide +kernel
theorem dX9_restsBy_136 : decode cX9_restsBy 136 = .ok (.lload 8, 2) := by decide +kernel
theorem dX9_restsBy_138 : decode cX9_restsBy 138 = .ok (.aload_n 0, 1) := by decide +kernel
theorem dX9_restsBy_139 : decode cX9_restsBy 139 = .ok (.iload_n 1, 1) := by decide +kernel
theorem dX9_restsBy_140 : decode cX9_restsBy 140 = .ok (.iload 10, 2) := by decide +kernel
theorem dX9_restsBy_142 : decode cX9_restsBy 142 = .ok (.iload 11, 2) := by decide +kernel
theorem dX9_restsBy_144 : decode cX9_restsBy 144 = .ok (.invokevirtual 90, 3) := by decide +kernel
theorem dX9_restsBy_147 : decode cX9_restsBy 147 = .ok (.i2l, 1) := by decide +kernel
theorem dX9_restsBy_148 : decode cX9_restsBy 148 = .ok (.aload_n 0, 1) := by decide +kernel
theorem dX9_restsBy_149 : decode cX9_restsBy 149 = .ok (.getfield 37, 3) := by decide +kernel
theorem dX9_restsBy_152 : decode cX9_restsBy 152 = .ok (.iload 10, 2) := by decide +kernel
theorem dX9_restsBy_154 : decode cX9_restsBy 154 = .ok (.laload, 1) := by decide +kernel
theorem dX9_restsBy_155 : decode cX9_restsBy 155 = .ok (.lmul, 1) := by decide +kernel
theorem dX9_restsBy_156 : decode cX9_restsBy 156 = .ok (.aload_n 0, 1) := by decide +kernel
theorem dX9_restsBy_157 : decode cX9_restsBy 157 = .ok (.getfield 37, 3) := by decide +kernel
theorem dX9_restsBy_160 : decode cX9_restsBy 160 = .ok (.iload 11, 2) := by decide +kernel
theorem dX9_restsBy_162 : decode cX9_restsBy 162 = .ok (.laload, 1) := by decide +kernel
theorem dX9_restsBy_163 : decode cX9_restsBy 163 = .ok (.lmul, 1) := by decide +kernel
theorem dX9_restsBy_164 : decode cX9_restsBy 164 = .ok (.ladd, 1) := by decide +kernel
theorem dX9_restsBy_165 : decode cX9_restsBy 165 = .ok (.lstore 8, 2) := by decide +kernel
theorem dX9_restsBy_167 : decode cX9_restsBy 167 = .ok (.iinc 11 1, 3) := by decide +kernel
theorem dX9_restsBy_170 : decode cX9_restsBy 170 = .ok (.goto (-41), 3) := by decide +kernel
theorem dX9_restsBy_173 : decode cX9_restsBy 173 = .ok (.iinc 10 1, 3) := by decide +kernel
theorem dX9_restsBy_176 : decode cX9_restsBy 176 = .ok (.goto (-57), 3) := by decide +kernel
theorem dX9_restsBy_179 : decode cX9_restsBy 179 = .ok (.iload_n 3, 1) := by decide +kernel
theorem dX9_restsBy_180 : decode cX9_restsBy 180 = .ok (.iconst 1, 1) := by decide +kernel
theorem dX9_restsBy_181 : decode cX9_restsBy 181 = .ok (.lload 8, 2) := by decide +kernel
theorem dX9_restsBy_183 : decode cX9_restsBy 183 = .ok (.iload_n 2, 1) := by decide +kernel
theorem dX9_restsBy_184 : decode cX9_restsBy 184 = .ok (.i2l, 1) := by decide +kernel
theorem dX9_restsBy_185 : decode cX9_restsBy 185 = .ok (.lrem, 1) := by decide +kernel
theorem dX9_restsBy_186 : decode cX9_restsBy 186 = .ok (.l2i, 1) := by decide +kernel
theorem dX9_restsBy_187 : decode cX9_restsBy 187 = .ok (.ishl, 1) := by decide +kernel
theorem dX9_restsBy_188 : decode cX9_restsBy 188 = .ok (.ior, 1) := by decide +kernel
theorem dX9_restsBy_189 : decode cX9_restsBy 189 = .ok (.istore_n 3, 1) := by decide +kernel
theorem dX9_restsBy_190 : decode cX9_restsBy 190 = .ok (.iinc 6 1, 3) := by decide +kernel
theorem dX9_restsBy_193 : decode cX9_restsBy 193 = .ok (.goto (-135), 3) := by decide +kernel
theorem dX9_restsBy_196 : decode cX9_restsBy 196 = .ok (.iload_n 3, 1) := by decide +kernel
theorem dX9_restsBy_197 : decode cX9_restsBy 197 = .ok (.ireturn, 1) := by decide +kernel
abbrev MX9_barredBy : ZM := (yX9_barredBy, cX9_barredBy, 5, (Option.some FieldType.int), 0, 0)
theorem dX9_barredBy_0 : decode cX9_barredBy 0 = .ok (.iconst 0, 1) := by decide +kernel
theorem dX9_barredBy_1 : decode cX9_barredBy 1 = .ok (.istore_n 2, 1) := by decide +kernel
theorem dX9_barredBy_2 : decode cX9_barredBy 2 = .ok (.bipush 16, 2) := by decide +kernel
theorem dX9_barredBy_4 : decode cX9_barredBy 4 = .ok (.istore_n 3, 1) := by decide +kernel
theorem dX9_barredBy_5 : decode cX9_barredBy 5 = .ok (.iload_n 3, 1) := by decide +kernel
theorem dX9_barredBy_6 : decode cX9_barredBy 6 = .ok (.iconst 2, 1) := by decide +kernel
theorem dX9_barredBy_7 : decode cX9_barredBy 7 = .ok (.if_icmp .lt 50, 3) := by decide +kernel
theorem dX9_barredBy_10 : decode cX9_barredBy 10 = .ok (.iload_n 1, 1) := by decide +kernel
theorem dX9_barredBy_11 : decode cX9_barredBy 11 = .ok (.iload_n 3, 1) := by decide +kernel
theorem dX9_barredBy_12 : decode cX9_barredBy 12 = .ok (.irem, 1) := by decide +kernel
theorem dX9_barredBy_13 : decode cX9_barredBy 13 = .ok (.istore 4, 2) := by decide +kernel
theorem dX9_barredBy_15 : decode cX9_barredBy 15 = .ok (.iload 4, 2) := by decide +kernel
theorem dX9_barredBy_17 : decode cX9_barredBy 17 = .ok (.ifCond .ge 10, 3) := by decide +kernel
theorem dX9_barredBy_20 : decode cX9_barredBy 20 = .ok (.iload 4, 2) := by decide +kernel
theorem dX9_barredBy_22 : decode cX9_barredBy 22 = .ok (.iload_n 3, 1) := by decide +kernel
theorem dX9_barredBy_23 : decode cX9_barredBy 23 = .ok (.iadd, 1) := by decide +kernel
theorem dX9_barredBy_24 : decode cX9_barredBy 24 = .ok (.goto 5, 3) := by decide +kernel
theorem dX9_barredBy_27 : decode cX9_barredBy 27 = .ok (.iload 4, 2) := by decide +kernel
theorem dX9_barredBy_29 : decode cX9_barredBy 29 = .ok (.istore 4, 2) := by decide +kernel
theorem dX9_barredBy_31 : decode cX9_barredBy 31 = .ok (.aload_n 0, 1) := by decide +kernel
theorem dX9_barredBy_32 : decode cX9_barredBy 32 = .ok (.getfield 49, 3) := by decide +kernel
theorem dX9_barredBy_35 : decode cX9_barredBy 35 = .ok (.iload_n 3, 1) := by decide +kernel
theorem dX9_barredBy_36 : decode cX9_barredBy 36 = .ok (.iaload, 1) := by decide +kernel
theorem dX9_barredBy_37 : decode cX9_barredBy 37 = .ok (.iload 4, 2) := by decide +kernel
theorem dX9_barredBy_39 : decode cX9_barredBy 39 = .ok (.ishr, 1) := by decide +kernel
theorem dX9_barredBy_40 : decode cX9_barredBy 40 = .ok (.iconst 1, 1) := by decide +kernel
theorem dX9_barredBy_41 : decode cX9_barredBy 41 = .ok (.iand, 1) := by decide +kernel
theorem dX9_barredBy_42 : decode cX9_barredBy 42 = .ok (.ifCond .ne 7, 3) := by decide +kernel
theorem dX9_barredBy_45 : decode cX9_barredBy 45 = .ok (.iload_n 3, 1) := by decide +kernel
theorem dX9_barredBy_46 : decode cX9_barredBy 46 = .ok (.goto 4, 3) := by decide +kernel
theorem dX9_barredBy_49 : decode cX9_barredBy 49 = .ok (.iload_n 2, 1) := by decide +kernel
theorem dX9_barredBy_50 : decode cX9_barredBy 50 = .ok (.istore_n 2, 1) := by decide +kernel
theorem dX9_barredBy_51 : decode cX9_barredBy 51 = .ok (.iinc 3 (-1), 3) := by decide +kernel
theorem dX9_barredBy_54 : decode cX9_barredBy 54 = .ok (.goto (-49), 3) := by decide +kernel
theorem dX9_barredBy_57 : decode cX9_barredBy 57 = .ok (.iload_n 2, 1) := by decide +kernel
theorem dX9_barredBy_58 : decode cX9_barredBy 58 = .ok (.ireturn, 1) := by decide +kernel
abbrev MX9_exceptions : ZM := (yX9_exceptions, cX9_exceptions, 8, (Option.some FieldType.int), 4, 103)
theorem dX9_exceptions_0 : decode cX9_exceptions 0 = .ok (.aload_n 0, 1) := by decide +kernel
theorem dX9_exceptions_1 : decode cX9_exceptions 1 = .ok (.iload_n 1, 1) := by decide +kernel
theorem dX9_exceptions_2 : decode cX9_exceptions 2 = .ok (.invokevirtual 156, 3) := by decide +kernel
theorem dX9_exceptions_5 : decode cX9_exceptions 5 = .ok (.ifCond .eq 27, 3) := by decide +kernel
theorem dX9_exceptions_8 : decode cX9_exceptions 8 = .ok (.iload_n 2, 1) := by decide +kernel
theorem dX9_exceptions_9 : decode cX9_exceptions 9 = .ok (.i2l, 1) := by decide +kernel
theorem dX9_exceptions_10 : decode cX9_exceptions 10 = .ok (.lconst 1, 1) := by decide +kernel
theorem dX9_exceptions_11 : decode cX9_exceptions 11 = .ok (.ldc2_w 115, 3) := by decide +kernel
theorem dX9_exceptions_14 : decode cX9_exceptions 14 = .ok (.invokestatic 134, 3) := by decide +kernel
theorem dX9_exceptions_17 : decode cX9_exceptions 17 = .ok (.ifCond .eq 15, 3) := by decide +kernel
theorem dX9_exceptions_20 : decode cX9_exceptions 20 = .ok (.iload_n 3, 1) := by decide +kernel
theorem dX9_exceptions_21 : decode cX9_exceptions 21 = .ok (.i2l, 1) := by decide +kernel
theorem dX9_exceptions_22 : decode cX9_exceptions 22 = .ok (.lconst 0, 1) := by decide +kernel
theorem dX9_exceptions_23 : decode cX9_exceptions 23 = .ok (.ldc2_w 123, 3) := by decide +kernel
theorem dX9_exceptions_26 : decode cX9_exceptions 26 = .ok (.invokestatic 134, 3) := by decide +kernel
theorem dX9_exceptions_29 : decode cX9_exceptions 29 = .ok (.ifCond .ne 5, 3) := by decide +kernel
theorem dX9_exceptions_32 : decode cX9_exceptions 32 = .ok (.iconst (-1), 1) := by decide +kernel
theorem dX9_exceptions_33 : decode cX9_exceptions 33 = .ok (.ireturn, 1) := by decide +kernel
theorem dX9_exceptions_34 : decode cX9_exceptions 34 = .ok (.aload_n 0, 1) := by decide +kernel
theorem dX9_exceptions_35 : decode cX9_exceptions 35 = .ok (.iload_n 1, 1) := by decide +kernel
theorem dX9_exceptions_36 : decode cX9_exceptions 36 = .ok (.invokevirtual 198, 3) := by decide +kernel
theorem dX9_exceptions_39 : decode cX9_exceptions 39 = .ok (.aload_n 0, 1) := by decide +kernel
theorem dX9_exceptions_40 : decode cX9_exceptions 40 = .ok (.iload_n 1, 1) := by decide +kernel
theorem dX9_exceptions_41 : decode cX9_exceptions 41 = .ok (.invokevirtual 208, 3) := by decide +kernel
theorem dX9_exceptions_44 : decode cX9_exceptions 44 = .ok (.iconst 0, 1) := by decide +kernel
theorem dX9_exceptions_45 : decode cX9_exceptions 45 = .ok (.istore 4, 2) := by decide +kernel
theorem dX9_exceptions_47 : decode cX9_exceptions 47 = .ok (.iconst 0, 1) := by decide +kernel
theorem dX9_exceptions_48 : decode cX9_exceptions 48 = .ok (.istore 5, 2) := by decide +kernel
theorem dX9_exceptions_50 : decode cX9_exceptions 50 = .ok (.iconst 0, 1) := by decide +kernel
theorem dX9_exceptions_51 : decode cX9_exceptions 51 = .ok (.istore 6, 2) := by decide +kernel
theorem dX9_exceptions_53 : decode cX9_exceptions 53 = .ok (.iconst 1, 1) := by decide +kernel
theorem dX9_exceptions_54 : decode cX9_exceptions 54 = .ok (.istore 7, 2) := by decide +kernel
theorem dX9_exceptions_56 : decode cX9_exceptions 56 = .ok (.iload 7, 2) := by decide +kernel
theorem dX9_exceptions_58 : decode cX9_exceptions 58 = .ok (.iload_n 2, 1) := by decide +kernel
theorem dX9_exceptions_59 : decode cX9_exceptions 59 = .ok (.if_icmp .gt 45, 3) := by decide +kernel
theorem dX9_exceptions_62 : decode cX9_exceptions 62 = .ok (.aload_n 0, 1) := by decide +kernel
theorem dX9_exceptions_63 : decode cX9_exceptions 63 = .ok (.getfield 40, 3) := by decide +kernel
theorem dX9_exceptions_66 : decode cX9_exceptions 66 = .ok (.iload 7, 2) := by decide +kernel
theorem dX9_exceptions_68 : decode cX9_exceptions 68 = .ok (.iaload, 1) := by decide +kernel
theorem dX9_exceptions_69 : decode cX9_exceptions 69 = .ok (.ifCond .ne 29, 3) := by decide +kernel
theorem dX9_exceptions_72 : decode cX9_exceptions 72 = .ok (.iinc 4 1, 3) := by decide +kernel
theorem dX9_exceptions_75 : decode cX9_exceptions 75 = .ok (.iload 5, 2) := by decide +kernel
theorem dX9_exceptions_77 : decode cX9_exceptions 77 = .ok (.aload_n 0, 1) := by decide +kernel
theorem dX9_exceptions_78 : decode cX9_exceptions 78 = .ok (.iload 7, 2) := by decide +kernel
theorem dX9_exceptions_80 : decode cX9_exceptions 80 = .ok (.invokevirtual 211, 3) := by decide +kernel
theorem dX9_exceptions_83 : decode cX9_exceptions 83 = .ok (.ifCond .le 7, 3) := by decide +kernel
theorem dX9_exceptions_86 : decode cX9_exceptions 86 = .ok (.iconst 1, 1) := by decide +kernel
theorem dX9_exceptions_87 : decode cX9_exceptions 87 = .ok (.goto 4, 3) := by decide +kernel
theorem dX9_exceptions_90 : decode cX9_exceptions 90 = .ok (.iconst 0, 1) := by decide +kernel
theorem dX9_exceptions_91 : decode cX9_exceptions 91 = .ok (.iadd, 1) := by decide +kernel
theorem dX9_exceptions_92 : decode cX9_exceptions 92 = .ok (.istore 5, 2) := by decide +kernel
theorem dX9_exceptions_94 : decode cX9_exceptions 94 = .ok (.iload 7, 2) := by decide +kernel
theorem dX9_exceptions_96 : decode cX9_exceptions 96 = .ok (.istore 6, 2) := by decide +kernel
theorem dX9_exceptions_98 : decode cX9_exceptions 98 = .ok (.iinc 7 1, 3) := by decide +kernel
theorem dX9_exceptions_101 : decode cX9_exceptions 101 = .ok (.goto (-45), 3) := by decide +kernel
theorem dX9_exceptions_104 : decode cX9_exceptions 104 = .ok (.iload_n 3, 1) := by decide +kernel
theorem dX9_exceptions_105 : decode cX9_exceptions 105 = .ok (.ifCond .ne 8, 3) := by decide +kernel
theorem dX9_exceptions_108 : decode cX9_exceptions 108 = .ok (.iload 4, 2) := by decide +kernel
theorem dX9_exceptions_110 : decode cX9_exceptions 110 = .ok (.goto 15, 3) := by decide +kernel
theorem dX9_exceptions_113 : decode cX9_exceptions 113 = .ok (.iload_n 3, 1) := by decide +kernel
theorem dX9_exceptions_114 : decode cX9_exceptions 114 = .ok (.iconst 1, 1) := by decide +kernel
theorem dX9_exceptions_115 : decode cX9_exceptions 115 = .ok (.if_icmp .ne 8, 3) := by decide +kernel
theorem dX9_exceptions_118 : decode cX9_exceptions 118 = .ok (.iload 5, 2) := by decide +kernel
theorem dX9_exceptions_120 : decode cX9_exceptions 120 = .ok (.goto 5, 3) := by decide +kernel
theorem dX9_exceptions_123 : decode cX9_exceptions 123 = .ok (.iload 6, 2) := by decide +kernel
theorem dX9_exceptions_125 : decode cX9_exceptions 125 = .ok (.ireturn, 1) := by decide +kernel
abbrev MX9_exception : ZM := (yX9_exception, cX9_exception, 5, (Option.some FieldType.int), 4, 103)
theorem dX9_exception_0 : decode cX9_exception 0 = .ok (.aload_n 0, 1) := by decide +kernel
theorem dX9_exception_1 : decode cX9_exception 1 = .ok (.iload_n 1, 1) := by decide +kernel
theorem dX9_exception_2 : decode cX9_exception 2 = .ok (.invokevirtual 156, 3) := by decide +kernel
theorem dX9_exception_5 : decode cX9_exception 5 = .ok (.ifCond .ne 5, 3) := by decide +kernel
theorem dX9_exception_8 : decode cX9_exception 8 = .ok (.iconst (-1), 1) := by decide +kernel
theorem dX9_exception_9 : decode cX9_exception 9 = .ok (.ireturn, 1) := by decide +kernel
theorem dX9_exception_10 : decode cX9_exception 10 = .ok (.aload_n 0, 1) := by decide +kernel
theorem dX9_exception_11 : decode cX9_exception 11 = .ok (.iload_n 1, 1) := by decide +kernel
theorem dX9_exception_12 : decode cX9_exception 12 = .ok (.invokevirtual 198, 3) := by decide +kernel
theorem dX9_exception_15 : decode cX9_exception 15 = .ok (.iconst (-1), 1) := by decide +kernel
theorem dX9_exception_16 : decode cX9_exception 16 = .ok (.istore_n 3, 1) := by decide +kernel
theorem dX9_exception_17 : decode cX9_exception 17 = .ok (.iconst 1, 1) := by decide +kernel
theorem dX9_exception_18 : decode cX9_exception 18 = .ok (.istore 4, 2) := by decide +kernel
theorem dX9_exception_20 : decode cX9_exception 20 = .ok (.iload 4, 2) := by decide +kernel
theorem dX9_exception_22 : decode cX9_exception 22 = .ok (.bipush 100, 2) := by decide +kernel
theorem dX9_exception_24 : decode cX9_exception 24 = .ok (.if_icmp .gt 45, 3) := by decide +kernel
theorem dX9_exception_27 : decode cX9_exception 27 = .ok (.iload_n 3, 1) := by decide +kernel
theorem dX9_exception_28 : decode cX9_exception 28 = .ok (.aload_n 0, 1) := by decide +kernel
theorem dX9_exception_29 : decode cX9_exception 29 = .ok (.getfield 40, 3) := by decide +kernel
theorem dX9_exception_32 : decode cX9_exception 32 = .ok (.iload 4, 2) := by decide +kernel
theorem dX9_exception_34 : decode cX9_exception 34 = .ok (.iaload, 1) := by decide +kernel
theorem dX9_exception_35 : decode cX9_exception 35 = .ok (.ifCond .ne 7, 3) := by decide +kernel
theorem dX9_exception_38 : decode cX9_exception 38 = .ok (.iconst 1, 1) := by decide +kernel
theorem dX9_exception_39 : decode cX9_exception 39 = .ok (.goto 4, 3) := by decide +kernel
theorem dX9_exception_42 : decode cX9_exception 42 = .ok (.iconst 0, 1) := by decide +kernel
theorem dX9_exception_43 : decode cX9_exception 43 = .ok (.iadd, 1) := by decide +kernel
theorem dX9_exception_44 : decode cX9_exception 44 = .ok (.istore_n 3, 1) := by decide +kernel
theorem dX9_exception_45 : decode cX9_exception 45 = .ok (.aload_n 0, 1) := by decide +kernel
theorem dX9_exception_46 : decode cX9_exception 46 = .ok (.getfield 40, 3) := by decide +kernel
theorem dX9_exception_49 : decode cX9_exception 49 = .ok (.iload 4, 2) := by decide +kernel
theorem dX9_exception_51 : decode cX9_exception 51 = .ok (.iaload, 1) := by decide +kernel
theorem dX9_exception_52 : decode cX9_exception 52 = .ok (.ifCond .ne 11, 3) := by decide +kernel
theorem dX9_exception_55 : decode cX9_exception 55 = .ok (.iload_n 3, 1) := by decide +kernel
theorem dX9_exception_56 : decode cX9_exception 56 = .ok (.iload_n 2, 1) := by decide +kernel
theorem dX9_exception_57 : decode cX9_exception 57 = .ok (.if_icmp .ne 6, 3) := by decide +kernel
theorem dX9_exception_60 : decode cX9_exception 60 = .ok (.iload 4, 2) := by decide +kernel
theorem dX9_exception_62 : decode cX9_exception 62 = .ok (.ireturn, 1) := by decide +kernel
theorem dX9_exception_63 : decode cX9_exception 63 = .ok (.iinc 4 1, 3) := by decide +kernel
theorem dX9_exception_66 : decode cX9_exception 66 = .ok (.goto (-46), 3) := by decide +kernel
theorem dX9_exception_69 : decode cX9_exception 69 = .ok (.bipush (-2), 2) := by decide +kernel
theorem dX9_exception_71 : decode cX9_exception 71 = .ok (.ireturn, 1) := by decide +kernel
abbrev MX9_residues : ZM := (yX9_residues, cX9_residues, 3, (Option.some FieldType.int), 2, 54)
theorem dX9_residues_0 : decode cX9_residues 0 = .ok (.aload_n 0, 1) := by decide +kernel
theorem dX9_residues_1 : decode cX9_residues 1 = .ok (.iload_n 1, 1) := by decide +kernel
theorem dX9_residues_2 : decode cX9_residues 2 = .ok (.invokevirtual 156, 3) := by decide +kernel
theorem dX9_residues_5 : decode cX9_residues 5 = .ok (.ifCond .eq 26, 3) := by decide +kernel
theorem dX9_residues_8 : decode cX9_residues 8 = .ok (.iload_n 2, 1) := by decide +kernel
theorem dX9_residues_9 : decode cX9_residues 9 = .ok (.i2l, 1) := by decide +kernel
theorem dX9_residues_10 : decode cX9_residues 10 = .ok (.ldc2_w 123, 3) := by decide +kernel
theorem dX9_residues_13 : decode cX9_residues 13 = .ok (.ldc2_w 214, 3) := by decide +kernel
theorem dX9_residues_16 : decode cX9_residues 16 = .ok (.invokestatic 134, 3) := by decide +kernel
theorem dX9_residues_19 : decode cX9_residues 19 = .ok (.ifCond .eq 12, 3) := by decide +kernel
theorem dX9_residues_22 : decode cX9_residues 22 = .ok (.aload_n 0, 1) := by decide +kernel
theorem dX9_residues_23 : decode cX9_residues 23 = .ok (.iload_n 1, 1) := by decide +kernel
theorem dX9_residues_24 : decode cX9_residues 24 = .ok (.iload_n 2, 1) := by decide +kernel
theorem dX9_residues_25 : decode cX9_residues 25 = .ok (.invokevirtual 204, 3) := by decide +kernel
theorem dX9_residues_28 : decode cX9_residues 28 = .ok (.goto 4, 3) := by decide +kernel
theorem dX9_residues_31 : decode cX9_residues 31 = .ok (.iconst (-1), 1) := by decide +kernel
theorem dX9_residues_32 : decode cX9_residues 32 = .ok (.ireturn, 1) := by decide +kernel
abbrev MX9_barred : ZM := (yX9_barred, cX9_barred, 4, (Option.some FieldType.int), 3, 76)
theorem dX9_barred_0 : decode cX9_barred 0 = .ok (.aload_n 0, 1) := by decide +kernel
theorem dX9_barred_1 : decode cX9_barred 1 = .ok (.iload_n 1, 1) := by decide +kernel
theorem dX9_barred_2 : decode cX9_barred 2 = .ok (.invokevirtual 156, 3) := by decide +kernel
theorem dX9_barred_5 : decode cX9_barred 5 = .ok (.ifCond .ne 5, 3) := by decide +kernel
theorem dX9_barred_8 : decode cX9_barred 8 = .ok (.iconst (-1), 1) := by decide +kernel
theorem dX9_barred_9 : decode cX9_barred 9 = .ok (.ireturn, 1) := by decide +kernel
theorem dX9_barred_10 : decode cX9_barred 10 = .ok (.aload_n 0, 1) := by decide +kernel
theorem dX9_barred_11 : decode cX9_barred 11 = .ok (.iload_n 1, 1) := by decide +kernel
theorem dX9_barred_12 : decode cX9_barred 12 = .ok (.invokevirtual 208, 3) := by decide +kernel
theorem dX9_barred_15 : decode cX9_barred 15 = .ok (.aload_n 0, 1) := by decide +kernel
theorem dX9_barred_16 : decode cX9_barred 16 = .ok (.iload_n 2, 1) := by decide +kernel
theorem dX9_barred_17 : decode cX9_barred 17 = .ok (.invokevirtual 211, 3) := by decide +kernel
theorem dX9_barred_20 : decode cX9_barred 20 = .ok (.istore_n 3, 1) := by decide +kernel
theorem dX9_barred_21 : decode cX9_barred 21 = .ok (.iload_n 3, 1) := by decide +kernel
theorem dX9_barred_22 : decode cX9_barred 22 = .ok (.ifCond .ne 8, 3) := by decide +kernel
theorem dX9_barred_25 : decode cX9_barred 25 = .ok (.bipush (-2), 2) := by decide +kernel
theorem dX9_barred_27 : decode cX9_barred 27 = .ok (.goto 4, 3) := by decide +kernel
theorem dX9_barred_30 : decode cX9_barred 30 = .ok (.iload_n 3, 1) := by decide +kernel
theorem dX9_barred_31 : decode cX9_barred 31 = .ok (.ireturn, 1) := by decide +kernel
abbrev MX9_ruleMany : ZM := (yX9_ruleMany, cX9_ruleMany, 1, (Option.some FieldType.int), 0, 0)
theorem dX9_ruleMany_0 : decode cX9_ruleMany 0 = .ok (.iload_n 0, 1) := by decide +kernel
theorem dX9_ruleMany_1 : decode cX9_ruleMany 1 = .ok (.ifCond .ne 8, 3) := by decide +kernel
theorem dX9_ruleMany_4 : decode cX9_ruleMany 4 = .ok (.bipush 9, 2) := by decide +kernel
theorem dX9_ruleMany_6 : decode cX9_ruleMany 6 = .ok (.goto 15, 3) := by decide +kernel
theorem dX9_ruleMany_9 : decode cX9_ruleMany 9 = .ok (.iload_n 0, 1) := by decide +kernel
theorem dX9_ruleMany_10 : decode cX9_ruleMany 10 = .ok (.iconst 1, 1) := by decide +kernel
theorem dX9_ruleMany_11 : decode cX9_ruleMany 11 = .ok (.if_icmp .ne 8, 3) := by decide +kernel
theorem dX9_ruleMany_14 : decode cX9_ruleMany 14 = .ok (.bipush 7, 2) := by decide +kernel
theorem dX9_ruleMany_16 : decode cX9_ruleMany 16 = .ok (.goto 5, 3) := by decide +kernel
theorem dX9_ruleMany_19 : decode cX9_ruleMany 19 = .ok (.bipush 17, 2) := by decide +kernel
theorem dX9_ruleMany_21 : decode cX9_ruleMany 21 = .ok (.ireturn, 1) := by decide +kernel
abbrev MX9_ruledAt : ZM := (yX9_ruledAt, cX9_ruledAt, 3, (Option.some FieldType.int), 0, 0)
theorem dX9_ruledAt_0 : decode cX9_ruledAt 0 = .ok (.aload_n 0, 1) := by decide +kernel
theorem dX9_ruledAt_1 : decode cX9_ruledAt 1 = .ok (.getfield 52, 3) := by decide +kernel
theorem dX9_ruledAt_4 : decode cX9_ruledAt 4 = .ok (.iload_n 1, 1) := by decide +kernel
theorem dX9_ruledAt_5 : decode cX9_ruledAt 5 = .ok (.ifCond .ne 7, 3) := by decide +kernel
theorem dX9_ruledAt_8 : decode cX9_ruledAt 8 = .ok (.iconst 0, 1) := by decide +kernel
theorem dX9_ruledAt_9 : decode cX9_ruledAt 9 = .ok (.goto 15, 3) := by decide +kernel
theorem dX9_ruledAt_12 : decode cX9_ruledAt 12 = .ok (.iload_n 1, 1) := by decide +kernel
theorem dX9_ruledAt_13 : decode cX9_ruledAt 13 = .ok (.iconst 1, 1) := by decide +kernel
theorem dX9_ruledAt_14 : decode cX9_ruledAt 14 = .ok (.if_icmp .ne 8, 3) := by decide +kernel
theorem dX9_ruledAt_17 : decode cX9_ruledAt 17 = .ok (.bipush 9, 2) := by decide +kernel
theorem dX9_ruledAt_19 : decode cX9_ruledAt 19 = .ok (.goto 5, 3) := by decide +kernel
theorem dX9_ruledAt_22 : decode cX9_ruledAt 22 = .ok (.bipush 16, 2) := by decide +kernel
theorem dX9_ruledAt_24 : decode cX9_ruledAt 24 = .ok (.iload_n 2, 1) := by decide +kernel
theorem dX9_ruledAt_25 : decode cX9_ruledAt 25 = .ok (.iadd, 1) := by decide +kernel
theorem dX9_ruledAt_26 : decode cX9_ruledAt 26 = .ok (.iaload, 1) := by decide +kernel
theorem dX9_ruledAt_27 : decode cX9_ruledAt 27 = .ok (.ireturn, 1) := by decide +kernel
abbrev MX9_isRule : ZM := (yX9_isRule, cX9_isRule, 1, (Option.some FieldType.boolean), 0, 0)
theorem dX9_isRule_0 : decode cX9_isRule 0 = .ok (.iload_n 0, 1) := by decide +kernel
theorem dX9_isRule_1 : decode cX9_isRule 1 = .ok (.ifCond .lt 12, 3) := by decide +kernel
theorem dX9_isRule_4 : decode cX9_isRule 4 = .ok (.iload_n 0, 1) := by decide +kernel
theorem dX9_isRule_5 : decode cX9_isRule 5 = .ok (.iconst 3, 1) := by decide +kernel
theorem dX9_isRule_6 : decode cX9_isRule 6 = .ok (.if_icmp .ge 7, 3) := by decide +kernel
theorem dX9_isRule_9 : decode cX9_isRule 9 = .ok (.iconst 1, 1) := by decide +kernel
theorem dX9_isRule_10 : decode cX9_isRule 10 = .ok (.goto 4, 3) := by decide +kernel
theorem dX9_isRule_13 : decode cX9_isRule 13 = .ok (.iconst 0, 1) := by decide +kernel
theorem dX9_isRule_14 : decode cX9_isRule 14 = .ok (.ireturn, 1) := by decide +kernel
abbrev MX9_rule : ZM := (yX9_rule, cX9_rule, 3, (Option.some FieldType.int), 1, 25)
theorem dX9_rule_0 : decode cX9_rule 0 = .ok (.iload_n 1, 1) := by decide +kernel
theorem dX9_rule_1 : decode cX9_rule 1 = .ok (.invokestatic 216, 3) := by decide +kernel
theorem dX9_rule_4 : decode cX9_rule 4 = .ok (.ifCond .ne 5, 3) := by decide +kernel
theorem dX9_rule_7 : decode cX9_rule 7 = .ok (.iconst (-1), 1) := by decide +kernel
theorem dX9_rule_8 : decode cX9_rule 8 = .ok (.ireturn, 1) := by decide +kernel
theorem dX9_rule_9 : decode cX9_rule 9 = .ok (.iload_n 2, 1) := by decide +kernel
theorem dX9_rule_10 : decode cX9_rule 10 = .ok (.i2l, 1) := by decide +kernel
theorem dX9_rule_11 : decode cX9_rule 11 = .ok (.lconst 0, 1) := by decide +kernel
theorem dX9_rule_12 : decode cX9_rule 12 = .ok (.iload_n 1, 1) := by decide +kernel
theorem dX9_rule_13 : decode cX9_rule 13 = .ok (.invokestatic 219, 3) := by decide +kernel
theorem dX9_rule_16 : decode cX9_rule 16 = .ok (.iconst 1, 1) := by decide +kernel
theorem dX9_rule_17 : decode cX9_rule 17 = .ok (.isub, 1) := by decide +kernel
theorem dX9_rule_18 : decode cX9_rule 18 = .ok (.i2l, 1) := by decide +kernel
theorem dX9_rule_19 : decode cX9_rule 19 = .ok (.invokestatic 134, 3) := by decide +kernel
theorem dX9_rule_22 : decode cX9_rule 22 = .ok (.ifCond .eq 12, 3) := by decide +kernel
theorem dX9_rule_25 : decode cX9_rule 25 = .ok (.aload_n 0, 1) := by decide +kernel
theorem dX9_rule_26 : decode cX9_rule 26 = .ok (.iload_n 1, 1) := by decide +kernel
theorem dX9_rule_27 : decode cX9_rule 27 = .ok (.iload_n 2, 1) := by decide +kernel
theorem dX9_rule_28 : decode cX9_rule 28 = .ok (.invokevirtual 222, 3) := by decide +kernel
theorem dX9_rule_31 : decode cX9_rule 31 = .ok (.goto 5, 3) := by decide +kernel
theorem dX9_rule_34 : decode cX9_rule 34 = .ok (.bipush (-2), 2) := by decide +kernel
theorem dX9_rule_36 : decode cX9_rule 36 = .ok (.ireturn, 1) := by decide +kernel
abbrev MX9_lackMany : ZM := (yX9_lackMany, cX9_lackMany, 4, (Option.some FieldType.int), 1, 22)
theorem dX9_lackMany_0 : decode cX9_lackMany 0 = .ok (.iconst 0, 1) := by decide +kernel
theorem dX9_lackMany_1 : decode cX9_lackMany 1 = .ok (.istore_n 2, 1) := by decide +kernel
theorem dX9_lackMany_2 : decode cX9_lackMany 2 = .ok (.iconst 0, 1) := by decide +kernel
theorem dX9_lackMany_3 : decode cX9_lackMany 3 = .ok (.istore_n 3, 1) := by decide +kernel
theorem dX9_lackMany_4 : decode cX9_lackMany 4 = .ok (.iload_n 3, 1) := by decide +kernel
theorem dX9_lackMany_5 : decode cX9_lackMany 5 = .ok (.iload_n 1, 1) := by decide +kernel
theorem dX9_lackMany_6 : decode cX9_lackMany 6 = .ok (.invokestatic 219, 3) := by decide +kernel
theorem dX9_lackMany_9 : decode cX9_lackMany 9 = .ok (.if_icmp .ge 31, 3) := by decide +kernel
theorem dX9_lackMany_12 : decode cX9_lackMany 12 = .ok (.iload_n 2, 1) := by decide +kernel
theorem dX9_lackMany_13 : decode cX9_lackMany 13 = .ok (.aload_n 0, 1) := by decide +kernel
theorem dX9_lackMany_14 : decode cX9_lackMany 14 = .ok (.getfield 40, 3) := by decide +kernel
theorem dX9_lackMany_17 : decode cX9_lackMany 17 = .ok (.aload_n 0, 1) := by decide +kernel
theorem dX9_lackMany_18 : decode cX9_lackMany 18 = .ok (.iload_n 1, 1) := by decide +kernel
theorem dX9_lackMany_19 : decode cX9_lackMany 19 = .ok (.iload_n 3, 1) := by decide +kernel
theorem dX9_lackMany_20 : decode cX9_lackMany 20 = .ok (.invokevirtual 222, 3) := by decide +kernel
theorem dX9_lackMany_23 : decode cX9_lackMany 23 = .ok (.iaload, 1) := by decide +kernel
theorem dX9_lackMany_24 : decode cX9_lackMany 24 = .ok (.ifCond .ne 7, 3) := by decide +kernel
theorem dX9_lackMany_27 : decode cX9_lackMany 27 = .ok (.iconst 1, 1) := by decide +kernel
theorem dX9_lackMany_28 : decode cX9_lackMany 28 = .ok (.goto 4, 3) := by decide +kernel
theorem dX9_lackMany_31 : decode cX9_lackMany 31 = .ok (.iconst 0, 1) := by decide +kernel
theorem dX9_lackMany_32 : decode cX9_lackMany 32 = .ok (.iadd, 1) := by decide +kernel
theorem dX9_lackMany_33 : decode cX9_lackMany 33 = .ok (.istore_n 2, 1) := by decide +kernel
theorem dX9_lackMany_34 : decode cX9_lackMany 34 = .ok (.iinc 3 1, 3) := by decide +kernel
theorem dX9_lackMany_37 : decode cX9_lackMany 37 = .ok (.goto (-33), 3) := by decide +kernel
theorem dX9_lackMany_40 : decode cX9_lackMany 40 = .ok (.iload_n 2, 1) := by decide +kernel
theorem dX9_lackMany_41 : decode cX9_lackMany 41 = .ok (.ireturn, 1) := by decide +kernel
abbrev MX9_claim : ZM := (yX9_claim, cX9_claim, 3, (Option.some FieldType.int), 4, 103)
theorem dX9_claim_0 : decode cX9_claim 0 = .ok (.aload_n 0, 1) := by decide +kernel
theorem dX9_claim_1 : decode cX9_claim 1 = .ok (.iload_n 1, 1) := by decide +kernel
theorem dX9_claim_2 : decode cX9_claim 2 = .ok (.invokevirtual 156, 3) := by decide +kernel
theorem dX9_claim_5 : decode cX9_claim 5 = .ok (.ifCond .eq 10, 3) := by decide +kernel
theorem dX9_claim_8 : decode cX9_claim 8 = .ok (.iload_n 2, 1) := by decide +kernel
theorem dX9_claim_9 : decode cX9_claim 9 = .ok (.invokestatic 216, 3) := by decide +kernel
theorem dX9_claim_12 : decode cX9_claim 12 = .ok (.ifCond .ne 5, 3) := by decide +kernel
theorem dX9_claim_15 : decode cX9_claim 15 = .ok (.iconst (-1), 1) := by decide +kernel
theorem dX9_claim_16 : decode cX9_claim 16 = .ok (.ireturn, 1) := by decide +kernel
theorem dX9_claim_17 : decode cX9_claim 17 = .ok (.aload_n 0, 1) := by decide +kernel
theorem dX9_claim_18 : decode cX9_claim 18 = .ok (.iload_n 1, 1) := by decide +kernel
theorem dX9_claim_19 : decode cX9_claim 19 = .ok (.invokevirtual 198, 3) := by decide +kernel
theorem dX9_claim_22 : decode cX9_claim 22 = .ok (.aload_n 0, 1) := by decide +kernel
theorem dX9_claim_23 : decode cX9_claim 23 = .ok (.iload_n 2, 1) := by decide +kernel
theorem dX9_claim_24 : decode cX9_claim 24 = .ok (.invokevirtual 225, 3) := by decide +kernel
theorem dX9_claim_27 : decode cX9_claim 27 = .ok (.ifCond .ne 7, 3) := by decide +kernel
theorem dX9_claim_30 : decode cX9_claim 30 = .ok (.iconst 1, 1) := by decide +kernel
theorem dX9_claim_31 : decode cX9_claim 31 = .ok (.goto 4, 3) := by decide +kernel
theorem dX9_claim_34 : decode cX9_claim 34 = .ok (.iconst 0, 1) := by decide +kernel
theorem dX9_claim_35 : decode cX9_claim 35 = .ok (.ireturn, 1) := by decide +kernel
abbrev MX9_lacks : ZM := (yX9_lacks, cX9_lacks, 7, (Option.some FieldType.int), 4, 103)
theorem dX9_lacks_0 : decode cX9_lacks 0 = .ok (.aload_n 0, 1) := by decide +kernel
theorem dX9_lacks_1 : decode cX9_lacks 1 = .ok (.iload_n 1, 1) := by decide +kernel
theorem dX9_lacks_2 : decode cX9_lacks 2 = .ok (.invokevirtual 156, 3) := by decide +kernel
theorem dX9_lacks_5 : decode cX9_lacks 5 = .ok (.ifCond .eq 10, 3) := by decide +kernel
theorem dX9_lacks_8 : decode cX9_lacks 8 = .ok (.iload_n 2, 1) := by decide +kernel
theorem dX9_lacks_9 : decode cX9_lacks 9 = .ok (.invokestatic 216, 3) := by decide +kernel
theorem dX9_lacks_12 : decode cX9_lacks 12 = .ok (.ifCond .ne 5, 3) := by decide +kernel
theorem dX9_lacks_15 : decode cX9_lacks 15 = .ok (.iconst (-1), 1) := by decide +kernel
theorem dX9_lacks_16 : decode cX9_lacks 16 = .ok (.ireturn, 1) := by decide +kernel
theorem dX9_lacks_17 : decode cX9_lacks 17 = .ok (.aload_n 0, 1) := by decide +kernel
theorem dX9_lacks_18 : decode cX9_lacks 18 = .ok (.iload_n 1, 1) := by decide +kernel
theorem dX9_lacks_19 : decode cX9_lacks 19 = .ok (.invokevirtual 198, 3) := by decide +kernel
theorem dX9_lacks_22 : decode cX9_lacks 22 = .ok (.iconst (-1), 1) := by decide +kernel
theorem dX9_lacks_23 : decode cX9_lacks 23 = .ok (.istore 4, 2) := by decide +kernel
theorem dX9_lacks_25 : decode cX9_lacks 25 = .ok (.iconst 0, 1) := by decide +kernel
theorem dX9_lacks_26 : decode cX9_lacks 26 = .ok (.istore 5, 2) := by decide +kernel
theorem dX9_lacks_28 : decode cX9_lacks 28 = .ok (.iload 5, 2) := by decide +kernel
theorem dX9_lacks_30 : decode cX9_lacks 30 = .ok (.iload_n 2, 1) := by decide +kernel
theorem dX9_lacks_31 : decode cX9_lacks 31 = .ok (.invokestatic 219, 3) := by decide +kernel
theorem dX9_lacks_34 : decode cX9_lacks 34 = .ok (.if_icmp .ge 57, 3) := by decide +kernel
theorem dX9_lacks_37 : decode cX9_lacks 37 = .ok (.aload_n 0, 1) := by decide +kernel
theorem dX9_lacks_38 : decode cX9_lacks 38 = .ok (.iload_n 2, 1) := by decide +kernel
theorem dX9_lacks_39 : decode cX9_lacks 39 = .ok (.iload 5, 2) := by decide +kernel
theorem dX9_lacks_41 : decode cX9_lacks 41 = .ok (.invokevirtual 222, 3) := by decide +kernel
theorem dX9_lacks_44 : decode cX9_lacks 44 = .ok (.istore 6, 2) := by decide +kernel
theorem dX9_lacks_46 : decode cX9_lacks 46 = .ok (.iload 4, 2) := by decide +kernel
theorem dX9_lacks_48 : decode cX9_lacks 48 = .ok (.aload_n 0, 1) := by decide +kernel
theorem dX9_lacks_49 : decode cX9_lacks 49 = .ok (.getfield 40, 3) := by decide +kernel
theorem dX9_lacks_52 : decode cX9_lacks 52 = .ok (.iload 6, 2) := by decide +kernel
theorem dX9_lacks_54 : decode cX9_lacks 54 = .ok (.iaload, 1) := by decide +kernel
theorem dX9_lacks_55 : decode cX9_lacks 55 = .ok (.ifCond .ne 7, 3) := by decide +kernel
theorem dX9_lacks_58 : decode cX9_lacks 58 = .ok (.iconst 1, 1) := by decide +kernel
theorem dX9_lacks_59 : decode cX9_lacks 59 = .ok (.goto 4, 3) := by decide +kernel
theorem dX9_lacks_62 : decode cX9_lacks 62 = .ok (.iconst 0, 1) := by decide +kernel
theorem dX9_lacks_63 : decode cX9_lacks 63 = .ok (.iadd, 1) := by decide +kernel
theorem dX9_lacks_64 : decode cX9_lacks 64 = .ok (.istore 4, 2) := by decide +kernel
theorem dX9_lacks_66 : decode cX9_lacks 66 = .ok (.aload_n 0, 1) := by decide +kernel
theorem dX9_lacks_67 : decode cX9_lacks 67 = .ok (.getfield 40, 3) := by decide +kernel
theorem dX9_lacks_70 : decode cX9_lacks 70 = .ok (.iload 6, 2) := by decide +kernel
theorem dX9_lacks_72 : decode cX9_lacks 72 = .ok (.iaload, 1) := by decide +kernel
theorem dX9_lacks_73 : decode cX9_lacks 73 = .ok (.ifCond .ne 12, 3) := by decide +kernel
theorem dX9_lacks_76 : decode cX9_lacks 76 = .ok (.iload 4, 2) := by decide +kernel
theorem dX9_lacks_78 : decode cX9_lacks 78 = .ok (.iload_n 3, 1) := by decide +kernel
theorem dX9_lacks_79 : decode cX9_lacks 79 = .ok (.if_icmp .ne 6, 3) := by decide +kernel
theorem dX9_lacks_82 : decode cX9_lacks 82 = .ok (.iload 6, 2) := by decide +kernel
theorem dX9_lacks_84 : decode cX9_lacks 84 = .ok (.ireturn, 1) := by decide +kernel
theorem dX9_lacks_85 : decode cX9_lacks 85 = .ok (.iinc 5 1, 3) := by decide +kernel
theorem dX9_lacks_88 : decode cX9_lacks 88 = .ok (.goto (-60), 3) := by decide +kernel
theorem dX9_lacks_91 : decode cX9_lacks 91 = .ok (.bipush (-2), 2) := by decide +kernel
theorem dX9_lacks_93 : decode cX9_lacks 93 = .ok (.ireturn, 1) := by decide +kernel
abbrev MX9_certify : ZM := (yX9_certify, cX9_certify, 10, (Option.some FieldType.int), 4, 103)
theorem dX9_certify_0 : decode cX9_certify 0 = .ok (.aload_n 0, 1) := by decide +kernel
theorem dX9_certify_1 : decode cX9_certify 1 = .ok (.iload_n 1, 1) := by decide +kernel
theorem dX9_certify_2 : decode cX9_certify 2 = .ok (.invokevirtual 156, 3) := by decide +kernel
theorem dX9_certify_5 : decode cX9_certify 5 = .ok (.ifCond .eq 17, 3) := by decide +kernel
theorem dX9_certify_8 : decode cX9_certify 8 = .ok (.iload_n 2, 1) := by decide +kernel
theorem dX9_certify_9 : decode cX9_certify 9 = .ok (.invokestatic 216, 3) := by decide +kernel
theorem dX9_certify_12 : decode cX9_certify 12 = .ok (.ifCond .eq 10, 3) := by decide +kernel
theorem dX9_certify_15 : decode cX9_certify 15 = .ok (.iload_n 3, 1) := by decide +kernel
theorem dX9_certify_16 : decode cX9_certify 16 = .ok (.invokestatic 146, 3) := by decide +kernel
theorem dX9_certify_19 : decode cX9_certify 19 = .ok (.ifCond .ne 5, 3) := by decide +kernel
theorem dX9_certify_22 : decode cX9_certify 22 = .ok (.iconst (-1), 1) := by decide +kernel
theorem dX9_certify_23 : decode cX9_certify 23 = .ok (.ireturn, 1) := by decide +kernel
theorem dX9_certify_24 : decode cX9_certify 24 = .ok (.aload_n 0, 1) := by decide +kernel
theorem dX9_certify_25 : decode cX9_certify 25 = .ok (.iload_n 1, 1) := by decide +kernel
theorem dX9_certify_26 : decode cX9_certify 26 = .ok (.invokevirtual 198, 3) := by decide +kernel
theorem dX9_certify_29 : decode cX9_certify 29 = .ok (.aload_n 0, 1) := by decide +kernel
theorem dX9_certify_30 : decode cX9_certify 30 = .ok (.iload_n 2, 1) := by decide +kernel
theorem dX9_certify_31 : decode cX9_certify 31 = .ok (.invokevirtual 225, 3) := by decide +kernel
theorem dX9_certify_34 : decode cX9_certify 34 = .ok (.ifCond .le 6, 3) := by decide +kernel
theorem dX9_certify_37 : decode cX9_certify 37 = .ok (.bipush (-3), 2) := by decide +kernel
theorem dX9_certify_39 : decode cX9_certify 39 = .ok (.ireturn, 1) := by decide +kernel
theorem dX9_certify_40 : decode cX9_certify 40 = .ok (.aload_n 0, 1) := by decide +kernel
theorem dX9_certify_41 : decode cX9_certify 41 = .ok (.getfield 73, 3) := by decide +kernel
theorem dX9_certify_44 : decode cX9_certify 44 = .ok (.iload_n 3, 1) := by decide +kernel
theorem dX9_certify_45 : decode cX9_certify 45 = .ok (.iaload, 1) := by decide +kernel
theorem dX9_certify_46 : decode cX9_certify 46 = .ok (.ifCond .ge 6, 3) := by decide +kernel
theorem dX9_certify_49 : decode cX9_certify 49 = .ok (.bipush (-11), 2) := by decide +kernel
theorem dX9_certify_51 : decode cX9_certify 51 = .ok (.ireturn, 1) := by decide +kernel
theorem dX9_certify_52 : decode cX9_certify 52 = .ok (.iload 4, 2) := by decide +kernel
theorem dX9_certify_54 : decode cX9_certify 54 = .ok (.i2l, 1) := by decide +kernel
theorem dX9_certify_55 : decode cX9_certify 55 = .ok (.lconst 0, 1) := by decide +kernel
theorem dX9_certify_56 : decode cX9_certify 56 = .ok (.aload_n 0, 1) := by decide +kernel
theorem dX9_certify_57 : decode cX9_certify 57 = .ok (.getfield 76, 3) := by decide +kernel
theorem dX9_certify_60 : decode cX9_certify 60 = .ok (.iload_n 3, 1) := by decide +kernel
theorem dX9_certify_61 : decode cX9_certify 61 = .ok (.iaload, 1) := by decide +kernel
theorem dX9_certify_62 : decode cX9_certify 62 = .ok (.i2l, 1) := by decide +kernel
theorem dX9_certify_63 : decode cX9_certify 63 = .ok (.invokestatic 134, 3) := by decide +kernel
theorem dX9_certify_66 : decode cX9_certify 66 = .ok (.ifCond .ne 6, 3) := by decide +kernel
theorem dX9_certify_69 : decode cX9_certify 69 = .ok (.bipush (-12), 2) := by decide +kernel
theorem dX9_certify_71 : decode cX9_certify 71 = .ok (.ireturn, 1) := by decide +kernel
theorem dX9_certify_72 : decode cX9_certify 72 = .ok (.aload_n 0, 1) := by decide +kernel
theorem dX9_certify_73 : decode cX9_certify 73 = .ok (.getfield 15, 3) := by decide +kernel
theorem dX9_certify_76 : decode cX9_certify 76 = .ok (.iload_n 1, 1) := by decide +kernel
theorem dX9_certify_77 : decode cX9_certify 77 = .ok (.iaload, 1) := by decide +kernel
theorem dX9_certify_78 : decode cX9_certify 78 = .ok (.iconst 1, 1) := by decide +kernel
theorem dX9_certify_79 : decode cX9_certify 79 = .ok (.iadd, 1) := by decide +kernel
theorem dX9_certify_80 : decode cX9_certify 80 = .ok (.istore 5, 2) := by decide +kernel
theorem dX9_certify_82 : decode cX9_certify 82 = .ok (.iconst 0, 1) := by decide +kernel
theorem dX9_certify_83 : decode cX9_certify 83 = .ok (.istore 6, 2) := by decide +kernel
theorem dX9_certify_85 : decode cX9_certify 85 = .ok (.iload 6, 2) := by decide +kernel
theorem dX9_certify_87 : decode cX9_certify 87 = .ok (.iload_n 2, 1) := by decide +kernel
theorem dX9_certify_88 : decode cX9_certify 88 = .ok (.invokestatic 219, 3) := by decide +kernel
theorem dX9_certify_91 : decode cX9_certify 91 = .ok (.if_icmp .ge 115, 3) := by decide +kernel
theorem dX9_certify_94 : decode cX9_certify 94 = .ok (.iload 4, 2) := by decide +kernel
theorem dX9_certify_96 : decode cX9_certify 96 = .ok (.iload 6, 2) := by decide +kernel
theorem dX9_certify_98 : decode cX9_certify 98 = .ok (.iconst 1, 1) := by decide +kernel
theorem dX9_certify_99 : decode cX9_certify 99 = .ok (.iadd, 1) := by decide +kernel
theorem dX9_certify_100 : decode cX9_certify 100 = .ok (.iload 5, 2) := by decide +kernel
theorem dX9_certify_102 : decode cX9_certify 102 = .ok (.imul, 1) := by decide +kernel
theorem dX9_certify_103 : decode cX9_certify 103 = .ok (.iadd, 1) := by decide +kernel
theorem dX9_certify_104 : decode cX9_certify 104 = .ok (.aload_n 0, 1) := by decide +kernel
theorem dX9_certify_105 : decode cX9_certify 105 = .ok (.getfield 76, 3) := by decide +kernel
theorem dX9_certify_108 : decode cX9_certify 108 = .ok (.iload_n 3, 1) := by decide +kernel
theorem dX9_certify_109 : decode cX9_certify 109 = .ok (.iaload, 1) := by decide +kernel
theorem dX9_certify_110 : decode cX9_certify 110 = .ok (.if_icmp .gt 96, 3) := by decide +kernel
theorem dX9_certify_113 : decode cX9_certify 113 = .ok (.bipush 40, 2) := by decide +kernel
theorem dX9_certify_115 : decode cX9_certify 115 = .ok (.iload_n 3, 1) := by decide +kernel
theorem dX9_certify_116 : decode cX9_certify 116 = .ok (.imul, 1) := by decide +kernel
theorem dX9_certify_117 : decode cX9_certify 117 = .ok (.iload 4, 2) := by decide +kernel
theorem dX9_certify_119 : decode cX9_certify 119 = .ok (.iadd, 1) := by decide +kernel
theorem dX9_certify_120 : decode cX9_certify 120 = .ok (.iload 6, 2) := by decide +kernel
theorem dX9_certify_122 : decode cX9_certify 122 = .ok (.iload 5, 2) := by decide +kernel
theorem dX9_certify_124 : decode cX9_certify 124 = .ok (.imul, 1) := by decide +kernel
theorem dX9_certify_125 : decode cX9_certify 125 = .ok (.iadd, 1) := by decide +kernel
theorem dX9_certify_126 : decode cX9_certify 126 = .ok (.istore 7, 2) := by decide +kernel
theorem dX9_certify_128 : decode cX9_certify 128 = .ok (.aload_n 0, 1) := by decide +kernel
theorem dX9_certify_129 : decode cX9_certify 129 = .ok (.iload_n 2, 1) := by decide +kernel
theorem dX9_certify_130 : decode cX9_certify 130 = .ok (.iload 6, 2) := by decide +kernel
theorem dX9_certify_132 : decode cX9_certify 132 = .ok (.invokevirtual 222, 3) := by decide +kernel
theorem dX9_certify_135 : decode cX9_certify 135 = .ok (.istore 8, 2) := by decide +kernel
theorem dX9_certify_137 : decode cX9_certify 137 = .ok (.aload_n 0, 1) := by decide +kernel
theorem dX9_certify_138 : decode cX9_certify 138 = .ok (.getfield 79, 3) := by decide +kernel
theorem dX9_certify_141 : decode cX9_certify 141 = .ok (.iload 7, 2) := by decide +kernel
theorem dX9_certify_143 : decode cX9_certify 143 = .ok (.aload_n 0, 1) := by decide +kernel
theorem dX9_certify_144 : decode cX9_certify 144 = .ok (.iload_n 3, 1) := by decide +kernel
theorem dX9_certify_145 : decode cX9_certify 145 = .ok (.iload 8, 2) := by decide +kernel
theorem dX9_certify_147 : decode cX9_certify 147 = .ok (.invokevirtual 228, 3) := by decide +kernel
theorem dX9_certify_150 : decode cX9_certify 150 = .ok (.iastore, 1) := by decide +kernel
theorem dX9_certify_151 : decode cX9_certify 151 = .ok (.iconst 0, 1) := by decide +kernel
theorem dX9_certify_152 : decode cX9_certify 152 = .ok (.istore 9, 2) := by decide +kernel
theorem dX9_certify_154 : decode cX9_certify 154 = .ok (.iload 9, 2) := by decide +kernel
theorem dX9_certify_156 : decode cX9_certify 156 = .ok (.aload_n 0, 1) := by decide +kernel
theorem dX9_certify_157 : decode cX9_certify 157 = .ok (.getfield 15, 3) := by decide +kernel
theorem dX9_certify_160 : decode cX9_certify 160 = .ok (.iload_n 1, 1) := by decide +kernel
theorem dX9_certify_161 : decode cX9_certify 161 = .ok (.iaload, 1) := by decide +kernel
theorem dX9_certify_162 : decode cX9_certify 162 = .ok (.if_icmp .ge 38, 3) := by decide +kernel
theorem dX9_certify_165 : decode cX9_certify 165 = .ok (.aload_n 0, 1) := by decide +kernel
theorem dX9_certify_166 : decode cX9_certify 166 = .ok (.getfield 79, 3) := by decide +kernel
theorem dX9_certify_169 : decode cX9_certify 169 = .ok (.iload 7, 2) := by decide +kernel
theorem dX9_certify_171 : decode cX9_certify 171 = .ok (.iconst 1, 1) := by decide +kernel
theorem dX9_certify_172 : decode cX9_certify 172 = .ok (.iadd, 1) := by decide +kernel
theorem dX9_certify_173 : decode cX9_certify 173 = .ok (.iload 9, 2) := by decide +kernel
theorem dX9_certify_175 : decode cX9_certify 175 = .ok (.iadd, 1) := by decide +kernel
theorem dX9_certify_176 : decode cX9_certify 176 = .ok (.aload_n 0, 1) := by decide +kernel
theorem dX9_certify_177 : decode cX9_certify 177 = .ok (.iload_n 3, 1) := by decide +kernel
theorem dX9_certify_178 : decode cX9_certify 178 = .ok (.aload_n 0, 1) := by decide +kernel
theorem dX9_certify_179 : decode cX9_certify 179 = .ok (.getfield 46, 3) := by decide +kernel
theorem dX9_certify_182 : decode cX9_certify 182 = .ok (.iconst 4, 1) := by decide +kernel
theorem dX9_certify_183 : decode cX9_certify 183 = .ok (.iload 8, 2) := by decide +kernel
theorem dX9_certify_185 : decode cX9_certify 185 = .ok (.imul, 1) := by decide +kernel
theorem dX9_certify_186 : decode cX9_certify 186 = .ok (.iload 9, 2) := by decide +kernel
theorem dX9_certify_188 : decode cX9_certify 188 = .ok (.iadd, 1) := by decide +kernel
theorem dX9_certify_189 : decode cX9_certify 189 = .ok (.iaload, 1) := by decide +kernel
theorem dX9_certify_190 : decode cX9_certify 190 = .ok (.invokevirtual 228, 3) := by decide +kernel
theorem dX9_certify_193 : decode cX9_certify 193 = .ok (.iastore, 1) := by decide +kernel
theorem dX9_certify_194 : decode cX9_certify 194 = .ok (.iinc 9 1, 3) := by decide +kernel
theorem dX9_certify_197 : decode cX9_certify 197 = .ok (.goto (-43), 3) := by decide +kernel
theorem dX9_certify_200 : decode cX9_certify 200 = .ok (.iinc 6 1, 3) := by decide +kernel
theorem dX9_certify_203 : decode cX9_certify 203 = .ok (.goto (-118), 3) := by decide +kernel
theorem dX9_certify_206 : decode cX9_certify 206 = .ok (.iload 6, 2) := by decide +kernel
theorem dX9_certify_208 : decode cX9_certify 208 = .ok (.ireturn, 1) := by decide +kernel
abbrev MX9_beginChildren : ZM := (yX9_beginChildren, cX9_beginChildren, 6, (Option.some FieldType.int), 5, 126)
theorem dX9_beginChildren_0 : decode cX9_beginChildren 0 = .ok (.aload_n 0, 1) := by decide +kernel
theorem dX9_beginChildren_1 : decode cX9_beginChildren 1 = .ok (.aload_n 0, 1) := by decide +kernel
theorem dX9_beginChildren_2 : decode cX9_beginChildren 2 = .ok (.iload_n 1, 1) := by decide +kernel
theorem dX9_beginChildren_3 : decode cX9_beginChildren 3 = .ok (.invokevirtual 201, 3) := by decide +kernel
theorem dX9_beginChildren_6 : decode cX9_beginChildren 6 = .ok (.putfield 231, 3) := by decide +kernel
theorem dX9_beginChildren_9 : decode cX9_beginChildren 9 = .ok (.aload_n 0, 1) := by decide +kernel
theorem dX9_beginChildren_10 : decode cX9_beginChildren 10 = .ok (.getfield 231, 3) := by decide +kernel
theorem dX9_beginChildren_13 : decode cX9_beginChildren 13 = .ok (.ifCond .ne 6, 3) := by decide +kernel
theorem dX9_beginChildren_16 : decode cX9_beginChildren 16 = .ok (.bipush (-3), 2) := by decide +kernel
theorem dX9_beginChildren_18 : decode cX9_beginChildren 18 = .ok (.ireturn, 1) := by decide +kernel
theorem dX9_beginChildren_19 : decode cX9_beginChildren 19 = .ok (.aload_n 0, 1) := by decide +kernel
theorem dX9_beginChildren_20 : decode cX9_beginChildren 20 = .ok (.getfield 15, 3) := by decide +kernel
theorem dX9_beginChildren_23 : decode cX9_beginChildren 23 = .ok (.iload_n 1, 1) := by decide +kernel
theorem dX9_beginChildren_24 : decode cX9_beginChildren 24 = .ok (.iaload, 1) := by decide +kernel
theorem dX9_beginChildren_25 : decode cX9_beginChildren 25 = .ok (.istore_n 2, 1) := by decide +kernel
theorem dX9_beginChildren_26 : decode cX9_beginChildren 26 = .ok (.iload_n 2, 1) := by decide +kernel
theorem dX9_beginChildren_27 : decode cX9_beginChildren 27 = .ok (.iconst 4, 1) := by decide +kernel
theorem dX9_beginChildren_28 : decode cX9_beginChildren 28 = .ok (.if_icmp .ne 6, 3) := by decide +kernel
theorem dX9_beginChildren_31 : decode cX9_beginChildren 31 = .ok (.bipush (-4), 2) := by decide +kernel
theorem dX9_beginChildren_33 : decode cX9_beginChildren 33 = .ok (.ireturn, 1) := by decide +kernel
theorem dX9_beginChildren_34 : decode cX9_beginChildren 34 = .ok (.aload_n 0, 1) := by decide +kernel
theorem dX9_beginChildren_35 : decode cX9_beginChildren 35 = .ok (.iload_n 1, 1) := by decide +kernel
theorem dX9_beginChildren_36 : decode cX9_beginChildren 36 = .ok (.putfield 234, 3) := by decide +kernel
theorem dX9_beginChildren_39 : decode cX9_beginChildren 39 = .ok (.aload_n 0, 1) := by decide +kernel
theorem dX9_beginChildren_40 : decode cX9_beginChildren 40 = .ok (.iconst 1, 1) := by decide +kernel
theorem dX9_beginChildren_41 : decode cX9_beginChildren 41 = .ok (.putfield 237, 3) := by decide +kernel
theorem dX9_beginChildren_44 : decode cX9_beginChildren 44 = .ok (.iconst 0, 1) := by decide +kernel
theorem dX9_beginChildren_45 : decode cX9_beginChildren 45 = .ok (.istore_n 3, 1) := by decide +kernel
theorem dX9_beginChildren_46 : decode cX9_beginChildren 46 = .ok (.iload_n 3, 1) := by decide +kernel
theorem dX9_beginChildren_47 : decode cX9_beginChildren 47 = .ok (.iconst 3, 1) := by decide +kernel
theorem dX9_beginChildren_48 : decode cX9_beginChildren 48 = .ok (.if_icmp .ge 72, 3) := by decide +kernel
theorem dX9_beginChildren_51 : decode cX9_beginChildren 51 = .ok (.iload_n 3, 1) := by decide +kernel
theorem dX9_beginChildren_52 : decode cX9_beginChildren 52 = .ok (.iload_n 2, 1) := by decide +kernel
theorem dX9_beginChildren_53 : decode cX9_beginChildren 53 = .ok (.if_icmp .ge 23, 3) := by decide +kernel
theorem dX9_beginChildren_56 : decode cX9_beginChildren 56 = .ok (.aload_n 0, 1) := by decide +kernel
theorem dX9_beginChildren_57 : decode cX9_beginChildren 57 = .ok (.iload_n 1, 1) := by decide +kernel
theorem dX9_beginChildren_58 : decode cX9_beginChildren 58 = .ok (.iload_n 3, 1) := by decide +kernel
theorem dX9_beginChildren_59 : decode cX9_beginChildren 59 = .ok (.iload_n 3, 1) := by decide +kernel
theorem dX9_beginChildren_60 : decode cX9_beginChildren 60 = .ok (.invokevirtual 90, 3) := by decide +kernel
theorem dX9_beginChildren_63 : decode cX9_beginChildren 63 = .ok (.i2l, 1) := by decide +kernel
theorem dX9_beginChildren_64 : decode cX9_beginChildren 64 = .ok (.aload_n 0, 1) := by decide +kernel
theorem dX9_beginChildren_65 : decode cX9_beginChildren 65 = .ok (.getfield 231, 3) := by decide +kernel
theorem dX9_beginChildren_68 : decode cX9_beginChildren 68 = .ok (.i2l, 1) := by decide +kernel
theorem dX9_beginChildren_69 : decode cX9_beginChildren 69 = .ok (.lmul, 1) := by decide +kernel
theorem dX9_beginChildren_70 : decode cX9_beginChildren 70 = .ok (.invokestatic 117, 3) := by decide +kernel
theorem dX9_beginChildren_73 : decode cX9_beginChildren 73 = .ok (.goto 4, 3) := by decide +kernel
theorem dX9_beginChildren_76 : decode cX9_beginChildren 76 = .ok (.lconst 0, 1) := by decide +kernel
theorem dX9_beginChildren_77 : decode cX9_beginChildren 77 = .ok (.lstore 4, 2) := by decide +kernel
theorem dX9_beginChildren_79 : decode cX9_beginChildren 79 = .ok (.aload_n 0, 1) := by decide +kernel
theorem dX9_beginChildren_80 : decode cX9_beginChildren 80 = .ok (.getfield 55, 3) := by decide +kernel
theorem dX9_beginChildren_83 : decode cX9_beginChildren 83 = .ok (.iload_n 3, 1) := by decide +kernel
theorem dX9_beginChildren_84 : decode cX9_beginChildren 84 = .ok (.lload 4, 2) := by decide +kernel
theorem dX9_beginChildren_86 : decode cX9_beginChildren 86 = .ok (.ldc2_w 132, 3) := by decide +kernel
theorem dX9_beginChildren_89 : decode cX9_beginChildren 89 = .ok (.lcmp, 1) := by decide +kernel
theorem dX9_beginChildren_90 : decode cX9_beginChildren 90 = .ok (.ifCond .le 8, 3) := by decide +kernel
theorem dX9_beginChildren_93 : decode cX9_beginChildren 93 = .ok (.bipush 99, 2) := by decide +kernel
theorem dX9_beginChildren_95 : decode cX9_beginChildren 95 = .ok (.goto 6, 3) := by decide +kernel
theorem dX9_beginChildren_98 : decode cX9_beginChildren 98 = .ok (.lload 4, 2) := by decide +kernel
theorem dX9_beginChildren_100 : decode cX9_beginChildren 100 = .ok (.l2i, 1) := by decide +kernel
theorem dX9_beginChildren_101 : decode cX9_beginChildren 101 = .ok (.iastore, 1) := by decide +kernel
theorem dX9_beginChildren_102 : decode cX9_beginChildren 102 = .ok (.aload_n 0, 1) := by decide +kernel
theorem dX9_beginChildren_103 : decode cX9_beginChildren 103 = .ok (.getfield 58, 3) := by decide +kernel
theorem dX9_beginChildren_106 : decode cX9_beginChildren 106 = .ok (.iload_n 3, 1) := by decide +kernel
theorem dX9_beginChildren_107 : decode cX9_beginChildren 107 = .ok (.aload_n 0, 1) := by decide +kernel
theorem dX9_beginChildren_108 : decode cX9_beginChildren 108 = .ok (.getfield 55, 3) := by decide +kernel
theorem dX9_beginChildren_111 : decode cX9_beginChildren 111 = .ok (.iload_n 3, 1) := by decide +kernel
theorem dX9_beginChildren_112 : decode cX9_beginChildren 112 = .ok (.iaload, 1) := by decide +kernel
theorem dX9_beginChildren_113 : decode cX9_beginChildren 113 = .ok (.iastore, 1) := by decide +kernel
theorem dX9_beginChildren_114 : decode cX9_beginChildren 114 = .ok (.iinc 3 1, 3) := by decide +kernel
theorem dX9_beginChildren_117 : decode cX9_beginChildren 117 = .ok (.goto (-71), 3) := by decide +kernel
theorem dX9_beginChildren_120 : decode cX9_beginChildren 120 = .ok (.iconst 0, 1) := by decide +kernel
theorem dX9_beginChildren_121 : decode cX9_beginChildren 121 = .ok (.ireturn, 1) := by decide +kernel
abbrev MX9_nextRow : ZM := (yX9_nextRow, cX9_nextRow, 2, (Option.some FieldType.boolean), 0, 0)
theorem dX9_nextRow_0 : decode cX9_nextRow 0 = .ok (.aload_n 0, 1) := by decide +kernel
theorem dX9_nextRow_1 : decode cX9_nextRow 1 = .ok (.getfield 237, 3) := by decide +kernel
theorem dX9_nextRow_4 : decode cX9_nextRow 4 = .ok (.ifCond .eq 10, 3) := by decide +kernel
theorem dX9_nextRow_7 : decode cX9_nextRow 7 = .ok (.aload_n 0, 1) := by decide +kernel
theorem dX9_nextRow_8 : decode cX9_nextRow 8 = .ok (.iconst 0, 1) := by decide +kernel
theorem dX9_nextRow_9 : decode cX9_nextRow 9 = .ok (.putfield 237, 3) := by decide +kernel
theorem dX9_nextRow_12 : decode cX9_nextRow 12 = .ok (.iconst 1, 1) := by decide +kernel
theorem dX9_nextRow_13 : decode cX9_nextRow 13 = .ok (.ireturn, 1) := by decide +kernel
theorem dX9_nextRow_14 : decode cX9_nextRow 14 = .ok (.iconst 2, 1) := by decide +kernel
theorem dX9_nextRow_15 : decode cX9_nextRow 15 = .ok (.istore_n 1, 1) := by decide +kernel
theorem dX9_nextRow_16 : decode cX9_nextRow 16 = .ok (.iload_n 1, 1) := by decide +kernel
theorem dX9_nextRow_17 : decode cX9_nextRow 17 = .ok (.ifCond .lt 37, 3) := by decide +kernel
theorem dX9_nextRow_20 : decode cX9_nextRow 20 = .ok (.aload_n 0, 1) := by decide +kernel
theorem dX9_nextRow_21 : decode cX9_nextRow 21 = .ok (.getfield 58, 3) := by decide +kernel
theorem dX9_nextRow_24 : decode cX9_nextRow 24 = .ok (.iload_n 1, 1) := by decide +kernel
theorem dX9_nextRow_25 : decode cX9_nextRow 25 = .ok (.iaload, 1) := by decide +kernel
theorem dX9_nextRow_26 : decode cX9_nextRow 26 = .ok (.aload_n 0, 1) := by decide +kernel
theorem dX9_nextRow_27 : decode cX9_nextRow 27 = .ok (.getfield 55, 3) := by decide +kernel
theorem dX9_nextRow_30 : decode cX9_nextRow 30 = .ok (.iload_n 1, 1) := by decide +kernel
theorem dX9_nextRow_31 : decode cX9_nextRow 31 = .ok (.iaload, 1) := by decide +kernel
theorem dX9_nextRow_32 : decode cX9_nextRow 32 = .ok (.ineg, 1) := by decide +kernel
theorem dX9_nextRow_33 : decode cX9_nextRow 33 = .ok (.if_icmp .ne 21, 3) := by decide +kernel
theorem dX9_nextRow_36 : decode cX9_nextRow 36 = .ok (.aload_n 0, 1) := by decide +kernel
theorem dX9_nextRow_37 : decode cX9_nextRow 37 = .ok (.getfield 58, 3) := by decide +kernel
theorem dX9_nextRow_40 : decode cX9_nextRow 40 = .ok (.iload_n 1, 1) := by decide +kernel
theorem dX9_nextRow_41 : decode cX9_nextRow 41 = .ok (.aload_n 0, 1) := by decide +kernel
theorem dX9_nextRow_42 : decode cX9_nextRow 42 = .ok (.getfield 55, 3) := by decide +kernel
theorem dX9_nextRow_45 : decode cX9_nextRow 45 = .ok (.iload_n 1, 1) := by decide +kernel
theorem dX9_nextRow_46 : decode cX9_nextRow 46 = .ok (.iaload, 1) := by decide +kernel
theorem dX9_nextRow_47 : decode cX9_nextRow 47 = .ok (.iastore, 1) := by decide +kernel
theorem dX9_nextRow_48 : decode cX9_nextRow 48 = .ok (.iinc 1 (-1), 3) := by decide +kernel
theorem dX9_nextRow_51 : decode cX9_nextRow 51 = .ok (.goto (-35), 3) := by decide +kernel
theorem dX9_nextRow_54 : decode cX9_nextRow 54 = .ok (.iload_n 1, 1) := by decide +kernel
theorem dX9_nextRow_55 : decode cX9_nextRow 55 = .ok (.ifCond .ge 5, 3) := by decide +kernel
theorem dX9_nextRow_58 : decode cX9_nextRow 58 = .ok (.iconst 0, 1) := by decide +kernel
theorem dX9_nextRow_59 : decode cX9_nextRow 59 = .ok (.ireturn, 1) := by decide +kernel
theorem dX9_nextRow_60 : decode cX9_nextRow 60 = .ok (.aload_n 0, 1) := by decide +kernel
theorem dX9_nextRow_61 : decode cX9_nextRow 61 = .ok (.getfield 58, 3) := by decide +kernel
theorem dX9_nextRow_64 : decode cX9_nextRow 64 = .ok (.iload_n 1, 1) := by decide +kernel
theorem dX9_nextRow_65 : decode cX9_nextRow 65 = .ok (.dup2, 1) := by decide +kernel
theorem dX9_nextRow_66 : decode cX9_nextRow 66 = .ok (.iaload, 1) := by decide +kernel
theorem dX9_nextRow_67 : decode cX9_nextRow 67 = .ok (.iconst 1, 1) := by decide +kernel
theorem dX9_nextRow_68 : decode cX9_nextRow 68 = .ok (.isub, 1) := by decide +kernel
theorem dX9_nextRow_69 : decode cX9_nextRow 69 = .ok (.iastore, 1) := by decide +kernel
theorem dX9_nextRow_70 : decode cX9_nextRow 70 = .ok (.iconst 1, 1) := by decide +kernel
theorem dX9_nextRow_71 : decode cX9_nextRow 71 = .ok (.ireturn, 1) := by decide +kernel
abbrev MX9_nextChild : ZM := (yX9_nextChild, cX9_nextChild, 3, (Option.some FieldType.boolean), 3, 78)
theorem dX9_nextChild_0 : decode cX9_nextChild 0 = .ok (.aload_n 0, 1) := by decide +kernel
theorem dX9_nextChild_1 : decode cX9_nextChild 1 = .ok (.invokevirtual 241, 3) := by decide +kernel
theorem dX9_nextChild_4 : decode cX9_nextChild 4 = .ok (.ifCond .eq 86, 3) := by decide +kernel
theorem dX9_nextChild_7 : decode cX9_nextChild 7 = .ok (.aload_n 0, 1) := by decide +kernel
theorem dX9_nextChild_8 : decode cX9_nextChild 8 = .ok (.aload_n 0, 1) := by decide +kernel
theorem dX9_nextChild_9 : decode cX9_nextChild 9 = .ok (.getfield 234, 3) := by decide +kernel
theorem dX9_nextChild_12 : decode cX9_nextChild 12 = .ok (.bipush 72, 2) := by decide +kernel
theorem dX9_nextChild_14 : decode cX9_nextChild 14 = .ok (.invokevirtual 128, 3) := by decide +kernel
theorem dX9_nextChild_17 : decode cX9_nextChild 17 = .ok (.aload_n 0, 1) := by decide +kernel
theorem dX9_nextChild_18 : decode cX9_nextChild 18 = .ok (.getfield 15, 3) := by decide +kernel
theorem dX9_nextChild_21 : decode cX9_nextChild 21 = .ok (.aload_n 0, 1) := by decide +kernel
theorem dX9_nextChild_22 : decode cX9_nextChild 22 = .ok (.getfield 234, 3) := by decide +kernel
theorem dX9_nextChild_25 : decode cX9_nextChild 25 = .ok (.iaload, 1) := by decide +kernel
theorem dX9_nextChild_26 : decode cX9_nextChild 26 = .ok (.istore_n 1, 1) := by decide +kernel
theorem dX9_nextChild_27 : decode cX9_nextChild 27 = .ok (.aload_n 0, 1) := by decide +kernel
theorem dX9_nextChild_28 : decode cX9_nextChild 28 = .ok (.getfield 15, 3) := by decide +kernel
theorem dX9_nextChild_31 : decode cX9_nextChild 31 = .ok (.bipush 72, 2) := by decide +kernel
theorem dX9_nextChild_33 : decode cX9_nextChild 33 = .ok (.iload_n 1, 1) := by decide +kernel
theorem dX9_nextChild_34 : decode cX9_nextChild 34 = .ok (.iconst 1, 1) := by decide +kernel
theorem dX9_nextChild_35 : decode cX9_nextChild 35 = .ok (.iadd, 1) := by decide +kernel
theorem dX9_nextChild_36 : decode cX9_nextChild 36 = .ok (.iastore, 1) := by decide +kernel
theorem dX9_nextChild_37 : decode cX9_nextChild 37 = .ok (.iconst 0, 1) := by decide +kernel
theorem dX9_nextChild_38 : decode cX9_nextChild 38 = .ok (.istore_n 2, 1) := by decide +kernel
theorem dX9_nextChild_39 : decode cX9_nextChild 39 = .ok (.iload_n 2, 1) := by decide +kernel
theorem dX9_nextChild_40 : decode cX9_nextChild 40 = .ok (.iload_n 1, 1) := by decide +kernel
theorem dX9_nextChild_41 : decode cX9_nextChild 41 = .ok (.if_icmp .ge 23, 3) := by decide +kernel
theorem dX9_nextChild_44 : decode cX9_nextChild 44 = .ok (.aload_n 0, 1) := by decide +kernel
theorem dX9_nextChild_45 : decode cX9_nextChild 45 = .ok (.bipush 72, 2) := by decide +kernel
theorem dX9_nextChild_47 : decode cX9_nextChild 47 = .ok (.iload_n 1, 1) := by decide +kernel
theorem dX9_nextChild_48 : decode cX9_nextChild 48 = .ok (.iload_n 2, 1) := by decide +kernel
theorem dX9_nextChild_49 : decode cX9_nextChild 49 = .ok (.aload_n 0, 1) := by decide +kernel
theorem dX9_nextChild_50 : decode cX9_nextChild 50 = .ok (.getfield 58, 3) := by decide +kernel
theorem dX9_nextChild_53 : decode cX9_nextChild 53 = .ok (.iload_n 2, 1) := by decide +kernel
theorem dX9_nextChild_54 : decode cX9_nextChild 54 = .ok (.iaload, 1) := by decide +kernel
theorem dX9_nextChild_55 : decode cX9_nextChild 55 = .ok (.invokevirtual 142, 3) := by decide +kernel
theorem dX9_nextChild_58 : decode cX9_nextChild 58 = .ok (.iinc 2 1, 3) := by decide +kernel
theorem dX9_nextChild_61 : decode cX9_nextChild 61 = .ok (.goto (-22), 3) := by decide +kernel
theorem dX9_nextChild_64 : decode cX9_nextChild 64 = .ok (.aload_n 0, 1) := by decide +kernel
theorem dX9_nextChild_65 : decode cX9_nextChild 65 = .ok (.bipush 72, 2) := by decide +kernel
theorem dX9_nextChild_67 : decode cX9_nextChild 67 = .ok (.iload_n 1, 1) := by decide +kernel
theorem dX9_nextChild_68 : decode cX9_nextChild 68 = .ok (.iload_n 1, 1) := by decide +kernel
theorem dX9_nextChild_69 : decode cX9_nextChild 69 = .ok (.aload_n 0, 1) := by decide +kernel
theorem dX9_nextChild_70 : decode cX9_nextChild 70 = .ok (.getfield 231, 3) := by decide +kernel
theorem dX9_nextChild_73 : decode cX9_nextChild 73 = .ok (.invokevirtual 142, 3) := by decide +kernel
theorem dX9_nextChild_76 : decode cX9_nextChild 76 = .ok (.aload_n 0, 1) := by decide +kernel
theorem dX9_nextChild_77 : decode cX9_nextChild 77 = .ok (.bipush 72, 2) := by decide +kernel
theorem dX9_nextChild_79 : decode cX9_nextChild 79 = .ok (.invokevirtual 125, 3) := by decide +kernel
theorem dX9_nextChild_82 : decode cX9_nextChild 82 = .ok (.ifCond .eq 5, 3) := by decide +kernel
theorem dX9_nextChild_85 : decode cX9_nextChild 85 = .ok (.iconst 1, 1) := by decide +kernel
theorem dX9_nextChild_86 : decode cX9_nextChild 86 = .ok (.ireturn, 1) := by decide +kernel
theorem dX9_nextChild_87 : decode cX9_nextChild 87 = .ok (.goto (-87), 3) := by decide +kernel
theorem dX9_nextChild_90 : decode cX9_nextChild 90 = .ok (.iconst 0, 1) := by decide +kernel
theorem dX9_nextChild_91 : decode cX9_nextChild 91 = .ok (.ireturn, 1) := by decide +kernel
abbrev MX9_isChild : ZM := (yX9_isChild, cX9_isChild, 4, (Option.some FieldType.boolean), 4, 100)
theorem dX9_isChild_0 : decode cX9_isChild 0 = .ok (.iload_n 1, 1) := by decide +kernel
theorem dX9_isChild_1 : decode cX9_isChild 1 = .ok (.ifCond .lt 7, 3) := by decide +kernel
theorem dX9_isChild_4 : decode cX9_isChild 4 = .ok (.iconst 1, 1) := by decide +kernel
theorem dX9_isChild_5 : decode cX9_isChild 5 = .ok (.goto 4, 3) := by decide +kernel
theorem dX9_isChild_8 : decode cX9_isChild 8 = .ok (.iconst 0, 1) := by decide +kernel
theorem dX9_isChild_9 : decode cX9_isChild 9 = .ok (.istore_n 2, 1) := by decide +kernel
theorem dX9_isChild_10 : decode cX9_isChild 10 = .ok (.iconst 0, 1) := by decide +kernel
theorem dX9_isChild_11 : decode cX9_isChild 11 = .ok (.istore_n 3, 1) := by decide +kernel
theorem dX9_isChild_12 : decode cX9_isChild 12 = .ok (.iload_n 3, 1) := by decide +kernel
theorem dX9_isChild_13 : decode cX9_isChild 13 = .ok (.iload_n 1, 1) := by decide +kernel
theorem dX9_isChild_14 : decode cX9_isChild 14 = .ok (.if_icmp .gt 18, 3) := by decide +kernel
theorem dX9_isChild_17 : decode cX9_isChild 17 = .ok (.iload_n 2, 1) := by decide +kernel
theorem dX9_isChild_18 : decode cX9_isChild 18 = .ok (.ifCond .eq 14, 3) := by decide +kernel
theorem dX9_isChild_21 : decode cX9_isChild 21 = .ok (.aload_n 0, 1) := by decide +kernel
theorem dX9_isChild_22 : decode cX9_isChild 22 = .ok (.invokevirtual 245, 3) := by decide +kernel
theorem dX9_isChild_25 : decode cX9_isChild 25 = .ok (.istore_n 2, 1) := by decide +kernel
theorem dX9_isChild_26 : decode cX9_isChild 26 = .ok (.iinc 3 1, 3) := by decide +kernel
theorem dX9_isChild_29 : decode cX9_isChild 29 = .ok (.goto (-17), 3) := by decide +kernel
theorem dX9_isChild_32 : decode cX9_isChild 32 = .ok (.iload_n 2, 1) := by decide +kernel
theorem dX9_isChild_33 : decode cX9_isChild 33 = .ok (.ireturn, 1) := by decide +kernel
abbrev MX9_children : ZM := (yX9_children, cX9_children, 4, (Option.some FieldType.int), 6, 151)
theorem dX9_children_0 : decode cX9_children 0 = .ok (.aload_n 0, 1) := by decide +kernel
theorem dX9_children_1 : decode cX9_children 1 = .ok (.iload_n 1, 1) := by decide +kernel
theorem dX9_children_2 : decode cX9_children 2 = .ok (.invokevirtual 156, 3) := by decide +kernel
theorem dX9_children_5 : decode cX9_children 5 = .ok (.ifCond .ne 5, 3) := by decide +kernel
theorem dX9_children_8 : decode cX9_children 8 = .ok (.iconst (-1), 1) := by decide +kernel
theorem dX9_children_9 : decode cX9_children 9 = .ok (.ireturn, 1) := by decide +kernel
theorem dX9_children_10 : decode cX9_children 10 = .ok (.aload_n 0, 1) := by decide +kernel
theorem dX9_children_11 : decode cX9_children 11 = .ok (.iload_n 1, 1) := by decide +kernel
theorem dX9_children_12 : decode cX9_children 12 = .ok (.invokevirtual 248, 3) := by decide +kernel
theorem dX9_children_15 : decode cX9_children 15 = .ok (.istore_n 2, 1) := by decide +kernel
theorem dX9_children_16 : decode cX9_children 16 = .ok (.iload_n 2, 1) := by decide +kernel
theorem dX9_children_17 : decode cX9_children 17 = .ok (.ifCond .eq 5, 3) := by decide +kernel
theorem dX9_children_20 : decode cX9_children 20 = .ok (.iload_n 2, 1) := by decide +kernel
theorem dX9_children_21 : decode cX9_children 21 = .ok (.ireturn, 1) := by decide +kernel
theorem dX9_children_22 : decode cX9_children 22 = .ok (.iconst 0, 1) := by decide +kernel
theorem dX9_children_23 : decode cX9_children 23 = .ok (.istore_n 3, 1) := by decide +kernel
theorem dX9_children_24 : decode cX9_children 24 = .ok (.aload_n 0, 1) := by decide +kernel
theorem dX9_children_25 : decode cX9_children 25 = .ok (.invokevirtual 245, 3) := by decide +kernel
theorem dX9_children_28 : decode cX9_children 28 = .ok (.ifCond .eq 9, 3) := by decide +kernel
theorem dX9_children_31 : decode cX9_children 31 = .ok (.iinc 3 1, 3) := by decide +kernel
theorem dX9_children_34 : decode cX9_children 34 = .ok (.goto (-10), 3) := by decide +kernel
theorem dX9_children_37 : decode cX9_children 37 = .ok (.iload_n 3, 1) := by decide +kernel
theorem dX9_children_38 : decode cX9_children 38 = .ok (.ireturn, 1) := by decide +kernel
abbrev MX9_child : ZM := (yX9_child, cX9_child, 5, (Option.some FieldType.int), 6, 151)
theorem dX9_child_0 : decode cX9_child 0 = .ok (.aload_n 0, 1) := by decide +kernel
theorem dX9_child_1 : decode cX9_child 1 = .ok (.iload_n 1, 1) := by decide +kernel
theorem dX9_child_2 : decode cX9_child 2 = .ok (.invokevirtual 156, 3) := by decide +kernel
theorem dX9_child_5 : decode cX9_child 5 = .ok (.ifCond .eq 10, 3) := by decide +kernel
theorem dX9_child_8 : decode cX9_child 8 = .ok (.iload_n 3, 1) := by decide +kernel
theorem dX9_child_9 : decode cX9_child 9 = .ok (.invokestatic 86, 3) := by decide +kernel
theorem dX9_child_12 : decode cX9_child 12 = .ok (.ifCond .ne 5, 3) := by decide +kernel
theorem dX9_child_15 : decode cX9_child 15 = .ok (.iconst (-1), 1) := by decide +kernel
theorem dX9_child_16 : decode cX9_child 16 = .ok (.ireturn, 1) := by decide +kernel
theorem dX9_child_17 : decode cX9_child 17 = .ok (.aload_n 0, 1) := by decide +kernel
theorem dX9_child_18 : decode cX9_child 18 = .ok (.iload_n 1, 1) := by decide +kernel
theorem dX9_child_19 : decode cX9_child 19 = .ok (.invokevirtual 248, 3) := by decide +kernel
theorem dX9_child_22 : decode cX9_child 22 = .ok (.istore 4, 2) := by decide +kernel
theorem dX9_child_24 : decode cX9_child 24 = .ok (.iload 4, 2) := by decide +kernel
theorem dX9_child_26 : decode cX9_child 26 = .ok (.ifCond .eq 6, 3) := by decide +kernel
theorem dX9_child_29 : decode cX9_child 29 = .ok (.iload 4, 2) := by decide +kernel
theorem dX9_child_31 : decode cX9_child 31 = .ok (.ireturn, 1) := by decide +kernel
theorem dX9_child_32 : decode cX9_child 32 = .ok (.aload_n 0, 1) := by decide +kernel
theorem dX9_child_33 : decode cX9_child 33 = .ok (.iload_n 2, 1) := by decide +kernel
theorem dX9_child_34 : decode cX9_child 34 = .ok (.invokevirtual 251, 3) := by decide +kernel
theorem dX9_child_37 : decode cX9_child 37 = .ok (.ifCond .ne 6, 3) := by decide +kernel
theorem dX9_child_40 : decode cX9_child 40 = .ok (.bipush (-2), 2) := by decide +kernel
theorem dX9_child_42 : decode cX9_child 42 = .ok (.ireturn, 1) := by decide +kernel
theorem dX9_child_43 : decode cX9_child 43 = .ok (.aload_n 0, 1) := by decide +kernel
theorem dX9_child_44 : decode cX9_child 44 = .ok (.iload_n 3, 1) := by decide +kernel
theorem dX9_child_45 : decode cX9_child 45 = .ok (.invokevirtual 153, 3) := by decide +kernel
theorem dX9_child_48 : decode cX9_child 48 = .ok (.ireturn, 1) := by decide +kernel
abbrev MX9_next : ZM := (yX9_next, cX9_next, 11, (Option.some FieldType.int), 6, 151)
theorem dX9_next_0 : decode cX9_next 0 = .ok (.aload_n 0, 1) := by decide +kernel
theorem dX9_next_1 : decode cX9_next 1 = .ok (.iload_n 1, 1) := by decide +kernel
theorem dX9_next_2 : decode cX9_next 2 = .ok (.invokevirtual 156, 3) := by decide +kernel
theorem dX9_next_5 : decode cX9_next 5 = .ok (.ifCond .eq 19, 3) := by decide +kernel
theorem dX9_next_8 : decode cX9_next 8 = .ok (.iload_n 2, 1) := by decide +kernel
theorem dX9_next_9 : decode cX9_next 9 = .ok (.ifCond .lt 15, 3) := by decide +kernel
theorem dX9_next_12 : decode cX9_next 12 = .ok (.iload_n 3, 1) := by decide +kernel
theorem dX9_next_13 : decode cX9_next 13 = .ok (.i2l, 1) := by decide +kernel
theorem dX9_next_14 : decode cX9_next 14 = .ok (.lconst 0, 1) := by decide +kernel
theorem dX9_next_15 : decode cX9_next 15 = .ok (.ldc2_w 164, 3) := by decide +kernel
theorem dX9_next_18 : decode cX9_next 18 = .ok (.invokestatic 134, 3) := by decide +kernel
theorem dX9_next_21 : decode cX9_next 21 = .ok (.ifCond .ne 5, 3) := by decide +kernel
theorem dX9_next_24 : decode cX9_next 24 = .ok (.iconst (-1), 1) := by decide +kernel
theorem dX9_next_25 : decode cX9_next 25 = .ok (.ireturn, 1) := by decide +kernel
theorem dX9_next_26 : decode cX9_next 26 = .ok (.aload_n 0, 1) := by decide +kernel
theorem dX9_next_27 : decode cX9_next 27 = .ok (.iload_n 1, 1) := by decide +kernel
theorem dX9_next_28 : decode cX9_next 28 = .ok (.invokevirtual 248, 3) := by decide +kernel
theorem dX9_next_31 : decode cX9_next 31 = .ok (.istore 4, 2) := by decide +kernel
theorem dX9_next_33 : decode cX9_next 33 = .ok (.iload 4, 2) := by decide +kernel
theorem dX9_next_35 : decode cX9_next 35 = .ok (.ifCond .eq 6, 3) := by decide +kernel
theorem dX9_next_38 : decode cX9_next 38 = .ok (.iload 4, 2) := by decide +kernel
theorem dX9_next_40 : decode cX9_next 40 = .ok (.ireturn, 1) := by decide +kernel
theorem dX9_next_41 : decode cX9_next 41 = .ok (.iconst 0, 1) := by decide +kernel
theorem dX9_next_42 : decode cX9_next 42 = .ok (.istore 5, 2) := by decide +kernel
theorem dX9_next_44 : decode cX9_next 44 = .ok (.iconst 0, 1) := by decide +kernel
theorem dX9_next_45 : decode cX9_next 45 = .ok (.istore 6, 2) := by decide +kernel
theorem dX9_next_47 : decode cX9_next 47 = .ok (.iconst 0, 1) := by decide +kernel
theorem dX9_next_48 : decode cX9_next 48 = .ok (.istore 7, 2) := by decide +kernel
theorem dX9_next_50 : decode cX9_next 50 = .ok (.bipush (-2), 2) := by decide +kernel
theorem dX9_next_52 : decode cX9_next 52 = .ok (.istore 8, 2) := by decide +kernel
theorem dX9_next_54 : decode cX9_next 54 = .ok (.iload_n 2, 1) := by decide +kernel
theorem dX9_next_55 : decode cX9_next 55 = .ok (.ifCond .eq 13, 3) := by decide +kernel
theorem dX9_next_58 : decode cX9_next 58 = .ok (.aload_n 0, 1) := by decide +kernel
theorem dX9_next_59 : decode cX9_next 59 = .ok (.iload_n 2, 1) := by decide +kernel
theorem dX9_next_60 : decode cX9_next 60 = .ok (.iconst 1, 1) := by decide +kernel
theorem dX9_next_61 : decode cX9_next 61 = .ok (.isub, 1) := by decide +kernel
theorem dX9_next_62 : decode cX9_next 62 = .ok (.invokevirtual 251, 3) := by decide +kernel
theorem dX9_next_65 : decode cX9_next 65 = .ok (.ifCond .eq 7, 3) := by decide +kernel
theorem dX9_next_68 : decode cX9_next 68 = .ok (.iconst 1, 1) := by decide +kernel
theorem dX9_next_69 : decode cX9_next 69 = .ok (.goto 4, 3) := by decide +kernel
theorem dX9_next_72 : decode cX9_next 72 = .ok (.iconst 0, 1) := by decide +kernel
theorem dX9_next_73 : decode cX9_next 73 = .ok (.istore 9, 2) := by decide +kernel
theorem dX9_next_75 : decode cX9_next 75 = .ok (.iload 9, 2) := by decide +kernel
theorem dX9_next_77 : decode cX9_next 77 = .ok (.ifCond .eq 91, 3) := by decide +kernel
theorem dX9_next_80 : decode cX9_next 80 = .ok (.iload 5, 2) := by decide +kernel
theorem dX9_next_82 : decode cX9_next 82 = .ok (.bipush 64, 2) := by decide +kernel
theorem dX9_next_84 : decode cX9_next 84 = .ok (.if_icmp .ge 84, 3) := by decide +kernel
theorem dX9_next_87 : decode cX9_next 87 = .ok (.aload_n 0, 1) := by decide +kernel
theorem dX9_next_88 : decode cX9_next 88 = .ok (.invokevirtual 245, 3) := by decide +kernel
theorem dX9_next_91 : decode cX9_next 91 = .ok (.ifCond .eq 77, 3) := by decide +kernel
theorem dX9_next_94 : decode cX9_next 94 = .ok (.iload_n 3, 1) := by decide +kernel
theorem dX9_next_95 : decode cX9_next 95 = .ok (.ifCond .le 67, 3) := by decide +kernel
theorem dX9_next_98 : decode cX9_next 98 = .ok (.aload_n 0, 1) := by decide +kernel
theorem dX9_next_99 : decode cX9_next 99 = .ok (.bipush 72, 2) := by decide +kernel
theorem dX9_next_101 : decode cX9_next 101 = .ok (.invokevirtual 198, 3) := by decide +kernel
theorem dX9_next_104 : decode cX9_next 104 = .ok (.aload_n 0, 1) := by decide +kernel
theorem dX9_next_105 : decode cX9_next 105 = .ok (.invokevirtual 254, 3) := by decide +kernel
theorem dX9_next_108 : decode cX9_next 108 = .ok (.istore 10, 2) := by decide +kernel
theorem dX9_next_110 : decode cX9_next 110 = .ok (.iload 10, 2) := by decide +kernel
theorem dX9_next_112 : decode cX9_next 112 = .ok (.iload 7, 2) := by decide +kernel
theorem dX9_next_114 : decode cX9_next 114 = .ok (.if_icmp .le 8, 3) := by decide +kernel
theorem dX9_next_117 : decode cX9_next 117 = .ok (.iload 10, 2) := by decide +kernel
theorem dX9_next_119 : decode cX9_next 119 = .ok (.goto 5, 3) := by decide +kernel
theorem dX9_next_122 : decode cX9_next 122 = .ok (.iload 7, 2) := by decide +kernel
theorem dX9_next_124 : decode cX9_next 124 = .ok (.istore 7, 2) := by decide +kernel
theorem dX9_next_126 : decode cX9_next 126 = .ok (.iload 6, 2) := by decide +kernel
theorem dX9_next_128 : decode cX9_next 128 = .ok (.iload 10, 2) := by decide +kernel
theorem dX9_next_130 : decode cX9_next 130 = .ok (.ifCond .ne 7, 3) := by decide +kernel
theorem dX9_next_133 : decode cX9_next 133 = .ok (.iconst 1, 1) := by decide +kernel
theorem dX9_next_134 : decode cX9_next 134 = .ok (.goto 4, 3) := by decide +kernel
theorem dX9_next_137 : decode cX9_next 137 = .ok (.iconst 0, 1) := by decide +kernel
theorem dX9_next_138 : decode cX9_next 138 = .ok (.iadd, 1) := by decide +kernel
theorem dX9_next_139 : decode cX9_next 139 = .ok (.istore 6, 2) := by decide +kernel
theorem dX9_next_141 : decode cX9_next 141 = .ok (.iload 10, 2) := by decide +kernel
theorem dX9_next_143 : decode cX9_next 143 = .ok (.ifCond .ne 15, 3) := by decide +kernel
theorem dX9_next_146 : decode cX9_next 146 = .ok (.iload 8, 2) := by decide +kernel
theorem dX9_next_148 : decode cX9_next 148 = .ok (.ifCond .ge 10, 3) := by decide +kernel
theorem dX9_next_151 : decode cX9_next 151 = .ok (.iload_n 2, 1) := by decide +kernel
theorem dX9_next_152 : decode cX9_next 152 = .ok (.iload 5, 2) := by decide +kernel
theorem dX9_next_154 : decode cX9_next 154 = .ok (.iadd, 1) := by decide +kernel
theorem dX9_next_155 : decode cX9_next 155 = .ok (.goto 5, 3) := by decide +kernel
theorem dX9_next_158 : decode cX9_next 158 = .ok (.iload 8, 2) := by decide +kernel
theorem dX9_next_160 : decode cX9_next 160 = .ok (.istore 8, 2) := by decide +kernel
theorem dX9_next_162 : decode cX9_next 162 = .ok (.iinc 5 1, 3) := by decide +kernel
theorem dX9_next_165 : decode cX9_next 165 = .ok (.goto (-90), 3) := by decide +kernel
theorem dX9_next_168 : decode cX9_next 168 = .ok (.iload_n 3, 1) := by decide +kernel
theorem dX9_next_169 : decode cX9_next 169 = .ok (.ifCond .ne 8, 3) := by decide +kernel
theorem dX9_next_172 : decode cX9_next 172 = .ok (.iload 5, 2) := by decide +kernel
theorem dX9_next_174 : decode cX9_next 174 = .ok (.goto 25, 3) := by decide +kernel
theorem dX9_next_177 : decode cX9_next 177 = .ok (.iload_n 3, 1) := by decide +kernel
theorem dX9_next_178 : decode cX9_next 178 = .ok (.iconst 1, 1) := by decide +kernel
theorem dX9_next_179 : decode cX9_next 179 = .ok (.if_icmp .ne 8, 3) := by decide +kernel
theorem dX9_next_182 : decode cX9_next 182 = .ok (.iload 6, 2) := by decide +kernel
theorem dX9_next_184 : decode cX9_next 184 = .ok (.goto 15, 3) := by decide +kernel
theorem dX9_next_187 : decode cX9_next 187 = .ok (.iload_n 3, 1) := by decide +kernel
theorem dX9_next_188 : decode cX9_next 188 = .ok (.iconst 2, 1) := by decide +kernel
theorem dX9_next_189 : decode cX9_next 189 = .ok (.if_icmp .ne 8, 3) := by decide +kernel
theorem dX9_next_192 : decode cX9_next 192 = .ok (.iload 7, 2) := by decide +kernel
theorem dX9_next_194 : decode cX9_next 194 = .ok (.goto 5, 3) := by decide +kernel
theorem dX9_next_197 : decode cX9_next 197 = .ok (.iload 8, 2) := by decide +kernel
theorem dX9_next_199 : decode cX9_next 199 = .ok (.ireturn, 1) := by decide +kernel
abbrev MX9_greatestLack : ZM := (yX9_greatestLack, cX9_greatestLack, 3, (Option.some FieldType.int), 1, 22)
theorem dX9_greatestLack_0 : decode cX9_greatestLack 0 = .ok (.iconst 0, 1) := by decide +kernel
theorem dX9_greatestLack_1 : decode cX9_greatestLack 1 = .ok (.istore_n 1, 1) := by decide +kernel
theorem dX9_greatestLack_2 : decode cX9_greatestLack 2 = .ok (.iconst 0, 1) := by decide +kernel
theorem dX9_greatestLack_3 : decode cX9_greatestLack 3 = .ok (.istore_n 2, 1) := by decide +kernel
theorem dX9_greatestLack_4 : decode cX9_greatestLack 4 = .ok (.iload_n 2, 1) := by decide +kernel
theorem dX9_greatestLack_5 : decode cX9_greatestLack 5 = .ok (.iconst 0, 1) := by decide +kernel
theorem dX9_greatestLack_6 : decode cX9_greatestLack 6 = .ok (.invokestatic 219, 3) := by decide +kernel
theorem dX9_greatestLack_9 : decode cX9_greatestLack 9 = .ok (.if_icmp .ge 34, 3) := by decide +kernel
theorem dX9_greatestLack_12 : decode cX9_greatestLack 12 = .ok (.aload_n 0, 1) := by decide +kernel
theorem dX9_greatestLack_13 : decode cX9_greatestLack 13 = .ok (.getfield 40, 3) := by decide +kernel
theorem dX9_greatestLack_16 : decode cX9_greatestLack 16 = .ok (.aload_n 0, 1) := by decide +kernel
theorem dX9_greatestLack_17 : decode cX9_greatestLack 17 = .ok (.iconst 0, 1) := by decide +kernel
theorem dX9_greatestLack_18 : decode cX9_greatestLack 18 = .ok (.iload_n 2, 1) := by decide +kernel
theorem dX9_greatestLack_19 : decode cX9_greatestLack 19 = .ok (.invokevirtual 222, 3) := by decide +kernel
theorem dX9_greatestLack_22 : decode cX9_greatestLack 22 = .ok (.iaload, 1) := by decide +kernel
theorem dX9_greatestLack_23 : decode cX9_greatestLack 23 = .ok (.ifCond .ne 12, 3) := by decide +kernel
theorem dX9_greatestLack_26 : decode cX9_greatestLack 26 = .ok (.aload_n 0, 1) := by decide +kernel
theorem dX9_greatestLack_27 : decode cX9_greatestLack 27 = .ok (.iconst 0, 1) := by decide +kernel
theorem dX9_greatestLack_28 : decode cX9_greatestLack 28 = .ok (.iload_n 2, 1) := by decide +kernel
theorem dX9_greatestLack_29 : decode cX9_greatestLack 29 = .ok (.invokevirtual 222, 3) := by decide +kernel
theorem dX9_greatestLack_32 : decode cX9_greatestLack 32 = .ok (.goto 4, 3) := by decide +kernel
theorem dX9_greatestLack_35 : decode cX9_greatestLack 35 = .ok (.iload_n 1, 1) := by decide +kernel
theorem dX9_greatestLack_36 : decode cX9_greatestLack 36 = .ok (.istore_n 1, 1) := by decide +kernel
theorem dX9_greatestLack_37 : decode cX9_greatestLack 37 = .ok (.iinc 2 1, 3) := by decide +kernel
theorem dX9_greatestLack_40 : decode cX9_greatestLack 40 = .ok (.goto (-36), 3) := by decide +kernel
theorem dX9_greatestLack_43 : decode cX9_greatestLack 43 = .ok (.iload_n 1, 1) := by decide +kernel
theorem dX9_greatestLack_44 : decode cX9_greatestLack 44 = .ok (.ireturn, 1) := by decide +kernel
abbrev MX9_isNode : ZM := (yX9_isNode, cX9_isNode, 2, (Option.some FieldType.boolean), 0, 0)
theorem dX9_isNode_0 : decode cX9_isNode 0 = .ok (.iload_n 1, 1) := by decide +kernel
theorem dX9_isNode_1 : decode cX9_isNode 1 = .ok (.ifCond .lt 15, 3) := by decide +kernel
theorem dX9_isNode_4 : decode cX9_isNode 4 = .ok (.iload_n 1, 1) := by decide +kernel
theorem dX9_isNode_5 : decode cX9_isNode 5 = .ok (.aload_n 0, 1) := by decide +kernel
theorem dX9_isNode_6 : decode cX9_isNode 6 = .ok (.getfield 82, 3) := by decide +kernel
theorem dX9_isNode_9 : decode cX9_isNode 9 = .ok (.if_icmp .ge 7, 3) := by decide +kernel
theorem dX9_isNode_12 : decode cX9_isNode 12 = .ok (.iconst 1, 1) := by decide +kernel
theorem dX9_isNode_13 : decode cX9_isNode 13 = .ok (.goto 4, 3) := by decide +kernel
theorem dX9_isNode_16 : decode cX9_isNode 16 = .ok (.iconst 0, 1) := by decide +kernel
theorem dX9_isNode_17 : decode cX9_isNode 17 = .ok (.ireturn, 1) := by decide +kernel
abbrev MX9_plant : ZM := (yX9_plant, cX9_plant, 3, (Option.some FieldType.int), 2, 41)
theorem dX9_plant_0 : decode cX9_plant 0 = .ok (.aload_n 0, 1) := by decide +kernel
theorem dX9_plant_1 : decode cX9_plant 1 = .ok (.iload_n 1, 1) := by decide +kernel
theorem dX9_plant_2 : decode cX9_plant 2 = .ok (.invokevirtual 156, 3) := by decide +kernel
theorem dX9_plant_5 : decode cX9_plant 5 = .ok (.ifCond .ne 5, 3) := by decide +kernel
theorem dX9_plant_8 : decode cX9_plant 8 = .ok (.iconst (-1), 1) := by decide +kernel
theorem dX9_plant_9 : decode cX9_plant 9 = .ok (.ireturn, 1) := by decide +kernel
theorem dX9_plant_10 : decode cX9_plant 10 = .ok (.aload_n 0, 1) := by decide +kernel
theorem dX9_plant_11 : decode cX9_plant 11 = .ok (.getfield 82, 3) := by decide +kernel
theorem dX9_plant_14 : decode cX9_plant 14 = .ok (.istore_n 2, 1) := by decide +kernel
theorem dX9_plant_15 : decode cX9_plant 15 = .ok (.aload_n 0, 1) := by decide +kernel
theorem dX9_plant_16 : decode cX9_plant 16 = .ok (.iload_n 1, 1) := by decide +kernel
theorem dX9_plant_17 : decode cX9_plant 17 = .ok (.bipush 6, 2) := by decide +kernel
theorem dX9_plant_19 : decode cX9_plant 19 = .ok (.invokevirtual 128, 3) := by decide +kernel
theorem dX9_plant_22 : decode cX9_plant 22 = .ok (.aload_n 0, 1) := by decide +kernel
theorem dX9_plant_23 : decode cX9_plant 23 = .ok (.getfield 18, 3) := by decide +kernel
theorem dX9_plant_26 : decode cX9_plant 26 = .ok (.iconst 0, 1) := by decide +kernel
theorem dX9_plant_27 : decode cX9_plant 27 = .ok (.bipush (-2), 2) := by decide +kernel
theorem dX9_plant_29 : decode cX9_plant 29 = .ok (.iastore, 1) := by decide +kernel
theorem dX9_plant_30 : decode cX9_plant 30 = .ok (.aload_n 0, 1) := by decide +kernel
theorem dX9_plant_31 : decode cX9_plant 31 = .ok (.getfield 21, 3) := by decide +kernel
theorem dX9_plant_34 : decode cX9_plant 34 = .ok (.iconst 0, 1) := by decide +kernel
theorem dX9_plant_35 : decode cX9_plant 35 = .ok (.bipush (-2), 2) := by decide +kernel
theorem dX9_plant_37 : decode cX9_plant 37 = .ok (.iastore, 1) := by decide +kernel
theorem dX9_plant_38 : decode cX9_plant 38 = .ok (.aload_n 0, 1) := by decide +kernel
theorem dX9_plant_39 : decode cX9_plant 39 = .ok (.iconst 1, 1) := by decide +kernel
theorem dX9_plant_40 : decode cX9_plant 40 = .ok (.putfield 82, 3) := by decide +kernel
theorem dX9_plant_43 : decode cX9_plant 43 = .ok (.iload_n 2, 1) := by decide +kernel
theorem dX9_plant_44 : decode cX9_plant 44 = .ok (.ireturn, 1) := by decide +kernel
abbrev MX9_branch : ZM := (yX9_branch, cX9_branch, 4, (Option.some FieldType.int), 6, 151)
theorem dX9_branch_0 : decode cX9_branch 0 = .ok (.aload_n 0, 1) := by decide +kernel
theorem dX9_branch_1 : decode cX9_branch 1 = .ok (.iload_n 1, 1) := by decide +kernel
theorem dX9_branch_2 : decode cX9_branch 2 = .ok (.invokevirtual 257, 3) := by decide +kernel
theorem dX9_branch_5 : decode cX9_branch 5 = .ok (.ifCond .ne 5, 3) := by decide +kernel
theorem dX9_branch_8 : decode cX9_branch 8 = .ok (.iconst (-1), 1) := by decide +kernel
theorem dX9_branch_9 : decode cX9_branch 9 = .ok (.ireturn, 1) := by decide +kernel
theorem dX9_branch_10 : decode cX9_branch 10 = .ok (.aload_n 0, 1) := by decide +kernel
theorem dX9_branch_11 : decode cX9_branch 11 = .ok (.bipush 6, 2) := by decide +kernel
theorem dX9_branch_13 : decode cX9_branch 13 = .ok (.iload_n 1, 1) := by decide +kernel
theorem dX9_branch_14 : decode cX9_branch 14 = .ok (.iadd, 1) := by decide +kernel
theorem dX9_branch_15 : decode cX9_branch 15 = .ok (.invokevirtual 248, 3) := by decide +kernel
theorem dX9_branch_18 : decode cX9_branch 18 = .ok (.istore_n 3, 1) := by decide +kernel
theorem dX9_branch_19 : decode cX9_branch 19 = .ok (.iload_n 3, 1) := by decide +kernel
theorem dX9_branch_20 : decode cX9_branch 20 = .ok (.ifCond .eq 5, 3) := by decide +kernel
theorem dX9_branch_23 : decode cX9_branch 23 = .ok (.iload_n 3, 1) := by decide +kernel
theorem dX9_branch_24 : decode cX9_branch 24 = .ok (.ireturn, 1) := by decide +kernel
theorem dX9_branch_25 : decode cX9_branch 25 = .ok (.aload_n 0, 1) := by decide +kernel
theorem dX9_branch_26 : decode cX9_branch 26 = .ok (.getfield 82, 3) := by decide +kernel
theorem dX9_branch_29 : decode cX9_branch 29 = .ok (.bipush 30, 2) := by decide +kernel
theorem dX9_branch_31 : decode cX9_branch 31 = .ok (.if_icmp .ne 6, 3) := by decide +kernel
theorem dX9_branch_34 : decode cX9_branch 34 = .ok (.bipush (-4), 2) := by decide +kernel
theorem dX9_branch_36 : decode cX9_branch 36 = .ok (.ireturn, 1) := by decide +kernel
theorem dX9_branch_37 : decode cX9_branch 37 = .ok (.aload_n 0, 1) := by decide +kernel
theorem dX9_branch_38 : decode cX9_branch 38 = .ok (.iload_n 2, 1) := by decide +kernel
theorem dX9_branch_39 : decode cX9_branch 39 = .ok (.invokevirtual 251, 3) := by decide +kernel
theorem dX9_branch_42 : decode cX9_branch 42 = .ok (.ifCond .ne 6, 3) := by decide +kernel
theorem dX9_branch_45 : decode cX9_branch 45 = .ok (.bipush (-2), 2) := by decide +kernel
theorem dX9_branch_47 : decode cX9_branch 47 = .ok (.ireturn, 1) := by decide +kernel
theorem dX9_branch_48 : decode cX9_branch 48 = .ok (.aload_n 0, 1) := by decide +kernel
theorem dX9_branch_49 : decode cX9_branch 49 = .ok (.bipush 72, 2) := by decide +kernel
theorem dX9_branch_51 : decode cX9_branch 51 = .ok (.bipush 6, 2) := by decide +kernel
theorem dX9_branch_53 : decode cX9_branch 53 = .ok (.aload_n 0, 1) := by decide +kernel
theorem dX9_branch_54 : decode cX9_branch 54 = .ok (.getfield 82, 3) := by decide +kernel
theorem dX9_branch_57 : decode cX9_branch 57 = .ok (.iadd, 1) := by decide +kernel
theorem dX9_branch_58 : decode cX9_branch 58 = .ok (.invokevirtual 128, 3) := by decide +kernel
theorem dX9_branch_61 : decode cX9_branch 61 = .ok (.aload_n 0, 1) := by decide +kernel
theorem dX9_branch_62 : decode cX9_branch 62 = .ok (.getfield 18, 3) := by decide +kernel
theorem dX9_branch_65 : decode cX9_branch 65 = .ok (.aload_n 0, 1) := by decide +kernel
theorem dX9_branch_66 : decode cX9_branch 66 = .ok (.getfield 82, 3) := by decide +kernel
theorem dX9_branch_69 : decode cX9_branch 69 = .ok (.iload_n 1, 1) := by decide +kernel
theorem dX9_branch_70 : decode cX9_branch 70 = .ok (.iastore, 1) := by decide +kernel
theorem dX9_branch_71 : decode cX9_branch 71 = .ok (.aload_n 0, 1) := by decide +kernel
theorem dX9_branch_72 : decode cX9_branch 72 = .ok (.getfield 21, 3) := by decide +kernel
theorem dX9_branch_75 : decode cX9_branch 75 = .ok (.aload_n 0, 1) := by decide +kernel
theorem dX9_branch_76 : decode cX9_branch 76 = .ok (.getfield 82, 3) := by decide +kernel
theorem dX9_branch_79 : decode cX9_branch 79 = .ok (.iload_n 2, 1) := by decide +kernel
theorem dX9_branch_80 : decode cX9_branch 80 = .ok (.iastore, 1) := by decide +kernel
theorem dX9_branch_81 : decode cX9_branch 81 = .ok (.aload_n 0, 1) := by decide +kernel
theorem dX9_branch_82 : decode cX9_branch 82 = .ok (.dup, 1) := by decide +kernel
theorem dX9_branch_83 : decode cX9_branch 83 = .ok (.getfield 82, 3) := by decide +kernel
theorem dX9_branch_86 : decode cX9_branch 86 = .ok (.iconst 1, 1) := by decide +kernel
theorem dX9_branch_87 : decode cX9_branch 87 = .ok (.iadd, 1) := by decide +kernel
theorem dX9_branch_88 : decode cX9_branch 88 = .ok (.putfield 82, 3) := by decide +kernel
theorem dX9_branch_91 : decode cX9_branch 91 = .ok (.aload_n 0, 1) := by decide +kernel
theorem dX9_branch_92 : decode cX9_branch 92 = .ok (.getfield 82, 3) := by decide +kernel
theorem dX9_branch_95 : decode cX9_branch 95 = .ok (.iconst 1, 1) := by decide +kernel
theorem dX9_branch_96 : decode cX9_branch 96 = .ok (.isub, 1) := by decide +kernel
theorem dX9_branch_97 : decode cX9_branch 97 = .ok (.ireturn, 1) := by decide +kernel
abbrev MX9_layHeights : ZM := (yX9_layHeights, cX9_layHeights, 3, (Option.none : Option FieldType), 0, 0)
theorem dX9_layHeights_0 : decode cX9_layHeights 0 = .ok (.iconst 0, 1) := by decide +kernel
theorem dX9_layHeights_1 : decode cX9_layHeights 1 = .ok (.istore_n 1, 1) := by decide +kernel
theorem dX9_layHeights_2 : decode cX9_layHeights 2 = .ok (.iload_n 1, 1) := by decide +kernel
theorem dX9_layHeights_3 : decode cX9_layHeights 3 = .ok (.aload_n 0, 1) := by decide +kernel
theorem dX9_layHeights_4 : decode cX9_layHeights 4 = .ok (.getfield 82, 3) := by decide +kernel
theorem dX9_layHeights_7 : decode cX9_layHeights 7 = .ok (.if_icmp .ge 30, 3) := by decide +kernel
theorem dX9_layHeights_10 : decode cX9_layHeights 10 = .ok (.aload_n 0, 1) := by decide +kernel
theorem dX9_layHeights_11 : decode cX9_layHeights 11 = .ok (.getfield 61, 3) := by decide +kernel
theorem dX9_layHeights_14 : decode cX9_layHeights 14 = .ok (.iload_n 1, 1) := by decide +kernel
theorem dX9_layHeights_15 : decode cX9_layHeights 15 = .ok (.iconst 0, 1) := by decide +kernel
theorem dX9_layHeights_16 : decode cX9_layHeights 16 = .ok (.iastore, 1) := by decide +kernel
theorem dX9_layHeights_17 : decode cX9_layHeights 17 = .ok (.aload_n 0, 1) := by decide +kernel
theorem dX9_layHeights_18 : decode cX9_layHeights 18 = .ok (.getfield 64, 3) := by decide +kernel
theorem dX9_layHeights_21 : decode cX9_layHeights 21 = .ok (.iload_n 1, 1) := by decide +kernel
theorem dX9_layHeights_22 : decode cX9_layHeights 22 = .ok (.iconst 0, 1) := by decide +kernel
theorem dX9_layHeights_23 : decode cX9_layHeights 23 = .ok (.iastore, 1) := by decide +kernel
theorem dX9_layHeights_24 : decode cX9_layHeights 24 = .ok (.aload_n 0, 1) := by decide +kernel
theorem dX9_layHeights_25 : decode cX9_layHeights 25 = .ok (.getfield 67, 3) := by decide +kernel
theorem dX9_layHeights_28 : decode cX9_layHeights 28 = .ok (.iload_n 1, 1) := by decide +kernel
theorem dX9_layHeights_29 : decode cX9_layHeights 29 = .ok (.iconst 0, 1) := by decide +kernel
theorem dX9_layHeights_30 : decode cX9_layHeights 30 = .ok (.iastore, 1) := by decide +kernel
theorem dX9_layHeights_31 : decode cX9_layHeights 31 = .ok (.iinc 1 1, 3) := by decide +kernel
theorem dX9_layHeights_34 : decode cX9_layHeights 34 = .ok (.goto (-32), 3) := by decide +kernel
theorem dX9_layHeights_37 : decode cX9_layHeights 37 = .ok (.aload_n 0, 1) := by decide +kernel
theorem dX9_layHeights_38 : decode cX9_layHeights 38 = .ok (.getfield 82, 3) := by decide +kernel
theorem dX9_layHeights_41 : decode cX9_layHeights 41 = .ok (.iconst 1, 1) := by decide +kernel
theorem dX9_layHeights_42 : decode cX9_layHeights 42 = .ok (.isub, 1) := by decide +kernel
theorem dX9_layHeights_43 : decode cX9_layHeights 43 = .ok (.istore_n 1, 1) := by decide +kernel
theorem dX9_layHeights_44 : decode cX9_layHeights 44 = .ok (.iload_n 1, 1) := by decide +kernel
theorem dX9_layHeights_45 : decode cX9_layHeights 45 = .ok (.ifCond .lt 108, 3) := by decide +kernel
theorem dX9_layHeights_48 : decode cX9_layHeights 48 = .ok (.aload_n 0, 1) := by decide +kernel
theorem dX9_layHeights_49 : decode cX9_layHeights 49 = .ok (.getfield 64, 3) := by decide +kernel
theorem dX9_layHeights_52 : decode cX9_layHeights 52 = .ok (.iload_n 1, 1) := by decide +kernel
theorem dX9_layHeights_53 : decode cX9_layHeights 53 = .ok (.dup2, 1) := by decide +kernel
theorem dX9_layHeights_54 : decode cX9_layHeights 54 = .ok (.iaload, 1) := by decide +kernel
theorem dX9_layHeights_55 : decode cX9_layHeights 55 = .ok (.aload_n 0, 1) := by decide +kernel
theorem dX9_layHeights_56 : decode cX9_layHeights 56 = .ok (.getfield 67, 3) := by decide +kernel
theorem dX9_layHeights_59 : decode cX9_layHeights 59 = .ok (.iload_n 1, 1) := by decide +kernel
theorem dX9_layHeights_60 : decode cX9_layHeights 60 = .ok (.iaload, 1) := by decide +kernel
theorem dX9_layHeights_61 : decode cX9_layHeights 61 = .ok (.ifCond .ne 7, 3) := by decide +kernel
theorem dX9_layHeights_64 : decode cX9_layHeights 64 = .ok (.iconst 1, 1) := by decide +kernel
theorem dX9_layHeights_65 : decode cX9_layHeights 65 = .ok (.goto 4, 3) := by decide +kernel
theorem dX9_layHeights_68 : decode cX9_layHeights 68 = .ok (.iconst 0, 1) := by decide +kernel
theorem dX9_layHeights_69 : decode cX9_layHeights 69 = .ok (.iadd, 1) := by decide +kernel
theorem dX9_layHeights_70 : decode cX9_layHeights 70 = .ok (.iastore, 1) := by decide +kernel
theorem dX9_layHeights_71 : decode cX9_layHeights 71 = .ok (.iload_n 1, 1) := by decide +kernel
theorem dX9_layHeights_72 : decode cX9_layHeights 72 = .ok (.ifCond .le 75, 3) := by decide +kernel
theorem dX9_layHeights_75 : decode cX9_layHeights 75 = .ok (.aload_n 0, 1) := by decide +kernel
theorem dX9_layHeights_76 : decode cX9_layHeights 76 = .ok (.getfield 18, 3) := by decide +kernel
theorem dX9_layHeights_79 : decode cX9_layHeights 79 = .ok (.iload_n 1, 1) := by decide +kernel
theorem dX9_layHeights_80 : decode cX9_layHeights 80 = .ok (.iaload, 1) := by decide +kernel
theorem dX9_layHeights_81 : decode cX9_layHeights 81 = .ok (.istore_n 2, 1) := by decide +kernel
theorem dX9_layHeights_82 : decode cX9_layHeights 82 = .ok (.aload_n 0, 1) := by decide +kernel
theorem dX9_layHeights_83 : decode cX9_layHeights 83 = .ok (.getfield 67, 3) := by decide +kernel
theorem dX9_layHeights_86 : decode cX9_layHeights 86 = .ok (.iload_n 2, 1) := by decide +kernel
theorem dX9_layHeights_87 : decode cX9_layHeights 87 = .ok (.dup2, 1) := by decide +kernel
theorem dX9_layHeights_88 : decode cX9_layHeights 88 = .ok (.iaload, 1) := by decide +kernel
theorem dX9_layHeights_89 : decode cX9_layHeights 89 = .ok (.iconst 1, 1) := by decide +kernel
theorem dX9_layHeights_90 : decode cX9_layHeights 90 = .ok (.iadd, 1) := by decide +kernel
theorem dX9_layHeights_91 : decode cX9_layHeights 91 = .ok (.iastore, 1) := by decide +kernel
theorem dX9_layHeights_92 : decode cX9_layHeights 92 = .ok (.aload_n 0, 1) := by decide +kernel
theorem dX9_layHeights_93 : decode cX9_layHeights 93 = .ok (.getfield 64, 3) := by decide +kernel
theorem dX9_layHeights_96 : decode cX9_layHeights 96 = .ok (.iload_n 2, 1) := by decide +kernel
theorem dX9_layHeights_97 : decode cX9_layHeights 97 = .ok (.dup2, 1) := by decide +kernel
theorem dX9_layHeights_98 : decode cX9_layHeights 98 = .ok (.iaload, 1) := by decide +kernel
theorem dX9_layHeights_99 : decode cX9_layHeights 99 = .ok (.aload_n 0, 1) := by decide +kernel
theorem dX9_layHeights_100 : decode cX9_layHeights 100 = .ok (.getfield 64, 3) := by decide +kernel
theorem dX9_layHeights_103 : decode cX9_layHeights 103 = .ok (.iload_n 1, 1) := by decide +kernel
theorem dX9_layHeights_104 : decode cX9_layHeights 104 = .ok (.iaload, 1) := by decide +kernel
theorem dX9_layHeights_105 : decode cX9_layHeights 105 = .ok (.iadd, 1) := by decide +kernel
theorem dX9_layHeights_106 : decode cX9_layHeights 106 = .ok (.iastore, 1) := by decide +kernel
theorem dX9_layHeights_107 : decode cX9_layHeights 107 = .ok (.aload_n 0, 1) := by decide +kernel
theorem dX9_layHeights_108 : decode cX9_layHeights 108 = .ok (.getfield 61, 3) := by decide +kernel
theorem dX9_layHeights_111 : decode cX9_layHeights 111 = .ok (.iload_n 2, 1) := by decide +kernel
theorem dX9_layHeights_112 : decode cX9_layHeights 112 = .ok (.aload_n 0, 1) := by decide +kernel
theorem dX9_layHeights_113 : decode cX9_layHeights 113 = .ok (.getfield 61, 3) := by decide +kernel
theorem dX9_layHeights_116 : decode cX9_layHeights 116 = .ok (.iload_n 1, 1) := by decide +kernel
theorem dX9_layHeights_117 : decode cX9_layHeights 117 = .ok (.iaload, 1) := by decide +kernel
theorem dX9_layHeights_118 : decode cX9_layHeights 118 = .ok (.iconst 1, 1) := by decide +kernel
theorem dX9_layHeights_119 : decode cX9_layHeights 119 = .ok (.iadd, 1) := by decide +kernel
theorem dX9_layHeights_120 : decode cX9_layHeights 120 = .ok (.aload_n 0, 1) := by decide +kernel
theorem dX9_layHeights_121 : decode cX9_layHeights 121 = .ok (.getfield 61, 3) := by decide +kernel
theorem dX9_layHeights_124 : decode cX9_layHeights 124 = .ok (.iload_n 2, 1) := by decide +kernel
theorem dX9_layHeights_125 : decode cX9_layHeights 125 = .ok (.iaload, 1) := by decide +kernel
theorem dX9_layHeights_126 : decode cX9_layHeights 126 = .ok (.if_icmp .le 14, 3) := by decide +kernel
theorem dX9_layHeights_129 : decode cX9_layHeights 129 = .ok (.aload_n 0, 1) := by decide +kernel
theorem dX9_layHeights_130 : decode cX9_layHeights 130 = .ok (.getfield 61, 3) := by decide +kernel
theorem dX9_layHeights_133 : decode cX9_layHeights 133 = .ok (.iload_n 1, 1) := by decide +kernel
theorem dX9_layHeights_134 : decode cX9_layHeights 134 = .ok (.iaload, 1) := by decide +kernel
theorem dX9_layHeights_135 : decode cX9_layHeights 135 = .ok (.iconst 1, 1) := by decide +kernel
theorem dX9_layHeights_136 : decode cX9_layHeights 136 = .ok (.iadd, 1) := by decide +kernel
theorem dX9_layHeights_137 : decode cX9_layHeights 137 = .ok (.goto 9, 3) := by decide +kernel
theorem dX9_layHeights_140 : decode cX9_layHeights 140 = .ok (.aload_n 0, 1) := by decide +kernel
theorem dX9_layHeights_141 : decode cX9_layHeights 141 = .ok (.getfield 61, 3) := by decide +kernel
theorem dX9_layHeights_144 : decode cX9_layHeights 144 = .ok (.iload_n 2, 1) := by decide +kernel
theorem dX9_layHeights_145 : decode cX9_layHeights 145 = .ok (.iaload, 1) := by decide +kernel
theorem dX9_layHeights_146 : decode cX9_layHeights 146 = .ok (.iastore, 1) := by decide +kernel
theorem dX9_layHeights_147 : decode cX9_layHeights 147 = .ok (.iinc 1 (-1), 3) := by decide +kernel
theorem dX9_layHeights_150 : decode cX9_layHeights 150 = .ok (.goto (-106), 3) := by decide +kernel
theorem dX9_layHeights_153 : decode cX9_layHeights 153 = .ok (.return_, 1) := by decide +kernel
abbrev MX9_isBelow : ZM := (yX9_isBelow, cX9_isBelow, 4, (Option.some FieldType.boolean), 0, 0)
theorem dX9_isBelow_0 : decode cX9_isBelow 0 = .ok (.iload_n 1, 1) := by decide +kernel
theorem dX9_isBelow_1 : decode cX9_isBelow 1 = .ok (.istore_n 3, 1) := by decide +kernel
theorem dX9_isBelow_2 : decode cX9_isBelow 2 = .ok (.iload_n 3, 1) := by decide +kernel
theorem dX9_isBelow_3 : decode cX9_isBelow 3 = .ok (.iload_n 2, 1) := by decide +kernel
theorem dX9_isBelow_4 : decode cX9_isBelow 4 = .ok (.if_icmp .le 13, 3) := by decide +kernel
theorem dX9_isBelow_7 : decode cX9_isBelow 7 = .ok (.aload_n 0, 1) := by decide +kernel
theorem dX9_isBelow_8 : decode cX9_isBelow 8 = .ok (.getfield 18, 3) := by decide +kernel
theorem dX9_isBelow_11 : decode cX9_isBelow 11 = .ok (.iload_n 3, 1) := by decide +kernel
theorem dX9_isBelow_12 : decode cX9_isBelow 12 = .ok (.iaload, 1) := by decide +kernel
theorem dX9_isBelow_13 : decode cX9_isBelow 13 = .ok (.istore_n 3, 1) := by decide +kernel
theorem dX9_isBelow_14 : decode cX9_isBelow 14 = .ok (.goto (-12), 3) := by decide +kernel
theorem dX9_isBelow_17 : decode cX9_isBelow 17 = .ok (.iload_n 3, 1) := by decide +kernel
theorem dX9_isBelow_18 : decode cX9_isBelow 18 = .ok (.iload_n 2, 1) := by decide +kernel
theorem dX9_isBelow_19 : decode cX9_isBelow 19 = .ok (.if_icmp .ne 7, 3) := by decide +kernel
theorem dX9_isBelow_22 : decode cX9_isBelow 22 = .ok (.iconst 1, 1) := by decide +kernel
theorem dX9_isBelow_23 : decode cX9_isBelow 23 = .ok (.goto 4, 3) := by decide +kernel
theorem dX9_isBelow_26 : decode cX9_isBelow 26 = .ok (.iconst 0, 1) := by decide +kernel
theorem dX9_isBelow_27 : decode cX9_isBelow 27 = .ok (.ireturn, 1) := by decide +kernel
abbrev MX9_claimsBelow : ZM := (yX9_claimsBelow, cX9_claimsBelow, 4, (Option.some FieldType.int), 4, 103)
theorem dX9_claimsBelow_0 : decode cX9_claimsBelow 0 = .ok (.iconst 0, 1) := by decide +kernel
theorem dX9_claimsBelow_1 : decode cX9_claimsBelow 1 = .ok (.istore_n 2, 1) := by decide +kernel
theorem dX9_claimsBelow_2 : decode cX9_claimsBelow 2 = .ok (.iload_n 1, 1) := by decide +kernel
theorem dX9_claimsBelow_3 : decode cX9_claimsBelow 3 = .ok (.istore_n 3, 1) := by decide +kernel
theorem dX9_claimsBelow_4 : decode cX9_claimsBelow 4 = .ok (.iload_n 3, 1) := by decide +kernel
theorem dX9_claimsBelow_5 : decode cX9_claimsBelow 5 = .ok (.aload_n 0, 1) := by decide +kernel
theorem dX9_claimsBelow_6 : decode cX9_claimsBelow 6 = .ok (.getfield 82, 3) := by decide +kernel
theorem dX9_claimsBelow_9 : decode cX9_claimsBelow 9 = .ok (.if_icmp .ge 42, 3) := by decide +kernel
theorem dX9_claimsBelow_12 : decode cX9_claimsBelow 12 = .ok (.aload_n 0, 1) := by decide +kernel
theorem dX9_claimsBelow_13 : decode cX9_claimsBelow 13 = .ok (.iload_n 3, 1) := by decide +kernel
theorem dX9_claimsBelow_14 : decode cX9_claimsBelow 14 = .ok (.iload_n 1, 1) := by decide +kernel
theorem dX9_claimsBelow_15 : decode cX9_claimsBelow 15 = .ok (.invokevirtual 260, 3) := by decide +kernel
theorem dX9_claimsBelow_18 : decode cX9_claimsBelow 18 = .ok (.ifCond .eq 27, 3) := by decide +kernel
theorem dX9_claimsBelow_21 : decode cX9_claimsBelow 21 = .ok (.aload_n 0, 1) := by decide +kernel
theorem dX9_claimsBelow_22 : decode cX9_claimsBelow 22 = .ok (.bipush 6, 2) := by decide +kernel
theorem dX9_claimsBelow_24 : decode cX9_claimsBelow 24 = .ok (.iload_n 3, 1) := by decide +kernel
theorem dX9_claimsBelow_25 : decode cX9_claimsBelow 25 = .ok (.iadd, 1) := by decide +kernel
theorem dX9_claimsBelow_26 : decode cX9_claimsBelow 26 = .ok (.invokevirtual 198, 3) := by decide +kernel
theorem dX9_claimsBelow_29 : decode cX9_claimsBelow 29 = .ok (.iload_n 2, 1) := by decide +kernel
theorem dX9_claimsBelow_30 : decode cX9_claimsBelow 30 = .ok (.aload_n 0, 1) := by decide +kernel
theorem dX9_claimsBelow_31 : decode cX9_claimsBelow 31 = .ok (.iconst 0, 1) := by decide +kernel
theorem dX9_claimsBelow_32 : decode cX9_claimsBelow 32 = .ok (.invokevirtual 225, 3) := by decide +kernel
theorem dX9_claimsBelow_35 : decode cX9_claimsBelow 35 = .ok (.ifCond .ne 7, 3) := by decide +kernel
theorem dX9_claimsBelow_38 : decode cX9_claimsBelow 38 = .ok (.iconst 1, 1) := by decide +kernel
theorem dX9_claimsBelow_39 : decode cX9_claimsBelow 39 = .ok (.goto 4, 3) := by decide +kernel
theorem dX9_claimsBelow_42 : decode cX9_claimsBelow 42 = .ok (.iconst 0, 1) := by decide +kernel
theorem dX9_claimsBelow_43 : decode cX9_claimsBelow 43 = .ok (.iadd, 1) := by decide +kernel
theorem dX9_claimsBelow_44 : decode cX9_claimsBelow 44 = .ok (.istore_n 2, 1) := by decide +kernel
theorem dX9_claimsBelow_45 : decode cX9_claimsBelow 45 = .ok (.iinc 3 1, 3) := by decide +kernel
theorem dX9_claimsBelow_48 : decode cX9_claimsBelow 48 = .ok (.goto (-44), 3) := by decide +kernel
theorem dX9_claimsBelow_51 : decode cX9_claimsBelow 51 = .ok (.iload_n 2, 1) := by decide +kernel
theorem dX9_claimsBelow_52 : decode cX9_claimsBelow 52 = .ok (.ireturn, 1) := by decide +kernel
abbrev MX9_ofNode : ZM := (yX9_ofNode, cX9_ofNode, 3, (Option.some FieldType.int), 5, 126)
theorem dX9_ofNode_0 : decode cX9_ofNode 0 = .ok (.aload_n 0, 1) := by decide +kernel
theorem dX9_ofNode_1 : decode cX9_ofNode 1 = .ok (.iload_n 1, 1) := by decide +kernel
theorem dX9_ofNode_2 : decode cX9_ofNode 2 = .ok (.invokevirtual 257, 3) := by decide +kernel
theorem dX9_ofNode_5 : decode cX9_ofNode 5 = .ok (.ifCond .eq 15, 3) := by decide +kernel
theorem dX9_ofNode_8 : decode cX9_ofNode 8 = .ok (.iload_n 2, 1) := by decide +kernel
theorem dX9_ofNode_9 : decode cX9_ofNode 9 = .ok (.i2l, 1) := by decide +kernel
theorem dX9_ofNode_10 : decode cX9_ofNode 10 = .ok (.lconst 0, 1) := by decide +kernel
theorem dX9_ofNode_11 : decode cX9_ofNode 11 = .ok (.ldc2_w 263, 3) := by decide +kernel
theorem dX9_ofNode_14 : decode cX9_ofNode 14 = .ok (.invokestatic 134, 3) := by decide +kernel
theorem dX9_ofNode_17 : decode cX9_ofNode 17 = .ok (.ifCond .ne 5, 3) := by decide +kernel
theorem dX9_ofNode_20 : decode cX9_ofNode 20 = .ok (.iconst (-1), 1) := by decide +kernel
theorem dX9_ofNode_21 : decode cX9_ofNode 21 = .ok (.ireturn, 1) := by decide +kernel
theorem dX9_ofNode_22 : decode cX9_ofNode 22 = .ok (.aload_n 0, 1) := by decide +kernel
theorem dX9_ofNode_23 : decode cX9_ofNode 23 = .ok (.invokevirtual 265, 3) := by decide +kernel
theorem dX9_ofNode_26 : decode cX9_ofNode 26 = .ok (.iload_n 2, 1) := by decide +kernel
theorem dX9_ofNode_27 : decode cX9_ofNode 27 = .ok (.tableswitch 105 0 7 #[45, 52, 62, 71, 78, 85, 92, 98], 45) := by decide +kernel
theorem dX9_ofNode_72 : decode cX9_ofNode 72 = .ok (.aload_n 0, 1) := by decide +kernel
theorem dX9_ofNode_73 : decode cX9_ofNode 73 = .ok (.getfield 18, 3) := by decide +kernel
theorem dX9_ofNode_76 : decode cX9_ofNode 76 = .ok (.iload_n 1, 1) := by decide +kernel
theorem dX9_ofNode_77 : decode cX9_ofNode 77 = .ok (.iaload, 1) := by decide +kernel
theorem dX9_ofNode_78 : decode cX9_ofNode 78 = .ok (.ireturn, 1) := by decide +kernel
theorem dX9_ofNode_79 : decode cX9_ofNode 79 = .ok (.aload_n 0, 1) := by decide +kernel
theorem dX9_ofNode_80 : decode cX9_ofNode 80 = .ok (.getfield 15, 3) := by decide +kernel
theorem dX9_ofNode_83 : decode cX9_ofNode 83 = .ok (.bipush 6, 2) := by decide +kernel
theorem dX9_ofNode_85 : decode cX9_ofNode 85 = .ok (.iload_n 1, 1) := by decide +kernel
theorem dX9_ofNode_86 : decode cX9_ofNode 86 = .ok (.iadd, 1) := by decide +kernel
theorem dX9_ofNode_87 : decode cX9_ofNode 87 = .ok (.iaload, 1) := by decide +kernel
theorem dX9_ofNode_88 : decode cX9_ofNode 88 = .ok (.ireturn, 1) := by decide +kernel
theorem dX9_ofNode_89 : decode cX9_ofNode 89 = .ok (.aload_n 0, 1) := by decide +kernel
theorem dX9_ofNode_90 : decode cX9_ofNode 90 = .ok (.bipush 6, 2) := by decide +kernel
theorem dX9_ofNode_92 : decode cX9_ofNode 92 = .ok (.iload_n 1, 1) := by decide +kernel
theorem dX9_ofNode_93 : decode cX9_ofNode 93 = .ok (.iadd, 1) := by decide +kernel
theorem dX9_ofNode_94 : decode cX9_ofNode 94 = .ok (.invokevirtual 201, 3) := by decide +kernel
theorem dX9_ofNode_97 : decode cX9_ofNode 97 = .ok (.ireturn, 1) := by decide +kernel
theorem dX9_ofNode_98 : decode cX9_ofNode 98 = .ok (.aload_n 0, 1) := by decide +kernel
theorem dX9_ofNode_99 : decode cX9_ofNode 99 = .ok (.getfield 67, 3) := by decide +kernel
theorem dX9_ofNode_102 : decode cX9_ofNode 102 = .ok (.iload_n 1, 1) := by decide +kernel
theorem dX9_ofNode_103 : decode cX9_ofNode 103 = .ok (.iaload, 1) := by decide +kernel
theorem dX9_ofNode_104 : decode cX9_ofNode 104 = .ok (.ireturn, 1) := by decide +kernel
theorem dX9_ofNode_105 : decode cX9_ofNode 105 = .ok (.aload_n 0, 1) := by decide +kernel
theorem dX9_ofNode_106 : decode cX9_ofNode 106 = .ok (.getfield 61, 3) := by decide +kernel
theorem dX9_ofNode_109 : decode cX9_ofNode 109 = .ok (.iload_n 1, 1) := by decide +kernel
theorem dX9_ofNode_110 : decode cX9_ofNode 110 = .ok (.iaload, 1) := by decide +kernel
theorem dX9_ofNode_111 : decode cX9_ofNode 111 = .ok (.ireturn, 1) := by decide +kernel
theorem dX9_ofNode_112 : decode cX9_ofNode 112 = .ok (.aload_n 0, 1) := by decide +kernel
theorem dX9_ofNode_113 : decode cX9_ofNode 113 = .ok (.getfield 64, 3) := by decide +kernel
theorem dX9_ofNode_116 : decode cX9_ofNode 116 = .ok (.iload_n 1, 1) := by decide +kernel
theorem dX9_ofNode_117 : decode cX9_ofNode 117 = .ok (.iaload, 1) := by decide +kernel
theorem dX9_ofNode_118 : decode cX9_ofNode 118 = .ok (.ireturn, 1) := by decide +kernel
theorem dX9_ofNode_119 : decode cX9_ofNode 119 = .ok (.aload_n 0, 1) := by decide +kernel
theorem dX9_ofNode_120 : decode cX9_ofNode 120 = .ok (.iload_n 1, 1) := by decide +kernel
theorem dX9_ofNode_121 : decode cX9_ofNode 121 = .ok (.invokevirtual 268, 3) := by decide +kernel
theorem dX9_ofNode_124 : decode cX9_ofNode 124 = .ok (.ireturn, 1) := by decide +kernel
theorem dX9_ofNode_125 : decode cX9_ofNode 125 = .ok (.aload_n 0, 1) := by decide +kernel
theorem dX9_ofNode_126 : decode cX9_ofNode 126 = .ok (.getfield 21, 3) := by decide +kernel
theorem dX9_ofNode_129 : decode cX9_ofNode 129 = .ok (.iload_n 1, 1) := by decide +kernel
theorem dX9_ofNode_130 : decode cX9_ofNode 130 = .ok (.iaload, 1) := by decide +kernel
theorem dX9_ofNode_131 : decode cX9_ofNode 131 = .ok (.ireturn, 1) := by decide +kernel
theorem dX9_ofNode_132 : decode cX9_ofNode 132 = .ok (.aload_n 0, 1) := by decide +kernel
theorem dX9_ofNode_133 : decode cX9_ofNode 133 = .ok (.bipush 6, 2) := by decide +kernel
theorem dX9_ofNode_135 : decode cX9_ofNode 135 = .ok (.iload_n 1, 1) := by decide +kernel
theorem dX9_ofNode_136 : decode cX9_ofNode 136 = .ok (.iadd, 1) := by decide +kernel
theorem dX9_ofNode_137 : decode cX9_ofNode 137 = .ok (.aload_n 0, 1) := by decide +kernel
theorem dX9_ofNode_138 : decode cX9_ofNode 138 = .ok (.getfield 15, 3) := by decide +kernel
theorem dX9_ofNode_141 : decode cX9_ofNode 141 = .ok (.bipush 6, 2) := by decide +kernel
theorem dX9_ofNode_143 : decode cX9_ofNode 143 = .ok (.iload_n 1, 1) := by decide +kernel
theorem dX9_ofNode_144 : decode cX9_ofNode 144 = .ok (.iadd, 1) := by decide +kernel
theorem dX9_ofNode_145 : decode cX9_ofNode 145 = .ok (.iaload, 1) := by decide +kernel
theorem dX9_ofNode_146 : decode cX9_ofNode 146 = .ok (.iconst (-1), 1) := by decide +kernel
theorem dX9_ofNode_147 : decode cX9_ofNode 147 = .ok (.invokevirtual 104, 3) := by decide +kernel
theorem dX9_ofNode_150 : decode cX9_ofNode 150 = .ok (.l2i, 1) := by decide +kernel
theorem dX9_ofNode_151 : decode cX9_ofNode 151 = .ok (.ireturn, 1) := by decide +kernel
abbrev MX9_nodeTo : ZM := (yX9_nodeTo, cX9_nodeTo, 3, (Option.some FieldType.int), 2, 55)
theorem dX9_nodeTo_0 : decode cX9_nodeTo 0 = .ok (.aload_n 0, 1) := by decide +kernel
theorem dX9_nodeTo_1 : decode cX9_nodeTo 1 = .ok (.iload_n 1, 1) := by decide +kernel
theorem dX9_nodeTo_2 : decode cX9_nodeTo 2 = .ok (.invokevirtual 257, 3) := by decide +kernel
theorem dX9_nodeTo_5 : decode cX9_nodeTo 5 = .ok (.ifCond .eq 10, 3) := by decide +kernel
theorem dX9_nodeTo_8 : decode cX9_nodeTo 8 = .ok (.iload_n 2, 1) := by decide +kernel
theorem dX9_nodeTo_9 : decode cX9_nodeTo 9 = .ok (.invokestatic 86, 3) := by decide +kernel
theorem dX9_nodeTo_12 : decode cX9_nodeTo 12 = .ok (.ifCond .ne 5, 3) := by decide +kernel
theorem dX9_nodeTo_15 : decode cX9_nodeTo 15 = .ok (.iconst (-1), 1) := by decide +kernel
theorem dX9_nodeTo_16 : decode cX9_nodeTo 16 = .ok (.ireturn, 1) := by decide +kernel
theorem dX9_nodeTo_17 : decode cX9_nodeTo 17 = .ok (.aload_n 0, 1) := by decide +kernel
theorem dX9_nodeTo_18 : decode cX9_nodeTo 18 = .ok (.bipush 6, 2) := by decide +kernel
theorem dX9_nodeTo_20 : decode cX9_nodeTo 20 = .ok (.iload_n 1, 1) := by decide +kernel
theorem dX9_nodeTo_21 : decode cX9_nodeTo 21 = .ok (.iadd, 1) := by decide +kernel
theorem dX9_nodeTo_22 : decode cX9_nodeTo 22 = .ok (.iload_n 2, 1) := by decide +kernel
theorem dX9_nodeTo_23 : decode cX9_nodeTo 23 = .ok (.invokevirtual 128, 3) := by decide +kernel
theorem dX9_nodeTo_26 : decode cX9_nodeTo 26 = .ok (.aload_n 0, 1) := by decide +kernel
theorem dX9_nodeTo_27 : decode cX9_nodeTo 27 = .ok (.iload_n 2, 1) := by decide +kernel
theorem dX9_nodeTo_28 : decode cX9_nodeTo 28 = .ok (.aload_n 0, 1) := by decide +kernel
theorem dX9_nodeTo_29 : decode cX9_nodeTo 29 = .ok (.getfield 15, 3) := by decide +kernel
theorem dX9_nodeTo_32 : decode cX9_nodeTo 32 = .ok (.iload_n 2, 1) := by decide +kernel
theorem dX9_nodeTo_33 : decode cX9_nodeTo 33 = .ok (.iaload, 1) := by decide +kernel
theorem dX9_nodeTo_34 : decode cX9_nodeTo 34 = .ok (.iconst (-1), 1) := by decide +kernel
theorem dX9_nodeTo_35 : decode cX9_nodeTo 35 = .ok (.invokevirtual 104, 3) := by decide +kernel
theorem dX9_nodeTo_38 : decode cX9_nodeTo 38 = .ok (.l2i, 1) := by decide +kernel
theorem dX9_nodeTo_39 : decode cX9_nodeTo 39 = .ok (.ireturn, 1) := by decide +kernel
abbrev MX9_firstUnder : ZM := (yX9_firstUnder, cX9_firstUnder, 4, (Option.some FieldType.int), 0, 0)
theorem dX9_firstUnder_0 : decode cX9_firstUnder 0 = .ok (.iload_n 2, 1) := by decide +kernel
theorem dX9_firstUnder_1 : decode cX9_firstUnder 1 = .ok (.iconst 1, 1) := by decide +kernel
theorem dX9_firstUnder_2 : decode cX9_firstUnder 2 = .ok (.iadd, 1) := by decide +kernel
theorem dX9_firstUnder_3 : decode cX9_firstUnder 3 = .ok (.istore_n 3, 1) := by decide +kernel
theorem dX9_firstUnder_4 : decode cX9_firstUnder 4 = .ok (.iload_n 3, 1) := by decide +kernel
theorem dX9_firstUnder_5 : decode cX9_firstUnder 5 = .ok (.aload_n 0, 1) := by decide +kernel
theorem dX9_firstUnder_6 : decode cX9_firstUnder 6 = .ok (.getfield 82, 3) := by decide +kernel
theorem dX9_firstUnder_9 : decode cX9_firstUnder 9 = .ok (.if_icmp .ge 21, 3) := by decide +kernel
theorem dX9_firstUnder_12 : decode cX9_firstUnder 12 = .ok (.aload_n 0, 1) := by decide +kernel
theorem dX9_firstUnder_13 : decode cX9_firstUnder 13 = .ok (.getfield 18, 3) := by decide +kernel
theorem dX9_firstUnder_16 : decode cX9_firstUnder 16 = .ok (.iload_n 3, 1) := by decide +kernel
theorem dX9_firstUnder_17 : decode cX9_firstUnder 17 = .ok (.iaload, 1) := by decide +kernel
theorem dX9_firstUnder_18 : decode cX9_firstUnder 18 = .ok (.iload_n 1, 1) := by decide +kernel
theorem dX9_firstUnder_19 : decode cX9_firstUnder 19 = .ok (.if_icmp .ne 5, 3) := by decide +kernel
theorem dX9_firstUnder_22 : decode cX9_firstUnder 22 = .ok (.iload_n 3, 1) := by decide +kernel
theorem dX9_firstUnder_23 : decode cX9_firstUnder 23 = .ok (.ireturn, 1) := by decide +kernel
theorem dX9_firstUnder_24 : decode cX9_firstUnder 24 = .ok (.iinc 3 1, 3) := by decide +kernel
theorem dX9_firstUnder_27 : decode cX9_firstUnder 27 = .ok (.goto (-23), 3) := by decide +kernel
theorem dX9_firstUnder_30 : decode cX9_firstUnder 30 = .ok (.bipush (-2), 2) := by decide +kernel
theorem dX9_firstUnder_32 : decode cX9_firstUnder 32 = .ok (.ireturn, 1) := by decide +kernel
abbrev MX9_behind : ZM := (yX9_behind, cX9_behind, 4, (Option.some FieldType.int), 1, 23)
theorem dX9_behind_0 : decode cX9_behind 0 = .ok (.aload_n 0, 1) := by decide +kernel
theorem dX9_behind_1 : decode cX9_behind 1 = .ok (.iload_n 1, 1) := by decide +kernel
theorem dX9_behind_2 : decode cX9_behind 2 = .ok (.iconst (-1), 1) := by decide +kernel
theorem dX9_behind_3 : decode cX9_behind 3 = .ok (.invokevirtual 271, 3) := by decide +kernel
theorem dX9_behind_6 : decode cX9_behind 6 = .ok (.istore_n 2, 1) := by decide +kernel
theorem dX9_behind_7 : decode cX9_behind 7 = .ok (.iload_n 1, 1) := by decide +kernel
theorem dX9_behind_8 : decode cX9_behind 8 = .ok (.istore_n 3, 1) := by decide +kernel
theorem dX9_behind_9 : decode cX9_behind 9 = .ok (.iload_n 2, 1) := by decide +kernel
theorem dX9_behind_10 : decode cX9_behind 10 = .ok (.ifCond .ge 29, 3) := by decide +kernel
theorem dX9_behind_13 : decode cX9_behind 13 = .ok (.iload_n 3, 1) := by decide +kernel
theorem dX9_behind_14 : decode cX9_behind 14 = .ok (.ifCond .le 25, 3) := by decide +kernel
theorem dX9_behind_17 : decode cX9_behind 17 = .ok (.aload_n 0, 1) := by decide +kernel
theorem dX9_behind_18 : decode cX9_behind 18 = .ok (.aload_n 0, 1) := by decide +kernel
theorem dX9_behind_19 : decode cX9_behind 19 = .ok (.getfield 18, 3) := by decide +kernel
theorem dX9_behind_22 : decode cX9_behind 22 = .ok (.iload_n 3, 1) := by decide +kernel
theorem dX9_behind_23 : decode cX9_behind 23 = .ok (.iaload, 1) := by decide +kernel
theorem dX9_behind_24 : decode cX9_behind 24 = .ok (.iload_n 3, 1) := by decide +kernel
theorem dX9_behind_25 : decode cX9_behind 25 = .ok (.invokevirtual 271, 3) := by decide +kernel
theorem dX9_behind_28 : decode cX9_behind 28 = .ok (.istore_n 2, 1) := by decide +kernel
theorem dX9_behind_29 : decode cX9_behind 29 = .ok (.aload_n 0, 1) := by decide +kernel
theorem dX9_behind_30 : decode cX9_behind 30 = .ok (.getfield 18, 3) := by decide +kernel
theorem dX9_behind_33 : decode cX9_behind 33 = .ok (.iload_n 3, 1) := by decide +kernel
theorem dX9_behind_34 : decode cX9_behind 34 = .ok (.iaload, 1) := by decide +kernel
theorem dX9_behind_35 : decode cX9_behind 35 = .ok (.istore_n 3, 1) := by decide +kernel
theorem dX9_behind_36 : decode cX9_behind 36 = .ok (.goto (-27), 3) := by decide +kernel
theorem dX9_behind_39 : decode cX9_behind 39 = .ok (.iload_n 2, 1) := by decide +kernel
theorem dX9_behind_40 : decode cX9_behind 40 = .ok (.ireturn, 1) := by decide +kernel
abbrev MX9_walk : ZM := (yX9_walk, cX9_walk, 4, (Option.some FieldType.int), 2, 46)
theorem dX9_walk_0 : decode cX9_walk 0 = .ok (.iload_n 1, 1) := by decide +kernel
theorem dX9_walk_1 : decode cX9_walk 1 = .ok (.i2l, 1) := by decide +kernel
theorem dX9_walk_2 : decode cX9_walk 2 = .ok (.lconst 0, 1) := by decide +kernel
theorem dX9_walk_3 : decode cX9_walk 3 = .ok (.aload_n 0, 1) := by decide +kernel
theorem dX9_walk_4 : decode cX9_walk 4 = .ok (.getfield 82, 3) := by decide +kernel
theorem dX9_walk_7 : decode cX9_walk 7 = .ok (.iconst 1, 1) := by decide +kernel
theorem dX9_walk_8 : decode cX9_walk 8 = .ok (.isub, 1) := by decide +kernel
theorem dX9_walk_9 : decode cX9_walk 9 = .ok (.i2l, 1) := by decide +kernel
theorem dX9_walk_10 : decode cX9_walk 10 = .ok (.invokestatic 134, 3) := by decide +kernel
theorem dX9_walk_13 : decode cX9_walk 13 = .ok (.ifCond .ne 6, 3) := by decide +kernel
theorem dX9_walk_16 : decode cX9_walk 16 = .ok (.bipush (-2), 2) := by decide +kernel
theorem dX9_walk_18 : decode cX9_walk 18 = .ok (.ireturn, 1) := by decide +kernel
theorem dX9_walk_19 : decode cX9_walk 19 = .ok (.iconst 0, 1) := by decide +kernel
theorem dX9_walk_20 : decode cX9_walk 20 = .ok (.istore_n 2, 1) := by decide +kernel
theorem dX9_walk_21 : decode cX9_walk 21 = .ok (.iconst 0, 1) := by decide +kernel
theorem dX9_walk_22 : decode cX9_walk 22 = .ok (.istore_n 3, 1) := by decide +kernel
theorem dX9_walk_23 : decode cX9_walk 23 = .ok (.iload_n 3, 1) := by decide +kernel
theorem dX9_walk_24 : decode cX9_walk 24 = .ok (.iload_n 1, 1) := by decide +kernel
theorem dX9_walk_25 : decode cX9_walk 25 = .ok (.if_icmp .ge 15, 3) := by decide +kernel
theorem dX9_walk_28 : decode cX9_walk 28 = .ok (.aload_n 0, 1) := by decide +kernel
theorem dX9_walk_29 : decode cX9_walk 29 = .ok (.iload_n 2, 1) := by decide +kernel
theorem dX9_walk_30 : decode cX9_walk 30 = .ok (.invokevirtual 274, 3) := by decide +kernel
theorem dX9_walk_33 : decode cX9_walk 33 = .ok (.istore_n 2, 1) := by decide +kernel
theorem dX9_walk_34 : decode cX9_walk 34 = .ok (.iinc 3 1, 3) := by decide +kernel
theorem dX9_walk_37 : decode cX9_walk 37 = .ok (.goto (-14), 3) := by decide +kernel
theorem dX9_walk_40 : decode cX9_walk 40 = .ok (.iload_n 2, 1) := by decide +kernel
theorem dX9_walk_41 : decode cX9_walk 41 = .ok (.ireturn, 1) := by decide +kernel
abbrev MX9_cut : ZM := (yX9_cut, cX9_cut, 7, (Option.some FieldType.int), 1, 23)
theorem dX9_cut_0 : decode cX9_cut 0 = .ok (.aload_n 0, 1) := by decide +kernel
theorem dX9_cut_1 : decode cX9_cut 1 = .ok (.iload_n 1, 1) := by decide +kernel
theorem dX9_cut_2 : decode cX9_cut 2 = .ok (.invokevirtual 257, 3) := by decide +kernel
theorem dX9_cut_5 : decode cX9_cut 5 = .ok (.ifCond .ne 5, 3) := by decide +kernel
theorem dX9_cut_8 : decode cX9_cut 8 = .ok (.iconst (-1), 1) := by decide +kernel
theorem dX9_cut_9 : decode cX9_cut 9 = .ok (.ireturn, 1) := by decide +kernel
theorem dX9_cut_10 : decode cX9_cut 10 = .ok (.iconst 0, 1) := by decide +kernel
theorem dX9_cut_11 : decode cX9_cut 11 = .ok (.istore_n 2, 1) := by decide +kernel
theorem dX9_cut_12 : decode cX9_cut 12 = .ok (.iconst 0, 1) := by decide +kernel
theorem dX9_cut_13 : decode cX9_cut 13 = .ok (.istore_n 3, 1) := by decide +kernel
theorem dX9_cut_14 : decode cX9_cut 14 = .ok (.iload_n 3, 1) := by decide +kernel
theorem dX9_cut_15 : decode cX9_cut 15 = .ok (.aload_n 0, 1) := by decide +kernel
theorem dX9_cut_16 : decode cX9_cut 16 = .ok (.getfield 82, 3) := by decide +kernel
theorem dX9_cut_19 : decode cX9_cut 19 = .ok (.if_icmp .ge 60, 3) := by decide +kernel
theorem dX9_cut_22 : decode cX9_cut 22 = .ok (.iload_n 3, 1) := by decide +kernel
theorem dX9_cut_23 : decode cX9_cut 23 = .ok (.iload_n 1, 1) := by decide +kernel
theorem dX9_cut_24 : decode cX9_cut 24 = .ok (.if_icmp .lt 16, 3) := by decide +kernel
theorem dX9_cut_27 : decode cX9_cut 27 = .ok (.aload_n 0, 1) := by decide +kernel
theorem dX9_cut_28 : decode cX9_cut 28 = .ok (.iload_n 3, 1) := by decide +kernel
theorem dX9_cut_29 : decode cX9_cut 29 = .ok (.iload_n 1, 1) := by decide +kernel
theorem dX9_cut_30 : decode cX9_cut 30 = .ok (.invokevirtual 260, 3) := by decide +kernel
theorem dX9_cut_33 : decode cX9_cut 33 = .ok (.ifCond .eq 7, 3) := by decide +kernel
theorem dX9_cut_36 : decode cX9_cut 36 = .ok (.iconst 1, 1) := by decide +kernel
theorem dX9_cut_37 : decode cX9_cut 37 = .ok (.goto 4, 3) := by decide +kernel
theorem dX9_cut_40 : decode cX9_cut 40 = .ok (.iconst 0, 1) := by decide +kernel
theorem dX9_cut_41 : decode cX9_cut 41 = .ok (.istore 4, 2) := by decide +kernel
theorem dX9_cut_43 : decode cX9_cut 43 = .ok (.aload_n 0, 1) := by decide +kernel
theorem dX9_cut_44 : decode cX9_cut 44 = .ok (.getfield 70, 3) := by decide +kernel
theorem dX9_cut_47 : decode cX9_cut 47 = .ok (.iload_n 3, 1) := by decide +kernel
theorem dX9_cut_48 : decode cX9_cut 48 = .ok (.iload 4, 2) := by decide +kernel
theorem dX9_cut_50 : decode cX9_cut 50 = .ok (.ifCond .eq 8, 3) := by decide +kernel
theorem dX9_cut_53 : decode cX9_cut 53 = .ok (.bipush (-2), 2) := by decide +kernel
theorem dX9_cut_55 : decode cX9_cut 55 = .ok (.goto 4, 3) := by decide +kernel
theorem dX9_cut_58 : decode cX9_cut 58 = .ok (.iload_n 2, 1) := by decide +kernel
theorem dX9_cut_59 : decode cX9_cut 59 = .ok (.iastore, 1) := by decide +kernel
theorem dX9_cut_60 : decode cX9_cut 60 = .ok (.iload_n 2, 1) := by decide +kernel
theorem dX9_cut_61 : decode cX9_cut 61 = .ok (.iload 4, 2) := by decide +kernel
theorem dX9_cut_63 : decode cX9_cut 63 = .ok (.ifCond .eq 7, 3) := by decide +kernel
theorem dX9_cut_66 : decode cX9_cut 66 = .ok (.iconst 0, 1) := by decide +kernel
theorem dX9_cut_67 : decode cX9_cut 67 = .ok (.goto 4, 3) := by decide +kernel
theorem dX9_cut_70 : decode cX9_cut 70 = .ok (.iconst 1, 1) := by decide +kernel
theorem dX9_cut_71 : decode cX9_cut 71 = .ok (.iadd, 1) := by decide +kernel
theorem dX9_cut_72 : decode cX9_cut 72 = .ok (.istore_n 2, 1) := by decide +kernel
theorem dX9_cut_73 : decode cX9_cut 73 = .ok (.iinc 3 1, 3) := by decide +kernel
theorem dX9_cut_76 : decode cX9_cut 76 = .ok (.goto (-62), 3) := by decide +kernel
theorem dX9_cut_79 : decode cX9_cut 79 = .ok (.iconst 0, 1) := by decide +kernel
theorem dX9_cut_80 : decode cX9_cut 80 = .ok (.istore_n 3, 1) := by decide +kernel
theorem dX9_cut_81 : decode cX9_cut 81 = .ok (.iload_n 3, 1) := by decide +kernel
theorem dX9_cut_82 : decode cX9_cut 82 = .ok (.aload_n 0, 1) := by decide +kernel
theorem dX9_cut_83 : decode cX9_cut 83 = .ok (.getfield 82, 3) := by decide +kernel
theorem dX9_cut_86 : decode cX9_cut 86 = .ok (.if_icmp .ge 88, 3) := by decide +kernel
theorem dX9_cut_89 : decode cX9_cut 89 = .ok (.aload_n 0, 1) := by decide +kernel
theorem dX9_cut_90 : decode cX9_cut 90 = .ok (.getfield 70, 3) := by decide +kernel
theorem dX9_cut_93 : decode cX9_cut 93 = .ok (.iload_n 3, 1) := by decide +kernel
theorem dX9_cut_94 : decode cX9_cut 94 = .ok (.iaload, 1) := by decide +kernel
theorem dX9_cut_95 : decode cX9_cut 95 = .ok (.istore 4, 2) := by decide +kernel
theorem dX9_cut_97 : decode cX9_cut 97 = .ok (.iload 4, 2) := by decide +kernel
theorem dX9_cut_99 : decode cX9_cut 99 = .ok (.ifCond .lt 69, 3) := by decide +kernel
theorem dX9_cut_102 : decode cX9_cut 102 = .ok (.aload_n 0, 1) := by decide +kernel
theorem dX9_cut_103 : decode cX9_cut 103 = .ok (.getfield 18, 3) := by decide +kernel
theorem dX9_cut_106 : decode cX9_cut 106 = .ok (.iload_n 3, 1) := by decide +kernel
theorem dX9_cut_107 : decode cX9_cut 107 = .ok (.iaload, 1) := by decide +kernel
theorem dX9_cut_108 : decode cX9_cut 108 = .ok (.ifCond .ge 8, 3) := by decide +kernel
theorem dX9_cut_111 : decode cX9_cut 111 = .ok (.bipush (-2), 2) := by decide +kernel
theorem dX9_cut_113 : decode cX9_cut 113 = .ok (.goto 14, 3) := by decide +kernel
theorem dX9_cut_116 : decode cX9_cut 116 = .ok (.aload_n 0, 1) := by decide +kernel
theorem dX9_cut_117 : decode cX9_cut 117 = .ok (.getfield 70, 3) := by decide +kernel
theorem dX9_cut_120 : decode cX9_cut 120 = .ok (.aload_n 0, 1) := by decide +kernel
theorem dX9_cut_121 : decode cX9_cut 121 = .ok (.getfield 18, 3) := by decide +kernel
theorem dX9_cut_124 : decode cX9_cut 124 = .ok (.iload_n 3, 1) := by decide +kernel
theorem dX9_cut_125 : decode cX9_cut 125 = .ok (.iaload, 1) := by decide +kernel
theorem dX9_cut_126 : decode cX9_cut 126 = .ok (.iaload, 1) := by decide +kernel
theorem dX9_cut_127 : decode cX9_cut 127 = .ok (.istore 5, 2) := by decide +kernel
theorem dX9_cut_129 : decode cX9_cut 129 = .ok (.aload_n 0, 1) := by decide +kernel
theorem dX9_cut_130 : decode cX9_cut 130 = .ok (.getfield 21, 3) := by decide +kernel
theorem dX9_cut_133 : decode cX9_cut 133 = .ok (.iload_n 3, 1) := by decide +kernel
theorem dX9_cut_134 : decode cX9_cut 134 = .ok (.iaload, 1) := by decide +kernel
theorem dX9_cut_135 : decode cX9_cut 135 = .ok (.istore 6, 2) := by decide +kernel
theorem dX9_cut_137 : decode cX9_cut 137 = .ok (.aload_n 0, 1) := by decide +kernel
theorem dX9_cut_138 : decode cX9_cut 138 = .ok (.bipush 6, 2) := by decide +kernel
theorem dX9_cut_140 : decode cX9_cut 140 = .ok (.iload_n 3, 1) := by decide +kernel
theorem dX9_cut_141 : decode cX9_cut 141 = .ok (.iadd, 1) := by decide +kernel
theorem dX9_cut_142 : decode cX9_cut 142 = .ok (.bipush 6, 2) := by decide +kernel
theorem dX9_cut_144 : decode cX9_cut 144 = .ok (.iload 4, 2) := by decide +kernel
theorem dX9_cut_146 : decode cX9_cut 146 = .ok (.iadd, 1) := by decide +kernel
theorem dX9_cut_147 : decode cX9_cut 147 = .ok (.invokevirtual 128, 3) := by decide +kernel
theorem dX9_cut_150 : decode cX9_cut 150 = .ok (.aload_n 0, 1) := by decide +kernel
theorem dX9_cut_151 : decode cX9_cut 151 = .ok (.getfield 18, 3) := by decide +kernel
theorem dX9_cut_154 : decode cX9_cut 154 = .ok (.iload 4, 2) := by decide +kernel
theorem dX9_cut_156 : decode cX9_cut 156 = .ok (.iload 5, 2) := by decide +kernel
theorem dX9_cut_158 : decode cX9_cut 158 = .ok (.iastore, 1) := by decide +kernel
theorem dX9_cut_159 : decode cX9_cut 159 = .ok (.aload_n 0, 1) := by decide +kernel
theorem dX9_cut_160 : decode cX9_cut 160 = .ok (.getfield 21, 3) := by decide +kernel
theorem dX9_cut_163 : decode cX9_cut 163 = .ok (.iload 4, 2) := by decide +kernel
theorem dX9_cut_165 : decode cX9_cut 165 = .ok (.iload 6, 2) := by decide +kernel
theorem dX9_cut_167 : decode cX9_cut 167 = .ok (.iastore, 1) := by decide +kernel
theorem dX9_cut_168 : decode cX9_cut 168 = .ok (.iinc 3 1, 3) := by decide +kernel
theorem dX9_cut_171 : decode cX9_cut 171 = .ok (.goto (-90), 3) := by decide +kernel
theorem dX9_cut_174 : decode cX9_cut 174 = .ok (.aload_n 0, 1) := by decide +kernel
theorem dX9_cut_175 : decode cX9_cut 175 = .ok (.iload_n 2, 1) := by decide +kernel
theorem dX9_cut_176 : decode cX9_cut 176 = .ok (.putfield 82, 3) := by decide +kernel
theorem dX9_cut_179 : decode cX9_cut 179 = .ok (.aload_n 0, 1) := by decide +kernel
theorem dX9_cut_180 : decode cX9_cut 180 = .ok (.getfield 82, 3) := by decide +kernel
theorem dX9_cut_183 : decode cX9_cut 183 = .ok (.ireturn, 1) := by decide +kernel
abbrev MX9_isSheet : ZM := (yX9_isSheet, cX9_isSheet, 1, (Option.some FieldType.boolean), 0, 0)
theorem dX9_isSheet_0 : decode cX9_isSheet 0 = .ok (.iload_n 0, 1) := by decide +kernel
theorem dX9_isSheet_1 : decode cX9_isSheet 1 = .ok (.ifCond .lt 12, 3) := by decide +kernel
theorem dX9_isSheet_4 : decode cX9_isSheet 4 = .ok (.iload_n 0, 1) := by decide +kernel
theorem dX9_isSheet_5 : decode cX9_isSheet 5 = .ok (.iconst 4, 1) := by decide +kernel
theorem dX9_isSheet_6 : decode cX9_isSheet 6 = .ok (.if_icmp .ge 7, 3) := by decide +kernel
theorem dX9_isSheet_9 : decode cX9_isSheet 9 = .ok (.iconst 1, 1) := by decide +kernel
theorem dX9_isSheet_10 : decode cX9_isSheet 10 = .ok (.goto 4, 3) := by decide +kernel
theorem dX9_isSheet_13 : decode cX9_isSheet 13 = .ok (.iconst 0, 1) := by decide +kernel
theorem dX9_isSheet_14 : decode cX9_isSheet 14 = .ok (.ireturn, 1) := by decide +kernel
abbrev MX9_lowest : ZM := (yX9_lowest, cX9_lowest, 3, (Option.some FieldType.int), 0, 0)
theorem dX9_lowest_0 : decode cX9_lowest 0 = .ok (.aload_n 0, 1) := by decide +kernel
theorem dX9_lowest_1 : decode cX9_lowest 1 = .ok (.getfield 73, 3) := by decide +kernel
theorem dX9_lowest_4 : decode cX9_lowest 4 = .ok (.iload_n 1, 1) := by decide +kernel
theorem dX9_lowest_5 : decode cX9_lowest 5 = .ok (.iaload, 1) := by decide +kernel
theorem dX9_lowest_6 : decode cX9_lowest 6 = .ok (.ifCond .ne 8, 3) := by decide +kernel
theorem dX9_lowest_9 : decode cX9_lowest 9 = .ok (.iload_n 2, 1) := by decide +kernel
theorem dX9_lowest_10 : decode cX9_lowest 10 = .ok (.i2b, 1) := by decide +kernel
theorem dX9_lowest_11 : decode cX9_lowest 11 = .ok (.goto 4, 3) := by decide +kernel
theorem dX9_lowest_14 : decode cX9_lowest 14 = .ok (.iload_n 2, 1) := by decide +kernel
theorem dX9_lowest_15 : decode cX9_lowest 15 = .ok (.ireturn, 1) := by decide +kernel
abbrev MX9_sheet : ZM := (yX9_sheet, cX9_sheet, 5, (Option.some FieldType.int), 1, 25)
theorem dX9_sheet_0 : decode cX9_sheet 0 = .ok (.iload_n 1, 1) := by decide +kernel
theorem dX9_sheet_1 : decode cX9_sheet 1 = .ok (.invokestatic 146, 3) := by decide +kernel
theorem dX9_sheet_4 : decode cX9_sheet 4 = .ok (.ifCond .eq 25, 3) := by decide +kernel
theorem dX9_sheet_7 : decode cX9_sheet 7 = .ok (.iload_n 2, 1) := by decide +kernel
theorem dX9_sheet_8 : decode cX9_sheet 8 = .ok (.i2l, 1) := by decide +kernel
theorem dX9_sheet_9 : decode cX9_sheet 9 = .ok (.ldc2_w 166, 3) := by decide +kernel
theorem dX9_sheet_12 : decode cX9_sheet 12 = .ok (.lconst 1, 1) := by decide +kernel
theorem dX9_sheet_13 : decode cX9_sheet 13 = .ok (.invokestatic 134, 3) := by decide +kernel
theorem dX9_sheet_16 : decode cX9_sheet 16 = .ok (.ifCond .eq 13, 3) := by decide +kernel
theorem dX9_sheet_19 : decode cX9_sheet 19 = .ok (.iload_n 2, 1) := by decide +kernel
theorem dX9_sheet_20 : decode cX9_sheet 20 = .ok (.ifCond .lt 11, 3) := by decide +kernel
theorem dX9_sheet_23 : decode cX9_sheet 23 = .ok (.iload_n 3, 1) := by decide +kernel
theorem dX9_sheet_24 : decode cX9_sheet 24 = .ok (.bipush 40, 2) := by decide +kernel
theorem dX9_sheet_26 : decode cX9_sheet 26 = .ok (.if_icmp .le 5, 3) := by decide +kernel
theorem dX9_sheet_29 : decode cX9_sheet 29 = .ok (.iconst (-1), 1) := by decide +kernel
theorem dX9_sheet_30 : decode cX9_sheet 30 = .ok (.ireturn, 1) := by decide +kernel
theorem dX9_sheet_31 : decode cX9_sheet 31 = .ok (.iload_n 2, 1) := by decide +kernel
theorem dX9_sheet_32 : decode cX9_sheet 32 = .ok (.ifCond .lt 10, 3) := by decide +kernel
theorem dX9_sheet_35 : decode cX9_sheet 35 = .ok (.iload_n 3, 1) := by decide +kernel
theorem dX9_sheet_36 : decode cX9_sheet 36 = .ok (.ifCond .ge 6, 3) := by decide +kernel
theorem dX9_sheet_39 : decode cX9_sheet 39 = .ok (.bipush (-14), 2) := by decide +kernel
theorem dX9_sheet_41 : decode cX9_sheet 41 = .ok (.ireturn, 1) := by decide +kernel
theorem dX9_sheet_42 : decode cX9_sheet 42 = .ok (.aload_n 0, 1) := by decide +kernel
theorem dX9_sheet_43 : decode cX9_sheet 43 = .ok (.getfield 73, 3) := by decide +kernel
theorem dX9_sheet_46 : decode cX9_sheet 46 = .ok (.iload_n 1, 1) := by decide +kernel
theorem dX9_sheet_47 : decode cX9_sheet 47 = .ok (.iload_n 2, 1) := by decide +kernel
theorem dX9_sheet_48 : decode cX9_sheet 48 = .ok (.iastore, 1) := by decide +kernel
theorem dX9_sheet_49 : decode cX9_sheet 49 = .ok (.aload_n 0, 1) := by decide +kernel
theorem dX9_sheet_50 : decode cX9_sheet 50 = .ok (.getfield 76, 3) := by decide +kernel
theorem dX9_sheet_53 : decode cX9_sheet 53 = .ok (.iload_n 1, 1) := by decide +kernel
theorem dX9_sheet_54 : decode cX9_sheet 54 = .ok (.iload_n 2, 1) := by decide +kernel
theorem dX9_sheet_55 : decode cX9_sheet 55 = .ok (.ifCond .ge 7, 3) := by decide +kernel
theorem dX9_sheet_58 : decode cX9_sheet 58 = .ok (.iconst 0, 1) := by decide +kernel
theorem dX9_sheet_59 : decode cX9_sheet 59 = .ok (.goto 4, 3) := by decide +kernel
theorem dX9_sheet_62 : decode cX9_sheet 62 = .ok (.iload_n 3, 1) := by decide +kernel
theorem dX9_sheet_63 : decode cX9_sheet 63 = .ok (.iastore, 1) := by decide +kernel
theorem dX9_sheet_64 : decode cX9_sheet 64 = .ok (.iconst 0, 1) := by decide +kernel
theorem dX9_sheet_65 : decode cX9_sheet 65 = .ok (.istore 4, 2) := by decide +kernel
theorem dX9_sheet_67 : decode cX9_sheet 67 = .ok (.iload 4, 2) := by decide +kernel
theorem dX9_sheet_69 : decode cX9_sheet 69 = .ok (.bipush 40, 2) := by decide +kernel
theorem dX9_sheet_71 : decode cX9_sheet 71 = .ok (.if_icmp .ge 22, 3) := by decide +kernel
theorem dX9_sheet_74 : decode cX9_sheet 74 = .ok (.aload_n 0, 1) := by decide +kernel
theorem dX9_sheet_75 : decode cX9_sheet 75 = .ok (.getfield 79, 3) := by decide +kernel
theorem dX9_sheet_78 : decode cX9_sheet 78 = .ok (.bipush 40, 2) := by decide +kernel
theorem dX9_sheet_80 : decode cX9_sheet 80 = .ok (.iload_n 1, 1) := by decide +kernel
theorem dX9_sheet_81 : decode cX9_sheet 81 = .ok (.imul, 1) := by decide +kernel
theorem dX9_sheet_82 : decode cX9_sheet 82 = .ok (.iload 4, 2) := by decide +kernel
theorem dX9_sheet_84 : decode cX9_sheet 84 = .ok (.iadd, 1) := by decide +kernel
theorem dX9_sheet_85 : decode cX9_sheet 85 = .ok (.iconst 0, 1) := by decide +kernel
theorem dX9_sheet_86 : decode cX9_sheet 86 = .ok (.iastore, 1) := by decide +kernel
theorem dX9_sheet_87 : decode cX9_sheet 87 = .ok (.iinc 4 1, 3) := by decide +kernel
theorem dX9_sheet_90 : decode cX9_sheet 90 = .ok (.goto (-23), 3) := by decide +kernel
theorem dX9_sheet_93 : decode cX9_sheet 93 = .ok (.iconst 1, 1) := by decide +kernel
theorem dX9_sheet_94 : decode cX9_sheet 94 = .ok (.ireturn, 1) := by decide +kernel
abbrev MX9_cell : ZM := (yX9_cell, cX9_cell, 4, (Option.some FieldType.int), 1, 25)
theorem dX9_cell_0 : decode cX9_cell 0 = .ok (.iload_n 1, 1) := by decide +kernel
theorem dX9_cell_1 : decode cX9_cell 1 = .ok (.invokestatic 146, 3) := by decide +kernel
theorem dX9_cell_4 : decode cX9_cell 4 = .ok (.ifCond .ne 5, 3) := by decide +kernel
theorem dX9_cell_7 : decode cX9_cell 7 = .ok (.iconst (-1), 1) := by decide +kernel
theorem dX9_cell_8 : decode cX9_cell 8 = .ok (.ireturn, 1) := by decide +kernel
theorem dX9_cell_9 : decode cX9_cell 9 = .ok (.aload_n 0, 1) := by decide +kernel
theorem dX9_cell_10 : decode cX9_cell 10 = .ok (.getfield 73, 3) := by decide +kernel
theorem dX9_cell_13 : decode cX9_cell 13 = .ok (.iload_n 1, 1) := by decide +kernel
theorem dX9_cell_14 : decode cX9_cell 14 = .ok (.iaload, 1) := by decide +kernel
theorem dX9_cell_15 : decode cX9_cell 15 = .ok (.ifCond .ge 6, 3) := by decide +kernel
theorem dX9_cell_18 : decode cX9_cell 18 = .ok (.bipush (-11), 2) := by decide +kernel
theorem dX9_cell_20 : decode cX9_cell 20 = .ok (.ireturn, 1) := by decide +kernel
theorem dX9_cell_21 : decode cX9_cell 21 = .ok (.iload_n 2, 1) := by decide +kernel
theorem dX9_cell_22 : decode cX9_cell 22 = .ok (.i2l, 1) := by decide +kernel
theorem dX9_cell_23 : decode cX9_cell 23 = .ok (.lconst 0, 1) := by decide +kernel
theorem dX9_cell_24 : decode cX9_cell 24 = .ok (.aload_n 0, 1) := by decide +kernel
theorem dX9_cell_25 : decode cX9_cell 25 = .ok (.getfield 76, 3) := by decide +kernel
theorem dX9_cell_28 : decode cX9_cell 28 = .ok (.iload_n 1, 1) := by decide +kernel
theorem dX9_cell_29 : decode cX9_cell 29 = .ok (.iaload, 1) := by decide +kernel
theorem dX9_cell_30 : decode cX9_cell 30 = .ok (.iconst 1, 1) := by decide +kernel
theorem dX9_cell_31 : decode cX9_cell 31 = .ok (.isub, 1) := by decide +kernel
theorem dX9_cell_32 : decode cX9_cell 32 = .ok (.i2l, 1) := by decide +kernel
theorem dX9_cell_33 : decode cX9_cell 33 = .ok (.invokestatic 134, 3) := by decide +kernel
theorem dX9_cell_36 : decode cX9_cell 36 = .ok (.ifCond .ne 6, 3) := by decide +kernel
theorem dX9_cell_39 : decode cX9_cell 39 = .ok (.bipush (-12), 2) := by decide +kernel
theorem dX9_cell_41 : decode cX9_cell 41 = .ok (.ireturn, 1) := by decide +kernel
theorem dX9_cell_42 : decode cX9_cell 42 = .ok (.aload_n 0, 1) := by decide +kernel
theorem dX9_cell_43 : decode cX9_cell 43 = .ok (.getfield 79, 3) := by decide +kernel
theorem dX9_cell_46 : decode cX9_cell 46 = .ok (.bipush 40, 2) := by decide +kernel
theorem dX9_cell_48 : decode cX9_cell 48 = .ok (.iload_n 1, 1) := by decide +kernel
theorem dX9_cell_49 : decode cX9_cell 49 = .ok (.imul, 1) := by decide +kernel
theorem dX9_cell_50 : decode cX9_cell 50 = .ok (.iload_n 2, 1) := by decide +kernel
theorem dX9_cell_51 : decode cX9_cell 51 = .ok (.iadd, 1) := by decide +kernel
theorem dX9_cell_52 : decode cX9_cell 52 = .ok (.aload_n 0, 1) := by decide +kernel
theorem dX9_cell_53 : decode cX9_cell 53 = .ok (.iload_n 1, 1) := by decide +kernel
theorem dX9_cell_54 : decode cX9_cell 54 = .ok (.iload_n 3, 1) := by decide +kernel
theorem dX9_cell_55 : decode cX9_cell 55 = .ok (.invokevirtual 228, 3) := by decide +kernel
theorem dX9_cell_58 : decode cX9_cell 58 = .ok (.iastore, 1) := by decide +kernel
theorem dX9_cell_59 : decode cX9_cell 59 = .ok (.iconst 1, 1) := by decide +kernel
theorem dX9_cell_60 : decode cX9_cell 60 = .ok (.ireturn, 1) := by decide +kernel
abbrev MX9_item : ZM := (yX9_item, cX9_item, 3, (Option.some FieldType.long), 1, 25)
theorem dX9_item_0 : decode cX9_item 0 = .ok (.iload_n 1, 1) := by decide +kernel
theorem dX9_item_1 : decode cX9_item 1 = .ok (.invokestatic 146, 3) := by decide +kernel
theorem dX9_item_4 : decode cX9_item 4 = .ok (.ifCond .eq 36, 3) := by decide +kernel
theorem dX9_item_7 : decode cX9_item 7 = .ok (.iload_n 2, 1) := by decide +kernel
theorem dX9_item_8 : decode cX9_item 8 = .ok (.i2l, 1) := by decide +kernel
theorem dX9_item_9 : decode cX9_item 9 = .ok (.lconst 0, 1) := by decide +kernel
theorem dX9_item_10 : decode cX9_item 10 = .ok (.aload_n 0, 1) := by decide +kernel
theorem dX9_item_11 : decode cX9_item 11 = .ok (.getfield 76, 3) := by decide +kernel
theorem dX9_item_14 : decode cX9_item 14 = .ok (.iload_n 1, 1) := by decide +kernel
theorem dX9_item_15 : decode cX9_item 15 = .ok (.iaload, 1) := by decide +kernel
theorem dX9_item_16 : decode cX9_item 16 = .ok (.iconst 1, 1) := by decide +kernel
theorem dX9_item_17 : decode cX9_item 17 = .ok (.isub, 1) := by decide +kernel
theorem dX9_item_18 : decode cX9_item 18 = .ok (.i2l, 1) := by decide +kernel
theorem dX9_item_19 : decode cX9_item 19 = .ok (.invokestatic 134, 3) := by decide +kernel
theorem dX9_item_22 : decode cX9_item 22 = .ok (.ifCond .eq 18, 3) := by decide +kernel
theorem dX9_item_25 : decode cX9_item 25 = .ok (.aload_n 0, 1) := by decide +kernel
theorem dX9_item_26 : decode cX9_item 26 = .ok (.getfield 79, 3) := by decide +kernel
theorem dX9_item_29 : decode cX9_item 29 = .ok (.bipush 40, 2) := by decide +kernel
theorem dX9_item_31 : decode cX9_item 31 = .ok (.iload_n 1, 1) := by decide +kernel
theorem dX9_item_32 : decode cX9_item 32 = .ok (.imul, 1) := by decide +kernel
theorem dX9_item_33 : decode cX9_item 33 = .ok (.iload_n 2, 1) := by decide +kernel
theorem dX9_item_34 : decode cX9_item 34 = .ok (.iadd, 1) := by decide +kernel
theorem dX9_item_35 : decode cX9_item 35 = .ok (.iaload, 1) := by decide +kernel
theorem dX9_item_36 : decode cX9_item 36 = .ok (.i2l, 1) := by decide +kernel
theorem dX9_item_37 : decode cX9_item 37 = .ok (.goto 6, 3) := by decide +kernel
theorem dX9_item_40 : decode cX9_item 40 = .ok (.ldc2_w 277, 3) := by decide +kernel
theorem dX9_item_43 : decode cX9_item 43 = .ok (.lreturn, 1) := by decide +kernel
abbrev MX9_move : ZM := (yX9_move, cX9_move, 9, (Option.some FieldType.int), 1, 20)
theorem dX9_move_0 : decode cX9_move 0 = .ok (.iload_n 1, 1) := by decide +kernel
theorem dX9_move_1 : decode cX9_move 1 = .ok (.invokestatic 146, 3) := by decide +kernel
theorem dX9_move_4 : decode cX9_move 4 = .ok (.ifCond .eq 10, 3) := by decide +kernel
theorem dX9_move_7 : decode cX9_move 7 = .ok (.iload_n 3, 1) := by decide +kernel
theorem dX9_move_8 : decode cX9_move 8 = .ok (.invokestatic 146, 3) := by decide +kernel
theorem dX9_move_11 : decode cX9_move 11 = .ok (.ifCond .ne 5, 3) := by decide +kernel
theorem dX9_move_14 : decode cX9_move 14 = .ok (.iconst (-1), 1) := by decide +kernel
theorem dX9_move_15 : decode cX9_move 15 = .ok (.ireturn, 1) := by decide +kernel
theorem dX9_move_16 : decode cX9_move 16 = .ok (.aload_n 0, 1) := by decide +kernel
theorem dX9_move_17 : decode cX9_move 17 = .ok (.getfield 73, 3) := by decide +kernel
theorem dX9_move_20 : decode cX9_move 20 = .ok (.iload_n 1, 1) := by decide +kernel
theorem dX9_move_21 : decode cX9_move 21 = .ok (.iaload, 1) := by decide +kernel
theorem dX9_move_22 : decode cX9_move 22 = .ok (.ifCond .lt 12, 3) := by decide +kernel
theorem dX9_move_25 : decode cX9_move 25 = .ok (.aload_n 0, 1) := by decide +kernel
theorem dX9_move_26 : decode cX9_move 26 = .ok (.getfield 73, 3) := by decide +kernel
theorem dX9_move_29 : decode cX9_move 29 = .ok (.iload_n 3, 1) := by decide +kernel
theorem dX9_move_30 : decode cX9_move 30 = .ok (.iaload, 1) := by decide +kernel
theorem dX9_move_31 : decode cX9_move 31 = .ok (.ifCond .ge 6, 3) := by decide +kernel
theorem dX9_move_34 : decode cX9_move 34 = .ok (.bipush (-11), 2) := by decide +kernel
theorem dX9_move_36 : decode cX9_move 36 = .ok (.ireturn, 1) := by decide +kernel
theorem dX9_move_37 : decode cX9_move 37 = .ok (.aload_n 0, 1) := by decide +kernel
theorem dX9_move_38 : decode cX9_move 38 = .ok (.getfield 73, 3) := by decide +kernel
theorem dX9_move_41 : decode cX9_move 41 = .ok (.iload_n 1, 1) := by decide +kernel
theorem dX9_move_42 : decode cX9_move 42 = .ok (.iaload, 1) := by decide +kernel
theorem dX9_move_43 : decode cX9_move 43 = .ok (.aload_n 0, 1) := by decide +kernel
theorem dX9_move_44 : decode cX9_move 44 = .ok (.getfield 73, 3) := by decide +kernel
theorem dX9_move_47 : decode cX9_move 47 = .ok (.iload_n 3, 1) := by decide +kernel
theorem dX9_move_48 : decode cX9_move 48 = .ok (.iaload, 1) := by decide +kernel
theorem dX9_move_49 : decode cX9_move 49 = .ok (.if_icmp .eq 6, 3) := by decide +kernel
theorem dX9_move_52 : decode cX9_move 52 = .ok (.bipush (-13), 2) := by decide +kernel
theorem dX9_move_54 : decode cX9_move 54 = .ok (.ireturn, 1) := by decide +kernel
theorem dX9_move_55 : decode cX9_move 55 = .ok (.iload 5, 2) := by decide +kernel
theorem dX9_move_57 : decode cX9_move 57 = .ok (.ifCond .lt 39, 3) := by decide +kernel
theorem dX9_move_60 : decode cX9_move 60 = .ok (.iload_n 2, 1) := by decide +kernel
theorem dX9_move_61 : decode cX9_move 61 = .ok (.ifCond .lt 35, 3) := by decide +kernel
theorem dX9_move_64 : decode cX9_move 64 = .ok (.iload 4, 2) := by decide +kernel
theorem dX9_move_66 : decode cX9_move 66 = .ok (.ifCond .lt 30, 3) := by decide +kernel
theorem dX9_move_69 : decode cX9_move 69 = .ok (.iload 5, 2) := by decide +kernel
theorem dX9_move_71 : decode cX9_move 71 = .ok (.aload_n 0, 1) := by decide +kernel
theorem dX9_move_72 : decode cX9_move 72 = .ok (.getfield 76, 3) := by decide +kernel
theorem dX9_move_75 : decode cX9_move 75 = .ok (.iload_n 1, 1) := by decide +kernel
theorem dX9_move_76 : decode cX9_move 76 = .ok (.iaload, 1) := by decide +kernel
theorem dX9_move_77 : decode cX9_move 77 = .ok (.iload_n 2, 1) := by decide +kernel
theorem dX9_move_78 : decode cX9_move 78 = .ok (.isub, 1) := by decide +kernel
theorem dX9_move_79 : decode cX9_move 79 = .ok (.if_icmp .gt 17, 3) := by decide +kernel
theorem dX9_move_82 : decode cX9_move 82 = .ok (.iload 5, 2) := by decide +kernel
theorem dX9_move_84 : decode cX9_move 84 = .ok (.aload_n 0, 1) := by decide +kernel
theorem dX9_move_85 : decode cX9_move 85 = .ok (.getfield 76, 3) := by decide +kernel
theorem dX9_move_88 : decode cX9_move 88 = .ok (.iload_n 3, 1) := by decide +kernel
theorem dX9_move_89 : decode cX9_move 89 = .ok (.iaload, 1) := by decide +kernel
theorem dX9_move_90 : decode cX9_move 90 = .ok (.iload 4, 2) := by decide +kernel
theorem dX9_move_92 : decode cX9_move 92 = .ok (.isub, 1) := by decide +kernel
theorem dX9_move_93 : decode cX9_move 93 = .ok (.if_icmp .le 6, 3) := by decide +kernel
theorem dX9_move_96 : decode cX9_move 96 = .ok (.bipush (-12), 2) := by decide +kernel
theorem dX9_move_98 : decode cX9_move 98 = .ok (.ireturn, 1) := by decide +kernel
theorem dX9_move_99 : decode cX9_move 99 = .ok (.bipush 40, 2) := by decide +kernel
theorem dX9_move_101 : decode cX9_move 101 = .ok (.iload_n 1, 1) := by decide +kernel
theorem dX9_move_102 : decode cX9_move 102 = .ok (.imul, 1) := by decide +kernel
theorem dX9_move_103 : decode cX9_move 103 = .ok (.iload_n 2, 1) := by decide +kernel
theorem dX9_move_104 : decode cX9_move 104 = .ok (.iadd, 1) := by decide +kernel
theorem dX9_move_105 : decode cX9_move 105 = .ok (.bipush 40, 2) := by decide +kernel
theorem dX9_move_107 : decode cX9_move 107 = .ok (.iload_n 3, 1) := by decide +kernel
theorem dX9_move_108 : decode cX9_move 108 = .ok (.imul, 1) := by decide +kernel
theorem dX9_move_109 : decode cX9_move 109 = .ok (.iload 4, 2) := by decide +kernel
theorem dX9_move_111 : decode cX9_move 111 = .ok (.iadd, 1) := by decide +kernel
theorem dX9_move_112 : decode cX9_move 112 = .ok (.if_icmp .ge 7, 3) := by decide +kernel
theorem dX9_move_115 : decode cX9_move 115 = .ok (.iconst 1, 1) := by decide +kernel
theorem dX9_move_116 : decode cX9_move 116 = .ok (.goto 4, 3) := by decide +kernel
theorem dX9_move_119 : decode cX9_move 119 = .ok (.iconst 0, 1) := by decide +kernel
theorem dX9_move_120 : decode cX9_move 120 = .ok (.istore 6, 2) := by decide +kernel
theorem dX9_move_122 : decode cX9_move 122 = .ok (.iconst 0, 1) := by decide +kernel
theorem dX9_move_123 : decode cX9_move 123 = .ok (.istore 7, 2) := by decide +kernel
theorem dX9_move_125 : decode cX9_move 125 = .ok (.iload 7, 2) := by decide +kernel
theorem dX9_move_127 : decode cX9_move 127 = .ok (.iload 5, 2) := by decide +kernel
theorem dX9_move_129 : decode cX9_move 129 = .ok (.if_icmp .ge 57, 3) := by decide +kernel
theorem dX9_move_132 : decode cX9_move 132 = .ok (.iload 6, 2) := by decide +kernel
theorem dX9_move_134 : decode cX9_move 134 = .ok (.ifCond .eq 13, 3) := by decide +kernel
theorem dX9_move_137 : decode cX9_move 137 = .ok (.iload 5, 2) := by decide +kernel
theorem dX9_move_139 : decode cX9_move 139 = .ok (.iconst 1, 1) := by decide +kernel
theorem dX9_move_140 : decode cX9_move 140 = .ok (.isub, 1) := by decide +kernel
theorem dX9_move_141 : decode cX9_move 141 = .ok (.iload 7, 2) := by decide +kernel
theorem dX9_move_143 : decode cX9_move 143 = .ok (.isub, 1) := by decide +kernel
theorem dX9_move_144 : decode cX9_move 144 = .ok (.goto 5, 3) := by decide +kernel
theorem dX9_move_147 : decode cX9_move 147 = .ok (.iload 7, 2) := by decide +kernel
theorem dX9_move_149 : decode cX9_move 149 = .ok (.istore 8, 2) := by decide +kernel
theorem dX9_move_151 : decode cX9_move 151 = .ok (.aload_n 0, 1) := by decide +kernel
theorem dX9_move_152 : decode cX9_move 152 = .ok (.getfield 79, 3) := by decide +kernel
theorem dX9_move_155 : decode cX9_move 155 = .ok (.bipush 40, 2) := by decide +kernel
theorem dX9_move_157 : decode cX9_move 157 = .ok (.iload_n 3, 1) := by decide +kernel
theorem dX9_move_158 : decode cX9_move 158 = .ok (.imul, 1) := by decide +kernel
theorem dX9_move_159 : decode cX9_move 159 = .ok (.iload 4, 2) := by decide +kernel
theorem dX9_move_161 : decode cX9_move 161 = .ok (.iadd, 1) := by decide +kernel
theorem dX9_move_162 : decode cX9_move 162 = .ok (.iload 8, 2) := by decide +kernel
theorem dX9_move_164 : decode cX9_move 164 = .ok (.iadd, 1) := by decide +kernel
theorem dX9_move_165 : decode cX9_move 165 = .ok (.aload_n 0, 1) := by decide +kernel
theorem dX9_move_166 : decode cX9_move 166 = .ok (.getfield 79, 3) := by decide +kernel
theorem dX9_move_169 : decode cX9_move 169 = .ok (.bipush 40, 2) := by decide +kernel
theorem dX9_move_171 : decode cX9_move 171 = .ok (.iload_n 1, 1) := by decide +kernel
theorem dX9_move_172 : decode cX9_move 172 = .ok (.imul, 1) := by decide +kernel
theorem dX9_move_173 : decode cX9_move 173 = .ok (.iload_n 2, 1) := by decide +kernel
theorem dX9_move_174 : decode cX9_move 174 = .ok (.iadd, 1) := by decide +kernel
theorem dX9_move_175 : decode cX9_move 175 = .ok (.iload 8, 2) := by decide +kernel
theorem dX9_move_177 : decode cX9_move 177 = .ok (.iadd, 1) := by decide +kernel
theorem dX9_move_178 : decode cX9_move 178 = .ok (.iaload, 1) := by decide +kernel
theorem dX9_move_179 : decode cX9_move 179 = .ok (.iastore, 1) := by decide +kernel
theorem dX9_move_180 : decode cX9_move 180 = .ok (.iinc 7 1, 3) := by decide +kernel
theorem dX9_move_183 : decode cX9_move 183 = .ok (.goto (-58), 3) := by decide +kernel
theorem dX9_move_186 : decode cX9_move 186 = .ok (.iload 5, 2) := by decide +kernel
theorem dX9_move_188 : decode cX9_move 188 = .ok (.ireturn, 1) := by decide +kernel
abbrev MX9_slotsHeld : ZM := (yX9_slotsHeld, cX9_slotsHeld, 3, (Option.some FieldType.int), 0, 0)
theorem dX9_slotsHeld_0 : decode cX9_slotsHeld 0 = .ok (.iconst 0, 1) := by decide +kernel
theorem dX9_slotsHeld_1 : decode cX9_slotsHeld 1 = .ok (.istore_n 1, 1) := by decide +kernel
theorem dX9_slotsHeld_2 : decode cX9_slotsHeld 2 = .ok (.iconst 0, 1) := by decide +kernel
theorem dX9_slotsHeld_3 : decode cX9_slotsHeld 3 = .ok (.istore_n 2, 1) := by decide +kernel
theorem dX9_slotsHeld_4 : decode cX9_slotsHeld 4 = .ok (.iload_n 2, 1) := by decide +kernel
theorem dX9_slotsHeld_5 : decode cX9_slotsHeld 5 = .ok (.bipush 6, 2) := by decide +kernel
theorem dX9_slotsHeld_7 : decode cX9_slotsHeld 7 = .ok (.if_icmp .ge 26, 3) := by decide +kernel
theorem dX9_slotsHeld_10 : decode cX9_slotsHeld 10 = .ok (.iload_n 1, 1) := by decide +kernel
theorem dX9_slotsHeld_11 : decode cX9_slotsHeld 11 = .ok (.aload_n 0, 1) := by decide +kernel
theorem dX9_slotsHeld_12 : decode cX9_slotsHeld 12 = .ok (.getfield 15, 3) := by decide +kernel
theorem dX9_slotsHeld_15 : decode cX9_slotsHeld 15 = .ok (.iload_n 2, 1) := by decide +kernel
theorem dX9_slotsHeld_16 : decode cX9_slotsHeld 16 = .ok (.iaload, 1) := by decide +kernel
theorem dX9_slotsHeld_17 : decode cX9_slotsHeld 17 = .ok (.ifCond .le 7, 3) := by decide +kernel
theorem dX9_slotsHeld_20 : decode cX9_slotsHeld 20 = .ok (.iconst 1, 1) := by decide +kernel
theorem dX9_slotsHeld_21 : decode cX9_slotsHeld 21 = .ok (.goto 4, 3) := by decide +kernel
theorem dX9_slotsHeld_24 : decode cX9_slotsHeld 24 = .ok (.iconst 0, 1) := by decide +kernel
theorem dX9_slotsHeld_25 : decode cX9_slotsHeld 25 = .ok (.iadd, 1) := by decide +kernel
theorem dX9_slotsHeld_26 : decode cX9_slotsHeld 26 = .ok (.istore_n 1, 1) := by decide +kernel
theorem dX9_slotsHeld_27 : decode cX9_slotsHeld 27 = .ok (.iinc 2 1, 3) := by decide +kernel
theorem dX9_slotsHeld_30 : decode cX9_slotsHeld 30 = .ok (.goto (-26), 3) := by decide +kernel
theorem dX9_slotsHeld_33 : decode cX9_slotsHeld 33 = .ok (.iload_n 1, 1) := by decide +kernel
theorem dX9_slotsHeld_34 : decode cX9_slotsHeld 34 = .ok (.ireturn, 1) := by decide +kernel
abbrev MX9_keep : ZM := (yX9_keep, cX9_keep, 2, (Option.some FieldType.int), 1, 23)
theorem dX9_keep_0 : decode cX9_keep 0 = .ok (.iconst 0, 1) := by decide +kernel
theorem dX9_keep_1 : decode cX9_keep 1 = .ok (.istore_n 1, 1) := by decide +kernel
theorem dX9_keep_2 : decode cX9_keep 2 = .ok (.iload_n 1, 1) := by decide +kernel
theorem dX9_keep_3 : decode cX9_keep 3 = .ok (.bipush 36, 2) := by decide +kernel
theorem dX9_keep_5 : decode cX9_keep 5 = .ok (.if_icmp .ge 18, 3) := by decide +kernel
theorem dX9_keep_8 : decode cX9_keep 8 = .ok (.aload_n 0, 1) := by decide +kernel
theorem dX9_keep_9 : decode cX9_keep 9 = .ok (.iload_n 1, 1) := by decide +kernel
theorem dX9_keep_10 : decode cX9_keep 10 = .ok (.bipush 36, 2) := by decide +kernel
theorem dX9_keep_12 : decode cX9_keep 12 = .ok (.iload_n 1, 1) := by decide +kernel
theorem dX9_keep_13 : decode cX9_keep 13 = .ok (.iadd, 1) := by decide +kernel
theorem dX9_keep_14 : decode cX9_keep 14 = .ok (.invokevirtual 128, 3) := by decide +kernel
theorem dX9_keep_17 : decode cX9_keep 17 = .ok (.iinc 1 1, 3) := by decide +kernel
theorem dX9_keep_20 : decode cX9_keep 20 = .ok (.goto (-18), 3) := by decide +kernel
theorem dX9_keep_23 : decode cX9_keep 23 = .ok (.iconst 0, 1) := by decide +kernel
theorem dX9_keep_24 : decode cX9_keep 24 = .ok (.istore_n 1, 1) := by decide +kernel
theorem dX9_keep_25 : decode cX9_keep 25 = .ok (.iload_n 1, 1) := by decide +kernel
theorem dX9_keep_26 : decode cX9_keep 26 = .ok (.bipush 30, 2) := by decide +kernel
theorem dX9_keep_28 : decode cX9_keep 28 = .ok (.if_icmp .ge 33, 3) := by decide +kernel
theorem dX9_keep_31 : decode cX9_keep 31 = .ok (.aload_n 0, 1) := by decide +kernel
theorem dX9_keep_32 : decode cX9_keep 32 = .ok (.getfield 24, 3) := by decide +kernel
theorem dX9_keep_35 : decode cX9_keep 35 = .ok (.iload_n 1, 1) := by decide +kernel
theorem dX9_keep_36 : decode cX9_keep 36 = .ok (.aload_n 0, 1) := by decide +kernel
theorem dX9_keep_37 : decode cX9_keep 37 = .ok (.getfield 18, 3) := by decide +kernel
theorem dX9_keep_40 : decode cX9_keep 40 = .ok (.iload_n 1, 1) := by decide +kernel
theorem dX9_keep_41 : decode cX9_keep 41 = .ok (.iaload, 1) := by decide +kernel
theorem dX9_keep_42 : decode cX9_keep 42 = .ok (.iastore, 1) := by decide +kernel
theorem dX9_keep_43 : decode cX9_keep 43 = .ok (.aload_n 0, 1) := by decide +kernel
theorem dX9_keep_44 : decode cX9_keep 44 = .ok (.getfield 27, 3) := by decide +kernel
theorem dX9_keep_47 : decode cX9_keep 47 = .ok (.iload_n 1, 1) := by decide +kernel
theorem dX9_keep_48 : decode cX9_keep 48 = .ok (.aload_n 0, 1) := by decide +kernel
theorem dX9_keep_49 : decode cX9_keep 49 = .ok (.getfield 21, 3) := by decide +kernel
theorem dX9_keep_52 : decode cX9_keep 52 = .ok (.iload_n 1, 1) := by decide +kernel
theorem dX9_keep_53 : decode cX9_keep 53 = .ok (.iaload, 1) := by decide +kernel
theorem dX9_keep_54 : decode cX9_keep 54 = .ok (.iastore, 1) := by decide +kernel
theorem dX9_keep_55 : decode cX9_keep 55 = .ok (.iinc 1 1, 3) := by decide +kernel
theorem dX9_keep_58 : decode cX9_keep 58 = .ok (.goto (-33), 3) := by decide +kernel
theorem dX9_keep_61 : decode cX9_keep 61 = .ok (.aload_n 0, 1) := by decide +kernel
theorem dX9_keep_62 : decode cX9_keep 62 = .ok (.aload_n 0, 1) := by decide +kernel
theorem dX9_keep_63 : decode cX9_keep 63 = .ok (.getfield 82, 3) := by decide +kernel
theorem dX9_keep_66 : decode cX9_keep 66 = .ok (.putfield 279, 3) := by decide +kernel
theorem dX9_keep_69 : decode cX9_keep 69 = .ok (.aload_n 0, 1) := by decide +kernel
theorem dX9_keep_70 : decode cX9_keep 70 = .ok (.iconst 1, 1) := by decide +kernel
theorem dX9_keep_71 : decode cX9_keep 71 = .ok (.putfield 282, 3) := by decide +kernel
theorem dX9_keep_74 : decode cX9_keep 74 = .ok (.aload_n 0, 1) := by decide +kernel
theorem dX9_keep_75 : decode cX9_keep 75 = .ok (.invokevirtual 285, 3) := by decide +kernel
theorem dX9_keep_78 : decode cX9_keep 78 = .ok (.ireturn, 1) := by decide +kernel
abbrev MX9_back : ZM := (yX9_back, cX9_back, 2, (Option.some FieldType.int), 1, 23)
theorem dX9_back_0 : decode cX9_back 0 = .ok (.aload_n 0, 1) := by decide +kernel
theorem dX9_back_1 : decode cX9_back 1 = .ok (.getfield 282, 3) := by decide +kernel
theorem dX9_back_4 : decode cX9_back 4 = .ok (.ifCond .ne 6, 3) := by decide +kernel
theorem dX9_back_7 : decode cX9_back 7 = .ok (.bipush (-2), 2) := by decide +kernel
theorem dX9_back_9 : decode cX9_back 9 = .ok (.ireturn, 1) := by decide +kernel
theorem dX9_back_10 : decode cX9_back 10 = .ok (.iconst 0, 1) := by decide +kernel
theorem dX9_back_11 : decode cX9_back 11 = .ok (.istore_n 1, 1) := by decide +kernel
theorem dX9_back_12 : decode cX9_back 12 = .ok (.iload_n 1, 1) := by decide +kernel
theorem dX9_back_13 : decode cX9_back 13 = .ok (.bipush 36, 2) := by decide +kernel
theorem dX9_back_15 : decode cX9_back 15 = .ok (.if_icmp .ge 18, 3) := by decide +kernel
theorem dX9_back_18 : decode cX9_back 18 = .ok (.aload_n 0, 1) := by decide +kernel
theorem dX9_back_19 : decode cX9_back 19 = .ok (.bipush 36, 2) := by decide +kernel
theorem dX9_back_21 : decode cX9_back 21 = .ok (.iload_n 1, 1) := by decide +kernel
theorem dX9_back_22 : decode cX9_back 22 = .ok (.iadd, 1) := by decide +kernel
theorem dX9_back_23 : decode cX9_back 23 = .ok (.iload_n 1, 1) := by decide +kernel
theorem dX9_back_24 : decode cX9_back 24 = .ok (.invokevirtual 128, 3) := by decide +kernel
theorem dX9_back_27 : decode cX9_back 27 = .ok (.iinc 1 1, 3) := by decide +kernel
theorem dX9_back_30 : decode cX9_back 30 = .ok (.goto (-18), 3) := by decide +kernel
theorem dX9_back_33 : decode cX9_back 33 = .ok (.iconst 0, 1) := by decide +kernel
theorem dX9_back_34 : decode cX9_back 34 = .ok (.istore_n 1, 1) := by decide +kernel
theorem dX9_back_35 : decode cX9_back 35 = .ok (.iload_n 1, 1) := by decide +kernel
theorem dX9_back_36 : decode cX9_back 36 = .ok (.bipush 30, 2) := by decide +kernel
theorem dX9_back_38 : decode cX9_back 38 = .ok (.if_icmp .ge 33, 3) := by decide +kernel
theorem dX9_back_41 : decode cX9_back 41 = .ok (.aload_n 0, 1) := by decide +kernel
theorem dX9_back_42 : decode cX9_back 42 = .ok (.getfield 18, 3) := by decide +kernel
theorem dX9_back_45 : decode cX9_back 45 = .ok (.iload_n 1, 1) := by decide +kernel
theorem dX9_back_46 : decode cX9_back 46 = .ok (.aload_n 0, 1) := by decide +kernel
theorem dX9_back_47 : decode cX9_back 47 = .ok (.getfield 24, 3) := by decide +kernel
theorem dX9_back_50 : decode cX9_back 50 = .ok (.iload_n 1, 1) := by decide +kernel
theorem dX9_back_51 : decode cX9_back 51 = .ok (.iaload, 1) := by decide +kernel
theorem dX9_back_52 : decode cX9_back 52 = .ok (.iastore, 1) := by decide +kernel
theorem dX9_back_53 : decode cX9_back 53 = .ok (.aload_n 0, 1) := by decide +kernel
theorem dX9_back_54 : decode cX9_back 54 = .ok (.getfield 21, 3) := by decide +kernel
theorem dX9_back_57 : decode cX9_back 57 = .ok (.iload_n 1, 1) := by decide +kernel
theorem dX9_back_58 : decode cX9_back 58 = .ok (.aload_n 0, 1) := by decide +kernel
theorem dX9_back_59 : decode cX9_back 59 = .ok (.getfield 27, 3) := by decide +kernel
theorem dX9_back_62 : decode cX9_back 62 = .ok (.iload_n 1, 1) := by decide +kernel
theorem dX9_back_63 : decode cX9_back 63 = .ok (.iaload, 1) := by decide +kernel
theorem dX9_back_64 : decode cX9_back 64 = .ok (.iastore, 1) := by decide +kernel
theorem dX9_back_65 : decode cX9_back 65 = .ok (.iinc 1 1, 3) := by decide +kernel
theorem dX9_back_68 : decode cX9_back 68 = .ok (.goto (-33), 3) := by decide +kernel
theorem dX9_back_71 : decode cX9_back 71 = .ok (.aload_n 0, 1) := by decide +kernel
theorem dX9_back_72 : decode cX9_back 72 = .ok (.aload_n 0, 1) := by decide +kernel
theorem dX9_back_73 : decode cX9_back 73 = .ok (.getfield 279, 3) := by decide +kernel
theorem dX9_back_76 : decode cX9_back 76 = .ok (.putfield 82, 3) := by decide +kernel
theorem dX9_back_79 : decode cX9_back 79 = .ok (.aload_n 0, 1) := by decide +kernel
theorem dX9_back_80 : decode cX9_back 80 = .ok (.invokevirtual 285, 3) := by decide +kernel
theorem dX9_back_83 : decode cX9_back 83 = .ok (.ireturn, 1) := by decide +kernel
abbrev MX9_count : ZM := (yX9_count, cX9_count, 4, (Option.some FieldType.int), 1, 22)
theorem dX9_count_0 : decode cX9_count 0 = .ok (.iconst 0, 1) := by decide +kernel
theorem dX9_count_1 : decode cX9_count 1 = .ok (.istore_n 2, 1) := by decide +kernel
theorem dX9_count_2 : decode cX9_count 2 = .ok (.iload_n 1, 1) := by decide +kernel
theorem dX9_count_3 : decode cX9_count 3 = .ok (.tableswitch 84 0 3 #[29, 34, 39, 71], 29) := by decide +kernel
theorem dX9_count_32 : decode cX9_count 32 = .ok (.aload_n 0, 1) := by decide +kernel
theorem dX9_count_33 : decode cX9_count 33 = .ok (.invokevirtual 285, 3) := by decide +kernel
theorem dX9_count_36 : decode cX9_count 36 = .ok (.ireturn, 1) := by decide +kernel
theorem dX9_count_37 : decode cX9_count 37 = .ok (.aload_n 0, 1) := by decide +kernel
theorem dX9_count_38 : decode cX9_count 38 = .ok (.getfield 82, 3) := by decide +kernel
theorem dX9_count_41 : decode cX9_count 41 = .ok (.ireturn, 1) := by decide +kernel
theorem dX9_count_42 : decode cX9_count 42 = .ok (.iconst 0, 1) := by decide +kernel
theorem dX9_count_43 : decode cX9_count 43 = .ok (.istore_n 3, 1) := by decide +kernel
theorem dX9_count_44 : decode cX9_count 44 = .ok (.iload_n 3, 1) := by decide +kernel
theorem dX9_count_45 : decode cX9_count 45 = .ok (.iconst 4, 1) := by decide +kernel
theorem dX9_count_46 : decode cX9_count 46 = .ok (.if_icmp .ge 26, 3) := by decide +kernel
theorem dX9_count_49 : decode cX9_count 49 = .ok (.iload_n 2, 1) := by decide +kernel
theorem dX9_count_50 : decode cX9_count 50 = .ok (.aload_n 0, 1) := by decide +kernel
theorem dX9_count_51 : decode cX9_count 51 = .ok (.getfield 73, 3) := by decide +kernel
theorem dX9_count_54 : decode cX9_count 54 = .ok (.iload_n 3, 1) := by decide +kernel
theorem dX9_count_55 : decode cX9_count 55 = .ok (.iaload, 1) := by decide +kernel
theorem dX9_count_56 : decode cX9_count 56 = .ok (.ifCond .lt 7, 3) := by decide +kernel
theorem dX9_count_59 : decode cX9_count 59 = .ok (.iconst 1, 1) := by decide +kernel
theorem dX9_count_60 : decode cX9_count 60 = .ok (.goto 4, 3) := by decide +kernel
theorem dX9_count_63 : decode cX9_count 63 = .ok (.iconst 0, 1) := by decide +kernel
theorem dX9_count_64 : decode cX9_count 64 = .ok (.iadd, 1) := by decide +kernel
theorem dX9_count_65 : decode cX9_count 65 = .ok (.istore_n 2, 1) := by decide +kernel
theorem dX9_count_66 : decode cX9_count 66 = .ok (.iinc 3 1, 3) := by decide +kernel
theorem dX9_count_69 : decode cX9_count 69 = .ok (.goto (-25), 3) := by decide +kernel
theorem dX9_count_72 : decode cX9_count 72 = .ok (.iload_n 2, 1) := by decide +kernel
theorem dX9_count_73 : decode cX9_count 73 = .ok (.ireturn, 1) := by decide +kernel
theorem dX9_count_74 : decode cX9_count 74 = .ok (.aload_n 0, 1) := by decide +kernel
theorem dX9_count_75 : decode cX9_count 75 = .ok (.getfield 282, 3) := by decide +kernel
theorem dX9_count_78 : decode cX9_count 78 = .ok (.ifCond .eq 7, 3) := by decide +kernel
theorem dX9_count_81 : decode cX9_count 81 = .ok (.iconst 1, 1) := by decide +kernel
theorem dX9_count_82 : decode cX9_count 82 = .ok (.goto 4, 3) := by decide +kernel
theorem dX9_count_85 : decode cX9_count 85 = .ok (.iconst 0, 1) := by decide +kernel
theorem dX9_count_86 : decode cX9_count 86 = .ok (.ireturn, 1) := by decide +kernel
theorem dX9_count_87 : decode cX9_count 87 = .ok (.iconst (-1), 1) := by decide +kernel
theorem dX9_count_88 : decode cX9_count 88 = .ok (.ireturn, 1) := by decide +kernel
