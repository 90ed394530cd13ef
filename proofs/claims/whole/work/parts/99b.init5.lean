theorem dX12_init_0 : decode cX12_init 0 = .ok (.aload_n 0, 1) := by decide +kernel
theorem dX12_init_1 : decode cX12_init 1 = .ok (.invokespecial 1, 3) := by decide +kernel
theorem dX12_init_4 : decode cX12_init 4 = .ok (.aload_n 0, 1) := by decide +kernel
theorem dX12_init_5 : decode cX12_init 5 = .ok (.sipush 252, 3) := by decide +kernel
theorem dX12_init_8 : decode cX12_init 8 = .ok (.newarray .int, 2) := by decide +kernel
theorem dX12_init_10 : decode cX12_init 10 = .ok (.putfield 7, 3) := by decide +kernel
theorem dX12_init_13 : decode cX12_init 13 = .ok (.aload_n 0, 1) := by decide +kernel
theorem dX12_init_14 : decode cX12_init 14 = .ok (.bipush 20, 2) := by decide +kernel
theorem dX12_init_16 : decode cX12_init 16 = .ok (.newarray .int, 2) := by decide +kernel
theorem dX12_init_18 : decode cX12_init 18 = .ok (.putfield 13, 3) := by decide +kernel
theorem dX12_init_21 : decode cX12_init 21 = .ok (.aload_n 0, 1) := by decide +kernel
theorem dX12_init_22 : decode cX12_init 22 = .ok (.bipush 18, 2) := by decide +kernel
theorem dX12_init_24 : decode cX12_init 24 = .ok (.newarray .int, 2) := by decide +kernel
theorem dX12_init_26 : decode cX12_init 26 = .ok (.putfield 16, 3) := by decide +kernel
theorem dX12_init_29 : decode cX12_init 29 = .ok (.aload_n 0, 1) := by decide +kernel
theorem dX12_init_30 : decode cX12_init 30 = .ok (.iconst 2, 1) := by decide +kernel
theorem dX12_init_31 : decode cX12_init 31 = .ok (.newarray .boolean, 2) := by decide +kernel
theorem dX12_init_33 : decode cX12_init 33 = .ok (.putfield 19, 3) := by decide +kernel
theorem dX12_init_36 : decode cX12_init 36 = .ok (.aload_n 0, 1) := by decide +kernel
theorem dX12_init_37 : decode cX12_init 37 = .ok (.sipush 200, 3) := by decide +kernel
theorem dX12_init_40 : decode cX12_init 40 = .ok (.newarray .int, 2) := by decide +kernel
theorem dX12_init_42 : decode cX12_init 42 = .ok (.putfield 23, 3) := by decide +kernel
theorem dX12_init_45 : decode cX12_init 45 = .ok (.aload_n 0, 1) := by decide +kernel
theorem dX12_init_46 : decode cX12_init 46 = .ok (.bipush 6, 2) := by decide +kernel
theorem dX12_init_48 : decode cX12_init 48 = .ok (.newarray .int, 2) := by decide +kernel
theorem dX12_init_50 : decode cX12_init 50 = .ok (.putfield 26, 3) := by decide +kernel
theorem dX12_init_53 : decode cX12_init 53 = .ok (.aload_n 0, 1) := by decide +kernel
theorem dX12_init_54 : decode cX12_init 54 = .ok (.bipush 6, 2) := by decide +kernel
theorem dX12_init_56 : decode cX12_init 56 = .ok (.newarray .int, 2) := by decide +kernel
theorem dX12_init_58 : decode cX12_init 58 = .ok (.putfield 29, 3) := by decide +kernel
theorem dX12_init_61 : decode cX12_init 61 = .ok (.aload_n 0, 1) := by decide +kernel
theorem dX12_init_62 : decode cX12_init 62 = .ok (.iconst 3, 1) := by decide +kernel
theorem dX12_init_63 : decode cX12_init 63 = .ok (.newarray .int, 2) := by decide +kernel
theorem dX12_init_65 : decode cX12_init 65 = .ok (.dup, 1) := by decide +kernel
theorem dX12_init_66 : decode cX12_init 66 = .ok (.iconst 0, 1) := by decide +kernel
theorem dX12_init_67 : decode cX12_init 67 = .ok (.iconst (-1), 1) := by decide +kernel
theorem dX12_init_68 : decode cX12_init 68 = .ok (.iastore, 1) := by decide +kernel
theorem dX12_init_69 : decode cX12_init 69 = .ok (.dup, 1) := by decide +kernel
theorem dX12_init_70 : decode cX12_init 70 = .ok (.iconst 1, 1) := by decide +kernel
theorem dX12_init_71 : decode cX12_init 71 = .ok (.iconst (-1), 1) := by decide +kernel
theorem dX12_init_72 : decode cX12_init 72 = .ok (.iastore, 1) := by decide +kernel
theorem dX12_init_73 : decode cX12_init 73 = .ok (.dup, 1) := by decide +kernel
theorem dX12_init_74 : decode cX12_init 74 = .ok (.iconst 2, 1) := by decide +kernel
theorem dX12_init_75 : decode cX12_init 75 = .ok (.iconst (-1), 1) := by decide +kernel
theorem dX12_init_76 : decode cX12_init 76 = .ok (.iastore, 1) := by decide +kernel
theorem dX12_init_77 : decode cX12_init 77 = .ok (.putfield 32, 3) := by decide +kernel
theorem dX12_init_80 : decode cX12_init 80 = .ok (.aload_n 0, 1) := by decide +kernel
theorem dX12_init_81 : decode cX12_init 81 = .ok (.bipush 24, 2) := by decide +kernel
theorem dX12_init_83 : decode cX12_init 83 = .ok (.newarray .int, 2) := by decide +kernel
theorem dX12_init_85 : decode cX12_init 85 = .ok (.putfield 35, 3) := by decide +kernel
theorem dX12_init_88 : decode cX12_init 88 = .ok (.aload_n 0, 1) := by decide +kernel
theorem dX12_init_89 : decode cX12_init 89 = .ok (.bipush 24, 2) := by decide +kernel
theorem dX12_init_91 : decode cX12_init 91 = .ok (.newarray .int, 2) := by decide +kernel
theorem dX12_init_93 : decode cX12_init 93 = .ok (.putfield 38, 3) := by decide +kernel
theorem dX12_init_96 : decode cX12_init 96 = .ok (.aload_n 0, 1) := by decide +kernel
theorem dX12_init_97 : decode cX12_init 97 = .ok (.iconst 3, 1) := by decide +kernel
theorem dX12_init_98 : decode cX12_init 98 = .ok (.newarray .int, 2) := by decide +kernel
theorem dX12_init_100 : decode cX12_init 100 = .ok (.putfield 41, 3) := by decide +kernel
theorem dX12_init_103 : decode cX12_init 103 = .ok (.aload_n 0, 1) := by decide +kernel
theorem dX12_init_104 : decode cX12_init 104 = .ok (.bipush 40, 2) := by decide +kernel
theorem dX12_init_106 : decode cX12_init 106 = .ok (.newarray .int, 2) := by decide +kernel
theorem dX12_init_108 : decode cX12_init 108 = .ok (.dup, 1) := by decide +kernel
theorem dX12_init_109 : decode cX12_init 109 = .ok (.iconst 0, 1) := by decide +kernel
theorem dX12_init_110 : decode cX12_init 110 = .ok (.bipush 102, 2) := by decide +kernel
theorem dX12_init_112 : decode cX12_init 112 = .ok (.iastore, 1) := by decide +kernel
theorem dX12_init_113 : decode cX12_init 113 = .ok (.dup, 1) := by decide +kernel
theorem dX12_init_114 : decode cX12_init 114 = .ok (.iconst 1, 1) := by decide +kernel
theorem dX12_init_115 : decode cX12_init 115 = .ok (.bipush 108, 2) := by decide +kernel
theorem dX12_init_117 : decode cX12_init 117 = .ok (.iastore, 1) := by decide +kernel
theorem dX12_init_118 : decode cX12_init 118 = .ok (.dup, 1) := by decide +kernel
theorem dX12_init_119 : decode cX12_init 119 = .ok (.iconst 2, 1) := by decide +kernel
theorem dX12_init_120 : decode cX12_init 120 = .ok (.bipush 111, 2) := by decide +kernel
theorem dX12_init_122 : decode cX12_init 122 = .ok (.iastore, 1) := by decide +kernel
theorem dX12_init_123 : decode cX12_init 123 = .ok (.dup, 1) := by decide +kernel
theorem dX12_init_124 : decode cX12_init 124 = .ok (.iconst 3, 1) := by decide +kernel
theorem dX12_init_125 : decode cX12_init 125 = .ok (.bipush 119, 2) := by decide +kernel
theorem dX12_init_127 : decode cX12_init 127 = .ok (.iastore, 1) := by decide +kernel
theorem dX12_init_128 : decode cX12_init 128 = .ok (.dup, 1) := by decide +kernel
theorem dX12_init_129 : decode cX12_init 129 = .ok (.iconst 4, 1) := by decide +kernel
theorem dX12_init_130 : decode cX12_init 130 = .ok (.iconst 0, 1) := by decide +kernel
theorem dX12_init_131 : decode cX12_init 131 = .ok (.iastore, 1) := by decide +kernel
theorem dX12_init_132 : decode cX12_init 132 = .ok (.dup, 1) := by decide +kernel
theorem dX12_init_133 : decode cX12_init 133 = .ok (.iconst 5, 1) := by decide +kernel
theorem dX12_init_134 : decode cX12_init 134 = .ok (.bipush 112, 2) := by decide +kernel
theorem dX12_init_136 : decode cX12_init 136 = .ok (.iastore, 1) := by decide +kernel
theorem dX12_init_137 : decode cX12_init 137 = .ok (.dup, 1) := by decide +kernel
theorem dX12_init_138 : decode cX12_init 138 = .ok (.bipush 6, 2) := by decide +kernel
theorem dX12_init_140 : decode cX12_init 140 = .ok (.bipush 97, 2) := by decide +kernel
theorem dX12_init_142 : decode cX12_init 142 = .ok (.iastore, 1) := by decide +kernel
theorem dX12_init_143 : decode cX12_init 143 = .ok (.dup, 1) := by decide +kernel
theorem dX12_init_144 : decode cX12_init 144 = .ok (.bipush 7, 2) := by decide +kernel
theorem dX12_init_146 : decode cX12_init 146 = .ok (.bipush 105, 2) := by decide +kernel
theorem dX12_init_148 : decode cX12_init 148 = .ok (.iastore, 1) := by decide +kernel
theorem dX12_init_149 : decode cX12_init 149 = .ok (.dup, 1) := by decide +kernel
theorem dX12_init_150 : decode cX12_init 150 = .ok (.bipush 8, 2) := by decide +kernel
theorem dX12_init_152 : decode cX12_init 152 = .ok (.bipush 114, 2) := by decide +kernel
theorem dX12_init_154 : decode cX12_init 154 = .ok (.iastore, 1) := by decide +kernel
theorem dX12_init_155 : decode cX12_init 155 = .ok (.dup, 1) := by decide +kernel
theorem dX12_init_156 : decode cX12_init 156 = .ok (.bipush 9, 2) := by decide +kernel
theorem dX12_init_158 : decode cX12_init 158 = .ok (.iconst 0, 1) := by decide +kernel
theorem dX12_init_159 : decode cX12_init 159 = .ok (.iastore, 1) := by decide +kernel
theorem dX12_init_160 : decode cX12_init 160 = .ok (.dup, 1) := by decide +kernel
theorem dX12_init_161 : decode cX12_init 161 = .ok (.bipush 10, 2) := by decide +kernel
theorem dX12_init_163 : decode cX12_init 163 = .ok (.bipush 110, 2) := by decide +kernel
theorem dX12_init_165 : decode cX12_init 165 = .ok (.iastore, 1) := by decide +kernel
theorem dX12_init_166 : decode cX12_init 166 = .ok (.dup, 1) := by decide +kernel
theorem dX12_init_167 : decode cX12_init 167 = .ok (.bipush 11, 2) := by decide +kernel
theorem dX12_init_169 : decode cX12_init 169 = .ok (.bipush 111, 2) := by decide +kernel
theorem dX12_init_171 : decode cX12_init 171 = .ok (.iastore, 1) := by decide +kernel
theorem dX12_init_172 : decode cX12_init 172 = .ok (.dup, 1) := by decide +kernel
theorem dX12_init_173 : decode cX12_init 173 = .ok (.bipush 12, 2) := by decide +kernel
theorem dX12_init_175 : decode cX12_init 175 = .ok (.bipush 100, 2) := by decide +kernel
theorem dX12_init_177 : decode cX12_init 177 = .ok (.iastore, 1) := by decide +kernel
theorem dX12_init_178 : decode cX12_init 178 = .ok (.dup, 1) := by decide +kernel
theorem dX12_init_179 : decode cX12_init 179 = .ok (.bipush 13, 2) := by decide +kernel
theorem dX12_init_181 : decode cX12_init 181 = .ok (.bipush 101, 2) := by decide +kernel
theorem dX12_init_183 : decode cX12_init 183 = .ok (.iastore, 1) := by decide +kernel
theorem dX12_init_184 : decode cX12_init 184 = .ok (.dup, 1) := by decide +kernel
theorem dX12_init_185 : decode cX12_init 185 = .ok (.bipush 14, 2) := by decide +kernel
theorem dX12_init_187 : decode cX12_init 187 = .ok (.iconst 0, 1) := by decide +kernel
theorem dX12_init_188 : decode cX12_init 188 = .ok (.iastore, 1) := by decide +kernel
theorem dX12_init_189 : decode cX12_init 189 = .ok (.dup, 1) := by decide +kernel
theorem dX12_init_190 : decode cX12_init 190 = .ok (.bipush 15, 2) := by decide +kernel
theorem dX12_init_192 : decode cX12_init 192 = .ok (.bipush 119, 2) := by decide +kernel
theorem dX12_init_194 : decode cX12_init 194 = .ok (.iastore, 1) := by decide +kernel
theorem dX12_init_195 : decode cX12_init 195 = .ok (.dup, 1) := by decide +kernel
theorem dX12_init_196 : decode cX12_init 196 = .ok (.bipush 16, 2) := by decide +kernel
theorem dX12_init_198 : decode cX12_init 198 = .ok (.bipush 105, 2) := by decide +kernel
theorem dX12_init_200 : decode cX12_init 200 = .ok (.iastore, 1) := by decide +kernel
theorem dX12_init_201 : decode cX12_init 201 = .ok (.dup, 1) := by decide +kernel
theorem dX12_init_202 : decode cX12_init 202 = .ok (.bipush 17, 2) := by decide +kernel
theorem dX12_init_204 : decode cX12_init 204 = .ok (.bipush 100, 2) := by decide +kernel
theorem dX12_init_206 : decode cX12_init 206 = .ok (.iastore, 1) := by decide +kernel
theorem dX12_init_207 : decode cX12_init 207 = .ok (.dup, 1) := by decide +kernel
theorem dX12_init_208 : decode cX12_init 208 = .ok (.bipush 18, 2) := by decide +kernel
theorem dX12_init_210 : decode cX12_init 210 = .ok (.bipush 101, 2) := by decide +kernel
theorem dX12_init_212 : decode cX12_init 212 = .ok (.iastore, 1) := by decide +kernel
theorem dX12_init_213 : decode cX12_init 213 = .ok (.dup, 1) := by decide +kernel
theorem dX12_init_214 : decode cX12_init 214 = .ok (.bipush 19, 2) := by decide +kernel
theorem dX12_init_216 : decode cX12_init 216 = .ok (.iconst 0, 1) := by decide +kernel
theorem dX12_init_217 : decode cX12_init 217 = .ok (.iastore, 1) := by decide +kernel
theorem dX12_init_218 : decode cX12_init 218 = .ok (.dup, 1) := by decide +kernel
theorem dX12_init_219 : decode cX12_init 219 = .ok (.bipush 20, 2) := by decide +kernel
theorem dX12_init_221 : decode cX12_init 221 = .ok (.bipush 100, 2) := by decide +kernel
theorem dX12_init_223 : decode cX12_init 223 = .ok (.iastore, 1) := by decide +kernel
theorem dX12_init_224 : decode cX12_init 224 = .ok (.dup, 1) := by decide +kernel
theorem dX12_init_225 : decode cX12_init 225 = .ok (.bipush 21, 2) := by decide +kernel
theorem dX12_init_227 : decode cX12_init 227 = .ok (.bipush 117, 2) := by decide +kernel
theorem dX12_init_229 : decode cX12_init 229 = .ok (.iastore, 1) := by decide +kernel
theorem dX12_init_230 : decode cX12_init 230 = .ok (.dup, 1) := by decide +kernel
theorem dX12_init_231 : decode cX12_init 231 = .ok (.bipush 22, 2) := by decide +kernel
theorem dX12_init_233 : decode cX12_init 233 = .ok (.bipush 108, 2) := by decide +kernel
theorem dX12_init_235 : decode cX12_init 235 = .ok (.iastore, 1) := by decide +kernel
theorem dX12_init_236 : decode cX12_init 236 = .ok (.dup, 1) := by decide +kernel
theorem dX12_init_237 : decode cX12_init 237 = .ok (.bipush 23, 2) := by decide +kernel
theorem dX12_init_239 : decode cX12_init 239 = .ok (.bipush 108, 2) := by decide +kernel
theorem dX12_init_241 : decode cX12_init 241 = .ok (.iastore, 1) := by decide +kernel
theorem dX12_init_242 : decode cX12_init 242 = .ok (.dup, 1) := by decide +kernel
theorem dX12_init_243 : decode cX12_init 243 = .ok (.bipush 24, 2) := by decide +kernel
theorem dX12_init_245 : decode cX12_init 245 = .ok (.iconst 0, 1) := by decide +kernel
theorem dX12_init_246 : decode cX12_init 246 = .ok (.iastore, 1) := by decide +kernel
theorem dX12_init_247 : decode cX12_init 247 = .ok (.dup, 1) := by decide +kernel
theorem dX12_init_248 : decode cX12_init 248 = .ok (.bipush 25, 2) := by decide +kernel
theorem dX12_init_250 : decode cX12_init 250 = .ok (.bipush 111, 2) := by decide +kernel
theorem dX12_init_252 : decode cX12_init 252 = .ok (.iastore, 1) := by decide +kernel
theorem dX12_init_253 : decode cX12_init 253 = .ok (.dup, 1) := by decide +kernel
theorem dX12_init_254 : decode cX12_init 254 = .ok (.bipush 26, 2) := by decide +kernel
theorem dX12_init_256 : decode cX12_init 256 = .ok (.bipush 102, 2) := by decide +kernel
theorem dX12_init_258 : decode cX12_init 258 = .ok (.iastore, 1) := by decide +kernel
theorem dX12_init_259 : decode cX12_init 259 = .ok (.dup, 1) := by decide +kernel
theorem dX12_init_260 : decode cX12_init 260 = .ok (.bipush 27, 2) := by decide +kernel
theorem dX12_init_262 : decode cX12_init 262 = .ok (.bipush 102, 2) := by decide +kernel
theorem dX12_init_264 : decode cX12_init 264 = .ok (.iastore, 1) := by decide +kernel
theorem dX12_init_265 : decode cX12_init 265 = .ok (.dup, 1) := by decide +kernel
theorem dX12_init_266 : decode cX12_init 266 = .ok (.bipush 28, 2) := by decide +kernel
theorem dX12_init_268 : decode cX12_init 268 = .ok (.bipush 101, 2) := by decide +kernel
theorem dX12_init_270 : decode cX12_init 270 = .ok (.iastore, 1) := by decide +kernel
theorem dX12_init_271 : decode cX12_init 271 = .ok (.dup, 1) := by decide +kernel
theorem dX12_init_272 : decode cX12_init 272 = .ok (.bipush 29, 2) := by decide +kernel
theorem dX12_init_274 : decode cX12_init 274 = .ok (.bipush 114, 2) := by decide +kernel
theorem dX12_init_276 : decode cX12_init 276 = .ok (.iastore, 1) := by decide +kernel
theorem dX12_init_277 : decode cX12_init 277 = .ok (.dup, 1) := by decide +kernel
theorem dX12_init_278 : decode cX12_init 278 = .ok (.bipush 30, 2) := by decide +kernel
theorem dX12_init_280 : decode cX12_init 280 = .ok (.bipush 103, 2) := by decide +kernel
theorem dX12_init_282 : decode cX12_init 282 = .ok (.iastore, 1) := by decide +kernel
theorem dX12_init_283 : decode cX12_init 283 = .ok (.dup, 1) := by decide +kernel
theorem dX12_init_284 : decode cX12_init 284 = .ok (.bipush 31, 2) := by decide +kernel
theorem dX12_init_286 : decode cX12_init 286 = .ok (.bipush 114, 2) := by decide +kernel
theorem dX12_init_288 : decode cX12_init 288 = .ok (.iastore, 1) := by decide +kernel
theorem dX12_init_289 : decode cX12_init 289 = .ok (.dup, 1) := by decide +kernel
theorem dX12_init_290 : decode cX12_init 290 = .ok (.bipush 32, 2) := by decide +kernel
theorem dX12_init_292 : decode cX12_init 292 = .ok (.bipush 105, 2) := by decide +kernel
theorem dX12_init_294 : decode cX12_init 294 = .ok (.iastore, 1) := by decide +kernel
theorem dX12_init_295 : decode cX12_init 295 = .ok (.dup, 1) := by decide +kernel
theorem dX12_init_296 : decode cX12_init 296 = .ok (.bipush 33, 2) := by decide +kernel
theorem dX12_init_298 : decode cX12_init 298 = .ok (.bipush 100, 2) := by decide +kernel
theorem dX12_init_300 : decode cX12_init 300 = .ok (.iastore, 1) := by decide +kernel
theorem dX12_init_301 : decode cX12_init 301 = .ok (.dup, 1) := by decide +kernel
theorem dX12_init_302 : decode cX12_init 302 = .ok (.bipush 34, 2) := by decide +kernel
theorem dX12_init_304 : decode cX12_init 304 = .ok (.iconst 0, 1) := by decide +kernel
theorem dX12_init_305 : decode cX12_init 305 = .ok (.iastore, 1) := by decide +kernel
theorem dX12_init_306 : decode cX12_init 306 = .ok (.dup, 1) := by decide +kernel
theorem dX12_init_307 : decode cX12_init 307 = .ok (.bipush 35, 2) := by decide +kernel
theorem dX12_init_309 : decode cX12_init 309 = .ok (.bipush 108, 2) := by decide +kernel
theorem dX12_init_311 : decode cX12_init 311 = .ok (.iastore, 1) := by decide +kernel
theorem dX12_init_312 : decode cX12_init 312 = .ok (.dup, 1) := by decide +kernel
theorem dX12_init_313 : decode cX12_init 313 = .ok (.bipush 36, 2) := by decide +kernel
theorem dX12_init_315 : decode cX12_init 315 = .ok (.bipush 105, 2) := by decide +kernel
theorem dX12_init_317 : decode cX12_init 317 = .ok (.iastore, 1) := by decide +kernel
theorem dX12_init_318 : decode cX12_init 318 = .ok (.dup, 1) := by decide +kernel
theorem dX12_init_319 : decode cX12_init 319 = .ok (.bipush 37, 2) := by decide +kernel
theorem dX12_init_321 : decode cX12_init 321 = .ok (.bipush 110, 2) := by decide +kernel
theorem dX12_init_323 : decode cX12_init 323 = .ok (.iastore, 1) := by decide +kernel
theorem dX12_init_324 : decode cX12_init 324 = .ok (.dup, 1) := by decide +kernel
theorem dX12_init_325 : decode cX12_init 325 = .ok (.bipush 38, 2) := by decide +kernel
theorem dX12_init_327 : decode cX12_init 327 = .ok (.bipush 101, 2) := by decide +kernel
theorem dX12_init_329 : decode cX12_init 329 = .ok (.iastore, 1) := by decide +kernel
theorem dX12_init_330 : decode cX12_init 330 = .ok (.dup, 1) := by decide +kernel
theorem dX12_init_331 : decode cX12_init 331 = .ok (.bipush 39, 2) := by decide +kernel
theorem dX12_init_333 : decode cX12_init 333 = .ok (.iconst 0, 1) := by decide +kernel
theorem dX12_init_334 : decode cX12_init 334 = .ok (.iastore, 1) := by decide +kernel
theorem dX12_init_335 : decode cX12_init 335 = .ok (.putfield 44, 3) := by decide +kernel
theorem dX12_init_338 : decode cX12_init 338 = .ok (.aload_n 0, 1) := by decide +kernel
theorem dX12_init_339 : decode cX12_init 339 = .ok (.sipush 128, 3) := by decide +kernel
theorem dX12_init_342 : decode cX12_init 342 = .ok (.newarray .long, 2) := by decide +kernel
theorem dX12_init_344 : decode cX12_init 344 = .ok (.putfield 47, 3) := by decide +kernel
theorem dX12_init_347 : decode cX12_init 347 = .ok (.aload_n 0, 1) := by decide +kernel
theorem dX12_init_348 : decode cX12_init 348 = .ok (.bipush 8, 2) := by decide +kernel
theorem dX12_init_350 : decode cX12_init 350 = .ok (.newarray .int, 2) := by decide +kernel
theorem dX12_init_352 : decode cX12_init 352 = .ok (.putfield 51, 3) := by decide +kernel
theorem dX12_init_355 : decode cX12_init 355 = .ok (.aload_n 0, 1) := by decide +kernel
theorem dX12_init_356 : decode cX12_init 356 = .ok (.sipush 8224, 3) := by decide +kernel
theorem dX12_init_359 : decode cX12_init 359 = .ok (.newarray .long, 2) := by decide +kernel
theorem dX12_init_361 : decode cX12_init 361 = .ok (.putfield 54, 3) := by decide +kernel
theorem dX12_init_364 : decode cX12_init 364 = .ok (.aload_n 0, 1) := by decide +kernel
theorem dX12_init_365 : decode cX12_init 365 = .ok (.bipush 6, 2) := by decide +kernel
theorem dX12_init_367 : decode cX12_init 367 = .ok (.newarray .long, 2) := by decide +kernel
theorem dX12_init_369 : decode cX12_init 369 = .ok (.dup, 1) := by decide +kernel
theorem dX12_init_370 : decode cX12_init 370 = .ok (.iconst 0, 1) := by decide +kernel
theorem dX12_init_371 : decode cX12_init 371 = .ok (.ldc2_w 57, 3) := by decide +kernel
theorem dX12_init_374 : decode cX12_init 374 = .ok (.lastore, 1) := by decide +kernel
theorem dX12_init_375 : decode cX12_init 375 = .ok (.dup, 1) := by decide +kernel
theorem dX12_init_376 : decode cX12_init 376 = .ok (.iconst 1, 1) := by decide +kernel
theorem dX12_init_377 : decode cX12_init 377 = .ok (.ldc2_w 59, 3) := by decide +kernel
theorem dX12_init_380 : decode cX12_init 380 = .ok (.lastore, 1) := by decide +kernel
theorem dX12_init_381 : decode cX12_init 381 = .ok (.dup, 1) := by decide +kernel
theorem dX12_init_382 : decode cX12_init 382 = .ok (.iconst 2, 1) := by decide +kernel
theorem dX12_init_383 : decode cX12_init 383 = .ok (.ldc2_w 61, 3) := by decide +kernel
theorem dX12_init_386 : decode cX12_init 386 = .ok (.lastore, 1) := by decide +kernel
theorem dX12_init_387 : decode cX12_init 387 = .ok (.dup, 1) := by decide +kernel
theorem dX12_init_388 : decode cX12_init 388 = .ok (.iconst 3, 1) := by decide +kernel
theorem dX12_init_389 : decode cX12_init 389 = .ok (.ldc2_w 63, 3) := by decide +kernel
theorem dX12_init_392 : decode cX12_init 392 = .ok (.lastore, 1) := by decide +kernel
theorem dX12_init_393 : decode cX12_init 393 = .ok (.dup, 1) := by decide +kernel
theorem dX12_init_394 : decode cX12_init 394 = .ok (.iconst 4, 1) := by decide +kernel
theorem dX12_init_395 : decode cX12_init 395 = .ok (.ldc2_w 65, 3) := by decide +kernel
theorem dX12_init_398 : decode cX12_init 398 = .ok (.lastore, 1) := by decide +kernel
theorem dX12_init_399 : decode cX12_init 399 = .ok (.dup, 1) := by decide +kernel
theorem dX12_init_400 : decode cX12_init 400 = .ok (.iconst 5, 1) := by decide +kernel
theorem dX12_init_401 : decode cX12_init 401 = .ok (.ldc2_w 67, 3) := by decide +kernel
theorem dX12_init_404 : decode cX12_init 404 = .ok (.lastore, 1) := by decide +kernel
theorem dX12_init_405 : decode cX12_init 405 = .ok (.putfield 69, 3) := by decide +kernel
theorem dX12_init_408 : decode cX12_init 408 = .ok (.aload_n 0, 1) := by decide +kernel
theorem dX12_init_409 : decode cX12_init 409 = .ok (.bipush 10, 2) := by decide +kernel
theorem dX12_init_411 : decode cX12_init 411 = .ok (.newarray .int, 2) := by decide +kernel
theorem dX12_init_413 : decode cX12_init 413 = .ok (.putfield 72, 3) := by decide +kernel
theorem dX12_init_416 : decode cX12_init 416 = .ok (.aload_n 0, 1) := by decide +kernel
theorem dX12_init_417 : decode cX12_init 417 = .ok (.iconst 3, 1) := by decide +kernel
theorem dX12_init_418 : decode cX12_init 418 = .ok (.invokevirtual 75, 3) := by decide +kernel
theorem dX12_init_421 : decode cX12_init 421 = .ok (.aload_n 0, 1) := by decide +kernel
theorem dX12_init_422 : decode cX12_init 422 = .ok (.invokevirtual 79, 3) := by decide +kernel
theorem dX12_init_425 : decode cX12_init 425 = .ok (.return_, 1) := by decide +kernel
theorem tw_1031 : ((Jvm.Cond.methodLink "MeterDeskModel" (1 : Nat) ({ cls := "java/lang/Object", name := "<init>", desc := "()V" } : Jvm.MethodName))) ∈ lw_gt := gt_of 1031 (by decide +kernel) (by decide +kernel)
theorem tw_1032 : ((Jvm.Cond.constantLong "MeterDeskModel" (57 : Nat) (6148914691236517205 : Int64))) ∈ lw_gt := gt_of 1032 (by decide +kernel) (by decide +kernel)
theorem tw_1033 : ((Jvm.Cond.constantLong "MeterDeskModel" (59 : Nat) (3689348814741910323 : Int64))) ∈ lw_gt := gt_of 1033 (by decide +kernel) (by decide +kernel)
theorem tw_1034 : ((Jvm.Cond.constantLong "MeterDeskModel" (61 : Nat) (1085102592571150095 : Int64))) ∈ lw_gt := gt_of 1034 (by decide +kernel) (by decide +kernel)
theorem tw_1035 : ((Jvm.Cond.constantLong "MeterDeskModel" (63 : Nat) (71777214294589695 : Int64))) ∈ lw_gt := gt_of 1035 (by decide +kernel) (by decide +kernel)
theorem tw_1036 : ((Jvm.Cond.constantLong "MeterDeskModel" (65 : Nat) (281470681808895 : Int64))) ∈ lw_gt := gt_of 1036 (by decide +kernel) (by decide +kernel)
theorem tw_1037 : ((Jvm.Cond.constantLong "MeterDeskModel" (67 : Nat) (4294967295 : Int64))) ∈ lw_gt := gt_of 1037 (by decide +kernel) (by decide +kernel)
def lX12 : List mk_E := [(0, 12, 0, [some (some 1), none, none, some (some 2), none, some (some 3), none, some (some 4), some (some 5), none, some (some 6), some (some 7), none, some (some 8), some (some 9), some (some 10), none, none, none, none, none, none, none, none, some (some 11), some (some 12), some (some 13), some (some 14), some (some 15), some (some 16), some (some 17)], (fun _ => 0), (fun _ => 0)), (1, 0, 252, [], (fun _ => 0), (fun _ => 0)), (1, 0, 20, [], (fun _ => 0), (fun _ => 0)), (1, 0, 18, [], (fun _ => 0), (fun _ => 0)), (1, 1, 2, [], (fun _ => 0), (fun _ => 0)), (1, 0, 200, [], (fun _ => 0), (fun _ => 0)), (1, 0, 6, [], (fun _ => 0), (fun _ => 0)), (1, 0, 6, [], (fun _ => 0), (fun _ => 0)), (1, 0, 3, [], (upd (upd (upd (fun _ => 0) 0 (-1)) 1 (-1)) 2 (-1)), (fun _ => 0)), (1, 0, 24, [], (fun _ => 0), (fun _ => 0)), (1, 0, 24, [], (fun _ => 0), (fun _ => 0)), (1, 0, 3, [], (fun _ => 0), (fun _ => 0)), (1, 0, 40, [], (upd (upd (upd (upd (upd (upd (upd (upd (upd (upd (upd (upd (upd (upd (upd (upd (upd (upd (upd (upd (upd (upd (upd (upd (upd (upd (upd (upd (upd (upd (upd (upd (upd (upd (upd (upd (upd (upd (upd (upd (fun _ => 0) 0 (102)) 1 (108)) 2 (111)) 3 (119)) 4 (0)) 5 (112)) 6 (97)) 7 (105)) 8 (114)) 9 (0)) 10 (110)) 11 (111)) 12 (100)) 13 (101)) 14 (0)) 15 (119)) 16 (105)) 17 (100)) 18 (101)) 19 (0)) 20 (100)) 21 (117)) 22 (108)) 23 (108)) 24 (0)) 25 (111)) 26 (102)) 27 (102)) 28 (101)) 29 (114)) 30 (103)) 31 (114)) 32 (105)) 33 (100)) 34 (0)) 35 (108)) 36 (105)) 37 (110)) 38 (101)) 39 (0)), (fun _ => 0)), (2, 3, 128, [], (fun _ => 0), (fun _ => 0)), (1, 0, 8, [], (fun _ => 0), (fun _ => 0)), (2, 3, 8224, [], (fun _ => 0), (fun _ => 0)), (2, 3, 6, [], (fun _ => 0), (vp_updL (vp_updL (vp_updL (vp_updL (vp_updL (vp_updL (fun _ => 0) 0 (6148914691236517205)) 1 (3689348814741910323)) 2 (1085102592571150095)) 3 (71777214294589695)) 4 (281470681808895)) 5 (4294967295))), (1, 0, 10, [], (fun _ => 0), (fun _ => 0))]
theorem hpX12 : mk_hp lX12 posM shM 18 := by unfold mk_hp; decide +kernel
theorem wX12_head {X : ux_X} {V : Nat → mk_E} (C : mk_C X cX12_init RX12 1 3 70 17 8974) (hV : V 0 = (0, 12, 0, [some none, none, none, some none, none, some none, none, some none, some none, none, some none, some none, none, some none, some none, some none, none, none, none, none, none, none, none, none, some none, some none, some none, some none, some none, some none, some none], (fun _ => 0), (fun _ => 0))) (k : mk_Ut X (mk_K (xG X) shM posM) 1 416 [(0, .ref (gad (xG X) 0))] [] (mk_N lX12 posM) (mk_Lg lX12 posM) 17 8974) : mk_Wt X 1 0 [(0, .ref (gad (xG X) 0))] [] 1 V 0 0 := by
  refine m_aload_n 1 0 C dX12_init_0 rfl rfl ?_
  refine m_obj 4 C tw_1031 tw_99 tw_100 dX12_init_1 rfl ⟨by decide, by decide⟩ ?_
  refine m_aload_n 5 0 C dX12_init_4 rfl rfl ?_
  refine m_sipush 8 (252) C dX12_init_5 rfl (by decide) ?_
  refine m_newI 10 252 (t := 1) (c := 0) (n := 0) C tw_163 (by decide) (by decide) (by decide) (by decide) (by decide) dX12_init_8 rfl ?_
  refine m_putF 13 (t := 2) (i := 0) (k0 := 0) (fs := [some none, none, none, some none, none, some none, none, some none, some none, none, some none, some none, none, some none, some none, some none, none, none, none, none, none, none, none, none, some none, some none, some none, some none, some none, some none, some none]) (f := (fun _ => 0)) (g := (fun _ => 0)) (j := 1) C mlX12 (by omega) (by (first | rfl | assumption)) (by decide) (show (0 : Nat) < 31 by decide) tw_1056 rfl rfl (tyX12_ok 0 (by decide)) rfl rfl dX12_init_10 rfl ?_
  refine m_aload_n 14 0 C dX12_init_13 rfl rfl ?_
  refine m_bipush 16 (20) C dX12_init_14 rfl (by decide) ?_
  refine m_newI 18 20 (t := 2) (c := 1) (n := 252) C tw_163 (by decide) (by decide) (by decide) (by decide) (by decide) dX12_init_16 rfl ?_
  refine m_putF 21 (t := 3) (i := 0) (k0 := 3) (fs := [some (some 1), none, none, some none, none, some none, none, some none, some none, none, some none, some none, none, some none, some none, some none, none, none, none, none, none, none, none, none, some none, some none, some none, some none, some none, some none, some none]) (f := (fun _ => 0)) (g := (fun _ => 0)) (j := 2) C mlX12 (by omega) (by (first | rfl | assumption)) (by decide) (show (3 : Nat) < 31 by decide) tw_1059 rfl rfl (tyX12_ok 3 (by decide)) rfl rfl dX12_init_18 rfl ?_
  refine m_aload_n 22 0 C dX12_init_21 rfl rfl ?_
  refine m_bipush 24 (18) C dX12_init_22 rfl (by decide) ?_
  refine m_newI 26 18 (t := 3) (c := 2) (n := 272) C tw_163 (by decide) (by decide) (by decide) (by decide) (by decide) dX12_init_24 rfl ?_
  refine m_putF 29 (t := 4) (i := 0) (k0 := 5) (fs := [some (some 1), none, none, some (some 2), none, some none, none, some none, some none, none, some none, some none, none, some none, some none, some none, none, none, none, none, none, none, none, none, some none, some none, some none, some none, some none, some none, some none]) (f := (fun _ => 0)) (g := (fun _ => 0)) (j := 3) C mlX12 (by omega) (by (first | rfl | assumption)) (by decide) (show (5 : Nat) < 31 by decide) tw_1061 rfl rfl (tyX12_ok 5 (by decide)) rfl rfl dX12_init_26 rfl ?_
  refine m_aload_n 30 0 C dX12_init_29 rfl rfl ?_
  refine m_iconst 31 (2) C dX12_init_30 rfl (by decide) ?_
  refine m_newZ 33 2 (t := 4) (c := 3) (n := 290) C tw_251 (by decide) (by decide) (by decide) (by decide) (by decide) dX12_init_31 rfl ?_
  refine m_putF 36 (t := 5) (i := 0) (k0 := 7) (fs := [some (some 1), none, none, some (some 2), none, some (some 3), none, some none, some none, none, some none, some none, none, some none, some none, some none, none, none, none, none, none, none, none, none, some none, some none, some none, some none, some none, some none, some none]) (f := (fun _ => 0)) (g := (fun _ => 0)) (j := 4) C mlX12 (by omega) (by (first | rfl | assumption)) (by decide) (show (7 : Nat) < 31 by decide) tw_1063 rfl rfl (tyX12_ok 7 (by decide)) rfl rfl dX12_init_33 rfl ?_
  refine m_aload_n 37 0 C dX12_init_36 rfl rfl ?_
  refine m_sipush 40 (200) C dX12_init_37 rfl (by decide) ?_
  refine m_newI 42 200 (t := 5) (c := 4) (n := 292) C tw_163 (by decide) (by decide) (by decide) (by decide) (by decide) dX12_init_40 rfl ?_
  refine m_putF 45 (t := 6) (i := 0) (k0 := 8) (fs := [some (some 1), none, none, some (some 2), none, some (some 3), none, some (some 4), some none, none, some none, some none, none, some none, some none, some none, none, none, none, none, none, none, none, none, some none, some none, some none, some none, some none, some none, some none]) (f := (fun _ => 0)) (g := (fun _ => 0)) (j := 5) C mlX12 (by omega) (by (first | rfl | assumption)) (by decide) (show (8 : Nat) < 31 by decide) tw_1064 rfl rfl (tyX12_ok 8 (by decide)) rfl rfl dX12_init_42 rfl ?_
  refine m_aload_n 46 0 C dX12_init_45 rfl rfl ?_
  refine m_bipush 48 (6) C dX12_init_46 rfl (by decide) ?_
  refine m_newI 50 6 (t := 6) (c := 5) (n := 492) C tw_163 (by decide) (by decide) (by decide) (by decide) (by decide) dX12_init_48 rfl ?_
  refine m_putF 53 (t := 7) (i := 0) (k0 := 10) (fs := [some (some 1), none, none, some (some 2), none, some (some 3), none, some (some 4), some (some 5), none, some none, some none, none, some none, some none, some none, none, none, none, none, none, none, none, none, some none, some none, some none, some none, some none, some none, some none]) (f := (fun _ => 0)) (g := (fun _ => 0)) (j := 6) C mlX12 (by omega) (by (first | rfl | assumption)) (by decide) (show (10 : Nat) < 31 by decide) tw_1066 rfl rfl (tyX12_ok 10 (by decide)) rfl rfl dX12_init_50 rfl ?_
  refine m_aload_n 54 0 C dX12_init_53 rfl rfl ?_
  refine m_bipush 56 (6) C dX12_init_54 rfl (by decide) ?_
  refine m_newI 58 6 (t := 7) (c := 6) (n := 498) C tw_163 (by decide) (by decide) (by decide) (by decide) (by decide) dX12_init_56 rfl ?_
  refine m_putF 61 (t := 8) (i := 0) (k0 := 11) (fs := [some (some 1), none, none, some (some 2), none, some (some 3), none, some (some 4), some (some 5), none, some (some 6), some none, none, some none, some none, some none, none, none, none, none, none, none, none, none, some none, some none, some none, some none, some none, some none, some none]) (f := (fun _ => 0)) (g := (fun _ => 0)) (j := 7) C mlX12 (by omega) (by (first | rfl | assumption)) (by decide) (show (11 : Nat) < 31 by decide) tw_1067 rfl rfl (tyX12_ok 11 (by decide)) rfl rfl dX12_init_58 rfl ?_
  refine m_aload_n 62 0 C dX12_init_61 rfl rfl ?_
  refine m_iconst 63 (3) C dX12_init_62 rfl (by decide) ?_
  refine m_newI 65 3 (t := 8) (c := 7) (n := 504) C tw_163 (by decide) (by decide) (by decide) (by decide) (by decide) dX12_init_63 rfl ?_
  refine m_dup 66 C dX12_init_65 rfl rfl ?_
  refine m_iconst 67 (0) C dX12_init_66 rfl (by decide) ?_
  refine m_iconst 68 (-1) C dX12_init_67 rfl (by decide) ?_
  refine m_iast 69 0 (t := 9) (i := 8) (N := 3) (f := (fun _ => 0)) (g := (fun _ => 0)) C (by omega) (by (first | rfl | assumption)) (by decide) (by decide) dX12_init_68 rfl ?_
  refine m_dup 70 C dX12_init_69 rfl rfl ?_
  refine m_iconst 71 (1) C dX12_init_70 rfl (by decide) ?_
  refine m_iconst 72 (-1) C dX12_init_71 rfl (by decide) ?_
  refine m_iast 73 1 (t := 9) (i := 8) (N := 3) (f := (upd (fun _ => 0) 0 (-1))) (g := (fun _ => 0)) C (by omega) (by (first | rfl | assumption)) (by decide) (by decide) dX12_init_72 rfl ?_
  refine m_dup 74 C dX12_init_73 rfl rfl ?_
  refine m_iconst 75 (2) C dX12_init_74 rfl (by decide) ?_
  refine m_iconst 76 (-1) C dX12_init_75 rfl (by decide) ?_
  refine m_iast 77 2 (t := 9) (i := 8) (N := 3) (f := (upd (upd (fun _ => 0) 0 (-1)) 1 (-1))) (g := (fun _ => 0)) C (by omega) (by (first | rfl | assumption)) (by decide) (by decide) dX12_init_76 rfl ?_
  refine m_putF 80 (t := 9) (i := 0) (k0 := 13) (fs := [some (some 1), none, none, some (some 2), none, some (some 3), none, some (some 4), some (some 5), none, some (some 6), some (some 7), none, some none, some none, some none, none, none, none, none, none, none, none, none, some none, some none, some none, some none, some none, some none, some none]) (f := (fun _ => 0)) (g := (fun _ => 0)) (j := 8) C mlX12 (by omega) (by (first | rfl | assumption)) (by decide) (show (13 : Nat) < 31 by decide) tw_1069 rfl rfl (tyX12_ok 13 (by decide)) rfl rfl dX12_init_77 rfl ?_
  refine m_aload_n 81 0 C dX12_init_80 rfl rfl ?_
  refine m_bipush 83 (24) C dX12_init_81 rfl (by decide) ?_
  refine m_newI 85 24 (t := 9) (c := 8) (n := 507) C tw_163 (by decide) (by decide) (by decide) (by decide) (by decide) dX12_init_83 rfl ?_
  refine m_putF 88 (t := 10) (i := 0) (k0 := 14) (fs := [some (some 1), none, none, some (some 2), none, some (some 3), none, some (some 4), some (some 5), none, some (some 6), some (some 7), none, some (some 8), some none, some none, none, none, none, none, none, none, none, none, some none, some none, some none, some none, some none, some none, some none]) (f := (fun _ => 0)) (g := (fun _ => 0)) (j := 9) C mlX12 (by omega) (by (first | rfl | assumption)) (by decide) (show (14 : Nat) < 31 by decide) tw_1070 rfl rfl (tyX12_ok 14 (by decide)) rfl rfl dX12_init_85 rfl ?_
  refine m_aload_n 89 0 C dX12_init_88 rfl rfl ?_
  refine m_bipush 91 (24) C dX12_init_89 rfl (by decide) ?_
  refine m_newI 93 24 (t := 10) (c := 9) (n := 531) C tw_163 (by decide) (by decide) (by decide) (by decide) (by decide) dX12_init_91 rfl ?_
  refine m_putF 96 (t := 11) (i := 0) (k0 := 15) (fs := [some (some 1), none, none, some (some 2), none, some (some 3), none, some (some 4), some (some 5), none, some (some 6), some (some 7), none, some (some 8), some (some 9), some none, none, none, none, none, none, none, none, none, some none, some none, some none, some none, some none, some none, some none]) (f := (fun _ => 0)) (g := (fun _ => 0)) (j := 10) C mlX12 (by omega) (by (first | rfl | assumption)) (by decide) (show (15 : Nat) < 31 by decide) tw_1071 rfl rfl (tyX12_ok 15 (by decide)) rfl rfl dX12_init_93 rfl ?_
  refine m_aload_n 97 0 C dX12_init_96 rfl rfl ?_
  refine m_iconst 98 (3) C dX12_init_97 rfl (by decide) ?_
  refine m_newI 100 3 (t := 11) (c := 10) (n := 555) C tw_163 (by decide) (by decide) (by decide) (by decide) (by decide) dX12_init_98 rfl ?_
  refine m_putF 103 (t := 12) (i := 0) (k0 := 24) (fs := [some (some 1), none, none, some (some 2), none, some (some 3), none, some (some 4), some (some 5), none, some (some 6), some (some 7), none, some (some 8), some (some 9), some (some 10), none, none, none, none, none, none, none, none, some none, some none, some none, some none, some none, some none, some none]) (f := (fun _ => 0)) (g := (fun _ => 0)) (j := 11) C mlX12 (by omega) (by (first | rfl | assumption)) (by decide) (show (24 : Nat) < 31 by decide) tw_1080 rfl rfl (tyX12_ok 24 (by decide)) rfl rfl dX12_init_100 rfl ?_
  refine m_aload_n 104 0 C dX12_init_103 rfl rfl ?_
  refine m_bipush 106 (40) C dX12_init_104 rfl (by decide) ?_
  refine m_newI 108 40 (t := 12) (c := 11) (n := 558) C tw_163 (by decide) (by decide) (by decide) (by decide) (by decide) dX12_init_106 rfl ?_
  refine m_dup 109 C dX12_init_108 rfl rfl ?_
  refine m_iconst 110 (0) C dX12_init_109 rfl (by decide) ?_
  refine m_bipush 112 (102) C dX12_init_110 rfl (by decide) ?_
  refine m_iast 113 0 (t := 13) (i := 12) (N := 40) (f := (fun _ => 0)) (g := (fun _ => 0)) C (by omega) (by (first | rfl | assumption)) (by decide) (by decide) dX12_init_112 rfl ?_
  refine m_dup 114 C dX12_init_113 rfl rfl ?_
  refine m_iconst 115 (1) C dX12_init_114 rfl (by decide) ?_
  refine m_bipush 117 (108) C dX12_init_115 rfl (by decide) ?_
  refine m_iast 118 1 (t := 13) (i := 12) (N := 40) (f := (upd (fun _ => 0) 0 (102))) (g := (fun _ => 0)) C (by omega) (by (first | rfl | assumption)) (by decide) (by decide) dX12_init_117 rfl ?_
  refine m_dup 119 C dX12_init_118 rfl rfl ?_
  refine m_iconst 120 (2) C dX12_init_119 rfl (by decide) ?_
  refine m_bipush 122 (111) C dX12_init_120 rfl (by decide) ?_
  refine m_iast 123 2 (t := 13) (i := 12) (N := 40) (f := (upd (upd (fun _ => 0) 0 (102)) 1 (108))) (g := (fun _ => 0)) C (by omega) (by (first | rfl | assumption)) (by decide) (by decide) dX12_init_122 rfl ?_
  refine m_dup 124 C dX12_init_123 rfl rfl ?_
  refine m_iconst 125 (3) C dX12_init_124 rfl (by decide) ?_
  refine m_bipush 127 (119) C dX12_init_125 rfl (by decide) ?_
  refine m_iast 128 3 (t := 13) (i := 12) (N := 40) (f := (upd (upd (upd (fun _ => 0) 0 (102)) 1 (108)) 2 (111))) (g := (fun _ => 0)) C (by omega) (by (first | rfl | assumption)) (by decide) (by decide) dX12_init_127 rfl ?_
  refine m_dup 129 C dX12_init_128 rfl rfl ?_
  refine m_iconst 130 (4) C dX12_init_129 rfl (by decide) ?_
  refine m_iconst 131 (0) C dX12_init_130 rfl (by decide) ?_
  refine m_iast 132 4 (t := 13) (i := 12) (N := 40) (f := (upd (upd (upd (upd (fun _ => 0) 0 (102)) 1 (108)) 2 (111)) 3 (119))) (g := (fun _ => 0)) C (by omega) (by (first | rfl | assumption)) (by decide) (by decide) dX12_init_131 rfl ?_
  refine m_dup 133 C dX12_init_132 rfl rfl ?_
  refine m_iconst 134 (5) C dX12_init_133 rfl (by decide) ?_
  refine m_bipush 136 (112) C dX12_init_134 rfl (by decide) ?_
  refine m_iast 137 5 (t := 13) (i := 12) (N := 40) (f := (upd (upd (upd (upd (upd (fun _ => 0) 0 (102)) 1 (108)) 2 (111)) 3 (119)) 4 (0))) (g := (fun _ => 0)) C (by omega) (by (first | rfl | assumption)) (by decide) (by decide) dX12_init_136 rfl ?_
  refine m_dup 138 C dX12_init_137 rfl rfl ?_
  refine m_bipush 140 (6) C dX12_init_138 rfl (by decide) ?_
  refine m_bipush 142 (97) C dX12_init_140 rfl (by decide) ?_
  refine m_iast 143 6 (t := 13) (i := 12) (N := 40) (f := (upd (upd (upd (upd (upd (upd (fun _ => 0) 0 (102)) 1 (108)) 2 (111)) 3 (119)) 4 (0)) 5 (112))) (g := (fun _ => 0)) C (by omega) (by (first | rfl | assumption)) (by decide) (by decide) dX12_init_142 rfl ?_
  refine m_dup 144 C dX12_init_143 rfl rfl ?_
  refine m_bipush 146 (7) C dX12_init_144 rfl (by decide) ?_
  refine m_bipush 148 (105) C dX12_init_146 rfl (by decide) ?_
  refine m_iast 149 7 (t := 13) (i := 12) (N := 40) (f := (upd (upd (upd (upd (upd (upd (upd (fun _ => 0) 0 (102)) 1 (108)) 2 (111)) 3 (119)) 4 (0)) 5 (112)) 6 (97))) (g := (fun _ => 0)) C (by omega) (by (first | rfl | assumption)) (by decide) (by decide) dX12_init_148 rfl ?_
  refine m_dup 150 C dX12_init_149 rfl rfl ?_
  refine m_bipush 152 (8) C dX12_init_150 rfl (by decide) ?_
  refine m_bipush 154 (114) C dX12_init_152 rfl (by decide) ?_
  refine m_iast 155 8 (t := 13) (i := 12) (N := 40) (f := (upd (upd (upd (upd (upd (upd (upd (upd (fun _ => 0) 0 (102)) 1 (108)) 2 (111)) 3 (119)) 4 (0)) 5 (112)) 6 (97)) 7 (105))) (g := (fun _ => 0)) C (by omega) (by (first | rfl | assumption)) (by decide) (by decide) dX12_init_154 rfl ?_
  refine m_dup 156 C dX12_init_155 rfl rfl ?_
  refine m_bipush 158 (9) C dX12_init_156 rfl (by decide) ?_
  refine m_iconst 159 (0) C dX12_init_158 rfl (by decide) ?_
  refine m_iast 160 9 (t := 13) (i := 12) (N := 40) (f := (upd (upd (upd (upd (upd (upd (upd (upd (upd (fun _ => 0) 0 (102)) 1 (108)) 2 (111)) 3 (119)) 4 (0)) 5 (112)) 6 (97)) 7 (105)) 8 (114))) (g := (fun _ => 0)) C (by omega) (by (first | rfl | assumption)) (by decide) (by decide) dX12_init_159 rfl ?_
  refine m_dup 161 C dX12_init_160 rfl rfl ?_
  refine m_bipush 163 (10) C dX12_init_161 rfl (by decide) ?_
  refine m_bipush 165 (110) C dX12_init_163 rfl (by decide) ?_
  refine m_iast 166 10 (t := 13) (i := 12) (N := 40) (f := (upd (upd (upd (upd (upd (upd (upd (upd (upd (upd (fun _ => 0) 0 (102)) 1 (108)) 2 (111)) 3 (119)) 4 (0)) 5 (112)) 6 (97)) 7 (105)) 8 (114)) 9 (0))) (g := (fun _ => 0)) C (by omega) (by (first | rfl | assumption)) (by decide) (by decide) dX12_init_165 rfl ?_
  refine m_dup 167 C dX12_init_166 rfl rfl ?_
  refine m_bipush 169 (11) C dX12_init_167 rfl (by decide) ?_
  refine m_bipush 171 (111) C dX12_init_169 rfl (by decide) ?_
  refine m_iast 172 11 (t := 13) (i := 12) (N := 40) (f := (upd (upd (upd (upd (upd (upd (upd (upd (upd (upd (upd (fun _ => 0) 0 (102)) 1 (108)) 2 (111)) 3 (119)) 4 (0)) 5 (112)) 6 (97)) 7 (105)) 8 (114)) 9 (0)) 10 (110))) (g := (fun _ => 0)) C (by omega) (by (first | rfl | assumption)) (by decide) (by decide) dX12_init_171 rfl ?_
  refine m_dup 173 C dX12_init_172 rfl rfl ?_
  refine m_bipush 175 (12) C dX12_init_173 rfl (by decide) ?_
  refine m_bipush 177 (100) C dX12_init_175 rfl (by decide) ?_
  refine m_iast 178 12 (t := 13) (i := 12) (N := 40) (f := (upd (upd (upd (upd (upd (upd (upd (upd (upd (upd (upd (upd (fun _ => 0) 0 (102)) 1 (108)) 2 (111)) 3 (119)) 4 (0)) 5 (112)) 6 (97)) 7 (105)) 8 (114)) 9 (0)) 10 (110)) 11 (111))) (g := (fun _ => 0)) C (by omega) (by (first | rfl | assumption)) (by decide) (by decide) dX12_init_177 rfl ?_
  refine m_dup 179 C dX12_init_178 rfl rfl ?_
  refine m_bipush 181 (13) C dX12_init_179 rfl (by decide) ?_
  refine m_bipush 183 (101) C dX12_init_181 rfl (by decide) ?_
  refine m_iast 184 13 (t := 13) (i := 12) (N := 40) (f := (upd (upd (upd (upd (upd (upd (upd (upd (upd (upd (upd (upd (upd (fun _ => 0) 0 (102)) 1 (108)) 2 (111)) 3 (119)) 4 (0)) 5 (112)) 6 (97)) 7 (105)) 8 (114)) 9 (0)) 10 (110)) 11 (111)) 12 (100))) (g := (fun _ => 0)) C (by omega) (by (first | rfl | assumption)) (by decide) (by decide) dX12_init_183 rfl ?_
  refine m_dup 185 C dX12_init_184 rfl rfl ?_
  refine m_bipush 187 (14) C dX12_init_185 rfl (by decide) ?_
  refine m_iconst 188 (0) C dX12_init_187 rfl (by decide) ?_
  refine m_iast 189 14 (t := 13) (i := 12) (N := 40) (f := (upd (upd (upd (upd (upd (upd (upd (upd (upd (upd (upd (upd (upd (upd (fun _ => 0) 0 (102)) 1 (108)) 2 (111)) 3 (119)) 4 (0)) 5 (112)) 6 (97)) 7 (105)) 8 (114)) 9 (0)) 10 (110)) 11 (111)) 12 (100)) 13 (101))) (g := (fun _ => 0)) C (by omega) (by (first | rfl | assumption)) (by decide) (by decide) dX12_init_188 rfl ?_
  refine m_dup 190 C dX12_init_189 rfl rfl ?_
  refine m_bipush 192 (15) C dX12_init_190 rfl (by decide) ?_
  refine m_bipush 194 (119) C dX12_init_192 rfl (by decide) ?_
  refine m_iast 195 15 (t := 13) (i := 12) (N := 40) (f := (upd (upd (upd (upd (upd (upd (upd (upd (upd (upd (upd (upd (upd (upd (upd (fun _ => 0) 0 (102)) 1 (108)) 2 (111)) 3 (119)) 4 (0)) 5 (112)) 6 (97)) 7 (105)) 8 (114)) 9 (0)) 10 (110)) 11 (111)) 12 (100)) 13 (101)) 14 (0))) (g := (fun _ => 0)) C (by omega) (by (first | rfl | assumption)) (by decide) (by decide) dX12_init_194 rfl ?_
  refine m_dup 196 C dX12_init_195 rfl rfl ?_
  refine m_bipush 198 (16) C dX12_init_196 rfl (by decide) ?_
  refine m_bipush 200 (105) C dX12_init_198 rfl (by decide) ?_
  refine m_iast 201 16 (t := 13) (i := 12) (N := 40) (f := (upd (upd (upd (upd (upd (upd (upd (upd (upd (upd (upd (upd (upd (upd (upd (upd (fun _ => 0) 0 (102)) 1 (108)) 2 (111)) 3 (119)) 4 (0)) 5 (112)) 6 (97)) 7 (105)) 8 (114)) 9 (0)) 10 (110)) 11 (111)) 12 (100)) 13 (101)) 14 (0)) 15 (119))) (g := (fun _ => 0)) C (by omega) (by (first | rfl | assumption)) (by decide) (by decide) dX12_init_200 rfl ?_
  refine m_dup 202 C dX12_init_201 rfl rfl ?_
  refine m_bipush 204 (17) C dX12_init_202 rfl (by decide) ?_
  refine m_bipush 206 (100) C dX12_init_204 rfl (by decide) ?_
  refine m_iast 207 17 (t := 13) (i := 12) (N := 40) (f := (upd (upd (upd (upd (upd (upd (upd (upd (upd (upd (upd (upd (upd (upd (upd (upd (upd (fun _ => 0) 0 (102)) 1 (108)) 2 (111)) 3 (119)) 4 (0)) 5 (112)) 6 (97)) 7 (105)) 8 (114)) 9 (0)) 10 (110)) 11 (111)) 12 (100)) 13 (101)) 14 (0)) 15 (119)) 16 (105))) (g := (fun _ => 0)) C (by omega) (by (first | rfl | assumption)) (by decide) (by decide) dX12_init_206 rfl ?_
  refine m_dup 208 C dX12_init_207 rfl rfl ?_
  refine m_bipush 210 (18) C dX12_init_208 rfl (by decide) ?_
  refine m_bipush 212 (101) C dX12_init_210 rfl (by decide) ?_
  refine m_iast 213 18 (t := 13) (i := 12) (N := 40) (f := (upd (upd (upd (upd (upd (upd (upd (upd (upd (upd (upd (upd (upd (upd (upd (upd (upd (upd (fun _ => 0) 0 (102)) 1 (108)) 2 (111)) 3 (119)) 4 (0)) 5 (112)) 6 (97)) 7 (105)) 8 (114)) 9 (0)) 10 (110)) 11 (111)) 12 (100)) 13 (101)) 14 (0)) 15 (119)) 16 (105)) 17 (100))) (g := (fun _ => 0)) C (by omega) (by (first | rfl | assumption)) (by decide) (by decide) dX12_init_212 rfl ?_
  refine m_dup 214 C dX12_init_213 rfl rfl ?_
  refine m_bipush 216 (19) C dX12_init_214 rfl (by decide) ?_
  refine m_iconst 217 (0) C dX12_init_216 rfl (by decide) ?_
  refine m_iast 218 19 (t := 13) (i := 12) (N := 40) (f := (upd (upd (upd (upd (upd (upd (upd (upd (upd (upd (upd (upd (upd (upd (upd (upd (upd (upd (upd (fun _ => 0) 0 (102)) 1 (108)) 2 (111)) 3 (119)) 4 (0)) 5 (112)) 6 (97)) 7 (105)) 8 (114)) 9 (0)) 10 (110)) 11 (111)) 12 (100)) 13 (101)) 14 (0)) 15 (119)) 16 (105)) 17 (100)) 18 (101))) (g := (fun _ => 0)) C (by omega) (by (first | rfl | assumption)) (by decide) (by decide) dX12_init_217 rfl ?_
  refine m_dup 219 C dX12_init_218 rfl rfl ?_
  refine m_bipush 221 (20) C dX12_init_219 rfl (by decide) ?_
  refine m_bipush 223 (100) C dX12_init_221 rfl (by decide) ?_
  refine m_iast 224 20 (t := 13) (i := 12) (N := 40) (f := (upd (upd (upd (upd (upd (upd (upd (upd (upd (upd (upd (upd (upd (upd (upd (upd (upd (upd (upd (upd (fun _ => 0) 0 (102)) 1 (108)) 2 (111)) 3 (119)) 4 (0)) 5 (112)) 6 (97)) 7 (105)) 8 (114)) 9 (0)) 10 (110)) 11 (111)) 12 (100)) 13 (101)) 14 (0)) 15 (119)) 16 (105)) 17 (100)) 18 (101)) 19 (0))) (g := (fun _ => 0)) C (by omega) (by (first | rfl | assumption)) (by decide) (by decide) dX12_init_223 rfl ?_
  refine m_dup 225 C dX12_init_224 rfl rfl ?_
  refine m_bipush 227 (21) C dX12_init_225 rfl (by decide) ?_
  refine m_bipush 229 (117) C dX12_init_227 rfl (by decide) ?_
  refine m_iast 230 21 (t := 13) (i := 12) (N := 40) (f := (upd (upd (upd (upd (upd (upd (upd (upd (upd (upd (upd (upd (upd (upd (upd (upd (upd (upd (upd (upd (upd (fun _ => 0) 0 (102)) 1 (108)) 2 (111)) 3 (119)) 4 (0)) 5 (112)) 6 (97)) 7 (105)) 8 (114)) 9 (0)) 10 (110)) 11 (111)) 12 (100)) 13 (101)) 14 (0)) 15 (119)) 16 (105)) 17 (100)) 18 (101)) 19 (0)) 20 (100))) (g := (fun _ => 0)) C (by omega) (by (first | rfl | assumption)) (by decide) (by decide) dX12_init_229 rfl ?_
  refine m_dup 231 C dX12_init_230 rfl rfl ?_
  refine m_bipush 233 (22) C dX12_init_231 rfl (by decide) ?_
  refine m_bipush 235 (108) C dX12_init_233 rfl (by decide) ?_
  refine m_iast 236 22 (t := 13) (i := 12) (N := 40) (f := (upd (upd (upd (upd (upd (upd (upd (upd (upd (upd (upd (upd (upd (upd (upd (upd (upd (upd (upd (upd (upd (upd (fun _ => 0) 0 (102)) 1 (108)) 2 (111)) 3 (119)) 4 (0)) 5 (112)) 6 (97)) 7 (105)) 8 (114)) 9 (0)) 10 (110)) 11 (111)) 12 (100)) 13 (101)) 14 (0)) 15 (119)) 16 (105)) 17 (100)) 18 (101)) 19 (0)) 20 (100)) 21 (117))) (g := (fun _ => 0)) C (by omega) (by (first | rfl | assumption)) (by decide) (by decide) dX12_init_235 rfl ?_
  refine m_dup 237 C dX12_init_236 rfl rfl ?_
  refine m_bipush 239 (23) C dX12_init_237 rfl (by decide) ?_
  refine m_bipush 241 (108) C dX12_init_239 rfl (by decide) ?_
  refine m_iast 242 23 (t := 13) (i := 12) (N := 40) (f := (upd (upd (upd (upd (upd (upd (upd (upd (upd (upd (upd (upd (upd (upd (upd (upd (upd (upd (upd (upd (upd (upd (upd (fun _ => 0) 0 (102)) 1 (108)) 2 (111)) 3 (119)) 4 (0)) 5 (112)) 6 (97)) 7 (105)) 8 (114)) 9 (0)) 10 (110)) 11 (111)) 12 (100)) 13 (101)) 14 (0)) 15 (119)) 16 (105)) 17 (100)) 18 (101)) 19 (0)) 20 (100)) 21 (117)) 22 (108))) (g := (fun _ => 0)) C (by omega) (by (first | rfl | assumption)) (by decide) (by decide) dX12_init_241 rfl ?_
  refine m_dup 243 C dX12_init_242 rfl rfl ?_
  refine m_bipush 245 (24) C dX12_init_243 rfl (by decide) ?_
  refine m_iconst 246 (0) C dX12_init_245 rfl (by decide) ?_
  refine m_iast 247 24 (t := 13) (i := 12) (N := 40) (f := (upd (upd (upd (upd (upd (upd (upd (upd (upd (upd (upd (upd (upd (upd (upd (upd (upd (upd (upd (upd (upd (upd (upd (upd (fun _ => 0) 0 (102)) 1 (108)) 2 (111)) 3 (119)) 4 (0)) 5 (112)) 6 (97)) 7 (105)) 8 (114)) 9 (0)) 10 (110)) 11 (111)) 12 (100)) 13 (101)) 14 (0)) 15 (119)) 16 (105)) 17 (100)) 18 (101)) 19 (0)) 20 (100)) 21 (117)) 22 (108)) 23 (108))) (g := (fun _ => 0)) C (by omega) (by (first | rfl | assumption)) (by decide) (by decide) dX12_init_246 rfl ?_
  refine m_dup 248 C dX12_init_247 rfl rfl ?_
  refine m_bipush 250 (25) C dX12_init_248 rfl (by decide) ?_
  refine m_bipush 252 (111) C dX12_init_250 rfl (by decide) ?_
  refine m_iast 253 25 (t := 13) (i := 12) (N := 40) (f := (upd (upd (upd (upd (upd (upd (upd (upd (upd (upd (upd (upd (upd (upd (upd (upd (upd (upd (upd (upd (upd (upd (upd (upd (upd (fun _ => 0) 0 (102)) 1 (108)) 2 (111)) 3 (119)) 4 (0)) 5 (112)) 6 (97)) 7 (105)) 8 (114)) 9 (0)) 10 (110)) 11 (111)) 12 (100)) 13 (101)) 14 (0)) 15 (119)) 16 (105)) 17 (100)) 18 (101)) 19 (0)) 20 (100)) 21 (117)) 22 (108)) 23 (108)) 24 (0))) (g := (fun _ => 0)) C (by omega) (by (first | rfl | assumption)) (by decide) (by decide) dX12_init_252 rfl ?_
  refine m_dup 254 C dX12_init_253 rfl rfl ?_
  refine m_bipush 256 (26) C dX12_init_254 rfl (by decide) ?_
  refine m_bipush 258 (102) C dX12_init_256 rfl (by decide) ?_
  refine m_iast 259 26 (t := 13) (i := 12) (N := 40) (f := (upd (upd (upd (upd (upd (upd (upd (upd (upd (upd (upd (upd (upd (upd (upd (upd (upd (upd (upd (upd (upd (upd (upd (upd (upd (upd (fun _ => 0) 0 (102)) 1 (108)) 2 (111)) 3 (119)) 4 (0)) 5 (112)) 6 (97)) 7 (105)) 8 (114)) 9 (0)) 10 (110)) 11 (111)) 12 (100)) 13 (101)) 14 (0)) 15 (119)) 16 (105)) 17 (100)) 18 (101)) 19 (0)) 20 (100)) 21 (117)) 22 (108)) 23 (108)) 24 (0)) 25 (111))) (g := (fun _ => 0)) C (by omega) (by (first | rfl | assumption)) (by decide) (by decide) dX12_init_258 rfl ?_
  refine m_dup 260 C dX12_init_259 rfl rfl ?_
  refine m_bipush 262 (27) C dX12_init_260 rfl (by decide) ?_
  refine m_bipush 264 (102) C dX12_init_262 rfl (by decide) ?_
  refine m_iast 265 27 (t := 13) (i := 12) (N := 40) (f := (upd (upd (upd (upd (upd (upd (upd (upd (upd (upd (upd (upd (upd (upd (upd (upd (upd (upd (upd (upd (upd (upd (upd (upd (upd (upd (upd (fun _ => 0) 0 (102)) 1 (108)) 2 (111)) 3 (119)) 4 (0)) 5 (112)) 6 (97)) 7 (105)) 8 (114)) 9 (0)) 10 (110)) 11 (111)) 12 (100)) 13 (101)) 14 (0)) 15 (119)) 16 (105)) 17 (100)) 18 (101)) 19 (0)) 20 (100)) 21 (117)) 22 (108)) 23 (108)) 24 (0)) 25 (111)) 26 (102))) (g := (fun _ => 0)) C (by omega) (by (first | rfl | assumption)) (by decide) (by decide) dX12_init_264 rfl ?_
  refine m_dup 266 C dX12_init_265 rfl rfl ?_
  refine m_bipush 268 (28) C dX12_init_266 rfl (by decide) ?_
  refine m_bipush 270 (101) C dX12_init_268 rfl (by decide) ?_
  refine m_iast 271 28 (t := 13) (i := 12) (N := 40) (f := (upd (upd (upd (upd (upd (upd (upd (upd (upd (upd (upd (upd (upd (upd (upd (upd (upd (upd (upd (upd (upd (upd (upd (upd (upd (upd (upd (upd (fun _ => 0) 0 (102)) 1 (108)) 2 (111)) 3 (119)) 4 (0)) 5 (112)) 6 (97)) 7 (105)) 8 (114)) 9 (0)) 10 (110)) 11 (111)) 12 (100)) 13 (101)) 14 (0)) 15 (119)) 16 (105)) 17 (100)) 18 (101)) 19 (0)) 20 (100)) 21 (117)) 22 (108)) 23 (108)) 24 (0)) 25 (111)) 26 (102)) 27 (102))) (g := (fun _ => 0)) C (by omega) (by (first | rfl | assumption)) (by decide) (by decide) dX12_init_270 rfl ?_
  refine m_dup 272 C dX12_init_271 rfl rfl ?_
  refine m_bipush 274 (29) C dX12_init_272 rfl (by decide) ?_
  refine m_bipush 276 (114) C dX12_init_274 rfl (by decide) ?_
  refine m_iast 277 29 (t := 13) (i := 12) (N := 40) (f := (upd (upd (upd (upd (upd (upd (upd (upd (upd (upd (upd (upd (upd (upd (upd (upd (upd (upd (upd (upd (upd (upd (upd (upd (upd (upd (upd (upd (upd (fun _ => 0) 0 (102)) 1 (108)) 2 (111)) 3 (119)) 4 (0)) 5 (112)) 6 (97)) 7 (105)) 8 (114)) 9 (0)) 10 (110)) 11 (111)) 12 (100)) 13 (101)) 14 (0)) 15 (119)) 16 (105)) 17 (100)) 18 (101)) 19 (0)) 20 (100)) 21 (117)) 22 (108)) 23 (108)) 24 (0)) 25 (111)) 26 (102)) 27 (102)) 28 (101))) (g := (fun _ => 0)) C (by omega) (by (first | rfl | assumption)) (by decide) (by decide) dX12_init_276 rfl ?_
  refine m_dup 278 C dX12_init_277 rfl rfl ?_
  refine m_bipush 280 (30) C dX12_init_278 rfl (by decide) ?_
  refine m_bipush 282 (103) C dX12_init_280 rfl (by decide) ?_
  refine m_iast 283 30 (t := 13) (i := 12) (N := 40) (f := (upd (upd (upd (upd (upd (upd (upd (upd (upd (upd (upd (upd (upd (upd (upd (upd (upd (upd (upd (upd (upd (upd (upd (upd (upd (upd (upd (upd (upd (upd (fun _ => 0) 0 (102)) 1 (108)) 2 (111)) 3 (119)) 4 (0)) 5 (112)) 6 (97)) 7 (105)) 8 (114)) 9 (0)) 10 (110)) 11 (111)) 12 (100)) 13 (101)) 14 (0)) 15 (119)) 16 (105)) 17 (100)) 18 (101)) 19 (0)) 20 (100)) 21 (117)) 22 (108)) 23 (108)) 24 (0)) 25 (111)) 26 (102)) 27 (102)) 28 (101)) 29 (114))) (g := (fun _ => 0)) C (by omega) (by (first | rfl | assumption)) (by decide) (by decide) dX12_init_282 rfl ?_
  refine m_dup 284 C dX12_init_283 rfl rfl ?_
  refine m_bipush 286 (31) C dX12_init_284 rfl (by decide) ?_
  refine m_bipush 288 (114) C dX12_init_286 rfl (by decide) ?_
  refine m_iast 289 31 (t := 13) (i := 12) (N := 40) (f := (upd (upd (upd (upd (upd (upd (upd (upd (upd (upd (upd (upd (upd (upd (upd (upd (upd (upd (upd (upd (upd (upd (upd (upd (upd (upd (upd (upd (upd (upd (upd (fun _ => 0) 0 (102)) 1 (108)) 2 (111)) 3 (119)) 4 (0)) 5 (112)) 6 (97)) 7 (105)) 8 (114)) 9 (0)) 10 (110)) 11 (111)) 12 (100)) 13 (101)) 14 (0)) 15 (119)) 16 (105)) 17 (100)) 18 (101)) 19 (0)) 20 (100)) 21 (117)) 22 (108)) 23 (108)) 24 (0)) 25 (111)) 26 (102)) 27 (102)) 28 (101)) 29 (114)) 30 (103))) (g := (fun _ => 0)) C (by omega) (by (first | rfl | assumption)) (by decide) (by decide) dX12_init_288 rfl ?_
  refine m_dup 290 C dX12_init_289 rfl rfl ?_
  refine m_bipush 292 (32) C dX12_init_290 rfl (by decide) ?_
  refine m_bipush 294 (105) C dX12_init_292 rfl (by decide) ?_
  refine m_iast 295 32 (t := 13) (i := 12) (N := 40) (f := (upd (upd (upd (upd (upd (upd (upd (upd (upd (upd (upd (upd (upd (upd (upd (upd (upd (upd (upd (upd (upd (upd (upd (upd (upd (upd (upd (upd (upd (upd (upd (upd (fun _ => 0) 0 (102)) 1 (108)) 2 (111)) 3 (119)) 4 (0)) 5 (112)) 6 (97)) 7 (105)) 8 (114)) 9 (0)) 10 (110)) 11 (111)) 12 (100)) 13 (101)) 14 (0)) 15 (119)) 16 (105)) 17 (100)) 18 (101)) 19 (0)) 20 (100)) 21 (117)) 22 (108)) 23 (108)) 24 (0)) 25 (111)) 26 (102)) 27 (102)) 28 (101)) 29 (114)) 30 (103)) 31 (114))) (g := (fun _ => 0)) C (by omega) (by (first | rfl | assumption)) (by decide) (by decide) dX12_init_294 rfl ?_
  refine m_dup 296 C dX12_init_295 rfl rfl ?_
  refine m_bipush 298 (33) C dX12_init_296 rfl (by decide) ?_
  refine m_bipush 300 (100) C dX12_init_298 rfl (by decide) ?_
  refine m_iast 301 33 (t := 13) (i := 12) (N := 40) (f := (upd (upd (upd (upd (upd (upd (upd (upd (upd (upd (upd (upd (upd (upd (upd (upd (upd (upd (upd (upd (upd (upd (upd (upd (upd (upd (upd (upd (upd (upd (upd (upd (upd (fun _ => 0) 0 (102)) 1 (108)) 2 (111)) 3 (119)) 4 (0)) 5 (112)) 6 (97)) 7 (105)) 8 (114)) 9 (0)) 10 (110)) 11 (111)) 12 (100)) 13 (101)) 14 (0)) 15 (119)) 16 (105)) 17 (100)) 18 (101)) 19 (0)) 20 (100)) 21 (117)) 22 (108)) 23 (108)) 24 (0)) 25 (111)) 26 (102)) 27 (102)) 28 (101)) 29 (114)) 30 (103)) 31 (114)) 32 (105))) (g := (fun _ => 0)) C (by omega) (by (first | rfl | assumption)) (by decide) (by decide) dX12_init_300 rfl ?_
  refine m_dup 302 C dX12_init_301 rfl rfl ?_
  refine m_bipush 304 (34) C dX12_init_302 rfl (by decide) ?_
  refine m_iconst 305 (0) C dX12_init_304 rfl (by decide) ?_
  refine m_iast 306 34 (t := 13) (i := 12) (N := 40) (f := (upd (upd (upd (upd (upd (upd (upd (upd (upd (upd (upd (upd (upd (upd (upd (upd (upd (upd (upd (upd (upd (upd (upd (upd (upd (upd (upd (upd (upd (upd (upd (upd (upd (upd (fun _ => 0) 0 (102)) 1 (108)) 2 (111)) 3 (119)) 4 (0)) 5 (112)) 6 (97)) 7 (105)) 8 (114)) 9 (0)) 10 (110)) 11 (111)) 12 (100)) 13 (101)) 14 (0)) 15 (119)) 16 (105)) 17 (100)) 18 (101)) 19 (0)) 20 (100)) 21 (117)) 22 (108)) 23 (108)) 24 (0)) 25 (111)) 26 (102)) 27 (102)) 28 (101)) 29 (114)) 30 (103)) 31 (114)) 32 (105)) 33 (100))) (g := (fun _ => 0)) C (by omega) (by (first | rfl | assumption)) (by decide) (by decide) dX12_init_305 rfl ?_
  refine m_dup 307 C dX12_init_306 rfl rfl ?_
  refine m_bipush 309 (35) C dX12_init_307 rfl (by decide) ?_
  refine m_bipush 311 (108) C dX12_init_309 rfl (by decide) ?_
  refine m_iast 312 35 (t := 13) (i := 12) (N := 40) (f := (upd (upd (upd (upd (upd (upd (upd (upd (upd (upd (upd (upd (upd (upd (upd (upd (upd (upd (upd (upd (upd (upd (upd (upd (upd (upd (upd (upd (upd (upd (upd (upd (upd (upd (upd (fun _ => 0) 0 (102)) 1 (108)) 2 (111)) 3 (119)) 4 (0)) 5 (112)) 6 (97)) 7 (105)) 8 (114)) 9 (0)) 10 (110)) 11 (111)) 12 (100)) 13 (101)) 14 (0)) 15 (119)) 16 (105)) 17 (100)) 18 (101)) 19 (0)) 20 (100)) 21 (117)) 22 (108)) 23 (108)) 24 (0)) 25 (111)) 26 (102)) 27 (102)) 28 (101)) 29 (114)) 30 (103)) 31 (114)) 32 (105)) 33 (100)) 34 (0))) (g := (fun _ => 0)) C (by omega) (by (first | rfl | assumption)) (by decide) (by decide) dX12_init_311 rfl ?_
  refine m_dup 313 C dX12_init_312 rfl rfl ?_
  refine m_bipush 315 (36) C dX12_init_313 rfl (by decide) ?_
  refine m_bipush 317 (105) C dX12_init_315 rfl (by decide) ?_
  refine m_iast 318 36 (t := 13) (i := 12) (N := 40) (f := (upd (upd (upd (upd (upd (upd (upd (upd (upd (upd (upd (upd (upd (upd (upd (upd (upd (upd (upd (upd (upd (upd (upd (upd (upd (upd (upd (upd (upd (upd (upd (upd (upd (upd (upd (upd (fun _ => 0) 0 (102)) 1 (108)) 2 (111)) 3 (119)) 4 (0)) 5 (112)) 6 (97)) 7 (105)) 8 (114)) 9 (0)) 10 (110)) 11 (111)) 12 (100)) 13 (101)) 14 (0)) 15 (119)) 16 (105)) 17 (100)) 18 (101)) 19 (0)) 20 (100)) 21 (117)) 22 (108)) 23 (108)) 24 (0)) 25 (111)) 26 (102)) 27 (102)) 28 (101)) 29 (114)) 30 (103)) 31 (114)) 32 (105)) 33 (100)) 34 (0)) 35 (108))) (g := (fun _ => 0)) C (by omega) (by (first | rfl | assumption)) (by decide) (by decide) dX12_init_317 rfl ?_
  refine m_dup 319 C dX12_init_318 rfl rfl ?_
  refine m_bipush 321 (37) C dX12_init_319 rfl (by decide) ?_
  refine m_bipush 323 (110) C dX12_init_321 rfl (by decide) ?_
  refine m_iast 324 37 (t := 13) (i := 12) (N := 40) (f := (upd (upd (upd (upd (upd (upd (upd (upd (upd (upd (upd (upd (upd (upd (upd (upd (upd (upd (upd (upd (upd (upd (upd (upd (upd (upd (upd (upd (upd (upd (upd (upd (upd (upd (upd (upd (upd (fun _ => 0) 0 (102)) 1 (108)) 2 (111)) 3 (119)) 4 (0)) 5 (112)) 6 (97)) 7 (105)) 8 (114)) 9 (0)) 10 (110)) 11 (111)) 12 (100)) 13 (101)) 14 (0)) 15 (119)) 16 (105)) 17 (100)) 18 (101)) 19 (0)) 20 (100)) 21 (117)) 22 (108)) 23 (108)) 24 (0)) 25 (111)) 26 (102)) 27 (102)) 28 (101)) 29 (114)) 30 (103)) 31 (114)) 32 (105)) 33 (100)) 34 (0)) 35 (108)) 36 (105))) (g := (fun _ => 0)) C (by omega) (by (first | rfl | assumption)) (by decide) (by decide) dX12_init_323 rfl ?_
  refine m_dup 325 C dX12_init_324 rfl rfl ?_
  refine m_bipush 327 (38) C dX12_init_325 rfl (by decide) ?_
  refine m_bipush 329 (101) C dX12_init_327 rfl (by decide) ?_
  refine m_iast 330 38 (t := 13) (i := 12) (N := 40) (f := (upd (upd (upd (upd (upd (upd (upd (upd (upd (upd (upd (upd (upd (upd (upd (upd (upd (upd (upd (upd (upd (upd (upd (upd (upd (upd (upd (upd (upd (upd (upd (upd (upd (upd (upd (upd (upd (upd (fun _ => 0) 0 (102)) 1 (108)) 2 (111)) 3 (119)) 4 (0)) 5 (112)) 6 (97)) 7 (105)) 8 (114)) 9 (0)) 10 (110)) 11 (111)) 12 (100)) 13 (101)) 14 (0)) 15 (119)) 16 (105)) 17 (100)) 18 (101)) 19 (0)) 20 (100)) 21 (117)) 22 (108)) 23 (108)) 24 (0)) 25 (111)) 26 (102)) 27 (102)) 28 (101)) 29 (114)) 30 (103)) 31 (114)) 32 (105)) 33 (100)) 34 (0)) 35 (108)) 36 (105)) 37 (110))) (g := (fun _ => 0)) C (by omega) (by (first | rfl | assumption)) (by decide) (by decide) dX12_init_329 rfl ?_
  refine m_dup 331 C dX12_init_330 rfl rfl ?_
  refine m_bipush 333 (39) C dX12_init_331 rfl (by decide) ?_
  refine m_iconst 334 (0) C dX12_init_333 rfl (by decide) ?_
  refine m_iast 335 39 (t := 13) (i := 12) (N := 40) (f := (upd (upd (upd (upd (upd (upd (upd (upd (upd (upd (upd (upd (upd (upd (upd (upd (upd (upd (upd (upd (upd (upd (upd (upd (upd (upd (upd (upd (upd (upd (upd (upd (upd (upd (upd (upd (upd (upd (upd (fun _ => 0) 0 (102)) 1 (108)) 2 (111)) 3 (119)) 4 (0)) 5 (112)) 6 (97)) 7 (105)) 8 (114)) 9 (0)) 10 (110)) 11 (111)) 12 (100)) 13 (101)) 14 (0)) 15 (119)) 16 (105)) 17 (100)) 18 (101)) 19 (0)) 20 (100)) 21 (117)) 22 (108)) 23 (108)) 24 (0)) 25 (111)) 26 (102)) 27 (102)) 28 (101)) 29 (114)) 30 (103)) 31 (114)) 32 (105)) 33 (100)) 34 (0)) 35 (108)) 36 (105)) 37 (110)) 38 (101))) (g := (fun _ => 0)) C (by omega) (by (first | rfl | assumption)) (by decide) (by decide) dX12_init_334 rfl ?_
  refine m_putF 338 (t := 13) (i := 0) (k0 := 25) (fs := [some (some 1), none, none, some (some 2), none, some (some 3), none, some (some 4), some (some 5), none, some (some 6), some (some 7), none, some (some 8), some (some 9), some (some 10), none, none, none, none, none, none, none, none, some (some 11), some none, some none, some none, some none, some none, some none]) (f := (fun _ => 0)) (g := (fun _ => 0)) (j := 12) C mlX12 (by omega) (by (first | rfl | assumption)) (by decide) (show (25 : Nat) < 31 by decide) tw_1081 rfl rfl (tyX12_ok 25 (by decide)) rfl rfl dX12_init_335 rfl ?_
  refine m_aload_n 339 0 C dX12_init_338 rfl rfl ?_
  refine m_sipush 342 (128) C dX12_init_339 rfl (by decide) ?_
  refine m_newL 344 128 (t := 13) (c := 12) (n := 598) C tw_271 (by decide) (by decide) (by decide) (by decide) (by decide) dX12_init_342 rfl ?_
  refine m_putF 347 (t := 14) (i := 0) (k0 := 26) (fs := [some (some 1), none, none, some (some 2), none, some (some 3), none, some (some 4), some (some 5), none, some (some 6), some (some 7), none, some (some 8), some (some 9), some (some 10), none, none, none, none, none, none, none, none, some (some 11), some (some 12), some none, some none, some none, some none, some none]) (f := (fun _ => 0)) (g := (fun _ => 0)) (j := 13) C mlX12 (by omega) (by (first | rfl | assumption)) (by decide) (show (26 : Nat) < 31 by decide) tw_1082 rfl rfl (tyX12_ok 26 (by decide)) rfl rfl dX12_init_344 rfl ?_
  refine m_aload_n 348 0 C dX12_init_347 rfl rfl ?_
  refine m_bipush 350 (8) C dX12_init_348 rfl (by decide) ?_
  refine m_newI 352 8 (t := 14) (c := 13) (n := 726) C tw_163 (by decide) (by decide) (by decide) (by decide) (by decide) dX12_init_350 rfl ?_
  refine m_putF 355 (t := 15) (i := 0) (k0 := 27) (fs := [some (some 1), none, none, some (some 2), none, some (some 3), none, some (some 4), some (some 5), none, some (some 6), some (some 7), none, some (some 8), some (some 9), some (some 10), none, none, none, none, none, none, none, none, some (some 11), some (some 12), some (some 13), some none, some none, some none, some none]) (f := (fun _ => 0)) (g := (fun _ => 0)) (j := 14) C mlX12 (by omega) (by (first | rfl | assumption)) (by decide) (show (27 : Nat) < 31 by decide) tw_1083 rfl rfl (tyX12_ok 27 (by decide)) rfl rfl dX12_init_352 rfl ?_
  refine m_aload_n 356 0 C dX12_init_355 rfl rfl ?_
  refine m_sipush 359 (8224) C dX12_init_356 rfl (by decide) ?_
  refine m_newL 361 8224 (t := 15) (c := 14) (n := 734) C tw_271 (by decide) (by decide) (by decide) (by decide) (by decide) dX12_init_359 rfl ?_
  refine m_putF 364 (t := 16) (i := 0) (k0 := 28) (fs := [some (some 1), none, none, some (some 2), none, some (some 3), none, some (some 4), some (some 5), none, some (some 6), some (some 7), none, some (some 8), some (some 9), some (some 10), none, none, none, none, none, none, none, none, some (some 11), some (some 12), some (some 13), some (some 14), some none, some none, some none]) (f := (fun _ => 0)) (g := (fun _ => 0)) (j := 15) C mlX12 (by omega) (by (first | rfl | assumption)) (by decide) (show (28 : Nat) < 31 by decide) tw_1084 rfl rfl (tyX12_ok 28 (by decide)) rfl rfl dX12_init_361 rfl ?_
  refine m_aload_n 365 0 C dX12_init_364 rfl rfl ?_
  refine m_bipush 367 (6) C dX12_init_365 rfl (by decide) ?_
  refine m_newL 369 6 (t := 16) (c := 15) (n := 8958) C tw_271 (by decide) (by decide) (by decide) (by decide) (by decide) dX12_init_367 rfl ?_
  refine m_dup 370 C dX12_init_369 rfl rfl ?_
  refine m_iconst 371 (0) C dX12_init_370 rfl (by decide) ?_
  refine m_ldc2 374 (v := 6148914691236517205) C tw_1032 dX12_init_371 rfl ?_
  refine m_last 375 0 (t := 17) (i := 16) (N := 6) (f := (fun _ => 0)) (g := (fun _ => 0)) C (by omega) (by (first | rfl | assumption)) (by decide) (by decide) dX12_init_374 rfl ?_
  refine m_dup 376 C dX12_init_375 rfl rfl ?_
  refine m_iconst 377 (1) C dX12_init_376 rfl (by decide) ?_
  refine m_ldc2 380 (v := 3689348814741910323) C tw_1033 dX12_init_377 rfl ?_
  refine m_last 381 1 (t := 17) (i := 16) (N := 6) (f := (fun _ => 0)) (g := (vp_updL (fun _ => 0) 0 (6148914691236517205))) C (by omega) (by (first | rfl | assumption)) (by decide) (by decide) dX12_init_380 rfl ?_
  refine m_dup 382 C dX12_init_381 rfl rfl ?_
  refine m_iconst 383 (2) C dX12_init_382 rfl (by decide) ?_
  refine m_ldc2 386 (v := 1085102592571150095) C tw_1034 dX12_init_383 rfl ?_
  refine m_last 387 2 (t := 17) (i := 16) (N := 6) (f := (fun _ => 0)) (g := (vp_updL (vp_updL (fun _ => 0) 0 (6148914691236517205)) 1 (3689348814741910323))) C (by omega) (by (first | rfl | assumption)) (by decide) (by decide) dX12_init_386 rfl ?_
  refine m_dup 388 C dX12_init_387 rfl rfl ?_
  refine m_iconst 389 (3) C dX12_init_388 rfl (by decide) ?_
  refine m_ldc2 392 (v := 71777214294589695) C tw_1035 dX12_init_389 rfl ?_
  refine m_last 393 3 (t := 17) (i := 16) (N := 6) (f := (fun _ => 0)) (g := (vp_updL (vp_updL (vp_updL (fun _ => 0) 0 (6148914691236517205)) 1 (3689348814741910323)) 2 (1085102592571150095))) C (by omega) (by (first | rfl | assumption)) (by decide) (by decide) dX12_init_392 rfl ?_
  refine m_dup 394 C dX12_init_393 rfl rfl ?_
  refine m_iconst 395 (4) C dX12_init_394 rfl (by decide) ?_
  refine m_ldc2 398 (v := 281470681808895) C tw_1036 dX12_init_395 rfl ?_
  refine m_last 399 4 (t := 17) (i := 16) (N := 6) (f := (fun _ => 0)) (g := (vp_updL (vp_updL (vp_updL (vp_updL (fun _ => 0) 0 (6148914691236517205)) 1 (3689348814741910323)) 2 (1085102592571150095)) 3 (71777214294589695))) C (by omega) (by (first | rfl | assumption)) (by decide) (by decide) dX12_init_398 rfl ?_
  refine m_dup 400 C dX12_init_399 rfl rfl ?_
  refine m_iconst 401 (5) C dX12_init_400 rfl (by decide) ?_
  refine m_ldc2 404 (v := 4294967295) C tw_1037 dX12_init_401 rfl ?_
  refine m_last 405 5 (t := 17) (i := 16) (N := 6) (f := (fun _ => 0)) (g := (vp_updL (vp_updL (vp_updL (vp_updL (vp_updL (fun _ => 0) 0 (6148914691236517205)) 1 (3689348814741910323)) 2 (1085102592571150095)) 3 (71777214294589695)) 4 (281470681808895))) C (by omega) (by (first | rfl | assumption)) (by decide) (by decide) dX12_init_404 rfl ?_
  refine m_putF 408 (t := 17) (i := 0) (k0 := 29) (fs := [some (some 1), none, none, some (some 2), none, some (some 3), none, some (some 4), some (some 5), none, some (some 6), some (some 7), none, some (some 8), some (some 9), some (some 10), none, none, none, none, none, none, none, none, some (some 11), some (some 12), some (some 13), some (some 14), some (some 15), some none, some none]) (f := (fun _ => 0)) (g := (fun _ => 0)) (j := 16) C mlX12 (by omega) (by (first | rfl | assumption)) (by decide) (show (29 : Nat) < 31 by decide) tw_1085 rfl rfl (tyX12_ok 29 (by decide)) rfl rfl dX12_init_405 rfl ?_
  refine m_aload_n 409 0 C dX12_init_408 rfl rfl ?_
  refine m_bipush 411 (10) C dX12_init_409 rfl (by decide) ?_
  refine m_newI 413 10 (t := 17) (c := 16) (n := 8964) C tw_163 (by decide) (by decide) (by decide) (by decide) (by decide) dX12_init_411 rfl ?_
  refine m_putF 416 (t := 18) (i := 0) (k0 := 30) (fs := [some (some 1), none, none, some (some 2), none, some (some 3), none, some (some 4), some (some 5), none, some (some 6), some (some 7), none, some (some 8), some (some 9), some (some 10), none, none, none, none, none, none, none, none, some (some 11), some (some 12), some (some 13), some (some 14), some (some 15), some (some 16), some none]) (f := (fun _ => 0)) (g := (fun _ => 0)) (j := 17) C mlX12 (by omega) (by (first | rfl | assumption)) (by decide) (show (30 : Nat) < 31 by decide) tw_1086 rfl rfl (tyX12_ok 30 (by decide)) rfl rfl dX12_init_413 rfl ?_
  refine m_V (V' := fun i => lX12.getD i mk_d) (t := 18) ?_ (mu_of (mk_h4 hpX12) k)
  refine mk_alls ?_ rfl
  refine mk_alls ?_ rfl
  refine mk_alls ?_ rfl
  refine mk_alls ?_ rfl
  refine mk_alls ?_ rfl
  refine mk_alls ?_ rfl
  refine mk_alls ?_ rfl
  refine mk_alls ?_ rfl
  refine mk_alls ?_ rfl
  refine mk_alls ?_ rfl
  refine mk_alls ?_ rfl
  refine mk_alls ?_ rfl
  refine mk_alls ?_ rfl
  refine mk_alls ?_ rfl
  refine mk_alls ?_ rfl
  refine mk_alls ?_ rfl
  refine mk_alls ?_ rfl
  refine mk_alls ?_ rfl
  exact mk_all0
theorem mX12_init {l : Launch} {G : ux_G} (hg : mk_g G) (V : Nat → mk_E) (hV : V 0 = (0, 12, 0, [some none, none, none, some none, none, some none, none, some none, some none, none, some none, some none, none, some none, some none, some none, none, none, none, none, none, none, none, none, some none, some none, some none, some none, some none, some none, some none], (fun _ => 0), (fun _ => 0))) {o : ux_N} (h1 : fX12_anew 3 (mk_N lX12 posM) = some o) {p : ux_N × ux_L} (h2 : fX12_layForests o (mk_Lg lX12 posM) = some p) : mk_MF l G (mk_K G shM posM) yX12_init cX12_init 1 3 70 17 8974 [.ref (gad G 0)] 1 V p.1 p.2 := by
  refine mk_ofF hg (by decide) rfl (show (1 : Nat) ≤ 1 by decide) ?_
  intro X hG hl C hQ
  subst hG
  subst hl
  replace C : mk_C X cX12_init RX12 1 3 70 17 8974 := C
  have hok : ux_ok (mk_K (xG X) shM posM) shM := mk_Kok hg (fun i j _ _ h => h)
  refine wX12_head C hV ?_
  refine mu_aload_n 417 0 C dX12_init_416 rfl rfl ?_
  refine mu_iconst 418 3 C dX12_init_417 rfl (by decide) ?_
  refine mu_callVv 421 [] [.int 3] (h := 0) C kvX12_75 sm_0 (mX12_anew hok h1) rfl rfl ⟨by decide, by decide⟩ ⟨by decide, by decide⟩ (show (0 : Nat) ≤ 8 by decide) dX12_init_418 rfl ?_
  refine mu_aload_n 422 0 C dX12_init_421 rfl rfl ?_
  refine mu_callVv 425 [] [] (h := 0) C kvX12_79 sm_0 (mX12_layForests hok h2) rfl rfl ⟨by decide, by decide⟩ ⟨by decide, by decide⟩ (show (0 : Nat) ≤ 8 by decide) dX12_init_422 rfl ?_
  exact mu_ret C hQ dX12_init_425
