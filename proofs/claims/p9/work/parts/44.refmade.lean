theorem dX10_init_0 : decode cX10_init 0 = .ok (.aload_n 0, 1) := by decide +kernel
theorem dX10_init_1 : decode cX10_init 1 = .ok (.invokespecial 1, 3) := by decide +kernel
theorem dX10_init_4 : decode cX10_init 4 = .ok (.aload_n 0, 1) := by decide +kernel
theorem dX10_init_5 : decode cX10_init 5 = .ok (.bipush 77, 2) := by decide +kernel
theorem dX10_init_7 : decode cX10_init 7 = .ok (.newarray .int, 2) := by decide +kernel
theorem dX10_init_9 : decode cX10_init 9 = .ok (.putfield 9, 3) := by decide +kernel
theorem dX10_init_12 : decode cX10_init 12 = .ok (.aload_n 0, 1) := by decide +kernel
theorem dX10_init_13 : decode cX10_init 13 = .ok (.bipush 77, 2) := by decide +kernel
theorem dX10_init_15 : decode cX10_init 15 = .ok (.newarray .int, 2) := by decide +kernel
theorem dX10_init_17 : decode cX10_init 17 = .ok (.putfield 13, 3) := by decide +kernel
theorem dX10_init_20 : decode cX10_init 20 = .ok (.aload_n 0, 1) := by decide +kernel
theorem dX10_init_21 : decode cX10_init 21 = .ok (.bipush 77, 2) := by decide +kernel
theorem dX10_init_23 : decode cX10_init 23 = .ok (.newarray .int, 2) := by decide +kernel
theorem dX10_init_25 : decode cX10_init 25 = .ok (.putfield 16, 3) := by decide +kernel
theorem dX10_init_28 : decode cX10_init 28 = .ok (.aload_n 0, 1) := by decide +kernel
theorem dX10_init_29 : decode cX10_init 29 = .ok (.sipush 616, 3) := by decide +kernel
theorem dX10_init_32 : decode cX10_init 32 = .ok (.newarray .int, 2) := by decide +kernel
theorem dX10_init_34 : decode cX10_init 34 = .ok (.putfield 19, 3) := by decide +kernel
theorem dX10_init_37 : decode cX10_init 37 = .ok (.aload_n 0, 1) := by decide +kernel
theorem dX10_init_38 : decode cX10_init 38 = .ok (.iconst (-1), 1) := by decide +kernel
theorem dX10_init_39 : decode cX10_init 39 = .ok (.putfield 22, 3) := by decide +kernel
theorem dX10_init_42 : decode cX10_init 42 = .ok (.aload_n 0, 1) := by decide +kernel
theorem dX10_init_43 : decode cX10_init 43 = .ok (.iconst (-1), 1) := by decide +kernel
theorem dX10_init_44 : decode cX10_init 44 = .ok (.putfield 26, 3) := by decide +kernel
theorem dX10_init_47 : decode cX10_init 47 = .ok (.aload_n 0, 1) := by decide +kernel
theorem dX10_init_48 : decode cX10_init 48 = .ok (.bipush 60, 2) := by decide +kernel
theorem dX10_init_50 : decode cX10_init 50 = .ok (.newarray .int, 2) := by decide +kernel
theorem dX10_init_52 : decode cX10_init 52 = .ok (.putfield 29, 3) := by decide +kernel
theorem dX10_init_55 : decode cX10_init 55 = .ok (.aload_n 0, 1) := by decide +kernel
theorem dX10_init_56 : decode cX10_init 56 = .ok (.bipush 12, 2) := by decide +kernel
theorem dX10_init_58 : decode cX10_init 58 = .ok (.newarray .int, 2) := by decide +kernel
theorem dX10_init_60 : decode cX10_init 60 = .ok (.putfield 32, 3) := by decide +kernel
theorem dX10_init_63 : decode cX10_init 63 = .ok (.aload_n 0, 1) := by decide +kernel
theorem dX10_init_64 : decode cX10_init 64 = .ok (.bipush 12, 2) := by decide +kernel
theorem dX10_init_66 : decode cX10_init 66 = .ok (.newarray .int, 2) := by decide +kernel
theorem dX10_init_68 : decode cX10_init 68 = .ok (.putfield 35, 3) := by decide +kernel
theorem dX10_init_71 : decode cX10_init 71 = .ok (.aload_n 0, 1) := by decide +kernel
theorem dX10_init_72 : decode cX10_init 72 = .ok (.bipush 12, 2) := by decide +kernel
theorem dX10_init_74 : decode cX10_init 74 = .ok (.newarray .int, 2) := by decide +kernel
theorem dX10_init_76 : decode cX10_init 76 = .ok (.putfield 38, 3) := by decide +kernel
theorem dX10_init_79 : decode cX10_init 79 = .ok (.aload_n 0, 1) := by decide +kernel
theorem dX10_init_80 : decode cX10_init 80 = .ok (.bipush 12, 2) := by decide +kernel
theorem dX10_init_82 : decode cX10_init 82 = .ok (.newarray .int, 2) := by decide +kernel
theorem dX10_init_84 : decode cX10_init 84 = .ok (.putfield 41, 3) := by decide +kernel
theorem dX10_init_87 : decode cX10_init 87 = .ok (.aload_n 0, 1) := by decide +kernel
theorem dX10_init_88 : decode cX10_init 88 = .ok (.bipush 41, 2) := by decide +kernel
theorem dX10_init_90 : decode cX10_init 90 = .ok (.newarray .char, 2) := by decide +kernel
theorem dX10_init_92 : decode cX10_init 92 = .ok (.dup, 1) := by decide +kernel
theorem dX10_init_93 : decode cX10_init 93 = .ok (.iconst 0, 1) := by decide +kernel
theorem dX10_init_94 : decode cX10_init 94 = .ok (.bipush 104, 2) := by decide +kernel
theorem dX10_init_96 : decode cX10_init 96 = .ok (.castore, 1) := by decide +kernel
theorem dX10_init_97 : decode cX10_init 97 = .ok (.dup, 1) := by decide +kernel
theorem dX10_init_98 : decode cX10_init 98 = .ok (.iconst 1, 1) := by decide +kernel
theorem dX10_init_99 : decode cX10_init 99 = .ok (.bipush 101, 2) := by decide +kernel
theorem dX10_init_101 : decode cX10_init 101 = .ok (.castore, 1) := by decide +kernel
theorem dX10_init_102 : decode cX10_init 102 = .ok (.dup, 1) := by decide +kernel
theorem dX10_init_103 : decode cX10_init 103 = .ok (.iconst 2, 1) := by decide +kernel
theorem dX10_init_104 : decode cX10_init 104 = .ok (.bipush 100, 2) := by decide +kernel
theorem dX10_init_106 : decode cX10_init 106 = .ok (.castore, 1) := by decide +kernel
theorem dX10_init_107 : decode cX10_init 107 = .ok (.dup, 1) := by decide +kernel
theorem dX10_init_108 : decode cX10_init 108 = .ok (.iconst 3, 1) := by decide +kernel
theorem dX10_init_109 : decode cX10_init 109 = .ok (.bipush 103, 2) := by decide +kernel
theorem dX10_init_111 : decode cX10_init 111 = .ok (.castore, 1) := by decide +kernel
theorem dX10_init_112 : decode cX10_init 112 = .ok (.dup, 1) := by decide +kernel
theorem dX10_init_113 : decode cX10_init 113 = .ok (.iconst 4, 1) := by decide +kernel
theorem dX10_init_114 : decode cX10_init 114 = .ok (.bipush 101, 2) := by decide +kernel
theorem dX10_init_116 : decode cX10_init 116 = .ok (.castore, 1) := by decide +kernel
theorem dX10_init_117 : decode cX10_init 117 = .ok (.dup, 1) := by decide +kernel
theorem dX10_init_118 : decode cX10_init 118 = .ok (.iconst 5, 1) := by decide +kernel
theorem dX10_init_119 : decode cX10_init 119 = .ok (.bipush 32, 2) := by decide +kernel
theorem dX10_init_121 : decode cX10_init 121 = .ok (.castore, 1) := by decide +kernel
theorem dX10_init_122 : decode cX10_init 122 = .ok (.dup, 1) := by decide +kernel
theorem dX10_init_123 : decode cX10_init 123 = .ok (.bipush 6, 2) := by decide +kernel
theorem dX10_init_125 : decode cX10_init 125 = .ok (.bipush 109, 2) := by decide +kernel
theorem dX10_init_127 : decode cX10_init 127 = .ok (.castore, 1) := by decide +kernel
theorem dX10_init_128 : decode cX10_init 128 = .ok (.dup, 1) := by decide +kernel
theorem dX10_init_129 : decode cX10_init 129 = .ok (.bipush 7, 2) := by decide +kernel
theorem dX10_init_131 : decode cX10_init 131 = .ok (.bipush 97, 2) := by decide +kernel
theorem dX10_init_133 : decode cX10_init 133 = .ok (.castore, 1) := by decide +kernel
theorem dX10_init_134 : decode cX10_init 134 = .ok (.dup, 1) := by decide +kernel
theorem dX10_init_135 : decode cX10_init 135 = .ok (.bipush 8, 2) := by decide +kernel
theorem dX10_init_137 : decode cX10_init 137 = .ok (.bipush 105, 2) := by decide +kernel
theorem dX10_init_139 : decode cX10_init 139 = .ok (.castore, 1) := by decide +kernel
theorem dX10_init_140 : decode cX10_init 140 = .ok (.dup, 1) := by decide +kernel
theorem dX10_init_141 : decode cX10_init 141 = .ok (.bipush 9, 2) := by decide +kernel
theorem dX10_init_143 : decode cX10_init 143 = .ok (.bipush 110, 2) := by decide +kernel
theorem dX10_init_145 : decode cX10_init 145 = .ok (.castore, 1) := by decide +kernel
theorem dX10_init_146 : decode cX10_init 146 = .ok (.dup, 1) := by decide +kernel
theorem dX10_init_147 : decode cX10_init 147 = .ok (.bipush 10, 2) := by decide +kernel
theorem dX10_init_149 : decode cX10_init 149 = .ok (.bipush 32, 2) := by decide +kernel
theorem dX10_init_151 : decode cX10_init 151 = .ok (.castore, 1) := by decide +kernel
theorem dX10_init_152 : decode cX10_init 152 = .ok (.dup, 1) := by decide +kernel
theorem dX10_init_153 : decode cX10_init 153 = .ok (.bipush 11, 2) := by decide +kernel
theorem dX10_init_155 : decode cX10_init 155 = .ok (.bipush 97, 2) := by decide +kernel
theorem dX10_init_157 : decode cX10_init 157 = .ok (.castore, 1) := by decide +kernel
theorem dX10_init_158 : decode cX10_init 158 = .ok (.dup, 1) := by decide +kernel
theorem dX10_init_159 : decode cX10_init 159 = .ok (.bipush 12, 2) := by decide +kernel
theorem dX10_init_161 : decode cX10_init 161 = .ok (.bipush 109, 2) := by decide +kernel
theorem dX10_init_163 : decode cX10_init 163 = .ok (.castore, 1) := by decide +kernel
theorem dX10_init_164 : decode cX10_init 164 = .ok (.dup, 1) := by decide +kernel
theorem dX10_init_165 : decode cX10_init 165 = .ok (.bipush 13, 2) := by decide +kernel
theorem dX10_init_167 : decode cX10_init 167 = .ok (.bipush 101, 2) := by decide +kernel
theorem dX10_init_169 : decode cX10_init 169 = .ok (.castore, 1) := by decide +kernel
theorem dX10_init_170 : decode cX10_init 170 = .ok (.dup, 1) := by decide +kernel
theorem dX10_init_171 : decode cX10_init 171 = .ok (.bipush 14, 2) := by decide +kernel
theorem dX10_init_173 : decode cX10_init 173 = .ok (.bipush 110, 2) := by decide +kernel
theorem dX10_init_175 : decode cX10_init 175 = .ok (.castore, 1) := by decide +kernel
theorem dX10_init_176 : decode cX10_init 176 = .ok (.dup, 1) := by decide +kernel
theorem dX10_init_177 : decode cX10_init 177 = .ok (.bipush 15, 2) := by decide +kernel
theorem dX10_init_179 : decode cX10_init 179 = .ok (.bipush 100, 2) := by decide +kernel
theorem dX10_init_181 : decode cX10_init 181 = .ok (.castore, 1) := by decide +kernel
theorem dX10_init_182 : decode cX10_init 182 = .ok (.dup, 1) := by decide +kernel
theorem dX10_init_183 : decode cX10_init 183 = .ok (.bipush 16, 2) := by decide +kernel
theorem dX10_init_185 : decode cX10_init 185 = .ok (.bipush 32, 2) := by decide +kernel
theorem dX10_init_187 : decode cX10_init 187 = .ok (.castore, 1) := by decide +kernel
theorem dX10_init_188 : decode cX10_init 188 = .ok (.dup, 1) := by decide +kernel
theorem dX10_init_189 : decode cX10_init 189 = .ok (.bipush 17, 2) := by decide +kernel
theorem dX10_init_191 : decode cX10_init 191 = .ok (.bipush 112, 2) := by decide +kernel
theorem dX10_init_193 : decode cX10_init 193 = .ok (.castore, 1) := by decide +kernel
theorem dX10_init_194 : decode cX10_init 194 = .ok (.dup, 1) := by decide +kernel
theorem dX10_init_195 : decode cX10_init 195 = .ok (.bipush 18, 2) := by decide +kernel
theorem dX10_init_197 : decode cX10_init 197 = .ok (.bipush 114, 2) := by decide +kernel
theorem dX10_init_199 : decode cX10_init 199 = .ok (.castore, 1) := by decide +kernel
theorem dX10_init_200 : decode cX10_init 200 = .ok (.dup, 1) := by decide +kernel
theorem dX10_init_201 : decode cX10_init 201 = .ok (.bipush 19, 2) := by decide +kernel
theorem dX10_init_203 : decode cX10_init 203 = .ok (.bipush 117, 2) := by decide +kernel
theorem dX10_init_205 : decode cX10_init 205 = .ok (.castore, 1) := by decide +kernel
theorem dX10_init_206 : decode cX10_init 206 = .ok (.dup, 1) := by decide +kernel
theorem dX10_init_207 : decode cX10_init 207 = .ok (.bipush 20, 2) := by decide +kernel
theorem dX10_init_209 : decode cX10_init 209 = .ok (.bipush 110, 2) := by decide +kernel
theorem dX10_init_211 : decode cX10_init 211 = .ok (.castore, 1) := by decide +kernel
theorem dX10_init_212 : decode cX10_init 212 = .ok (.dup, 1) := by decide +kernel
theorem dX10_init_213 : decode cX10_init 213 = .ok (.bipush 21, 2) := by decide +kernel
theorem dX10_init_215 : decode cX10_init 215 = .ok (.bipush 101, 2) := by decide +kernel
theorem dX10_init_217 : decode cX10_init 217 = .ok (.castore, 1) := by decide +kernel
theorem dX10_init_218 : decode cX10_init 218 = .ok (.dup, 1) := by decide +kernel
theorem dX10_init_219 : decode cX10_init 219 = .ok (.bipush 22, 2) := by decide +kernel
theorem dX10_init_221 : decode cX10_init 221 = .ok (.bipush 32, 2) := by decide +kernel
theorem dX10_init_223 : decode cX10_init 223 = .ok (.castore, 1) := by decide +kernel
theorem dX10_init_224 : decode cX10_init 224 = .ok (.dup, 1) := by decide +kernel
theorem dX10_init_225 : decode cX10_init 225 = .ok (.bipush 23, 2) := by decide +kernel
theorem dX10_init_227 : decode cX10_init 227 = .ok (.bipush 114, 2) := by decide +kernel
theorem dX10_init_229 : decode cX10_init 229 = .ok (.castore, 1) := by decide +kernel
theorem dX10_init_230 : decode cX10_init 230 = .ok (.dup, 1) := by decide +kernel
theorem dX10_init_231 : decode cX10_init 231 = .ok (.bipush 24, 2) := by decide +kernel
theorem dX10_init_233 : decode cX10_init 233 = .ok (.bipush 101, 2) := by decide +kernel
theorem dX10_init_235 : decode cX10_init 235 = .ok (.castore, 1) := by decide +kernel
theorem dX10_init_236 : decode cX10_init 236 = .ok (.dup, 1) := by decide +kernel
theorem dX10_init_237 : decode cX10_init 237 = .ok (.bipush 25, 2) := by decide +kernel
theorem dX10_init_239 : decode cX10_init 239 = .ok (.bipush 103, 2) := by decide +kernel
theorem dX10_init_241 : decode cX10_init 241 = .ok (.castore, 1) := by decide +kernel
theorem dX10_init_242 : decode cX10_init 242 = .ok (.dup, 1) := by decide +kernel
theorem dX10_init_243 : decode cX10_init 243 = .ok (.bipush 26, 2) := by decide +kernel
theorem dX10_init_245 : decode cX10_init 245 = .ok (.bipush 114, 2) := by decide +kernel
theorem dX10_init_247 : decode cX10_init 247 = .ok (.castore, 1) := by decide +kernel
theorem dX10_init_248 : decode cX10_init 248 = .ok (.dup, 1) := by decide +kernel
theorem dX10_init_249 : decode cX10_init 249 = .ok (.bipush 27, 2) := by decide +kernel
theorem dX10_init_251 : decode cX10_init 251 = .ok (.bipush 111, 2) := by decide +kernel
theorem dX10_init_253 : decode cX10_init 253 = .ok (.castore, 1) := by decide +kernel
theorem dX10_init_254 : decode cX10_init 254 = .ok (.dup, 1) := by decide +kernel
theorem dX10_init_255 : decode cX10_init 255 = .ok (.bipush 28, 2) := by decide +kernel
theorem dX10_init_257 : decode cX10_init 257 = .ok (.bipush 119, 2) := by decide +kernel
theorem dX10_init_259 : decode cX10_init 259 = .ok (.castore, 1) := by decide +kernel
theorem dX10_init_260 : decode cX10_init 260 = .ok (.dup, 1) := by decide +kernel
theorem dX10_init_261 : decode cX10_init 261 = .ok (.bipush 29, 2) := by decide +kernel
theorem dX10_init_263 : decode cX10_init 263 = .ok (.bipush 32, 2) := by decide +kernel
theorem dX10_init_265 : decode cX10_init 265 = .ok (.castore, 1) := by decide +kernel
theorem dX10_init_266 : decode cX10_init 266 = .ok (.dup, 1) := by decide +kernel
theorem dX10_init_267 : decode cX10_init 267 = .ok (.bipush 30, 2) := by decide +kernel
theorem dX10_init_269 : decode cX10_init 269 = .ok (.bipush 118, 2) := by decide +kernel
theorem dX10_init_271 : decode cX10_init 271 = .ok (.castore, 1) := by decide +kernel
theorem dX10_init_272 : decode cX10_init 272 = .ok (.dup, 1) := by decide +kernel
theorem dX10_init_273 : decode cX10_init 273 = .ok (.bipush 31, 2) := by decide +kernel
theorem dX10_init_275 : decode cX10_init 275 = .ok (.bipush 111, 2) := by decide +kernel
theorem dX10_init_277 : decode cX10_init 277 = .ok (.castore, 1) := by decide +kernel
theorem dX10_init_278 : decode cX10_init 278 = .ok (.dup, 1) := by decide +kernel
theorem dX10_init_279 : decode cX10_init 279 = .ok (.bipush 32, 2) := by decide +kernel
theorem dX10_init_281 : decode cX10_init 281 = .ok (.bipush 116, 2) := by decide +kernel
theorem dX10_init_283 : decode cX10_init 283 = .ok (.castore, 1) := by decide +kernel
theorem dX10_init_284 : decode cX10_init 284 = .ok (.dup, 1) := by decide +kernel
theorem dX10_init_285 : decode cX10_init 285 = .ok (.bipush 33, 2) := by decide +kernel
theorem dX10_init_287 : decode cX10_init 287 = .ok (.bipush 101, 2) := by decide +kernel
theorem dX10_init_289 : decode cX10_init 289 = .ok (.castore, 1) := by decide +kernel
theorem dX10_init_290 : decode cX10_init 290 = .ok (.dup, 1) := by decide +kernel
theorem dX10_init_291 : decode cX10_init 291 = .ok (.bipush 34, 2) := by decide +kernel
theorem dX10_init_293 : decode cX10_init 293 = .ok (.bipush 32, 2) := by decide +kernel
theorem dX10_init_295 : decode cX10_init 295 = .ok (.castore, 1) := by decide +kernel
theorem dX10_init_296 : decode cX10_init 296 = .ok (.dup, 1) := by decide +kernel
theorem dX10_init_297 : decode cX10_init 297 = .ok (.bipush 35, 2) := by decide +kernel
theorem dX10_init_299 : decode cX10_init 299 = .ok (.bipush 115, 2) := by decide +kernel
theorem dX10_init_301 : decode cX10_init 301 = .ok (.castore, 1) := by decide +kernel
theorem dX10_init_302 : decode cX10_init 302 = .ok (.dup, 1) := by decide +kernel
theorem dX10_init_303 : decode cX10_init 303 = .ok (.bipush 36, 2) := by decide +kernel
theorem dX10_init_305 : decode cX10_init 305 = .ok (.bipush 101, 2) := by decide +kernel
theorem dX10_init_307 : decode cX10_init 307 = .ok (.castore, 1) := by decide +kernel
theorem dX10_init_308 : decode cX10_init 308 = .ok (.dup, 1) := by decide +kernel
theorem dX10_init_309 : decode cX10_init 309 = .ok (.bipush 37, 2) := by decide +kernel
theorem dX10_init_311 : decode cX10_init 311 = .ok (.bipush 97, 2) := by decide +kernel
theorem dX10_init_313 : decode cX10_init 313 = .ok (.castore, 1) := by decide +kernel
theorem dX10_init_314 : decode cX10_init 314 = .ok (.dup, 1) := by decide +kernel
theorem dX10_init_315 : decode cX10_init 315 = .ok (.bipush 38, 2) := by decide +kernel
theorem dX10_init_317 : decode cX10_init 317 = .ok (.bipush 115, 2) := by decide +kernel
theorem dX10_init_319 : decode cX10_init 319 = .ok (.castore, 1) := by decide +kernel
theorem dX10_init_320 : decode cX10_init 320 = .ok (.dup, 1) := by decide +kernel
theorem dX10_init_321 : decode cX10_init 321 = .ok (.bipush 39, 2) := by decide +kernel
theorem dX10_init_323 : decode cX10_init 323 = .ok (.bipush 111, 2) := by decide +kernel
theorem dX10_init_325 : decode cX10_init 325 = .ok (.castore, 1) := by decide +kernel
theorem dX10_init_326 : decode cX10_init 326 = .ok (.dup, 1) := by decide +kernel
theorem dX10_init_327 : decode cX10_init 327 = .ok (.bipush 40, 2) := by decide +kernel
theorem dX10_init_329 : decode cX10_init 329 = .ok (.bipush 110, 2) := by decide +kernel
theorem dX10_init_331 : decode cX10_init 331 = .ok (.castore, 1) := by decide +kernel
theorem dX10_init_332 : decode cX10_init 332 = .ok (.putfield 44, 3) := by decide +kernel
theorem dX10_init_335 : decode cX10_init 335 = .ok (.aload_n 0, 1) := by decide +kernel
theorem dX10_init_336 : decode cX10_init 336 = .ok (.bipush 8, 2) := by decide +kernel
theorem dX10_init_338 : decode cX10_init 338 = .ok (.newarray .int, 2) := by decide +kernel
theorem dX10_init_340 : decode cX10_init 340 = .ok (.dup, 1) := by decide +kernel
theorem dX10_init_341 : decode cX10_init 341 = .ok (.iconst 0, 1) := by decide +kernel
theorem dX10_init_342 : decode cX10_init 342 = .ok (.iconst 0, 1) := by decide +kernel
theorem dX10_init_343 : decode cX10_init 343 = .ok (.iastore, 1) := by decide +kernel
theorem dX10_init_344 : decode cX10_init 344 = .ok (.dup, 1) := by decide +kernel
theorem dX10_init_345 : decode cX10_init 345 = .ok (.iconst 1, 1) := by decide +kernel
theorem dX10_init_346 : decode cX10_init 346 = .ok (.bipush 6, 2) := by decide +kernel
theorem dX10_init_348 : decode cX10_init 348 = .ok (.iastore, 1) := by decide +kernel
theorem dX10_init_349 : decode cX10_init 349 = .ok (.dup, 1) := by decide +kernel
theorem dX10_init_350 : decode cX10_init 350 = .ok (.iconst 2, 1) := by decide +kernel
theorem dX10_init_351 : decode cX10_init 351 = .ok (.bipush 11, 2) := by decide +kernel
theorem dX10_init_353 : decode cX10_init 353 = .ok (.iastore, 1) := by decide +kernel
theorem dX10_init_354 : decode cX10_init 354 = .ok (.dup, 1) := by decide +kernel
theorem dX10_init_355 : decode cX10_init 355 = .ok (.iconst 3, 1) := by decide +kernel
theorem dX10_init_356 : decode cX10_init 356 = .ok (.bipush 17, 2) := by decide +kernel
theorem dX10_init_358 : decode cX10_init 358 = .ok (.iastore, 1) := by decide +kernel
theorem dX10_init_359 : decode cX10_init 359 = .ok (.dup, 1) := by decide +kernel
theorem dX10_init_360 : decode cX10_init 360 = .ok (.iconst 4, 1) := by decide +kernel
theorem dX10_init_361 : decode cX10_init 361 = .ok (.bipush 23, 2) := by decide +kernel
theorem dX10_init_363 : decode cX10_init 363 = .ok (.iastore, 1) := by decide +kernel
theorem dX10_init_364 : decode cX10_init 364 = .ok (.dup, 1) := by decide +kernel
theorem dX10_init_365 : decode cX10_init 365 = .ok (.iconst 5, 1) := by decide +kernel
theorem dX10_init_366 : decode cX10_init 366 = .ok (.bipush 30, 2) := by decide +kernel
theorem dX10_init_368 : decode cX10_init 368 = .ok (.iastore, 1) := by decide +kernel
theorem dX10_init_369 : decode cX10_init 369 = .ok (.dup, 1) := by decide +kernel
theorem dX10_init_370 : decode cX10_init 370 = .ok (.bipush 6, 2) := by decide +kernel
theorem dX10_init_372 : decode cX10_init 372 = .ok (.bipush 35, 2) := by decide +kernel
theorem dX10_init_374 : decode cX10_init 374 = .ok (.iastore, 1) := by decide +kernel
theorem dX10_init_375 : decode cX10_init 375 = .ok (.dup, 1) := by decide +kernel
theorem dX10_init_376 : decode cX10_init 376 = .ok (.bipush 7, 2) := by decide +kernel
theorem dX10_init_378 : decode cX10_init 378 = .ok (.bipush 41, 2) := by decide +kernel
theorem dX10_init_380 : decode cX10_init 380 = .ok (.iastore, 1) := by decide +kernel
theorem dX10_init_381 : decode cX10_init 381 = .ok (.putfield 48, 3) := by decide +kernel
theorem dX10_init_384 : decode cX10_init 384 = .ok (.aload_n 0, 1) := by decide +kernel
theorem dX10_init_385 : decode cX10_init 385 = .ok (.sipush 244, 3) := by decide +kernel
theorem dX10_init_388 : decode cX10_init 388 = .ok (.newarray .int, 2) := by decide +kernel
theorem dX10_init_390 : decode cX10_init 390 = .ok (.putfield 51, 3) := by decide +kernel
theorem dX10_init_393 : decode cX10_init 393 = .ok (.aload_n 0, 1) := by decide +kernel
theorem dX10_init_394 : decode cX10_init 394 = .ok (.sipush 400, 3) := by decide +kernel
theorem dX10_init_397 : decode cX10_init 397 = .ok (.newarray .int, 2) := by decide +kernel
theorem dX10_init_399 : decode cX10_init 399 = .ok (.putfield 54, 3) := by decide +kernel
theorem dX10_init_402 : decode cX10_init 402 = .ok (.return_, 1) := by decide +kernel
set_option maxHeartbeats 2000000 in
set_option maxRecDepth 20000 in
theorem k_X10_init (l : Launch) (hfl : l.stackTraces = false) (D : va_G) (aT : Nat → ClassId) (q0 : Nat) : CxG l yX10_init cX10_init 1 none 1 13 1648 20 D aT [.ref q0] [(q0, .inr (13, [.null, .null, .null, .int (nI 0), .null, .int (nI 0), .int (nI 0), .int (nI 0), .int (nI 0), .null, .int (nI 0), .null, .null, .null, .null, .int (nI 0), .int (nI 0), .null, .null, .null, .int (nI 0), .int (nI 0), .int (nI 0), .int (nI 0), .null, .int (nI 0)]))] (qV D aT (fun W1 => ∃ (ad : Nat → Nat) (S : MSt), ad 0 = q0 ∧ W1 = mdW aT ad S ∧ S 0 = (fun _ => nI 0) ∧ S 12 = (fun _ => nI 0) ∧ (∀ k, S 13 k = if k = 6 ∨ k = 7 then -1 else nI 0) ∧ WdOk S ∧ S 4 = (fun _ => nI 0))) (fun _ _ => False) := by
  refine CxG.of RX10 (by decide +kernel) rfl (Nat.le_of_ble_eq_true rfl) ?_
  intro p e s m below meth c A ls C hml hl hA hr hlocks hex hnm hZ hW
  have hl : lv_has ls 1 [(0, .ref q0)] := hl
  have hx := C.1
  have hb := C.2.1
  refine lv_aload_n hx hb dX10_init_0 rfl (lv_at hl 0 rfl) ?_
  refine cx_init C hml hl.1 gw_1622 gw_110 gw_111 dX10_init_1 (Nat.le_of_ble_eq_true rfl) (Nat.le_of_ble_eq_true rfl) ?_
  refine lv_aload_n hx hb dX10_init_4 rfl (lv_at hl 0 rfl) ?_
  refine lv_bipush (v := nI 77) hx hb dX10_init_5 (by decide) ?_
  refine cx_newa C hA hW 0 (atype := .int) (a0 := (77, .inl (fun _ => nI 0))) gw_141 rfl rfl (fun _ _ h9 => h9) (fun _ => rfl) (by decide) (Nat.le_of_ble_eq_true rfl) (Nat.le_of_ble_eq_true rfl) (Nat.le_of_ble_eq_true rfl) dX10_init_7 (fun q_7 H hW => ?_)
  have hW : CxB D [(q0, .inr (13, [.null, .null, .null, .int (nI 0), .null, .int (nI 0), .int (nI 0), .int (nI 0), .int (nI 0), .null, .int (nI 0), .null, .null, .null, .null, .int (nI 0), .int (nI 0), .null, .null, .null, .int (nI 0), .int (nI 0), .int (nI 0), .int (nI 0), .null, .int (nI 0)])), (q_7, .inl (aT 0, 77, .inl (fun _ => nI 0)))] A s.heap H _ := hW
  refine cx_putF C hnm hW 0 0 (W1 := [(q0, .inr (13, [.ref q_7, .null, .null, .int (nI 0), .null, .int (nI 0), .int (nI 0), .int (nI 0), .int (nI 0), .null, .int (nI 0), .null, .null, .null, .null, .int (nI 0), .int (nI 0), .null, .null, .null, .int (nI 0), .int (nI 0), .int (nI 0), .int (nI 0), .null, .int (nI 0)])), (q_7, .inl (aT 0, 77, .inl (fun _ => nI 0)))]) rfl rfl (by decide) inX10 tyX10 tyX10_ok nmX10 gw_1623 rfl rfl rfl rfl rfl rfl (Nat.le_of_ble_eq_true rfl) rfl dX10_init_9 (fun H locs hW => ?_)
  refine lv_aload_n hx hb dX10_init_12 rfl (lv_at hl 0 rfl) ?_
  refine lv_bipush (v := nI 77) hx hb dX10_init_13 (by decide) ?_
  refine cx_newa C hA hW 0 (atype := .int) (a0 := (77, .inl (fun _ => nI 0))) gw_141 rfl rfl (fun _ _ h9 => h9) (fun _ => rfl) (by decide) (Nat.le_of_ble_eq_true rfl) (Nat.le_of_ble_eq_true rfl) (Nat.le_of_ble_eq_true rfl) dX10_init_15 (fun q_15 H hW => ?_)
  have hW : CxB D [(q0, .inr (13, [.ref q_7, .null, .null, .int (nI 0), .null, .int (nI 0), .int (nI 0), .int (nI 0), .int (nI 0), .null, .int (nI 0), .null, .null, .null, .null, .int (nI 0), .int (nI 0), .null, .null, .null, .int (nI 0), .int (nI 0), .int (nI 0), .int (nI 0), .null, .int (nI 0)])), (q_7, .inl (aT 0, 77, .inl (fun _ => nI 0))), (q_15, .inl (aT 0, 77, .inl (fun _ => nI 0)))] A s.heap H _ := hW
  refine cx_putF C hnm hW 0 1 (W1 := [(q0, .inr (13, [.ref q_7, .ref q_15, .null, .int (nI 0), .null, .int (nI 0), .int (nI 0), .int (nI 0), .int (nI 0), .null, .int (nI 0), .null, .null, .null, .null, .int (nI 0), .int (nI 0), .null, .null, .null, .int (nI 0), .int (nI 0), .int (nI 0), .int (nI 0), .null, .int (nI 0)])), (q_7, .inl (aT 0, 77, .inl (fun _ => nI 0))), (q_15, .inl (aT 0, 77, .inl (fun _ => nI 0)))]) rfl rfl (by decide) inX10 tyX10 tyX10_ok nmX10 gw_1624 rfl rfl rfl rfl rfl rfl (Nat.le_of_ble_eq_true rfl) rfl dX10_init_17 (fun H locs hW => ?_)
  refine lv_aload_n hx hb dX10_init_20 rfl (lv_at hl 0 rfl) ?_
  refine lv_bipush (v := nI 77) hx hb dX10_init_21 (by decide) ?_
  refine cx_newa C hA hW 0 (atype := .int) (a0 := (77, .inl (fun _ => nI 0))) gw_141 rfl rfl (fun _ _ h9 => h9) (fun _ => rfl) (by decide) (Nat.le_of_ble_eq_true rfl) (Nat.le_of_ble_eq_true rfl) (Nat.le_of_ble_eq_true rfl) dX10_init_23 (fun q_23 H hW => ?_)
  have hW : CxB D [(q0, .inr (13, [.ref q_7, .ref q_15, .null, .int (nI 0), .null, .int (nI 0), .int (nI 0), .int (nI 0), .int (nI 0), .null, .int (nI 0), .null, .null, .null, .null, .int (nI 0), .int (nI 0), .null, .null, .null, .int (nI 0), .int (nI 0), .int (nI 0), .int (nI 0), .null, .int (nI 0)])), (q_7, .inl (aT 0, 77, .inl (fun _ => nI 0))), (q_15, .inl (aT 0, 77, .inl (fun _ => nI 0))), (q_23, .inl (aT 0, 77, .inl (fun _ => nI 0)))] A s.heap H _ := hW
  refine cx_putF C hnm hW 0 2 (W1 := [(q0, .inr (13, [.ref q_7, .ref q_15, .ref q_23, .int (nI 0), .null, .int (nI 0), .int (nI 0), .int (nI 0), .int (nI 0), .null, .int (nI 0), .null, .null, .null, .null, .int (nI 0), .int (nI 0), .null, .null, .null, .int (nI 0), .int (nI 0), .int (nI 0), .int (nI 0), .null, .int (nI 0)])), (q_7, .inl (aT 0, 77, .inl (fun _ => nI 0))), (q_15, .inl (aT 0, 77, .inl (fun _ => nI 0))), (q_23, .inl (aT 0, 77, .inl (fun _ => nI 0)))]) rfl rfl (by decide) inX10 tyX10 tyX10_ok nmX10 gw_1625 rfl rfl rfl rfl rfl rfl (Nat.le_of_ble_eq_true rfl) rfl dX10_init_25 (fun H locs hW => ?_)
  refine lv_aload_n hx hb dX10_init_28 rfl (lv_at hl 0 rfl) ?_
  refine lv_sipush (v := nI 616) hx hb dX10_init_29 (by decide) ?_
  refine cx_newa C hA hW 0 (atype := .int) (a0 := (616, .inl (fun _ => nI 0))) gw_141 rfl rfl (fun _ _ h9 => h9) (fun _ => rfl) (by decide) (Nat.le_of_ble_eq_true rfl) (Nat.le_of_ble_eq_true rfl) (Nat.le_of_ble_eq_true rfl) dX10_init_32 (fun q_32 H hW => ?_)
  have hW : CxB D [(q0, .inr (13, [.ref q_7, .ref q_15, .ref q_23, .int (nI 0), .null, .int (nI 0), .int (nI 0), .int (nI 0), .int (nI 0), .null, .int (nI 0), .null, .null, .null, .null, .int (nI 0), .int (nI 0), .null, .null, .null, .int (nI 0), .int (nI 0), .int (nI 0), .int (nI 0), .null, .int (nI 0)])), (q_7, .inl (aT 0, 77, .inl (fun _ => nI 0))), (q_15, .inl (aT 0, 77, .inl (fun _ => nI 0))), (q_23, .inl (aT 0, 77, .inl (fun _ => nI 0))), (q_32, .inl (aT 0, 616, .inl (fun _ => nI 0)))] A s.heap H _ := hW
  refine cx_putF C hnm hW 0 4 (W1 := [(q0, .inr (13, [.ref q_7, .ref q_15, .ref q_23, .int (nI 0), .ref q_32, .int (nI 0), .int (nI 0), .int (nI 0), .int (nI 0), .null, .int (nI 0), .null, .null, .null, .null, .int (nI 0), .int (nI 0), .null, .null, .null, .int (nI 0), .int (nI 0), .int (nI 0), .int (nI 0), .null, .int (nI 0)])), (q_7, .inl (aT 0, 77, .inl (fun _ => nI 0))), (q_15, .inl (aT 0, 77, .inl (fun _ => nI 0))), (q_23, .inl (aT 0, 77, .inl (fun _ => nI 0))), (q_32, .inl (aT 0, 616, .inl (fun _ => nI 0)))]) rfl rfl (by decide) inX10 tyX10 tyX10_ok nmX10 gw_1627 rfl rfl rfl rfl rfl rfl (Nat.le_of_ble_eq_true rfl) rfl dX10_init_34 (fun H locs hW => ?_)
  refine lv_aload_n hx hb dX10_init_37 rfl (lv_at hl 0 rfl) ?_
  refine lv_iconst (v := (-1)) hx hb dX10_init_38 (by decide) ?_
  refine cx_put C hW 0 6 (W1 := [(q0, .inr (13, [.ref q_7, .ref q_15, .ref q_23, .int (nI 0), .ref q_32, .int (nI 0), .int (-1), .int (nI 0), .int (nI 0), .null, .int (nI 0), .null, .null, .null, .null, .int (nI 0), .int (nI 0), .null, .null, .null, .int (nI 0), .int (nI 0), .int (nI 0), .int (nI 0), .null, .int (nI 0)])), (q_7, .inl (aT 0, 77, .inl (fun _ => nI 0))), (q_15, .inl (aT 0, 77, .inl (fun _ => nI 0))), (q_23, .inl (aT 0, 77, .inl (fun _ => nI 0))), (q_32, .inl (aT 0, 616, .inl (fun _ => nI 0)))]) rfl rfl (by decide) inX10 tyX10 tyX10_ok nmX10 gw_1629 rfl rfl rfl rfl rfl (Nat.le_of_ble_eq_true rfl) rfl dX10_init_39 (fun H locs hW => ?_)
  refine lv_aload_n hx hb dX10_init_42 rfl (lv_at hl 0 rfl) ?_
  refine lv_iconst (v := (-1)) hx hb dX10_init_43 (by decide) ?_
  refine cx_put C hW 0 7 (W1 := [(q0, .inr (13, [.ref q_7, .ref q_15, .ref q_23, .int (nI 0), .ref q_32, .int (nI 0), .int (-1), .int (-1), .int (nI 0), .null, .int (nI 0), .null, .null, .null, .null, .int (nI 0), .int (nI 0), .null, .null, .null, .int (nI 0), .int (nI 0), .int (nI 0), .int (nI 0), .null, .int (nI 0)])), (q_7, .inl (aT 0, 77, .inl (fun _ => nI 0))), (q_15, .inl (aT 0, 77, .inl (fun _ => nI 0))), (q_23, .inl (aT 0, 77, .inl (fun _ => nI 0))), (q_32, .inl (aT 0, 616, .inl (fun _ => nI 0)))]) rfl rfl (by decide) inX10 tyX10 tyX10_ok nmX10 gw_1630 rfl rfl rfl rfl rfl (Nat.le_of_ble_eq_true rfl) rfl dX10_init_44 (fun H locs hW => ?_)
  refine lv_aload_n hx hb dX10_init_47 rfl (lv_at hl 0 rfl) ?_
  refine lv_bipush (v := nI 60) hx hb dX10_init_48 (by decide) ?_
  refine cx_newa C hA hW 0 (atype := .int) (a0 := (60, .inl (fun _ => nI 0))) gw_141 rfl rfl (fun _ _ h9 => h9) (fun _ => rfl) (by decide) (Nat.le_of_ble_eq_true rfl) (Nat.le_of_ble_eq_true rfl) (Nat.le_of_ble_eq_true rfl) dX10_init_50 (fun q_50 H hW => ?_)
  have hW : CxB D [(q0, .inr (13, [.ref q_7, .ref q_15, .ref q_23, .int (nI 0), .ref q_32, .int (nI 0), .int (-1), .int (-1), .int (nI 0), .null, .int (nI 0), .null, .null, .null, .null, .int (nI 0), .int (nI 0), .null, .null, .null, .int (nI 0), .int (nI 0), .int (nI 0), .int (nI 0), .null, .int (nI 0)])), (q_7, .inl (aT 0, 77, .inl (fun _ => nI 0))), (q_15, .inl (aT 0, 77, .inl (fun _ => nI 0))), (q_23, .inl (aT 0, 77, .inl (fun _ => nI 0))), (q_32, .inl (aT 0, 616, .inl (fun _ => nI 0))), (q_50, .inl (aT 0, 60, .inl (fun _ => nI 0)))] A s.heap H _ := hW
  refine cx_putF C hnm hW 0 9 (W1 := [(q0, .inr (13, [.ref q_7, .ref q_15, .ref q_23, .int (nI 0), .ref q_32, .int (nI 0), .int (-1), .int (-1), .int (nI 0), .ref q_50, .int (nI 0), .null, .null, .null, .null, .int (nI 0), .int (nI 0), .null, .null, .null, .int (nI 0), .int (nI 0), .int (nI 0), .int (nI 0), .null, .int (nI 0)])), (q_7, .inl (aT 0, 77, .inl (fun _ => nI 0))), (q_15, .inl (aT 0, 77, .inl (fun _ => nI 0))), (q_23, .inl (aT 0, 77, .inl (fun _ => nI 0))), (q_32, .inl (aT 0, 616, .inl (fun _ => nI 0))), (q_50, .inl (aT 0, 60, .inl (fun _ => nI 0)))]) rfl rfl (by decide) inX10 tyX10 tyX10_ok nmX10 gw_1632 rfl rfl rfl rfl rfl rfl (Nat.le_of_ble_eq_true rfl) rfl dX10_init_52 (fun H locs hW => ?_)
  refine lv_aload_n hx hb dX10_init_55 rfl (lv_at hl 0 rfl) ?_
  refine lv_bipush (v := nI 12) hx hb dX10_init_56 (by decide) ?_
  refine cx_newa C hA hW 0 (atype := .int) (a0 := (12, .inl (fun _ => nI 0))) gw_141 rfl rfl (fun _ _ h9 => h9) (fun _ => rfl) (by decide) (Nat.le_of_ble_eq_true rfl) (Nat.le_of_ble_eq_true rfl) (Nat.le_of_ble_eq_true rfl) dX10_init_58 (fun q_58 H hW => ?_)
  have hW : CxB D [(q0, .inr (13, [.ref q_7, .ref q_15, .ref q_23, .int (nI 0), .ref q_32, .int (nI 0), .int (-1), .int (-1), .int (nI 0), .ref q_50, .int (nI 0), .null, .null, .null, .null, .int (nI 0), .int (nI 0), .null, .null, .null, .int (nI 0), .int (nI 0), .int (nI 0), .int (nI 0), .null, .int (nI 0)])), (q_7, .inl (aT 0, 77, .inl (fun _ => nI 0))), (q_15, .inl (aT 0, 77, .inl (fun _ => nI 0))), (q_23, .inl (aT 0, 77, .inl (fun _ => nI 0))), (q_32, .inl (aT 0, 616, .inl (fun _ => nI 0))), (q_50, .inl (aT 0, 60, .inl (fun _ => nI 0))), (q_58, .inl (aT 0, 12, .inl (fun _ => nI 0)))] A s.heap H _ := hW
  refine cx_putF C hnm hW 0 11 (W1 := [(q0, .inr (13, [.ref q_7, .ref q_15, .ref q_23, .int (nI 0), .ref q_32, .int (nI 0), .int (-1), .int (-1), .int (nI 0), .ref q_50, .int (nI 0), .ref q_58, .null, .null, .null, .int (nI 0), .int (nI 0), .null, .null, .null, .int (nI 0), .int (nI 0), .int (nI 0), .int (nI 0), .null, .int (nI 0)])), (q_7, .inl (aT 0, 77, .inl (fun _ => nI 0))), (q_15, .inl (aT 0, 77, .inl (fun _ => nI 0))), (q_23, .inl (aT 0, 77, .inl (fun _ => nI 0))), (q_32, .inl (aT 0, 616, .inl (fun _ => nI 0))), (q_50, .inl (aT 0, 60, .inl (fun _ => nI 0))), (q_58, .inl (aT 0, 12, .inl (fun _ => nI 0)))]) rfl rfl (by decide) inX10 tyX10 tyX10_ok nmX10 gw_1634 rfl rfl rfl rfl rfl rfl (Nat.le_of_ble_eq_true rfl) rfl dX10_init_60 (fun H locs hW => ?_)
  refine lv_aload_n hx hb dX10_init_63 rfl (lv_at hl 0 rfl) ?_
  refine lv_bipush (v := nI 12) hx hb dX10_init_64 (by decide) ?_
  refine cx_newa C hA hW 0 (atype := .int) (a0 := (12, .inl (fun _ => nI 0))) gw_141 rfl rfl (fun _ _ h9 => h9) (fun _ => rfl) (by decide) (Nat.le_of_ble_eq_true rfl) (Nat.le_of_ble_eq_true rfl) (Nat.le_of_ble_eq_true rfl) dX10_init_66 (fun q_66 H hW => ?_)
  have hW : CxB D [(q0, .inr (13, [.ref q_7, .ref q_15, .ref q_23, .int (nI 0), .ref q_32, .int (nI 0), .int (-1), .int (-1), .int (nI 0), .ref q_50, .int (nI 0), .ref q_58, .null, .null, .null, .int (nI 0), .int (nI 0), .null, .null, .null, .int (nI 0), .int (nI 0), .int (nI 0), .int (nI 0), .null, .int (nI 0)])), (q_7, .inl (aT 0, 77, .inl (fun _ => nI 0))), (q_15, .inl (aT 0, 77, .inl (fun _ => nI 0))), (q_23, .inl (aT 0, 77, .inl (fun _ => nI 0))), (q_32, .inl (aT 0, 616, .inl (fun _ => nI 0))), (q_50, .inl (aT 0, 60, .inl (fun _ => nI 0))), (q_58, .inl (aT 0, 12, .inl (fun _ => nI 0))), (q_66, .inl (aT 0, 12, .inl (fun _ => nI 0)))] A s.heap H _ := hW
  refine cx_putF C hnm hW 0 12 (W1 := [(q0, .inr (13, [.ref q_7, .ref q_15, .ref q_23, .int (nI 0), .ref q_32, .int (nI 0), .int (-1), .int (-1), .int (nI 0), .ref q_50, .int (nI 0), .ref q_58, .ref q_66, .null, .null, .int (nI 0), .int (nI 0), .null, .null, .null, .int (nI 0), .int (nI 0), .int (nI 0), .int (nI 0), .null, .int (nI 0)])), (q_7, .inl (aT 0, 77, .inl (fun _ => nI 0))), (q_15, .inl (aT 0, 77, .inl (fun _ => nI 0))), (q_23, .inl (aT 0, 77, .inl (fun _ => nI 0))), (q_32, .inl (aT 0, 616, .inl (fun _ => nI 0))), (q_50, .inl (aT 0, 60, .inl (fun _ => nI 0))), (q_58, .inl (aT 0, 12, .inl (fun _ => nI 0))), (q_66, .inl (aT 0, 12, .inl (fun _ => nI 0)))]) rfl rfl (by decide) inX10 tyX10 tyX10_ok nmX10 gw_1635 rfl rfl rfl rfl rfl rfl (Nat.le_of_ble_eq_true rfl) rfl dX10_init_68 (fun H locs hW => ?_)
  refine lv_aload_n hx hb dX10_init_71 rfl (lv_at hl 0 rfl) ?_
  refine lv_bipush (v := nI 12) hx hb dX10_init_72 (by decide) ?_
  refine cx_newa C hA hW 0 (atype := .int) (a0 := (12, .inl (fun _ => nI 0))) gw_141 rfl rfl (fun _ _ h9 => h9) (fun _ => rfl) (by decide) (Nat.le_of_ble_eq_true rfl) (Nat.le_of_ble_eq_true rfl) (Nat.le_of_ble_eq_true rfl) dX10_init_74 (fun q_74 H hW => ?_)
  have hW : CxB D [(q0, .inr (13, [.ref q_7, .ref q_15, .ref q_23, .int (nI 0), .ref q_32, .int (nI 0), .int (-1), .int (-1), .int (nI 0), .ref q_50, .int (nI 0), .ref q_58, .ref q_66, .null, .null, .int (nI 0), .int (nI 0), .null, .null, .null, .int (nI 0), .int (nI 0), .int (nI 0), .int (nI 0), .null, .int (nI 0)])), (q_7, .inl (aT 0, 77, .inl (fun _ => nI 0))), (q_15, .inl (aT 0, 77, .inl (fun _ => nI 0))), (q_23, .inl (aT 0, 77, .inl (fun _ => nI 0))), (q_32, .inl (aT 0, 616, .inl (fun _ => nI 0))), (q_50, .inl (aT 0, 60, .inl (fun _ => nI 0))), (q_58, .inl (aT 0, 12, .inl (fun _ => nI 0))), (q_66, .inl (aT 0, 12, .inl (fun _ => nI 0))), (q_74, .inl (aT 0, 12, .inl (fun _ => nI 0)))] A s.heap H _ := hW
  refine cx_putF C hnm hW 0 13 (W1 := [(q0, .inr (13, [.ref q_7, .ref q_15, .ref q_23, .int (nI 0), .ref q_32, .int (nI 0), .int (-1), .int (-1), .int (nI 0), .ref q_50, .int (nI 0), .ref q_58, .ref q_66, .ref q_74, .null, .int (nI 0), .int (nI 0), .null, .null, .null, .int (nI 0), .int (nI 0), .int (nI 0), .int (nI 0), .null, .int (nI 0)])), (q_7, .inl (aT 0, 77, .inl (fun _ => nI 0))), (q_15, .inl (aT 0, 77, .inl (fun _ => nI 0))), (q_23, .inl (aT 0, 77, .inl (fun _ => nI 0))), (q_32, .inl (aT 0, 616, .inl (fun _ => nI 0))), (q_50, .inl (aT 0, 60, .inl (fun _ => nI 0))), (q_58, .inl (aT 0, 12, .inl (fun _ => nI 0))), (q_66, .inl (aT 0, 12, .inl (fun _ => nI 0))), (q_74, .inl (aT 0, 12, .inl (fun _ => nI 0)))]) rfl rfl (by decide) inX10 tyX10 tyX10_ok nmX10 gw_1636 rfl rfl rfl rfl rfl rfl (Nat.le_of_ble_eq_true rfl) rfl dX10_init_76 (fun H locs hW => ?_)
  refine lv_aload_n hx hb dX10_init_79 rfl (lv_at hl 0 rfl) ?_
  refine lv_bipush (v := nI 12) hx hb dX10_init_80 (by decide) ?_
  refine cx_newa C hA hW 0 (atype := .int) (a0 := (12, .inl (fun _ => nI 0))) gw_141 rfl rfl (fun _ _ h9 => h9) (fun _ => rfl) (by decide) (Nat.le_of_ble_eq_true rfl) (Nat.le_of_ble_eq_true rfl) (Nat.le_of_ble_eq_true rfl) dX10_init_82 (fun q_82 H hW => ?_)
  have hW : CxB D [(q0, .inr (13, [.ref q_7, .ref q_15, .ref q_23, .int (nI 0), .ref q_32, .int (nI 0), .int (-1), .int (-1), .int (nI 0), .ref q_50, .int (nI 0), .ref q_58, .ref q_66, .ref q_74, .null, .int (nI 0), .int (nI 0), .null, .null, .null, .int (nI 0), .int (nI 0), .int (nI 0), .int (nI 0), .null, .int (nI 0)])), (q_7, .inl (aT 0, 77, .inl (fun _ => nI 0))), (q_15, .inl (aT 0, 77, .inl (fun _ => nI 0))), (q_23, .inl (aT 0, 77, .inl (fun _ => nI 0))), (q_32, .inl (aT 0, 616, .inl (fun _ => nI 0))), (q_50, .inl (aT 0, 60, .inl (fun _ => nI 0))), (q_58, .inl (aT 0, 12, .inl (fun _ => nI 0))), (q_66, .inl (aT 0, 12, .inl (fun _ => nI 0))), (q_74, .inl (aT 0, 12, .inl (fun _ => nI 0))), (q_82, .inl (aT 0, 12, .inl (fun _ => nI 0)))] A s.heap H _ := hW
  refine cx_putF C hnm hW 0 14 (W1 := [(q0, .inr (13, [.ref q_7, .ref q_15, .ref q_23, .int (nI 0), .ref q_32, .int (nI 0), .int (-1), .int (-1), .int (nI 0), .ref q_50, .int (nI 0), .ref q_58, .ref q_66, .ref q_74, .ref q_82, .int (nI 0), .int (nI 0), .null, .null, .null, .int (nI 0), .int (nI 0), .int (nI 0), .int (nI 0), .null, .int (nI 0)])), (q_7, .inl (aT 0, 77, .inl (fun _ => nI 0))), (q_15, .inl (aT 0, 77, .inl (fun _ => nI 0))), (q_23, .inl (aT 0, 77, .inl (fun _ => nI 0))), (q_32, .inl (aT 0, 616, .inl (fun _ => nI 0))), (q_50, .inl (aT 0, 60, .inl (fun _ => nI 0))), (q_58, .inl (aT 0, 12, .inl (fun _ => nI 0))), (q_66, .inl (aT 0, 12, .inl (fun _ => nI 0))), (q_74, .inl (aT 0, 12, .inl (fun _ => nI 0))), (q_82, .inl (aT 0, 12, .inl (fun _ => nI 0)))]) rfl rfl (by decide) inX10 tyX10 tyX10_ok nmX10 gw_1637 rfl rfl rfl rfl rfl rfl (Nat.le_of_ble_eq_true rfl) rfl dX10_init_84 (fun H locs hW => ?_)
  refine lv_aload_n hx hb dX10_init_87 rfl (lv_at hl 0 rfl) ?_
  refine lv_bipush (v := nI 41) hx hb dX10_init_88 (by decide) ?_
  refine cx_newa C hA hW 1 (atype := .char) (a0 := (41, .inl (fun _ => nI 0))) gw_295 rfl rfl (fun _ _ h9 => h9) (fun _ => rfl) (by decide) (Nat.le_of_ble_eq_true rfl) (Nat.le_of_ble_eq_true rfl) (Nat.le_of_ble_eq_true rfl) dX10_init_90 (fun q_90 H hW => ?_)
  have hW : CxB D [(q0, .inr (13, [.ref q_7, .ref q_15, .ref q_23, .int (nI 0), .ref q_32, .int (nI 0), .int (-1), .int (-1), .int (nI 0), .ref q_50, .int (nI 0), .ref q_58, .ref q_66, .ref q_74, .ref q_82, .int (nI 0), .int (nI 0), .null, .null, .null, .int (nI 0), .int (nI 0), .int (nI 0), .int (nI 0), .null, .int (nI 0)])), (q_7, .inl (aT 0, 77, .inl (fun _ => nI 0))), (q_15, .inl (aT 0, 77, .inl (fun _ => nI 0))), (q_23, .inl (aT 0, 77, .inl (fun _ => nI 0))), (q_32, .inl (aT 0, 616, .inl (fun _ => nI 0))), (q_50, .inl (aT 0, 60, .inl (fun _ => nI 0))), (q_58, .inl (aT 0, 12, .inl (fun _ => nI 0))), (q_66, .inl (aT 0, 12, .inl (fun _ => nI 0))), (q_74, .inl (aT 0, 12, .inl (fun _ => nI 0))), (q_82, .inl (aT 0, 12, .inl (fun _ => nI 0))), (q_90, .inl (aT 1, 41, .inl (fun _ => nI 0)))] A s.heap H _ := hW
  refine lv_dup hx hb dX10_init_92 rfl ?_
  refine lv_iconst (v := nI 0) hx hb dX10_init_93 (by decide) ?_
  refine lv_bipush (v := nI 104) hx hb dX10_init_94 (by decide) ?_
  refine cx_cast C hW 10 1 (j := 0) (W1 := [(q0, .inr (13, [.ref q_7, .ref q_15, .ref q_23, .int (nI 0), .ref q_32, .int (nI 0), .int (-1), .int (-1), .int (nI 0), .ref q_50, .int (nI 0), .ref q_58, .ref q_66, .ref q_74, .ref q_82, .int (nI 0), .int (nI 0), .null, .null, .null, .int (nI 0), .int (nI 0), .int (nI 0), .int (nI 0), .null, .int (nI 0)])), (q_7, .inl (aT 0, 77, .inl (fun _ => nI 0))), (q_15, .inl (aT 0, 77, .inl (fun _ => nI 0))), (q_23, .inl (aT 0, 77, .inl (fun _ => nI 0))), (q_32, .inl (aT 0, 616, .inl (fun _ => nI 0))), (q_50, .inl (aT 0, 60, .inl (fun _ => nI 0))), (q_58, .inl (aT 0, 12, .inl (fun _ => nI 0))), (q_66, .inl (aT 0, 12, .inl (fun _ => nI 0))), (q_74, .inl (aT 0, 12, .inl (fun _ => nI 0))), (q_82, .inl (aT 0, 12, .inl (fun _ => nI 0))), (q_90, .inl (aT 1, 41, .inl (upd (fun _ => nI 0) 0 (vp_nar .char ((nI 104))))))]) rfl rfl rfl (by decide) (by decide) rfl dX10_init_96 (fun H locs hW => ?_)
  obtain ⟨f_96, ef_96⟩ : ∃ y : Nat → Int32, y = (upd (fun _ => nI 0) 0 (vp_nar .char ((nI 104)))) := ⟨_, rfl⟩
  rw [← ef_96] at hW
  refine lv_dup hx hb dX10_init_97 rfl ?_
  refine lv_iconst (v := nI 1) hx hb dX10_init_98 (by decide) ?_
  refine lv_bipush (v := nI 101) hx hb dX10_init_99 (by decide) ?_
  refine cx_cast C hW 10 1 (j := 1) (W1 := [(q0, .inr (13, [.ref q_7, .ref q_15, .ref q_23, .int (nI 0), .ref q_32, .int (nI 0), .int (-1), .int (-1), .int (nI 0), .ref q_50, .int (nI 0), .ref q_58, .ref q_66, .ref q_74, .ref q_82, .int (nI 0), .int (nI 0), .null, .null, .null, .int (nI 0), .int (nI 0), .int (nI 0), .int (nI 0), .null, .int (nI 0)])), (q_7, .inl (aT 0, 77, .inl (fun _ => nI 0))), (q_15, .inl (aT 0, 77, .inl (fun _ => nI 0))), (q_23, .inl (aT 0, 77, .inl (fun _ => nI 0))), (q_32, .inl (aT 0, 616, .inl (fun _ => nI 0))), (q_50, .inl (aT 0, 60, .inl (fun _ => nI 0))), (q_58, .inl (aT 0, 12, .inl (fun _ => nI 0))), (q_66, .inl (aT 0, 12, .inl (fun _ => nI 0))), (q_74, .inl (aT 0, 12, .inl (fun _ => nI 0))), (q_82, .inl (aT 0, 12, .inl (fun _ => nI 0))), (q_90, .inl (aT 1, 41, .inl (upd f_96 1 (vp_nar .char ((nI 101))))))]) rfl rfl rfl (by decide) (by decide) rfl dX10_init_101 (fun H locs hW => ?_)
  obtain ⟨f_101, ef_101⟩ : ∃ y : Nat → Int32, y = (upd f_96 1 (vp_nar .char ((nI 101)))) := ⟨_, rfl⟩
  rw [← ef_101] at hW
  refine lv_dup hx hb dX10_init_102 rfl ?_
  refine lv_iconst (v := nI 2) hx hb dX10_init_103 (by decide) ?_
  refine lv_bipush (v := nI 100) hx hb dX10_init_104 (by decide) ?_
  refine cx_cast C hW 10 1 (j := 2) (W1 := [(q0, .inr (13, [.ref q_7, .ref q_15, .ref q_23, .int (nI 0), .ref q_32, .int (nI 0), .int (-1), .int (-1), .int (nI 0), .ref q_50, .int (nI 0), .ref q_58, .ref q_66, .ref q_74, .ref q_82, .int (nI 0), .int (nI 0), .null, .null, .null, .int (nI 0), .int (nI 0), .int (nI 0), .int (nI 0), .null, .int (nI 0)])), (q_7, .inl (aT 0, 77, .inl (fun _ => nI 0))), (q_15, .inl (aT 0, 77, .inl (fun _ => nI 0))), (q_23, .inl (aT 0, 77, .inl (fun _ => nI 0))), (q_32, .inl (aT 0, 616, .inl (fun _ => nI 0))), (q_50, .inl (aT 0, 60, .inl (fun _ => nI 0))), (q_58, .inl (aT 0, 12, .inl (fun _ => nI 0))), (q_66, .inl (aT 0, 12, .inl (fun _ => nI 0))), (q_74, .inl (aT 0, 12, .inl (fun _ => nI 0))), (q_82, .inl (aT 0, 12, .inl (fun _ => nI 0))), (q_90, .inl (aT 1, 41, .inl (upd f_101 2 (vp_nar .char ((nI 100))))))]) rfl rfl rfl (by decide) (by decide) rfl dX10_init_106 (fun H locs hW => ?_)
  obtain ⟨f_106, ef_106⟩ : ∃ y : Nat → Int32, y = (upd f_101 2 (vp_nar .char ((nI 100)))) := ⟨_, rfl⟩
  rw [← ef_106] at hW
  refine lv_dup hx hb dX10_init_107 rfl ?_
  refine lv_iconst (v := nI 3) hx hb dX10_init_108 (by decide) ?_
  refine lv_bipush (v := nI 103) hx hb dX10_init_109 (by decide) ?_
  refine cx_cast C hW 10 1 (j := 3) (W1 := [(q0, .inr (13, [.ref q_7, .ref q_15, .ref q_23, .int (nI 0), .ref q_32, .int (nI 0), .int (-1), .int (-1), .int (nI 0), .ref q_50, .int (nI 0), .ref q_58, .ref q_66, .ref q_74, .ref q_82, .int (nI 0), .int (nI 0), .null, .null, .null, .int (nI 0), .int (nI 0), .int (nI 0), .int (nI 0), .null, .int (nI 0)])), (q_7, .inl (aT 0, 77, .inl (fun _ => nI 0))), (q_15, .inl (aT 0, 77, .inl (fun _ => nI 0))), (q_23, .inl (aT 0, 77, .inl (fun _ => nI 0))), (q_32, .inl (aT 0, 616, .inl (fun _ => nI 0))), (q_50, .inl (aT 0, 60, .inl (fun _ => nI 0))), (q_58, .inl (aT 0, 12, .inl (fun _ => nI 0))), (q_66, .inl (aT 0, 12, .inl (fun _ => nI 0))), (q_74, .inl (aT 0, 12, .inl (fun _ => nI 0))), (q_82, .inl (aT 0, 12, .inl (fun _ => nI 0))), (q_90, .inl (aT 1, 41, .inl (upd f_106 3 (vp_nar .char ((nI 103))))))]) rfl rfl rfl (by decide) (by decide) rfl dX10_init_111 (fun H locs hW => ?_)
  obtain ⟨f_111, ef_111⟩ : ∃ y : Nat → Int32, y = (upd f_106 3 (vp_nar .char ((nI 103)))) := ⟨_, rfl⟩
  rw [← ef_111] at hW
  refine lv_dup hx hb dX10_init_112 rfl ?_
  refine lv_iconst (v := nI 4) hx hb dX10_init_113 (by decide) ?_
  refine lv_bipush (v := nI 101) hx hb dX10_init_114 (by decide) ?_
  refine cx_cast C hW 10 1 (j := 4) (W1 := [(q0, .inr (13, [.ref q_7, .ref q_15, .ref q_23, .int (nI 0), .ref q_32, .int (nI 0), .int (-1), .int (-1), .int (nI 0), .ref q_50, .int (nI 0), .ref q_58, .ref q_66, .ref q_74, .ref q_82, .int (nI 0), .int (nI 0), .null, .null, .null, .int (nI 0), .int (nI 0), .int (nI 0), .int (nI 0), .null, .int (nI 0)])), (q_7, .inl (aT 0, 77, .inl (fun _ => nI 0))), (q_15, .inl (aT 0, 77, .inl (fun _ => nI 0))), (q_23, .inl (aT 0, 77, .inl (fun _ => nI 0))), (q_32, .inl (aT 0, 616, .inl (fun _ => nI 0))), (q_50, .inl (aT 0, 60, .inl (fun _ => nI 0))), (q_58, .inl (aT 0, 12, .inl (fun _ => nI 0))), (q_66, .inl (aT 0, 12, .inl (fun _ => nI 0))), (q_74, .inl (aT 0, 12, .inl (fun _ => nI 0))), (q_82, .inl (aT 0, 12, .inl (fun _ => nI 0))), (q_90, .inl (aT 1, 41, .inl (upd f_111 4 (vp_nar .char ((nI 101))))))]) rfl rfl rfl (by decide) (by decide) rfl dX10_init_116 (fun H locs hW => ?_)
  obtain ⟨f_116, ef_116⟩ : ∃ y : Nat → Int32, y = (upd f_111 4 (vp_nar .char ((nI 101)))) := ⟨_, rfl⟩
  rw [← ef_116] at hW
  refine lv_dup hx hb dX10_init_117 rfl ?_
  refine lv_iconst (v := nI 5) hx hb dX10_init_118 (by decide) ?_
  refine lv_bipush (v := nI 32) hx hb dX10_init_119 (by decide) ?_
  refine cx_cast C hW 10 1 (j := 5) (W1 := [(q0, .inr (13, [.ref q_7, .ref q_15, .ref q_23, .int (nI 0), .ref q_32, .int (nI 0), .int (-1), .int (-1), .int (nI 0), .ref q_50, .int (nI 0), .ref q_58, .ref q_66, .ref q_74, .ref q_82, .int (nI 0), .int (nI 0), .null, .null, .null, .int (nI 0), .int (nI 0), .int (nI 0), .int (nI 0), .null, .int (nI 0)])), (q_7, .inl (aT 0, 77, .inl (fun _ => nI 0))), (q_15, .inl (aT 0, 77, .inl (fun _ => nI 0))), (q_23, .inl (aT 0, 77, .inl (fun _ => nI 0))), (q_32, .inl (aT 0, 616, .inl (fun _ => nI 0))), (q_50, .inl (aT 0, 60, .inl (fun _ => nI 0))), (q_58, .inl (aT 0, 12, .inl (fun _ => nI 0))), (q_66, .inl (aT 0, 12, .inl (fun _ => nI 0))), (q_74, .inl (aT 0, 12, .inl (fun _ => nI 0))), (q_82, .inl (aT 0, 12, .inl (fun _ => nI 0))), (q_90, .inl (aT 1, 41, .inl (upd f_116 5 (vp_nar .char ((nI 32))))))]) rfl rfl rfl (by decide) (by decide) rfl dX10_init_121 (fun H locs hW => ?_)
  obtain ⟨f_121, ef_121⟩ : ∃ y : Nat → Int32, y = (upd f_116 5 (vp_nar .char ((nI 32)))) := ⟨_, rfl⟩
  rw [← ef_121] at hW
  refine lv_dup hx hb dX10_init_122 rfl ?_
  refine lv_bipush (v := nI 6) hx hb dX10_init_123 (by decide) ?_
  refine lv_bipush (v := nI 109) hx hb dX10_init_125 (by decide) ?_
  refine cx_cast C hW 10 1 (j := 6) (W1 := [(q0, .inr (13, [.ref q_7, .ref q_15, .ref q_23, .int (nI 0), .ref q_32, .int (nI 0), .int (-1), .int (-1), .int (nI 0), .ref q_50, .int (nI 0), .ref q_58, .ref q_66, .ref q_74, .ref q_82, .int (nI 0), .int (nI 0), .null, .null, .null, .int (nI 0), .int (nI 0), .int (nI 0), .int (nI 0), .null, .int (nI 0)])), (q_7, .inl (aT 0, 77, .inl (fun _ => nI 0))), (q_15, .inl (aT 0, 77, .inl (fun _ => nI 0))), (q_23, .inl (aT 0, 77, .inl (fun _ => nI 0))), (q_32, .inl (aT 0, 616, .inl (fun _ => nI 0))), (q_50, .inl (aT 0, 60, .inl (fun _ => nI 0))), (q_58, .inl (aT 0, 12, .inl (fun _ => nI 0))), (q_66, .inl (aT 0, 12, .inl (fun _ => nI 0))), (q_74, .inl (aT 0, 12, .inl (fun _ => nI 0))), (q_82, .inl (aT 0, 12, .inl (fun _ => nI 0))), (q_90, .inl (aT 1, 41, .inl (upd f_121 6 (vp_nar .char ((nI 109))))))]) rfl rfl rfl (by decide) (by decide) rfl dX10_init_127 (fun H locs hW => ?_)
  obtain ⟨f_127, ef_127⟩ : ∃ y : Nat → Int32, y = (upd f_121 6 (vp_nar .char ((nI 109)))) := ⟨_, rfl⟩
  rw [← ef_127] at hW
  refine lv_dup hx hb dX10_init_128 rfl ?_
  refine lv_bipush (v := nI 7) hx hb dX10_init_129 (by decide) ?_
  refine lv_bipush (v := nI 97) hx hb dX10_init_131 (by decide) ?_
  refine cx_cast C hW 10 1 (j := 7) (W1 := [(q0, .inr (13, [.ref q_7, .ref q_15, .ref q_23, .int (nI 0), .ref q_32, .int (nI 0), .int (-1), .int (-1), .int (nI 0), .ref q_50, .int (nI 0), .ref q_58, .ref q_66, .ref q_74, .ref q_82, .int (nI 0), .int (nI 0), .null, .null, .null, .int (nI 0), .int (nI 0), .int (nI 0), .int (nI 0), .null, .int (nI 0)])), (q_7, .inl (aT 0, 77, .inl (fun _ => nI 0))), (q_15, .inl (aT 0, 77, .inl (fun _ => nI 0))), (q_23, .inl (aT 0, 77, .inl (fun _ => nI 0))), (q_32, .inl (aT 0, 616, .inl (fun _ => nI 0))), (q_50, .inl (aT 0, 60, .inl (fun _ => nI 0))), (q_58, .inl (aT 0, 12, .inl (fun _ => nI 0))), (q_66, .inl (aT 0, 12, .inl (fun _ => nI 0))), (q_74, .inl (aT 0, 12, .inl (fun _ => nI 0))), (q_82, .inl (aT 0, 12, .inl (fun _ => nI 0))), (q_90, .inl (aT 1, 41, .inl (upd f_127 7 (vp_nar .char ((nI 97))))))]) rfl rfl rfl (by decide) (by decide) rfl dX10_init_133 (fun H locs hW => ?_)
  obtain ⟨f_133, ef_133⟩ : ∃ y : Nat → Int32, y = (upd f_127 7 (vp_nar .char ((nI 97)))) := ⟨_, rfl⟩
  rw [← ef_133] at hW
  refine lv_dup hx hb dX10_init_134 rfl ?_
  refine lv_bipush (v := nI 8) hx hb dX10_init_135 (by decide) ?_
  refine lv_bipush (v := nI 105) hx hb dX10_init_137 (by decide) ?_
  refine cx_cast C hW 10 1 (j := 8) (W1 := [(q0, .inr (13, [.ref q_7, .ref q_15, .ref q_23, .int (nI 0), .ref q_32, .int (nI 0), .int (-1), .int (-1), .int (nI 0), .ref q_50, .int (nI 0), .ref q_58, .ref q_66, .ref q_74, .ref q_82, .int (nI 0), .int (nI 0), .null, .null, .null, .int (nI 0), .int (nI 0), .int (nI 0), .int (nI 0), .null, .int (nI 0)])), (q_7, .inl (aT 0, 77, .inl (fun _ => nI 0))), (q_15, .inl (aT 0, 77, .inl (fun _ => nI 0))), (q_23, .inl (aT 0, 77, .inl (fun _ => nI 0))), (q_32, .inl (aT 0, 616, .inl (fun _ => nI 0))), (q_50, .inl (aT 0, 60, .inl (fun _ => nI 0))), (q_58, .inl (aT 0, 12, .inl (fun _ => nI 0))), (q_66, .inl (aT 0, 12, .inl (fun _ => nI 0))), (q_74, .inl (aT 0, 12, .inl (fun _ => nI 0))), (q_82, .inl (aT 0, 12, .inl (fun _ => nI 0))), (q_90, .inl (aT 1, 41, .inl (upd f_133 8 (vp_nar .char ((nI 105))))))]) rfl rfl rfl (by decide) (by decide) rfl dX10_init_139 (fun H locs hW => ?_)
  obtain ⟨f_139, ef_139⟩ : ∃ y : Nat → Int32, y = (upd f_133 8 (vp_nar .char ((nI 105)))) := ⟨_, rfl⟩
  rw [← ef_139] at hW
  refine lv_dup hx hb dX10_init_140 rfl ?_
  refine lv_bipush (v := nI 9) hx hb dX10_init_141 (by decide) ?_
  refine lv_bipush (v := nI 110) hx hb dX10_init_143 (by decide) ?_
  refine cx_cast C hW 10 1 (j := 9) (W1 := [(q0, .inr (13, [.ref q_7, .ref q_15, .ref q_23, .int (nI 0), .ref q_32, .int (nI 0), .int (-1), .int (-1), .int (nI 0), .ref q_50, .int (nI 0), .ref q_58, .ref q_66, .ref q_74, .ref q_82, .int (nI 0), .int (nI 0), .null, .null, .null, .int (nI 0), .int (nI 0), .int (nI 0), .int (nI 0), .null, .int (nI 0)])), (q_7, .inl (aT 0, 77, .inl (fun _ => nI 0))), (q_15, .inl (aT 0, 77, .inl (fun _ => nI 0))), (q_23, .inl (aT 0, 77, .inl (fun _ => nI 0))), (q_32, .inl (aT 0, 616, .inl (fun _ => nI 0))), (q_50, .inl (aT 0, 60, .inl (fun _ => nI 0))), (q_58, .inl (aT 0, 12, .inl (fun _ => nI 0))), (q_66, .inl (aT 0, 12, .inl (fun _ => nI 0))), (q_74, .inl (aT 0, 12, .inl (fun _ => nI 0))), (q_82, .inl (aT 0, 12, .inl (fun _ => nI 0))), (q_90, .inl (aT 1, 41, .inl (upd f_139 9 (vp_nar .char ((nI 110))))))]) rfl rfl rfl (by decide) (by decide) rfl dX10_init_145 (fun H locs hW => ?_)
  obtain ⟨f_145, ef_145⟩ : ∃ y : Nat → Int32, y = (upd f_139 9 (vp_nar .char ((nI 110)))) := ⟨_, rfl⟩
  rw [← ef_145] at hW
  refine lv_dup hx hb dX10_init_146 rfl ?_
  refine lv_bipush (v := nI 10) hx hb dX10_init_147 (by decide) ?_
  refine lv_bipush (v := nI 32) hx hb dX10_init_149 (by decide) ?_
  refine cx_cast C hW 10 1 (j := 10) (W1 := [(q0, .inr (13, [.ref q_7, .ref q_15, .ref q_23, .int (nI 0), .ref q_32, .int (nI 0), .int (-1), .int (-1), .int (nI 0), .ref q_50, .int (nI 0), .ref q_58, .ref q_66, .ref q_74, .ref q_82, .int (nI 0), .int (nI 0), .null, .null, .null, .int (nI 0), .int (nI 0), .int (nI 0), .int (nI 0), .null, .int (nI 0)])), (q_7, .inl (aT 0, 77, .inl (fun _ => nI 0))), (q_15, .inl (aT 0, 77, .inl (fun _ => nI 0))), (q_23, .inl (aT 0, 77, .inl (fun _ => nI 0))), (q_32, .inl (aT 0, 616, .inl (fun _ => nI 0))), (q_50, .inl (aT 0, 60, .inl (fun _ => nI 0))), (q_58, .inl (aT 0, 12, .inl (fun _ => nI 0))), (q_66, .inl (aT 0, 12, .inl (fun _ => nI 0))), (q_74, .inl (aT 0, 12, .inl (fun _ => nI 0))), (q_82, .inl (aT 0, 12, .inl (fun _ => nI 0))), (q_90, .inl (aT 1, 41, .inl (upd f_145 10 (vp_nar .char ((nI 32))))))]) rfl rfl rfl (by decide) (by decide) rfl dX10_init_151 (fun H locs hW => ?_)
  obtain ⟨f_151, ef_151⟩ : ∃ y : Nat → Int32, y = (upd f_145 10 (vp_nar .char ((nI 32)))) := ⟨_, rfl⟩
  rw [← ef_151] at hW
  refine lv_dup hx hb dX10_init_152 rfl ?_
  refine lv_bipush (v := nI 11) hx hb dX10_init_153 (by decide) ?_
  refine lv_bipush (v := nI 97) hx hb dX10_init_155 (by decide) ?_
  refine cx_cast C hW 10 1 (j := 11) (W1 := [(q0, .inr (13, [.ref q_7, .ref q_15, .ref q_23, .int (nI 0), .ref q_32, .int (nI 0), .int (-1), .int (-1), .int (nI 0), .ref q_50, .int (nI 0), .ref q_58, .ref q_66, .ref q_74, .ref q_82, .int (nI 0), .int (nI 0), .null, .null, .null, .int (nI 0), .int (nI 0), .int (nI 0), .int (nI 0), .null, .int (nI 0)])), (q_7, .inl (aT 0, 77, .inl (fun _ => nI 0))), (q_15, .inl (aT 0, 77, .inl (fun _ => nI 0))), (q_23, .inl (aT 0, 77, .inl (fun _ => nI 0))), (q_32, .inl (aT 0, 616, .inl (fun _ => nI 0))), (q_50, .inl (aT 0, 60, .inl (fun _ => nI 0))), (q_58, .inl (aT 0, 12, .inl (fun _ => nI 0))), (q_66, .inl (aT 0, 12, .inl (fun _ => nI 0))), (q_74, .inl (aT 0, 12, .inl (fun _ => nI 0))), (q_82, .inl (aT 0, 12, .inl (fun _ => nI 0))), (q_90, .inl (aT 1, 41, .inl (upd f_151 11 (vp_nar .char ((nI 97))))))]) rfl rfl rfl (by decide) (by decide) rfl dX10_init_157 (fun H locs hW => ?_)
  obtain ⟨f_157, ef_157⟩ : ∃ y : Nat → Int32, y = (upd f_151 11 (vp_nar .char ((nI 97)))) := ⟨_, rfl⟩
  rw [← ef_157] at hW
  refine lv_dup hx hb dX10_init_158 rfl ?_
  refine lv_bipush (v := nI 12) hx hb dX10_init_159 (by decide) ?_
  refine lv_bipush (v := nI 109) hx hb dX10_init_161 (by decide) ?_
  refine cx_cast C hW 10 1 (j := 12) (W1 := [(q0, .inr (13, [.ref q_7, .ref q_15, .ref q_23, .int (nI 0), .ref q_32, .int (nI 0), .int (-1), .int (-1), .int (nI 0), .ref q_50, .int (nI 0), .ref q_58, .ref q_66, .ref q_74, .ref q_82, .int (nI 0), .int (nI 0), .null, .null, .null, .int (nI 0), .int (nI 0), .int (nI 0), .int (nI 0), .null, .int (nI 0)])), (q_7, .inl (aT 0, 77, .inl (fun _ => nI 0))), (q_15, .inl (aT 0, 77, .inl (fun _ => nI 0))), (q_23, .inl (aT 0, 77, .inl (fun _ => nI 0))), (q_32, .inl (aT 0, 616, .inl (fun _ => nI 0))), (q_50, .inl (aT 0, 60, .inl (fun _ => nI 0))), (q_58, .inl (aT 0, 12, .inl (fun _ => nI 0))), (q_66, .inl (aT 0, 12, .inl (fun _ => nI 0))), (q_74, .inl (aT 0, 12, .inl (fun _ => nI 0))), (q_82, .inl (aT 0, 12, .inl (fun _ => nI 0))), (q_90, .inl (aT 1, 41, .inl (upd f_157 12 (vp_nar .char ((nI 109))))))]) rfl rfl rfl (by decide) (by decide) rfl dX10_init_163 (fun H locs hW => ?_)
  obtain ⟨f_163, ef_163⟩ : ∃ y : Nat → Int32, y = (upd f_157 12 (vp_nar .char ((nI 109)))) := ⟨_, rfl⟩
  rw [← ef_163] at hW
  refine lv_dup hx hb dX10_init_164 rfl ?_
  refine lv_bipush (v := nI 13) hx hb dX10_init_165 (by decide) ?_
  refine lv_bipush (v := nI 101) hx hb dX10_init_167 (by decide) ?_
  refine cx_cast C hW 10 1 (j := 13) (W1 := [(q0, .inr (13, [.ref q_7, .ref q_15, .ref q_23, .int (nI 0), .ref q_32, .int (nI 0), .int (-1), .int (-1), .int (nI 0), .ref q_50, .int (nI 0), .ref q_58, .ref q_66, .ref q_74, .ref q_82, .int (nI 0), .int (nI 0), .null, .null, .null, .int (nI 0), .int (nI 0), .int (nI 0), .int (nI 0), .null, .int (nI 0)])), (q_7, .inl (aT 0, 77, .inl (fun _ => nI 0))), (q_15, .inl (aT 0, 77, .inl (fun _ => nI 0))), (q_23, .inl (aT 0, 77, .inl (fun _ => nI 0))), (q_32, .inl (aT 0, 616, .inl (fun _ => nI 0))), (q_50, .inl (aT 0, 60, .inl (fun _ => nI 0))), (q_58, .inl (aT 0, 12, .inl (fun _ => nI 0))), (q_66, .inl (aT 0, 12, .inl (fun _ => nI 0))), (q_74, .inl (aT 0, 12, .inl (fun _ => nI 0))), (q_82, .inl (aT 0, 12, .inl (fun _ => nI 0))), (q_90, .inl (aT 1, 41, .inl (upd f_163 13 (vp_nar .char ((nI 101))))))]) rfl rfl rfl (by decide) (by decide) rfl dX10_init_169 (fun H locs hW => ?_)
  obtain ⟨f_169, ef_169⟩ : ∃ y : Nat → Int32, y = (upd f_163 13 (vp_nar .char ((nI 101)))) := ⟨_, rfl⟩
  rw [← ef_169] at hW
  refine lv_dup hx hb dX10_init_170 rfl ?_
  refine lv_bipush (v := nI 14) hx hb dX10_init_171 (by decide) ?_
  refine lv_bipush (v := nI 110) hx hb dX10_init_173 (by decide) ?_
  refine cx_cast C hW 10 1 (j := 14) (W1 := [(q0, .inr (13, [.ref q_7, .ref q_15, .ref q_23, .int (nI 0), .ref q_32, .int (nI 0), .int (-1), .int (-1), .int (nI 0), .ref q_50, .int (nI 0), .ref q_58, .ref q_66, .ref q_74, .ref q_82, .int (nI 0), .int (nI 0), .null, .null, .null, .int (nI 0), .int (nI 0), .int (nI 0), .int (nI 0), .null, .int (nI 0)])), (q_7, .inl (aT 0, 77, .inl (fun _ => nI 0))), (q_15, .inl (aT 0, 77, .inl (fun _ => nI 0))), (q_23, .inl (aT 0, 77, .inl (fun _ => nI 0))), (q_32, .inl (aT 0, 616, .inl (fun _ => nI 0))), (q_50, .inl (aT 0, 60, .inl (fun _ => nI 0))), (q_58, .inl (aT 0, 12, .inl (fun _ => nI 0))), (q_66, .inl (aT 0, 12, .inl (fun _ => nI 0))), (q_74, .inl (aT 0, 12, .inl (fun _ => nI 0))), (q_82, .inl (aT 0, 12, .inl (fun _ => nI 0))), (q_90, .inl (aT 1, 41, .inl (upd f_169 14 (vp_nar .char ((nI 110))))))]) rfl rfl rfl (by decide) (by decide) rfl dX10_init_175 (fun H locs hW => ?_)
  obtain ⟨f_175, ef_175⟩ : ∃ y : Nat → Int32, y = (upd f_169 14 (vp_nar .char ((nI 110)))) := ⟨_, rfl⟩
  rw [← ef_175] at hW
  refine lv_dup hx hb dX10_init_176 rfl ?_
  refine lv_bipush (v := nI 15) hx hb dX10_init_177 (by decide) ?_
  refine lv_bipush (v := nI 100) hx hb dX10_init_179 (by decide) ?_
  refine cx_cast C hW 10 1 (j := 15) (W1 := [(q0, .inr (13, [.ref q_7, .ref q_15, .ref q_23, .int (nI 0), .ref q_32, .int (nI 0), .int (-1), .int (-1), .int (nI 0), .ref q_50, .int (nI 0), .ref q_58, .ref q_66, .ref q_74, .ref q_82, .int (nI 0), .int (nI 0), .null, .null, .null, .int (nI 0), .int (nI 0), .int (nI 0), .int (nI 0), .null, .int (nI 0)])), (q_7, .inl (aT 0, 77, .inl (fun _ => nI 0))), (q_15, .inl (aT 0, 77, .inl (fun _ => nI 0))), (q_23, .inl (aT 0, 77, .inl (fun _ => nI 0))), (q_32, .inl (aT 0, 616, .inl (fun _ => nI 0))), (q_50, .inl (aT 0, 60, .inl (fun _ => nI 0))), (q_58, .inl (aT 0, 12, .inl (fun _ => nI 0))), (q_66, .inl (aT 0, 12, .inl (fun _ => nI 0))), (q_74, .inl (aT 0, 12, .inl (fun _ => nI 0))), (q_82, .inl (aT 0, 12, .inl (fun _ => nI 0))), (q_90, .inl (aT 1, 41, .inl (upd f_175 15 (vp_nar .char ((nI 100))))))]) rfl rfl rfl (by decide) (by decide) rfl dX10_init_181 (fun H locs hW => ?_)
  obtain ⟨f_181, ef_181⟩ : ∃ y : Nat → Int32, y = (upd f_175 15 (vp_nar .char ((nI 100)))) := ⟨_, rfl⟩
  rw [← ef_181] at hW
  refine lv_dup hx hb dX10_init_182 rfl ?_
  refine lv_bipush (v := nI 16) hx hb dX10_init_183 (by decide) ?_
  refine lv_bipush (v := nI 32) hx hb dX10_init_185 (by decide) ?_
  refine cx_cast C hW 10 1 (j := 16) (W1 := [(q0, .inr (13, [.ref q_7, .ref q_15, .ref q_23, .int (nI 0), .ref q_32, .int (nI 0), .int (-1), .int (-1), .int (nI 0), .ref q_50, .int (nI 0), .ref q_58, .ref q_66, .ref q_74, .ref q_82, .int (nI 0), .int (nI 0), .null, .null, .null, .int (nI 0), .int (nI 0), .int (nI 0), .int (nI 0), .null, .int (nI 0)])), (q_7, .inl (aT 0, 77, .inl (fun _ => nI 0))), (q_15, .inl (aT 0, 77, .inl (fun _ => nI 0))), (q_23, .inl (aT 0, 77, .inl (fun _ => nI 0))), (q_32, .inl (aT 0, 616, .inl (fun _ => nI 0))), (q_50, .inl (aT 0, 60, .inl (fun _ => nI 0))), (q_58, .inl (aT 0, 12, .inl (fun _ => nI 0))), (q_66, .inl (aT 0, 12, .inl (fun _ => nI 0))), (q_74, .inl (aT 0, 12, .inl (fun _ => nI 0))), (q_82, .inl (aT 0, 12, .inl (fun _ => nI 0))), (q_90, .inl (aT 1, 41, .inl (upd f_181 16 (vp_nar .char ((nI 32))))))]) rfl rfl rfl (by decide) (by decide) rfl dX10_init_187 (fun H locs hW => ?_)
  obtain ⟨f_187, ef_187⟩ : ∃ y : Nat → Int32, y = (upd f_181 16 (vp_nar .char ((nI 32)))) := ⟨_, rfl⟩
  rw [← ef_187] at hW
  refine lv_dup hx hb dX10_init_188 rfl ?_
  refine lv_bipush (v := nI 17) hx hb dX10_init_189 (by decide) ?_
  refine lv_bipush (v := nI 112) hx hb dX10_init_191 (by decide) ?_
  refine cx_cast C hW 10 1 (j := 17) (W1 := [(q0, .inr (13, [.ref q_7, .ref q_15, .ref q_23, .int (nI 0), .ref q_32, .int (nI 0), .int (-1), .int (-1), .int (nI 0), .ref q_50, .int (nI 0), .ref q_58, .ref q_66, .ref q_74, .ref q_82, .int (nI 0), .int (nI 0), .null, .null, .null, .int (nI 0), .int (nI 0), .int (nI 0), .int (nI 0), .null, .int (nI 0)])), (q_7, .inl (aT 0, 77, .inl (fun _ => nI 0))), (q_15, .inl (aT 0, 77, .inl (fun _ => nI 0))), (q_23, .inl (aT 0, 77, .inl (fun _ => nI 0))), (q_32, .inl (aT 0, 616, .inl (fun _ => nI 0))), (q_50, .inl (aT 0, 60, .inl (fun _ => nI 0))), (q_58, .inl (aT 0, 12, .inl (fun _ => nI 0))), (q_66, .inl (aT 0, 12, .inl (fun _ => nI 0))), (q_74, .inl (aT 0, 12, .inl (fun _ => nI 0))), (q_82, .inl (aT 0, 12, .inl (fun _ => nI 0))), (q_90, .inl (aT 1, 41, .inl (upd f_187 17 (vp_nar .char ((nI 112))))))]) rfl rfl rfl (by decide) (by decide) rfl dX10_init_193 (fun H locs hW => ?_)
  obtain ⟨f_193, ef_193⟩ : ∃ y : Nat → Int32, y = (upd f_187 17 (vp_nar .char ((nI 112)))) := ⟨_, rfl⟩
  rw [← ef_193] at hW
  refine lv_dup hx hb dX10_init_194 rfl ?_
  refine lv_bipush (v := nI 18) hx hb dX10_init_195 (by decide) ?_
  refine lv_bipush (v := nI 114) hx hb dX10_init_197 (by decide) ?_
  refine cx_cast C hW 10 1 (j := 18) (W1 := [(q0, .inr (13, [.ref q_7, .ref q_15, .ref q_23, .int (nI 0), .ref q_32, .int (nI 0), .int (-1), .int (-1), .int (nI 0), .ref q_50, .int (nI 0), .ref q_58, .ref q_66, .ref q_74, .ref q_82, .int (nI 0), .int (nI 0), .null, .null, .null, .int (nI 0), .int (nI 0), .int (nI 0), .int (nI 0), .null, .int (nI 0)])), (q_7, .inl (aT 0, 77, .inl (fun _ => nI 0))), (q_15, .inl (aT 0, 77, .inl (fun _ => nI 0))), (q_23, .inl (aT 0, 77, .inl (fun _ => nI 0))), (q_32, .inl (aT 0, 616, .inl (fun _ => nI 0))), (q_50, .inl (aT 0, 60, .inl (fun _ => nI 0))), (q_58, .inl (aT 0, 12, .inl (fun _ => nI 0))), (q_66, .inl (aT 0, 12, .inl (fun _ => nI 0))), (q_74, .inl (aT 0, 12, .inl (fun _ => nI 0))), (q_82, .inl (aT 0, 12, .inl (fun _ => nI 0))), (q_90, .inl (aT 1, 41, .inl (upd f_193 18 (vp_nar .char ((nI 114))))))]) rfl rfl rfl (by decide) (by decide) rfl dX10_init_199 (fun H locs hW => ?_)
  obtain ⟨f_199, ef_199⟩ : ∃ y : Nat → Int32, y = (upd f_193 18 (vp_nar .char ((nI 114)))) := ⟨_, rfl⟩
  rw [← ef_199] at hW
  refine lv_dup hx hb dX10_init_200 rfl ?_
  refine lv_bipush (v := nI 19) hx hb dX10_init_201 (by decide) ?_
  refine lv_bipush (v := nI 117) hx hb dX10_init_203 (by decide) ?_
  refine cx_cast C hW 10 1 (j := 19) (W1 := [(q0, .inr (13, [.ref q_7, .ref q_15, .ref q_23, .int (nI 0), .ref q_32, .int (nI 0), .int (-1), .int (-1), .int (nI 0), .ref q_50, .int (nI 0), .ref q_58, .ref q_66, .ref q_74, .ref q_82, .int (nI 0), .int (nI 0), .null, .null, .null, .int (nI 0), .int (nI 0), .int (nI 0), .int (nI 0), .null, .int (nI 0)])), (q_7, .inl (aT 0, 77, .inl (fun _ => nI 0))), (q_15, .inl (aT 0, 77, .inl (fun _ => nI 0))), (q_23, .inl (aT 0, 77, .inl (fun _ => nI 0))), (q_32, .inl (aT 0, 616, .inl (fun _ => nI 0))), (q_50, .inl (aT 0, 60, .inl (fun _ => nI 0))), (q_58, .inl (aT 0, 12, .inl (fun _ => nI 0))), (q_66, .inl (aT 0, 12, .inl (fun _ => nI 0))), (q_74, .inl (aT 0, 12, .inl (fun _ => nI 0))), (q_82, .inl (aT 0, 12, .inl (fun _ => nI 0))), (q_90, .inl (aT 1, 41, .inl (upd f_199 19 (vp_nar .char ((nI 117))))))]) rfl rfl rfl (by decide) (by decide) rfl dX10_init_205 (fun H locs hW => ?_)
  obtain ⟨f_205, ef_205⟩ : ∃ y : Nat → Int32, y = (upd f_199 19 (vp_nar .char ((nI 117)))) := ⟨_, rfl⟩
  rw [← ef_205] at hW
  refine lv_dup hx hb dX10_init_206 rfl ?_
  refine lv_bipush (v := nI 20) hx hb dX10_init_207 (by decide) ?_
  refine lv_bipush (v := nI 110) hx hb dX10_init_209 (by decide) ?_
  refine cx_cast C hW 10 1 (j := 20) (W1 := [(q0, .inr (13, [.ref q_7, .ref q_15, .ref q_23, .int (nI 0), .ref q_32, .int (nI 0), .int (-1), .int (-1), .int (nI 0), .ref q_50, .int (nI 0), .ref q_58, .ref q_66, .ref q_74, .ref q_82, .int (nI 0), .int (nI 0), .null, .null, .null, .int (nI 0), .int (nI 0), .int (nI 0), .int (nI 0), .null, .int (nI 0)])), (q_7, .inl (aT 0, 77, .inl (fun _ => nI 0))), (q_15, .inl (aT 0, 77, .inl (fun _ => nI 0))), (q_23, .inl (aT 0, 77, .inl (fun _ => nI 0))), (q_32, .inl (aT 0, 616, .inl (fun _ => nI 0))), (q_50, .inl (aT 0, 60, .inl (fun _ => nI 0))), (q_58, .inl (aT 0, 12, .inl (fun _ => nI 0))), (q_66, .inl (aT 0, 12, .inl (fun _ => nI 0))), (q_74, .inl (aT 0, 12, .inl (fun _ => nI 0))), (q_82, .inl (aT 0, 12, .inl (fun _ => nI 0))), (q_90, .inl (aT 1, 41, .inl (upd f_205 20 (vp_nar .char ((nI 110))))))]) rfl rfl rfl (by decide) (by decide) rfl dX10_init_211 (fun H locs hW => ?_)
  obtain ⟨f_211, ef_211⟩ : ∃ y : Nat → Int32, y = (upd f_205 20 (vp_nar .char ((nI 110)))) := ⟨_, rfl⟩
  rw [← ef_211] at hW
  refine lv_dup hx hb dX10_init_212 rfl ?_
  refine lv_bipush (v := nI 21) hx hb dX10_init_213 (by decide) ?_
  refine lv_bipush (v := nI 101) hx hb dX10_init_215 (by decide) ?_
  refine cx_cast C hW 10 1 (j := 21) (W1 := [(q0, .inr (13, [.ref q_7, .ref q_15, .ref q_23, .int (nI 0), .ref q_32, .int (nI 0), .int (-1), .int (-1), .int (nI 0), .ref q_50, .int (nI 0), .ref q_58, .ref q_66, .ref q_74, .ref q_82, .int (nI 0), .int (nI 0), .null, .null, .null, .int (nI 0), .int (nI 0), .int (nI 0), .int (nI 0), .null, .int (nI 0)])), (q_7, .inl (aT 0, 77, .inl (fun _ => nI 0))), (q_15, .inl (aT 0, 77, .inl (fun _ => nI 0))), (q_23, .inl (aT 0, 77, .inl (fun _ => nI 0))), (q_32, .inl (aT 0, 616, .inl (fun _ => nI 0))), (q_50, .inl (aT 0, 60, .inl (fun _ => nI 0))), (q_58, .inl (aT 0, 12, .inl (fun _ => nI 0))), (q_66, .inl (aT 0, 12, .inl (fun _ => nI 0))), (q_74, .inl (aT 0, 12, .inl (fun _ => nI 0))), (q_82, .inl (aT 0, 12, .inl (fun _ => nI 0))), (q_90, .inl (aT 1, 41, .inl (upd f_211 21 (vp_nar .char ((nI 101))))))]) rfl rfl rfl (by decide) (by decide) rfl dX10_init_217 (fun H locs hW => ?_)
  obtain ⟨f_217, ef_217⟩ : ∃ y : Nat → Int32, y = (upd f_211 21 (vp_nar .char ((nI 101)))) := ⟨_, rfl⟩
  rw [← ef_217] at hW
  refine lv_dup hx hb dX10_init_218 rfl ?_
  refine lv_bipush (v := nI 22) hx hb dX10_init_219 (by decide) ?_
  refine lv_bipush (v := nI 32) hx hb dX10_init_221 (by decide) ?_
  refine cx_cast C hW 10 1 (j := 22) (W1 := [(q0, .inr (13, [.ref q_7, .ref q_15, .ref q_23, .int (nI 0), .ref q_32, .int (nI 0), .int (-1), .int (-1), .int (nI 0), .ref q_50, .int (nI 0), .ref q_58, .ref q_66, .ref q_74, .ref q_82, .int (nI 0), .int (nI 0), .null, .null, .null, .int (nI 0), .int (nI 0), .int (nI 0), .int (nI 0), .null, .int (nI 0)])), (q_7, .inl (aT 0, 77, .inl (fun _ => nI 0))), (q_15, .inl (aT 0, 77, .inl (fun _ => nI 0))), (q_23, .inl (aT 0, 77, .inl (fun _ => nI 0))), (q_32, .inl (aT 0, 616, .inl (fun _ => nI 0))), (q_50, .inl (aT 0, 60, .inl (fun _ => nI 0))), (q_58, .inl (aT 0, 12, .inl (fun _ => nI 0))), (q_66, .inl (aT 0, 12, .inl (fun _ => nI 0))), (q_74, .inl (aT 0, 12, .inl (fun _ => nI 0))), (q_82, .inl (aT 0, 12, .inl (fun _ => nI 0))), (q_90, .inl (aT 1, 41, .inl (upd f_217 22 (vp_nar .char ((nI 32))))))]) rfl rfl rfl (by decide) (by decide) rfl dX10_init_223 (fun H locs hW => ?_)
  obtain ⟨f_223, ef_223⟩ : ∃ y : Nat → Int32, y = (upd f_217 22 (vp_nar .char ((nI 32)))) := ⟨_, rfl⟩
  rw [← ef_223] at hW
  refine lv_dup hx hb dX10_init_224 rfl ?_
  refine lv_bipush (v := nI 23) hx hb dX10_init_225 (by decide) ?_
  refine lv_bipush (v := nI 114) hx hb dX10_init_227 (by decide) ?_
  refine cx_cast C hW 10 1 (j := 23) (W1 := [(q0, .inr (13, [.ref q_7, .ref q_15, .ref q_23, .int (nI 0), .ref q_32, .int (nI 0), .int (-1), .int (-1), .int (nI 0), .ref q_50, .int (nI 0), .ref q_58, .ref q_66, .ref q_74, .ref q_82, .int (nI 0), .int (nI 0), .null, .null, .null, .int (nI 0), .int (nI 0), .int (nI 0), .int (nI 0), .null, .int (nI 0)])), (q_7, .inl (aT 0, 77, .inl (fun _ => nI 0))), (q_15, .inl (aT 0, 77, .inl (fun _ => nI 0))), (q_23, .inl (aT 0, 77, .inl (fun _ => nI 0))), (q_32, .inl (aT 0, 616, .inl (fun _ => nI 0))), (q_50, .inl (aT 0, 60, .inl (fun _ => nI 0))), (q_58, .inl (aT 0, 12, .inl (fun _ => nI 0))), (q_66, .inl (aT 0, 12, .inl (fun _ => nI 0))), (q_74, .inl (aT 0, 12, .inl (fun _ => nI 0))), (q_82, .inl (aT 0, 12, .inl (fun _ => nI 0))), (q_90, .inl (aT 1, 41, .inl (upd f_223 23 (vp_nar .char ((nI 114))))))]) rfl rfl rfl (by decide) (by decide) rfl dX10_init_229 (fun H locs hW => ?_)
  obtain ⟨f_229, ef_229⟩ : ∃ y : Nat → Int32, y = (upd f_223 23 (vp_nar .char ((nI 114)))) := ⟨_, rfl⟩
  rw [← ef_229] at hW
  refine lv_dup hx hb dX10_init_230 rfl ?_
  refine lv_bipush (v := nI 24) hx hb dX10_init_231 (by decide) ?_
  refine lv_bipush (v := nI 101) hx hb dX10_init_233 (by decide) ?_
  refine cx_cast C hW 10 1 (j := 24) (W1 := [(q0, .inr (13, [.ref q_7, .ref q_15, .ref q_23, .int (nI 0), .ref q_32, .int (nI 0), .int (-1), .int (-1), .int (nI 0), .ref q_50, .int (nI 0), .ref q_58, .ref q_66, .ref q_74, .ref q_82, .int (nI 0), .int (nI 0), .null, .null, .null, .int (nI 0), .int (nI 0), .int (nI 0), .int (nI 0), .null, .int (nI 0)])), (q_7, .inl (aT 0, 77, .inl (fun _ => nI 0))), (q_15, .inl (aT 0, 77, .inl (fun _ => nI 0))), (q_23, .inl (aT 0, 77, .inl (fun _ => nI 0))), (q_32, .inl (aT 0, 616, .inl (fun _ => nI 0))), (q_50, .inl (aT 0, 60, .inl (fun _ => nI 0))), (q_58, .inl (aT 0, 12, .inl (fun _ => nI 0))), (q_66, .inl (aT 0, 12, .inl (fun _ => nI 0))), (q_74, .inl (aT 0, 12, .inl (fun _ => nI 0))), (q_82, .inl (aT 0, 12, .inl (fun _ => nI 0))), (q_90, .inl (aT 1, 41, .inl (upd f_229 24 (vp_nar .char ((nI 101))))))]) rfl rfl rfl (by decide) (by decide) rfl dX10_init_235 (fun H locs hW => ?_)
  obtain ⟨f_235, ef_235⟩ : ∃ y : Nat → Int32, y = (upd f_229 24 (vp_nar .char ((nI 101)))) := ⟨_, rfl⟩
  rw [← ef_235] at hW
  refine lv_dup hx hb dX10_init_236 rfl ?_
  refine lv_bipush (v := nI 25) hx hb dX10_init_237 (by decide) ?_
  refine lv_bipush (v := nI 103) hx hb dX10_init_239 (by decide) ?_
  refine cx_cast C hW 10 1 (j := 25) (W1 := [(q0, .inr (13, [.ref q_7, .ref q_15, .ref q_23, .int (nI 0), .ref q_32, .int (nI 0), .int (-1), .int (-1), .int (nI 0), .ref q_50, .int (nI 0), .ref q_58, .ref q_66, .ref q_74, .ref q_82, .int (nI 0), .int (nI 0), .null, .null, .null, .int (nI 0), .int (nI 0), .int (nI 0), .int (nI 0), .null, .int (nI 0)])), (q_7, .inl (aT 0, 77, .inl (fun _ => nI 0))), (q_15, .inl (aT 0, 77, .inl (fun _ => nI 0))), (q_23, .inl (aT 0, 77, .inl (fun _ => nI 0))), (q_32, .inl (aT 0, 616, .inl (fun _ => nI 0))), (q_50, .inl (aT 0, 60, .inl (fun _ => nI 0))), (q_58, .inl (aT 0, 12, .inl (fun _ => nI 0))), (q_66, .inl (aT 0, 12, .inl (fun _ => nI 0))), (q_74, .inl (aT 0, 12, .inl (fun _ => nI 0))), (q_82, .inl (aT 0, 12, .inl (fun _ => nI 0))), (q_90, .inl (aT 1, 41, .inl (upd f_235 25 (vp_nar .char ((nI 103))))))]) rfl rfl rfl (by decide) (by decide) rfl dX10_init_241 (fun H locs hW => ?_)
  obtain ⟨f_241, ef_241⟩ : ∃ y : Nat → Int32, y = (upd f_235 25 (vp_nar .char ((nI 103)))) := ⟨_, rfl⟩
  rw [← ef_241] at hW
  refine lv_dup hx hb dX10_init_242 rfl ?_
  refine lv_bipush (v := nI 26) hx hb dX10_init_243 (by decide) ?_
  refine lv_bipush (v := nI 114) hx hb dX10_init_245 (by decide) ?_
  refine cx_cast C hW 10 1 (j := 26) (W1 := [(q0, .inr (13, [.ref q_7, .ref q_15, .ref q_23, .int (nI 0), .ref q_32, .int (nI 0), .int (-1), .int (-1), .int (nI 0), .ref q_50, .int (nI 0), .ref q_58, .ref q_66, .ref q_74, .ref q_82, .int (nI 0), .int (nI 0), .null, .null, .null, .int (nI 0), .int (nI 0), .int (nI 0), .int (nI 0), .null, .int (nI 0)])), (q_7, .inl (aT 0, 77, .inl (fun _ => nI 0))), (q_15, .inl (aT 0, 77, .inl (fun _ => nI 0))), (q_23, .inl (aT 0, 77, .inl (fun _ => nI 0))), (q_32, .inl (aT 0, 616, .inl (fun _ => nI 0))), (q_50, .inl (aT 0, 60, .inl (fun _ => nI 0))), (q_58, .inl (aT 0, 12, .inl (fun _ => nI 0))), (q_66, .inl (aT 0, 12, .inl (fun _ => nI 0))), (q_74, .inl (aT 0, 12, .inl (fun _ => nI 0))), (q_82, .inl (aT 0, 12, .inl (fun _ => nI 0))), (q_90, .inl (aT 1, 41, .inl (upd f_241 26 (vp_nar .char ((nI 114))))))]) rfl rfl rfl (by decide) (by decide) rfl dX10_init_247 (fun H locs hW => ?_)
  obtain ⟨f_247, ef_247⟩ : ∃ y : Nat → Int32, y = (upd f_241 26 (vp_nar .char ((nI 114)))) := ⟨_, rfl⟩
  rw [← ef_247] at hW
  refine lv_dup hx hb dX10_init_248 rfl ?_
  refine lv_bipush (v := nI 27) hx hb dX10_init_249 (by decide) ?_
  refine lv_bipush (v := nI 111) hx hb dX10_init_251 (by decide) ?_
  refine cx_cast C hW 10 1 (j := 27) (W1 := [(q0, .inr (13, [.ref q_7, .ref q_15, .ref q_23, .int (nI 0), .ref q_32, .int (nI 0), .int (-1), .int (-1), .int (nI 0), .ref q_50, .int (nI 0), .ref q_58, .ref q_66, .ref q_74, .ref q_82, .int (nI 0), .int (nI 0), .null, .null, .null, .int (nI 0), .int (nI 0), .int (nI 0), .int (nI 0), .null, .int (nI 0)])), (q_7, .inl (aT 0, 77, .inl (fun _ => nI 0))), (q_15, .inl (aT 0, 77, .inl (fun _ => nI 0))), (q_23, .inl (aT 0, 77, .inl (fun _ => nI 0))), (q_32, .inl (aT 0, 616, .inl (fun _ => nI 0))), (q_50, .inl (aT 0, 60, .inl (fun _ => nI 0))), (q_58, .inl (aT 0, 12, .inl (fun _ => nI 0))), (q_66, .inl (aT 0, 12, .inl (fun _ => nI 0))), (q_74, .inl (aT 0, 12, .inl (fun _ => nI 0))), (q_82, .inl (aT 0, 12, .inl (fun _ => nI 0))), (q_90, .inl (aT 1, 41, .inl (upd f_247 27 (vp_nar .char ((nI 111))))))]) rfl rfl rfl (by decide) (by decide) rfl dX10_init_253 (fun H locs hW => ?_)
  obtain ⟨f_253, ef_253⟩ : ∃ y : Nat → Int32, y = (upd f_247 27 (vp_nar .char ((nI 111)))) := ⟨_, rfl⟩
  rw [← ef_253] at hW
  refine lv_dup hx hb dX10_init_254 rfl ?_
  refine lv_bipush (v := nI 28) hx hb dX10_init_255 (by decide) ?_
  refine lv_bipush (v := nI 119) hx hb dX10_init_257 (by decide) ?_
  refine cx_cast C hW 10 1 (j := 28) (W1 := [(q0, .inr (13, [.ref q_7, .ref q_15, .ref q_23, .int (nI 0), .ref q_32, .int (nI 0), .int (-1), .int (-1), .int (nI 0), .ref q_50, .int (nI 0), .ref q_58, .ref q_66, .ref q_74, .ref q_82, .int (nI 0), .int (nI 0), .null, .null, .null, .int (nI 0), .int (nI 0), .int (nI 0), .int (nI 0), .null, .int (nI 0)])), (q_7, .inl (aT 0, 77, .inl (fun _ => nI 0))), (q_15, .inl (aT 0, 77, .inl (fun _ => nI 0))), (q_23, .inl (aT 0, 77, .inl (fun _ => nI 0))), (q_32, .inl (aT 0, 616, .inl (fun _ => nI 0))), (q_50, .inl (aT 0, 60, .inl (fun _ => nI 0))), (q_58, .inl (aT 0, 12, .inl (fun _ => nI 0))), (q_66, .inl (aT 0, 12, .inl (fun _ => nI 0))), (q_74, .inl (aT 0, 12, .inl (fun _ => nI 0))), (q_82, .inl (aT 0, 12, .inl (fun _ => nI 0))), (q_90, .inl (aT 1, 41, .inl (upd f_253 28 (vp_nar .char ((nI 119))))))]) rfl rfl rfl (by decide) (by decide) rfl dX10_init_259 (fun H locs hW => ?_)
  obtain ⟨f_259, ef_259⟩ : ∃ y : Nat → Int32, y = (upd f_253 28 (vp_nar .char ((nI 119)))) := ⟨_, rfl⟩
  rw [← ef_259] at hW
  refine lv_dup hx hb dX10_init_260 rfl ?_
  refine lv_bipush (v := nI 29) hx hb dX10_init_261 (by decide) ?_
  refine lv_bipush (v := nI 32) hx hb dX10_init_263 (by decide) ?_
  refine cx_cast C hW 10 1 (j := 29) (W1 := [(q0, .inr (13, [.ref q_7, .ref q_15, .ref q_23, .int (nI 0), .ref q_32, .int (nI 0), .int (-1), .int (-1), .int (nI 0), .ref q_50, .int (nI 0), .ref q_58, .ref q_66, .ref q_74, .ref q_82, .int (nI 0), .int (nI 0), .null, .null, .null, .int (nI 0), .int (nI 0), .int (nI 0), .int (nI 0), .null, .int (nI 0)])), (q_7, .inl (aT 0, 77, .inl (fun _ => nI 0))), (q_15, .inl (aT 0, 77, .inl (fun _ => nI 0))), (q_23, .inl (aT 0, 77, .inl (fun _ => nI 0))), (q_32, .inl (aT 0, 616, .inl (fun _ => nI 0))), (q_50, .inl (aT 0, 60, .inl (fun _ => nI 0))), (q_58, .inl (aT 0, 12, .inl (fun _ => nI 0))), (q_66, .inl (aT 0, 12, .inl (fun _ => nI 0))), (q_74, .inl (aT 0, 12, .inl (fun _ => nI 0))), (q_82, .inl (aT 0, 12, .inl (fun _ => nI 0))), (q_90, .inl (aT 1, 41, .inl (upd f_259 29 (vp_nar .char ((nI 32))))))]) rfl rfl rfl (by decide) (by decide) rfl dX10_init_265 (fun H locs hW => ?_)
  obtain ⟨f_265, ef_265⟩ : ∃ y : Nat → Int32, y = (upd f_259 29 (vp_nar .char ((nI 32)))) := ⟨_, rfl⟩
  rw [← ef_265] at hW
  refine lv_dup hx hb dX10_init_266 rfl ?_
  refine lv_bipush (v := nI 30) hx hb dX10_init_267 (by decide) ?_
  refine lv_bipush (v := nI 118) hx hb dX10_init_269 (by decide) ?_
  refine cx_cast C hW 10 1 (j := 30) (W1 := [(q0, .inr (13, [.ref q_7, .ref q_15, .ref q_23, .int (nI 0), .ref q_32, .int (nI 0), .int (-1), .int (-1), .int (nI 0), .ref q_50, .int (nI 0), .ref q_58, .ref q_66, .ref q_74, .ref q_82, .int (nI 0), .int (nI 0), .null, .null, .null, .int (nI 0), .int (nI 0), .int (nI 0), .int (nI 0), .null, .int (nI 0)])), (q_7, .inl (aT 0, 77, .inl (fun _ => nI 0))), (q_15, .inl (aT 0, 77, .inl (fun _ => nI 0))), (q_23, .inl (aT 0, 77, .inl (fun _ => nI 0))), (q_32, .inl (aT 0, 616, .inl (fun _ => nI 0))), (q_50, .inl (aT 0, 60, .inl (fun _ => nI 0))), (q_58, .inl (aT 0, 12, .inl (fun _ => nI 0))), (q_66, .inl (aT 0, 12, .inl (fun _ => nI 0))), (q_74, .inl (aT 0, 12, .inl (fun _ => nI 0))), (q_82, .inl (aT 0, 12, .inl (fun _ => nI 0))), (q_90, .inl (aT 1, 41, .inl (upd f_265 30 (vp_nar .char ((nI 118))))))]) rfl rfl rfl (by decide) (by decide) rfl dX10_init_271 (fun H locs hW => ?_)
  obtain ⟨f_271, ef_271⟩ : ∃ y : Nat → Int32, y = (upd f_265 30 (vp_nar .char ((nI 118)))) := ⟨_, rfl⟩
  rw [← ef_271] at hW
  refine lv_dup hx hb dX10_init_272 rfl ?_
  refine lv_bipush (v := nI 31) hx hb dX10_init_273 (by decide) ?_
  refine lv_bipush (v := nI 111) hx hb dX10_init_275 (by decide) ?_
  refine cx_cast C hW 10 1 (j := 31) (W1 := [(q0, .inr (13, [.ref q_7, .ref q_15, .ref q_23, .int (nI 0), .ref q_32, .int (nI 0), .int (-1), .int (-1), .int (nI 0), .ref q_50, .int (nI 0), .ref q_58, .ref q_66, .ref q_74, .ref q_82, .int (nI 0), .int (nI 0), .null, .null, .null, .int (nI 0), .int (nI 0), .int (nI 0), .int (nI 0), .null, .int (nI 0)])), (q_7, .inl (aT 0, 77, .inl (fun _ => nI 0))), (q_15, .inl (aT 0, 77, .inl (fun _ => nI 0))), (q_23, .inl (aT 0, 77, .inl (fun _ => nI 0))), (q_32, .inl (aT 0, 616, .inl (fun _ => nI 0))), (q_50, .inl (aT 0, 60, .inl (fun _ => nI 0))), (q_58, .inl (aT 0, 12, .inl (fun _ => nI 0))), (q_66, .inl (aT 0, 12, .inl (fun _ => nI 0))), (q_74, .inl (aT 0, 12, .inl (fun _ => nI 0))), (q_82, .inl (aT 0, 12, .inl (fun _ => nI 0))), (q_90, .inl (aT 1, 41, .inl (upd f_271 31 (vp_nar .char ((nI 111))))))]) rfl rfl rfl (by decide) (by decide) rfl dX10_init_277 (fun H locs hW => ?_)
  obtain ⟨f_277, ef_277⟩ : ∃ y : Nat → Int32, y = (upd f_271 31 (vp_nar .char ((nI 111)))) := ⟨_, rfl⟩
  rw [← ef_277] at hW
  refine lv_dup hx hb dX10_init_278 rfl ?_
  refine lv_bipush (v := nI 32) hx hb dX10_init_279 (by decide) ?_
  refine lv_bipush (v := nI 116) hx hb dX10_init_281 (by decide) ?_
  refine cx_cast C hW 10 1 (j := 32) (W1 := [(q0, .inr (13, [.ref q_7, .ref q_15, .ref q_23, .int (nI 0), .ref q_32, .int (nI 0), .int (-1), .int (-1), .int (nI 0), .ref q_50, .int (nI 0), .ref q_58, .ref q_66, .ref q_74, .ref q_82, .int (nI 0), .int (nI 0), .null, .null, .null, .int (nI 0), .int (nI 0), .int (nI 0), .int (nI 0), .null, .int (nI 0)])), (q_7, .inl (aT 0, 77, .inl (fun _ => nI 0))), (q_15, .inl (aT 0, 77, .inl (fun _ => nI 0))), (q_23, .inl (aT 0, 77, .inl (fun _ => nI 0))), (q_32, .inl (aT 0, 616, .inl (fun _ => nI 0))), (q_50, .inl (aT 0, 60, .inl (fun _ => nI 0))), (q_58, .inl (aT 0, 12, .inl (fun _ => nI 0))), (q_66, .inl (aT 0, 12, .inl (fun _ => nI 0))), (q_74, .inl (aT 0, 12, .inl (fun _ => nI 0))), (q_82, .inl (aT 0, 12, .inl (fun _ => nI 0))), (q_90, .inl (aT 1, 41, .inl (upd f_277 32 (vp_nar .char ((nI 116))))))]) rfl rfl rfl (by decide) (by decide) rfl dX10_init_283 (fun H locs hW => ?_)
  obtain ⟨f_283, ef_283⟩ : ∃ y : Nat → Int32, y = (upd f_277 32 (vp_nar .char ((nI 116)))) := ⟨_, rfl⟩
  rw [← ef_283] at hW
  refine lv_dup hx hb dX10_init_284 rfl ?_
  refine lv_bipush (v := nI 33) hx hb dX10_init_285 (by decide) ?_
  refine lv_bipush (v := nI 101) hx hb dX10_init_287 (by decide) ?_
  refine cx_cast C hW 10 1 (j := 33) (W1 := [(q0, .inr (13, [.ref q_7, .ref q_15, .ref q_23, .int (nI 0), .ref q_32, .int (nI 0), .int (-1), .int (-1), .int (nI 0), .ref q_50, .int (nI 0), .ref q_58, .ref q_66, .ref q_74, .ref q_82, .int (nI 0), .int (nI 0), .null, .null, .null, .int (nI 0), .int (nI 0), .int (nI 0), .int (nI 0), .null, .int (nI 0)])), (q_7, .inl (aT 0, 77, .inl (fun _ => nI 0))), (q_15, .inl (aT 0, 77, .inl (fun _ => nI 0))), (q_23, .inl (aT 0, 77, .inl (fun _ => nI 0))), (q_32, .inl (aT 0, 616, .inl (fun _ => nI 0))), (q_50, .inl (aT 0, 60, .inl (fun _ => nI 0))), (q_58, .inl (aT 0, 12, .inl (fun _ => nI 0))), (q_66, .inl (aT 0, 12, .inl (fun _ => nI 0))), (q_74, .inl (aT 0, 12, .inl (fun _ => nI 0))), (q_82, .inl (aT 0, 12, .inl (fun _ => nI 0))), (q_90, .inl (aT 1, 41, .inl (upd f_283 33 (vp_nar .char ((nI 101))))))]) rfl rfl rfl (by decide) (by decide) rfl dX10_init_289 (fun H locs hW => ?_)
  obtain ⟨f_289, ef_289⟩ : ∃ y : Nat → Int32, y = (upd f_283 33 (vp_nar .char ((nI 101)))) := ⟨_, rfl⟩
  rw [← ef_289] at hW
  refine lv_dup hx hb dX10_init_290 rfl ?_
  refine lv_bipush (v := nI 34) hx hb dX10_init_291 (by decide) ?_
  refine lv_bipush (v := nI 32) hx hb dX10_init_293 (by decide) ?_
  refine cx_cast C hW 10 1 (j := 34) (W1 := [(q0, .inr (13, [.ref q_7, .ref q_15, .ref q_23, .int (nI 0), .ref q_32, .int (nI 0), .int (-1), .int (-1), .int (nI 0), .ref q_50, .int (nI 0), .ref q_58, .ref q_66, .ref q_74, .ref q_82, .int (nI 0), .int (nI 0), .null, .null, .null, .int (nI 0), .int (nI 0), .int (nI 0), .int (nI 0), .null, .int (nI 0)])), (q_7, .inl (aT 0, 77, .inl (fun _ => nI 0))), (q_15, .inl (aT 0, 77, .inl (fun _ => nI 0))), (q_23, .inl (aT 0, 77, .inl (fun _ => nI 0))), (q_32, .inl (aT 0, 616, .inl (fun _ => nI 0))), (q_50, .inl (aT 0, 60, .inl (fun _ => nI 0))), (q_58, .inl (aT 0, 12, .inl (fun _ => nI 0))), (q_66, .inl (aT 0, 12, .inl (fun _ => nI 0))), (q_74, .inl (aT 0, 12, .inl (fun _ => nI 0))), (q_82, .inl (aT 0, 12, .inl (fun _ => nI 0))), (q_90, .inl (aT 1, 41, .inl (upd f_289 34 (vp_nar .char ((nI 32))))))]) rfl rfl rfl (by decide) (by decide) rfl dX10_init_295 (fun H locs hW => ?_)
  obtain ⟨f_295, ef_295⟩ : ∃ y : Nat → Int32, y = (upd f_289 34 (vp_nar .char ((nI 32)))) := ⟨_, rfl⟩
  rw [← ef_295] at hW
  refine lv_dup hx hb dX10_init_296 rfl ?_
  refine lv_bipush (v := nI 35) hx hb dX10_init_297 (by decide) ?_
  refine lv_bipush (v := nI 115) hx hb dX10_init_299 (by decide) ?_
  refine cx_cast C hW 10 1 (j := 35) (W1 := [(q0, .inr (13, [.ref q_7, .ref q_15, .ref q_23, .int (nI 0), .ref q_32, .int (nI 0), .int (-1), .int (-1), .int (nI 0), .ref q_50, .int (nI 0), .ref q_58, .ref q_66, .ref q_74, .ref q_82, .int (nI 0), .int (nI 0), .null, .null, .null, .int (nI 0), .int (nI 0), .int (nI 0), .int (nI 0), .null, .int (nI 0)])), (q_7, .inl (aT 0, 77, .inl (fun _ => nI 0))), (q_15, .inl (aT 0, 77, .inl (fun _ => nI 0))), (q_23, .inl (aT 0, 77, .inl (fun _ => nI 0))), (q_32, .inl (aT 0, 616, .inl (fun _ => nI 0))), (q_50, .inl (aT 0, 60, .inl (fun _ => nI 0))), (q_58, .inl (aT 0, 12, .inl (fun _ => nI 0))), (q_66, .inl (aT 0, 12, .inl (fun _ => nI 0))), (q_74, .inl (aT 0, 12, .inl (fun _ => nI 0))), (q_82, .inl (aT 0, 12, .inl (fun _ => nI 0))), (q_90, .inl (aT 1, 41, .inl (upd f_295 35 (vp_nar .char ((nI 115))))))]) rfl rfl rfl (by decide) (by decide) rfl dX10_init_301 (fun H locs hW => ?_)
  obtain ⟨f_301, ef_301⟩ : ∃ y : Nat → Int32, y = (upd f_295 35 (vp_nar .char ((nI 115)))) := ⟨_, rfl⟩
  rw [← ef_301] at hW
  refine lv_dup hx hb dX10_init_302 rfl ?_
  refine lv_bipush (v := nI 36) hx hb dX10_init_303 (by decide) ?_
  refine lv_bipush (v := nI 101) hx hb dX10_init_305 (by decide) ?_
  refine cx_cast C hW 10 1 (j := 36) (W1 := [(q0, .inr (13, [.ref q_7, .ref q_15, .ref q_23, .int (nI 0), .ref q_32, .int (nI 0), .int (-1), .int (-1), .int (nI 0), .ref q_50, .int (nI 0), .ref q_58, .ref q_66, .ref q_74, .ref q_82, .int (nI 0), .int (nI 0), .null, .null, .null, .int (nI 0), .int (nI 0), .int (nI 0), .int (nI 0), .null, .int (nI 0)])), (q_7, .inl (aT 0, 77, .inl (fun _ => nI 0))), (q_15, .inl (aT 0, 77, .inl (fun _ => nI 0))), (q_23, .inl (aT 0, 77, .inl (fun _ => nI 0))), (q_32, .inl (aT 0, 616, .inl (fun _ => nI 0))), (q_50, .inl (aT 0, 60, .inl (fun _ => nI 0))), (q_58, .inl (aT 0, 12, .inl (fun _ => nI 0))), (q_66, .inl (aT 0, 12, .inl (fun _ => nI 0))), (q_74, .inl (aT 0, 12, .inl (fun _ => nI 0))), (q_82, .inl (aT 0, 12, .inl (fun _ => nI 0))), (q_90, .inl (aT 1, 41, .inl (upd f_301 36 (vp_nar .char ((nI 101))))))]) rfl rfl rfl (by decide) (by decide) rfl dX10_init_307 (fun H locs hW => ?_)
  obtain ⟨f_307, ef_307⟩ : ∃ y : Nat → Int32, y = (upd f_301 36 (vp_nar .char ((nI 101)))) := ⟨_, rfl⟩
  rw [← ef_307] at hW
  refine lv_dup hx hb dX10_init_308 rfl ?_
  refine lv_bipush (v := nI 37) hx hb dX10_init_309 (by decide) ?_
  refine lv_bipush (v := nI 97) hx hb dX10_init_311 (by decide) ?_
  refine cx_cast C hW 10 1 (j := 37) (W1 := [(q0, .inr (13, [.ref q_7, .ref q_15, .ref q_23, .int (nI 0), .ref q_32, .int (nI 0), .int (-1), .int (-1), .int (nI 0), .ref q_50, .int (nI 0), .ref q_58, .ref q_66, .ref q_74, .ref q_82, .int (nI 0), .int (nI 0), .null, .null, .null, .int (nI 0), .int (nI 0), .int (nI 0), .int (nI 0), .null, .int (nI 0)])), (q_7, .inl (aT 0, 77, .inl (fun _ => nI 0))), (q_15, .inl (aT 0, 77, .inl (fun _ => nI 0))), (q_23, .inl (aT 0, 77, .inl (fun _ => nI 0))), (q_32, .inl (aT 0, 616, .inl (fun _ => nI 0))), (q_50, .inl (aT 0, 60, .inl (fun _ => nI 0))), (q_58, .inl (aT 0, 12, .inl (fun _ => nI 0))), (q_66, .inl (aT 0, 12, .inl (fun _ => nI 0))), (q_74, .inl (aT 0, 12, .inl (fun _ => nI 0))), (q_82, .inl (aT 0, 12, .inl (fun _ => nI 0))), (q_90, .inl (aT 1, 41, .inl (upd f_307 37 (vp_nar .char ((nI 97))))))]) rfl rfl rfl (by decide) (by decide) rfl dX10_init_313 (fun H locs hW => ?_)
  obtain ⟨f_313, ef_313⟩ : ∃ y : Nat → Int32, y = (upd f_307 37 (vp_nar .char ((nI 97)))) := ⟨_, rfl⟩
  rw [← ef_313] at hW
  refine lv_dup hx hb dX10_init_314 rfl ?_
  refine lv_bipush (v := nI 38) hx hb dX10_init_315 (by decide) ?_
  refine lv_bipush (v := nI 115) hx hb dX10_init_317 (by decide) ?_
  refine cx_cast C hW 10 1 (j := 38) (W1 := [(q0, .inr (13, [.ref q_7, .ref q_15, .ref q_23, .int (nI 0), .ref q_32, .int (nI 0), .int (-1), .int (-1), .int (nI 0), .ref q_50, .int (nI 0), .ref q_58, .ref q_66, .ref q_74, .ref q_82, .int (nI 0), .int (nI 0), .null, .null, .null, .int (nI 0), .int (nI 0), .int (nI 0), .int (nI 0), .null, .int (nI 0)])), (q_7, .inl (aT 0, 77, .inl (fun _ => nI 0))), (q_15, .inl (aT 0, 77, .inl (fun _ => nI 0))), (q_23, .inl (aT 0, 77, .inl (fun _ => nI 0))), (q_32, .inl (aT 0, 616, .inl (fun _ => nI 0))), (q_50, .inl (aT 0, 60, .inl (fun _ => nI 0))), (q_58, .inl (aT 0, 12, .inl (fun _ => nI 0))), (q_66, .inl (aT 0, 12, .inl (fun _ => nI 0))), (q_74, .inl (aT 0, 12, .inl (fun _ => nI 0))), (q_82, .inl (aT 0, 12, .inl (fun _ => nI 0))), (q_90, .inl (aT 1, 41, .inl (upd f_313 38 (vp_nar .char ((nI 115))))))]) rfl rfl rfl (by decide) (by decide) rfl dX10_init_319 (fun H locs hW => ?_)
  obtain ⟨f_319, ef_319⟩ : ∃ y : Nat → Int32, y = (upd f_313 38 (vp_nar .char ((nI 115)))) := ⟨_, rfl⟩
  rw [← ef_319] at hW
  refine lv_dup hx hb dX10_init_320 rfl ?_
  refine lv_bipush (v := nI 39) hx hb dX10_init_321 (by decide) ?_
  refine lv_bipush (v := nI 111) hx hb dX10_init_323 (by decide) ?_
  refine cx_cast C hW 10 1 (j := 39) (W1 := [(q0, .inr (13, [.ref q_7, .ref q_15, .ref q_23, .int (nI 0), .ref q_32, .int (nI 0), .int (-1), .int (-1), .int (nI 0), .ref q_50, .int (nI 0), .ref q_58, .ref q_66, .ref q_74, .ref q_82, .int (nI 0), .int (nI 0), .null, .null, .null, .int (nI 0), .int (nI 0), .int (nI 0), .int (nI 0), .null, .int (nI 0)])), (q_7, .inl (aT 0, 77, .inl (fun _ => nI 0))), (q_15, .inl (aT 0, 77, .inl (fun _ => nI 0))), (q_23, .inl (aT 0, 77, .inl (fun _ => nI 0))), (q_32, .inl (aT 0, 616, .inl (fun _ => nI 0))), (q_50, .inl (aT 0, 60, .inl (fun _ => nI 0))), (q_58, .inl (aT 0, 12, .inl (fun _ => nI 0))), (q_66, .inl (aT 0, 12, .inl (fun _ => nI 0))), (q_74, .inl (aT 0, 12, .inl (fun _ => nI 0))), (q_82, .inl (aT 0, 12, .inl (fun _ => nI 0))), (q_90, .inl (aT 1, 41, .inl (upd f_319 39 (vp_nar .char ((nI 111))))))]) rfl rfl rfl (by decide) (by decide) rfl dX10_init_325 (fun H locs hW => ?_)
  obtain ⟨f_325, ef_325⟩ : ∃ y : Nat → Int32, y = (upd f_319 39 (vp_nar .char ((nI 111)))) := ⟨_, rfl⟩
  rw [← ef_325] at hW
  refine lv_dup hx hb dX10_init_326 rfl ?_
  refine lv_bipush (v := nI 40) hx hb dX10_init_327 (by decide) ?_
  refine lv_bipush (v := nI 110) hx hb dX10_init_329 (by decide) ?_
  refine cx_cast C hW 10 1 (j := 40) (W1 := [(q0, .inr (13, [.ref q_7, .ref q_15, .ref q_23, .int (nI 0), .ref q_32, .int (nI 0), .int (-1), .int (-1), .int (nI 0), .ref q_50, .int (nI 0), .ref q_58, .ref q_66, .ref q_74, .ref q_82, .int (nI 0), .int (nI 0), .null, .null, .null, .int (nI 0), .int (nI 0), .int (nI 0), .int (nI 0), .null, .int (nI 0)])), (q_7, .inl (aT 0, 77, .inl (fun _ => nI 0))), (q_15, .inl (aT 0, 77, .inl (fun _ => nI 0))), (q_23, .inl (aT 0, 77, .inl (fun _ => nI 0))), (q_32, .inl (aT 0, 616, .inl (fun _ => nI 0))), (q_50, .inl (aT 0, 60, .inl (fun _ => nI 0))), (q_58, .inl (aT 0, 12, .inl (fun _ => nI 0))), (q_66, .inl (aT 0, 12, .inl (fun _ => nI 0))), (q_74, .inl (aT 0, 12, .inl (fun _ => nI 0))), (q_82, .inl (aT 0, 12, .inl (fun _ => nI 0))), (q_90, .inl (aT 1, 41, .inl (upd f_325 40 (vp_nar .char ((nI 110))))))]) rfl rfl rfl (by decide) (by decide) rfl dX10_init_331 (fun H locs hW => ?_)
  obtain ⟨f_331, ef_331⟩ : ∃ y : Nat → Int32, y = (upd f_325 40 (vp_nar .char ((nI 110)))) := ⟨_, rfl⟩
  rw [← ef_331] at hW
  refine cx_putF C hnm hW 0 17 (W1 := [(q0, .inr (13, [.ref q_7, .ref q_15, .ref q_23, .int (nI 0), .ref q_32, .int (nI 0), .int (-1), .int (-1), .int (nI 0), .ref q_50, .int (nI 0), .ref q_58, .ref q_66, .ref q_74, .ref q_82, .int (nI 0), .int (nI 0), .ref q_90, .null, .null, .int (nI 0), .int (nI 0), .int (nI 0), .int (nI 0), .null, .int (nI 0)])), (q_7, .inl (aT 0, 77, .inl (fun _ => nI 0))), (q_15, .inl (aT 0, 77, .inl (fun _ => nI 0))), (q_23, .inl (aT 0, 77, .inl (fun _ => nI 0))), (q_32, .inl (aT 0, 616, .inl (fun _ => nI 0))), (q_50, .inl (aT 0, 60, .inl (fun _ => nI 0))), (q_58, .inl (aT 0, 12, .inl (fun _ => nI 0))), (q_66, .inl (aT 0, 12, .inl (fun _ => nI 0))), (q_74, .inl (aT 0, 12, .inl (fun _ => nI 0))), (q_82, .inl (aT 0, 12, .inl (fun _ => nI 0))), (q_90, .inl (aT 1, 41, .inl f_331))]) rfl rfl (by decide) inX10 tyX10 tyX10_ok nmX10 gw_1640 rfl rfl rfl rfl rfl rfl (Nat.le_of_ble_eq_true rfl) rfl dX10_init_332 (fun H locs hW => ?_)
  refine lv_aload_n hx hb dX10_init_335 rfl (lv_at hl 0 rfl) ?_
  refine lv_bipush (v := nI 8) hx hb dX10_init_336 (by decide) ?_
  refine cx_newa C hA hW 0 (atype := .int) (a0 := (8, .inl (fun _ => nI 0))) gw_141 rfl rfl (fun _ _ h9 => h9) (fun _ => rfl) (by decide) (Nat.le_of_ble_eq_true rfl) (Nat.le_of_ble_eq_true rfl) (Nat.le_of_ble_eq_true rfl) dX10_init_338 (fun q_338 H hW => ?_)
  have hW : CxB D [(q0, .inr (13, [.ref q_7, .ref q_15, .ref q_23, .int (nI 0), .ref q_32, .int (nI 0), .int (-1), .int (-1), .int (nI 0), .ref q_50, .int (nI 0), .ref q_58, .ref q_66, .ref q_74, .ref q_82, .int (nI 0), .int (nI 0), .ref q_90, .null, .null, .int (nI 0), .int (nI 0), .int (nI 0), .int (nI 0), .null, .int (nI 0)])), (q_7, .inl (aT 0, 77, .inl (fun _ => nI 0))), (q_15, .inl (aT 0, 77, .inl (fun _ => nI 0))), (q_23, .inl (aT 0, 77, .inl (fun _ => nI 0))), (q_32, .inl (aT 0, 616, .inl (fun _ => nI 0))), (q_50, .inl (aT 0, 60, .inl (fun _ => nI 0))), (q_58, .inl (aT 0, 12, .inl (fun _ => nI 0))), (q_66, .inl (aT 0, 12, .inl (fun _ => nI 0))), (q_74, .inl (aT 0, 12, .inl (fun _ => nI 0))), (q_82, .inl (aT 0, 12, .inl (fun _ => nI 0))), (q_90, .inl (aT 1, 41, .inl f_331)), (q_338, .inl (aT 0, 8, .inl (fun _ => nI 0)))] A s.heap H _ := hW
  refine lv_dup hx hb dX10_init_340 rfl ?_
  refine lv_iconst (v := nI 0) hx hb dX10_init_341 (by decide) ?_
  refine lv_iconst (v := nI 0) hx hb dX10_init_342 (by decide) ?_
  refine cx_ast C hW 11 0 (j := 0) (W1 := [(q0, .inr (13, [.ref q_7, .ref q_15, .ref q_23, .int (nI 0), .ref q_32, .int (nI 0), .int (-1), .int (-1), .int (nI 0), .ref q_50, .int (nI 0), .ref q_58, .ref q_66, .ref q_74, .ref q_82, .int (nI 0), .int (nI 0), .ref q_90, .null, .null, .int (nI 0), .int (nI 0), .int (nI 0), .int (nI 0), .null, .int (nI 0)])), (q_7, .inl (aT 0, 77, .inl (fun _ => nI 0))), (q_15, .inl (aT 0, 77, .inl (fun _ => nI 0))), (q_23, .inl (aT 0, 77, .inl (fun _ => nI 0))), (q_32, .inl (aT 0, 616, .inl (fun _ => nI 0))), (q_50, .inl (aT 0, 60, .inl (fun _ => nI 0))), (q_58, .inl (aT 0, 12, .inl (fun _ => nI 0))), (q_66, .inl (aT 0, 12, .inl (fun _ => nI 0))), (q_74, .inl (aT 0, 12, .inl (fun _ => nI 0))), (q_82, .inl (aT 0, 12, .inl (fun _ => nI 0))), (q_90, .inl (aT 1, 41, .inl f_331)), (q_338, .inl (aT 0, 8, .inl (upd (fun _ => nI 0) 0 ((nI 0)))))]) rfl rfl rfl (by omega) (by decide) rfl dX10_init_343 (fun H locs hW => ?_)
  refine lv_dup hx hb dX10_init_344 rfl ?_
  refine lv_iconst (v := nI 1) hx hb dX10_init_345 (by decide) ?_
  refine lv_bipush (v := nI 6) hx hb dX10_init_346 (by decide) ?_
  refine cx_ast C hW 11 0 (j := 1) (W1 := [(q0, .inr (13, [.ref q_7, .ref q_15, .ref q_23, .int (nI 0), .ref q_32, .int (nI 0), .int (-1), .int (-1), .int (nI 0), .ref q_50, .int (nI 0), .ref q_58, .ref q_66, .ref q_74, .ref q_82, .int (nI 0), .int (nI 0), .ref q_90, .null, .null, .int (nI 0), .int (nI 0), .int (nI 0), .int (nI 0), .null, .int (nI 0)])), (q_7, .inl (aT 0, 77, .inl (fun _ => nI 0))), (q_15, .inl (aT 0, 77, .inl (fun _ => nI 0))), (q_23, .inl (aT 0, 77, .inl (fun _ => nI 0))), (q_32, .inl (aT 0, 616, .inl (fun _ => nI 0))), (q_50, .inl (aT 0, 60, .inl (fun _ => nI 0))), (q_58, .inl (aT 0, 12, .inl (fun _ => nI 0))), (q_66, .inl (aT 0, 12, .inl (fun _ => nI 0))), (q_74, .inl (aT 0, 12, .inl (fun _ => nI 0))), (q_82, .inl (aT 0, 12, .inl (fun _ => nI 0))), (q_90, .inl (aT 1, 41, .inl f_331)), (q_338, .inl (aT 0, 8, .inl (upd (upd (fun _ => nI 0) 0 ((nI 0))) 1 ((nI 6)))))]) rfl rfl rfl (by decide) (by decide) rfl dX10_init_348 (fun H locs hW => ?_)
  obtain ⟨f_348, ef_348⟩ : ∃ y : Nat → Int32, y = (upd (upd (fun _ => nI 0) 0 ((nI 0))) 1 ((nI 6))) := ⟨_, rfl⟩
  rw [← ef_348] at hW
  refine lv_dup hx hb dX10_init_349 rfl ?_
  refine lv_iconst (v := nI 2) hx hb dX10_init_350 (by decide) ?_
  refine lv_bipush (v := nI 11) hx hb dX10_init_351 (by decide) ?_
  refine cx_ast C hW 11 0 (j := 2) (W1 := [(q0, .inr (13, [.ref q_7, .ref q_15, .ref q_23, .int (nI 0), .ref q_32, .int (nI 0), .int (-1), .int (-1), .int (nI 0), .ref q_50, .int (nI 0), .ref q_58, .ref q_66, .ref q_74, .ref q_82, .int (nI 0), .int (nI 0), .ref q_90, .null, .null, .int (nI 0), .int (nI 0), .int (nI 0), .int (nI 0), .null, .int (nI 0)])), (q_7, .inl (aT 0, 77, .inl (fun _ => nI 0))), (q_15, .inl (aT 0, 77, .inl (fun _ => nI 0))), (q_23, .inl (aT 0, 77, .inl (fun _ => nI 0))), (q_32, .inl (aT 0, 616, .inl (fun _ => nI 0))), (q_50, .inl (aT 0, 60, .inl (fun _ => nI 0))), (q_58, .inl (aT 0, 12, .inl (fun _ => nI 0))), (q_66, .inl (aT 0, 12, .inl (fun _ => nI 0))), (q_74, .inl (aT 0, 12, .inl (fun _ => nI 0))), (q_82, .inl (aT 0, 12, .inl (fun _ => nI 0))), (q_90, .inl (aT 1, 41, .inl f_331)), (q_338, .inl (aT 0, 8, .inl (upd f_348 2 ((nI 11)))))]) rfl rfl rfl (by omega) (by decide) rfl dX10_init_353 (fun H locs hW => ?_)
  refine lv_dup hx hb dX10_init_354 rfl ?_
  refine lv_iconst (v := nI 3) hx hb dX10_init_355 (by decide) ?_
  refine lv_bipush (v := nI 17) hx hb dX10_init_356 (by decide) ?_
  refine cx_ast C hW 11 0 (j := 3) (W1 := [(q0, .inr (13, [.ref q_7, .ref q_15, .ref q_23, .int (nI 0), .ref q_32, .int (nI 0), .int (-1), .int (-1), .int (nI 0), .ref q_50, .int (nI 0), .ref q_58, .ref q_66, .ref q_74, .ref q_82, .int (nI 0), .int (nI 0), .ref q_90, .null, .null, .int (nI 0), .int (nI 0), .int (nI 0), .int (nI 0), .null, .int (nI 0)])), (q_7, .inl (aT 0, 77, .inl (fun _ => nI 0))), (q_15, .inl (aT 0, 77, .inl (fun _ => nI 0))), (q_23, .inl (aT 0, 77, .inl (fun _ => nI 0))), (q_32, .inl (aT 0, 616, .inl (fun _ => nI 0))), (q_50, .inl (aT 0, 60, .inl (fun _ => nI 0))), (q_58, .inl (aT 0, 12, .inl (fun _ => nI 0))), (q_66, .inl (aT 0, 12, .inl (fun _ => nI 0))), (q_74, .inl (aT 0, 12, .inl (fun _ => nI 0))), (q_82, .inl (aT 0, 12, .inl (fun _ => nI 0))), (q_90, .inl (aT 1, 41, .inl f_331)), (q_338, .inl (aT 0, 8, .inl (upd (upd f_348 2 ((nI 11))) 3 ((nI 17)))))]) rfl rfl rfl (by decide) (by decide) rfl dX10_init_358 (fun H locs hW => ?_)
  obtain ⟨f_358, ef_358⟩ : ∃ y : Nat → Int32, y = (upd (upd f_348 2 ((nI 11))) 3 ((nI 17))) := ⟨_, rfl⟩
  rw [← ef_358] at hW
  refine lv_dup hx hb dX10_init_359 rfl ?_
  refine lv_iconst (v := nI 4) hx hb dX10_init_360 (by decide) ?_
  refine lv_bipush (v := nI 23) hx hb dX10_init_361 (by decide) ?_
  refine cx_ast C hW 11 0 (j := 4) (W1 := [(q0, .inr (13, [.ref q_7, .ref q_15, .ref q_23, .int (nI 0), .ref q_32, .int (nI 0), .int (-1), .int (-1), .int (nI 0), .ref q_50, .int (nI 0), .ref q_58, .ref q_66, .ref q_74, .ref q_82, .int (nI 0), .int (nI 0), .ref q_90, .null, .null, .int (nI 0), .int (nI 0), .int (nI 0), .int (nI 0), .null, .int (nI 0)])), (q_7, .inl (aT 0, 77, .inl (fun _ => nI 0))), (q_15, .inl (aT 0, 77, .inl (fun _ => nI 0))), (q_23, .inl (aT 0, 77, .inl (fun _ => nI 0))), (q_32, .inl (aT 0, 616, .inl (fun _ => nI 0))), (q_50, .inl (aT 0, 60, .inl (fun _ => nI 0))), (q_58, .inl (aT 0, 12, .inl (fun _ => nI 0))), (q_66, .inl (aT 0, 12, .inl (fun _ => nI 0))), (q_74, .inl (aT 0, 12, .inl (fun _ => nI 0))), (q_82, .inl (aT 0, 12, .inl (fun _ => nI 0))), (q_90, .inl (aT 1, 41, .inl f_331)), (q_338, .inl (aT 0, 8, .inl (upd f_358 4 ((nI 23)))))]) rfl rfl rfl (by omega) (by decide) rfl dX10_init_363 (fun H locs hW => ?_)
  refine lv_dup hx hb dX10_init_364 rfl ?_
  refine lv_iconst (v := nI 5) hx hb dX10_init_365 (by decide) ?_
  refine lv_bipush (v := nI 30) hx hb dX10_init_366 (by decide) ?_
  refine cx_ast C hW 11 0 (j := 5) (W1 := [(q0, .inr (13, [.ref q_7, .ref q_15, .ref q_23, .int (nI 0), .ref q_32, .int (nI 0), .int (-1), .int (-1), .int (nI 0), .ref q_50, .int (nI 0), .ref q_58, .ref q_66, .ref q_74, .ref q_82, .int (nI 0), .int (nI 0), .ref q_90, .null, .null, .int (nI 0), .int (nI 0), .int (nI 0), .int (nI 0), .null, .int (nI 0)])), (q_7, .inl (aT 0, 77, .inl (fun _ => nI 0))), (q_15, .inl (aT 0, 77, .inl (fun _ => nI 0))), (q_23, .inl (aT 0, 77, .inl (fun _ => nI 0))), (q_32, .inl (aT 0, 616, .inl (fun _ => nI 0))), (q_50, .inl (aT 0, 60, .inl (fun _ => nI 0))), (q_58, .inl (aT 0, 12, .inl (fun _ => nI 0))), (q_66, .inl (aT 0, 12, .inl (fun _ => nI 0))), (q_74, .inl (aT 0, 12, .inl (fun _ => nI 0))), (q_82, .inl (aT 0, 12, .inl (fun _ => nI 0))), (q_90, .inl (aT 1, 41, .inl f_331)), (q_338, .inl (aT 0, 8, .inl (upd (upd f_358 4 ((nI 23))) 5 ((nI 30)))))]) rfl rfl rfl (by decide) (by decide) rfl dX10_init_368 (fun H locs hW => ?_)
  obtain ⟨f_368, ef_368⟩ : ∃ y : Nat → Int32, y = (upd (upd f_358 4 ((nI 23))) 5 ((nI 30))) := ⟨_, rfl⟩
  rw [← ef_368] at hW
  refine lv_dup hx hb dX10_init_369 rfl ?_
  refine lv_bipush (v := nI 6) hx hb dX10_init_370 (by decide) ?_
  refine lv_bipush (v := nI 35) hx hb dX10_init_372 (by decide) ?_
  refine cx_ast C hW 11 0 (j := 6) (W1 := [(q0, .inr (13, [.ref q_7, .ref q_15, .ref q_23, .int (nI 0), .ref q_32, .int (nI 0), .int (-1), .int (-1), .int (nI 0), .ref q_50, .int (nI 0), .ref q_58, .ref q_66, .ref q_74, .ref q_82, .int (nI 0), .int (nI 0), .ref q_90, .null, .null, .int (nI 0), .int (nI 0), .int (nI 0), .int (nI 0), .null, .int (nI 0)])), (q_7, .inl (aT 0, 77, .inl (fun _ => nI 0))), (q_15, .inl (aT 0, 77, .inl (fun _ => nI 0))), (q_23, .inl (aT 0, 77, .inl (fun _ => nI 0))), (q_32, .inl (aT 0, 616, .inl (fun _ => nI 0))), (q_50, .inl (aT 0, 60, .inl (fun _ => nI 0))), (q_58, .inl (aT 0, 12, .inl (fun _ => nI 0))), (q_66, .inl (aT 0, 12, .inl (fun _ => nI 0))), (q_74, .inl (aT 0, 12, .inl (fun _ => nI 0))), (q_82, .inl (aT 0, 12, .inl (fun _ => nI 0))), (q_90, .inl (aT 1, 41, .inl f_331)), (q_338, .inl (aT 0, 8, .inl (upd f_368 6 ((nI 35)))))]) rfl rfl rfl (by omega) (by decide) rfl dX10_init_374 (fun H locs hW => ?_)
  refine lv_dup hx hb dX10_init_375 rfl ?_
  refine lv_bipush (v := nI 7) hx hb dX10_init_376 (by decide) ?_
  refine lv_bipush (v := nI 41) hx hb dX10_init_378 (by decide) ?_
  refine cx_ast C hW 11 0 (j := 7) (W1 := [(q0, .inr (13, [.ref q_7, .ref q_15, .ref q_23, .int (nI 0), .ref q_32, .int (nI 0), .int (-1), .int (-1), .int (nI 0), .ref q_50, .int (nI 0), .ref q_58, .ref q_66, .ref q_74, .ref q_82, .int (nI 0), .int (nI 0), .ref q_90, .null, .null, .int (nI 0), .int (nI 0), .int (nI 0), .int (nI 0), .null, .int (nI 0)])), (q_7, .inl (aT 0, 77, .inl (fun _ => nI 0))), (q_15, .inl (aT 0, 77, .inl (fun _ => nI 0))), (q_23, .inl (aT 0, 77, .inl (fun _ => nI 0))), (q_32, .inl (aT 0, 616, .inl (fun _ => nI 0))), (q_50, .inl (aT 0, 60, .inl (fun _ => nI 0))), (q_58, .inl (aT 0, 12, .inl (fun _ => nI 0))), (q_66, .inl (aT 0, 12, .inl (fun _ => nI 0))), (q_74, .inl (aT 0, 12, .inl (fun _ => nI 0))), (q_82, .inl (aT 0, 12, .inl (fun _ => nI 0))), (q_90, .inl (aT 1, 41, .inl f_331)), (q_338, .inl (aT 0, 8, .inl (upd (upd f_368 6 ((nI 35))) 7 ((nI 41)))))]) rfl rfl rfl (by decide) (by decide) rfl dX10_init_380 (fun H locs hW => ?_)
  obtain ⟨f_380, ef_380⟩ : ∃ y : Nat → Int32, y = (upd (upd f_368 6 ((nI 35))) 7 ((nI 41))) := ⟨_, rfl⟩
  rw [← ef_380] at hW
  refine cx_putF C hnm hW 0 18 (W1 := [(q0, .inr (13, [.ref q_7, .ref q_15, .ref q_23, .int (nI 0), .ref q_32, .int (nI 0), .int (-1), .int (-1), .int (nI 0), .ref q_50, .int (nI 0), .ref q_58, .ref q_66, .ref q_74, .ref q_82, .int (nI 0), .int (nI 0), .ref q_90, .ref q_338, .null, .int (nI 0), .int (nI 0), .int (nI 0), .int (nI 0), .null, .int (nI 0)])), (q_7, .inl (aT 0, 77, .inl (fun _ => nI 0))), (q_15, .inl (aT 0, 77, .inl (fun _ => nI 0))), (q_23, .inl (aT 0, 77, .inl (fun _ => nI 0))), (q_32, .inl (aT 0, 616, .inl (fun _ => nI 0))), (q_50, .inl (aT 0, 60, .inl (fun _ => nI 0))), (q_58, .inl (aT 0, 12, .inl (fun _ => nI 0))), (q_66, .inl (aT 0, 12, .inl (fun _ => nI 0))), (q_74, .inl (aT 0, 12, .inl (fun _ => nI 0))), (q_82, .inl (aT 0, 12, .inl (fun _ => nI 0))), (q_90, .inl (aT 1, 41, .inl f_331)), (q_338, .inl (aT 0, 8, .inl f_380))]) rfl rfl (by decide) inX10 tyX10 tyX10_ok nmX10 gw_1641 rfl rfl rfl rfl rfl rfl (Nat.le_of_ble_eq_true rfl) rfl dX10_init_381 (fun H locs hW => ?_)
  refine lv_aload_n hx hb dX10_init_384 rfl (lv_at hl 0 rfl) ?_
  refine lv_sipush (v := nI 244) hx hb dX10_init_385 (by decide) ?_
  refine cx_newa C hA hW 0 (atype := .int) (a0 := (244, .inl (fun _ => nI 0))) gw_141 rfl rfl (fun _ _ h9 => h9) (fun _ => rfl) (by decide) (Nat.le_of_ble_eq_true rfl) (Nat.le_of_ble_eq_true rfl) (Nat.le_of_ble_eq_true rfl) dX10_init_388 (fun q_388 H hW => ?_)
  have hW : CxB D [(q0, .inr (13, [.ref q_7, .ref q_15, .ref q_23, .int (nI 0), .ref q_32, .int (nI 0), .int (-1), .int (-1), .int (nI 0), .ref q_50, .int (nI 0), .ref q_58, .ref q_66, .ref q_74, .ref q_82, .int (nI 0), .int (nI 0), .ref q_90, .ref q_338, .null, .int (nI 0), .int (nI 0), .int (nI 0), .int (nI 0), .null, .int (nI 0)])), (q_7, .inl (aT 0, 77, .inl (fun _ => nI 0))), (q_15, .inl (aT 0, 77, .inl (fun _ => nI 0))), (q_23, .inl (aT 0, 77, .inl (fun _ => nI 0))), (q_32, .inl (aT 0, 616, .inl (fun _ => nI 0))), (q_50, .inl (aT 0, 60, .inl (fun _ => nI 0))), (q_58, .inl (aT 0, 12, .inl (fun _ => nI 0))), (q_66, .inl (aT 0, 12, .inl (fun _ => nI 0))), (q_74, .inl (aT 0, 12, .inl (fun _ => nI 0))), (q_82, .inl (aT 0, 12, .inl (fun _ => nI 0))), (q_90, .inl (aT 1, 41, .inl f_331)), (q_338, .inl (aT 0, 8, .inl f_380)), (q_388, .inl (aT 0, 244, .inl (fun _ => nI 0)))] A s.heap H _ := hW
  refine cx_putF C hnm hW 0 19 (W1 := [(q0, .inr (13, [.ref q_7, .ref q_15, .ref q_23, .int (nI 0), .ref q_32, .int (nI 0), .int (-1), .int (-1), .int (nI 0), .ref q_50, .int (nI 0), .ref q_58, .ref q_66, .ref q_74, .ref q_82, .int (nI 0), .int (nI 0), .ref q_90, .ref q_338, .ref q_388, .int (nI 0), .int (nI 0), .int (nI 0), .int (nI 0), .null, .int (nI 0)])), (q_7, .inl (aT 0, 77, .inl (fun _ => nI 0))), (q_15, .inl (aT 0, 77, .inl (fun _ => nI 0))), (q_23, .inl (aT 0, 77, .inl (fun _ => nI 0))), (q_32, .inl (aT 0, 616, .inl (fun _ => nI 0))), (q_50, .inl (aT 0, 60, .inl (fun _ => nI 0))), (q_58, .inl (aT 0, 12, .inl (fun _ => nI 0))), (q_66, .inl (aT 0, 12, .inl (fun _ => nI 0))), (q_74, .inl (aT 0, 12, .inl (fun _ => nI 0))), (q_82, .inl (aT 0, 12, .inl (fun _ => nI 0))), (q_90, .inl (aT 1, 41, .inl f_331)), (q_338, .inl (aT 0, 8, .inl f_380)), (q_388, .inl (aT 0, 244, .inl (fun _ => nI 0)))]) rfl rfl (by decide) inX10 tyX10 tyX10_ok nmX10 gw_1642 rfl rfl rfl rfl rfl rfl (Nat.le_of_ble_eq_true rfl) rfl dX10_init_390 (fun H locs hW => ?_)
  refine lv_aload_n hx hb dX10_init_393 rfl (lv_at hl 0 rfl) ?_
  refine lv_sipush (v := nI 400) hx hb dX10_init_394 (by decide) ?_
  refine cx_newa C hA hW 0 (atype := .int) (a0 := (400, .inl (fun _ => nI 0))) gw_141 rfl rfl (fun _ _ h9 => h9) (fun _ => rfl) (by decide) (Nat.le_of_ble_eq_true rfl) (Nat.le_of_ble_eq_true rfl) (Nat.le_of_ble_eq_true rfl) dX10_init_397 (fun q_397 H hW => ?_)
  have hW : CxB D [(q0, .inr (13, [.ref q_7, .ref q_15, .ref q_23, .int (nI 0), .ref q_32, .int (nI 0), .int (-1), .int (-1), .int (nI 0), .ref q_50, .int (nI 0), .ref q_58, .ref q_66, .ref q_74, .ref q_82, .int (nI 0), .int (nI 0), .ref q_90, .ref q_338, .ref q_388, .int (nI 0), .int (nI 0), .int (nI 0), .int (nI 0), .null, .int (nI 0)])), (q_7, .inl (aT 0, 77, .inl (fun _ => nI 0))), (q_15, .inl (aT 0, 77, .inl (fun _ => nI 0))), (q_23, .inl (aT 0, 77, .inl (fun _ => nI 0))), (q_32, .inl (aT 0, 616, .inl (fun _ => nI 0))), (q_50, .inl (aT 0, 60, .inl (fun _ => nI 0))), (q_58, .inl (aT 0, 12, .inl (fun _ => nI 0))), (q_66, .inl (aT 0, 12, .inl (fun _ => nI 0))), (q_74, .inl (aT 0, 12, .inl (fun _ => nI 0))), (q_82, .inl (aT 0, 12, .inl (fun _ => nI 0))), (q_90, .inl (aT 1, 41, .inl f_331)), (q_338, .inl (aT 0, 8, .inl f_380)), (q_388, .inl (aT 0, 244, .inl (fun _ => nI 0))), (q_397, .inl (aT 0, 400, .inl (fun _ => nI 0)))] A s.heap H _ := hW
  refine cx_putF C hnm hW 0 24 (W1 := [(q0, .inr (13, [.ref q_7, .ref q_15, .ref q_23, .int (nI 0), .ref q_32, .int (nI 0), .int (-1), .int (-1), .int (nI 0), .ref q_50, .int (nI 0), .ref q_58, .ref q_66, .ref q_74, .ref q_82, .int (nI 0), .int (nI 0), .ref q_90, .ref q_338, .ref q_388, .int (nI 0), .int (nI 0), .int (nI 0), .int (nI 0), .ref q_397, .int (nI 0)])), (q_7, .inl (aT 0, 77, .inl (fun _ => nI 0))), (q_15, .inl (aT 0, 77, .inl (fun _ => nI 0))), (q_23, .inl (aT 0, 77, .inl (fun _ => nI 0))), (q_32, .inl (aT 0, 616, .inl (fun _ => nI 0))), (q_50, .inl (aT 0, 60, .inl (fun _ => nI 0))), (q_58, .inl (aT 0, 12, .inl (fun _ => nI 0))), (q_66, .inl (aT 0, 12, .inl (fun _ => nI 0))), (q_74, .inl (aT 0, 12, .inl (fun _ => nI 0))), (q_82, .inl (aT 0, 12, .inl (fun _ => nI 0))), (q_90, .inl (aT 1, 41, .inl f_331)), (q_338, .inl (aT 0, 8, .inl f_380)), (q_388, .inl (aT 0, 244, .inl (fun _ => nI 0))), (q_397, .inl (aT 0, 400, .inl (fun _ => nI 0)))]) rfl rfl (by decide) inX10 tyX10 tyX10_ok nmX10 gw_1647 rfl rfl rfl rfl rfl rfl (Nat.le_of_ble_eq_true rfl) rfl dX10_init_399 (fun H locs hW => ?_)
  have hW : CxB D [(q0, .inr (13, [.ref q_7, .ref q_15, .ref q_23, .int (nI 0), .ref q_32, .int (nI 0), .int (-1), .int (-1), .int (nI 0), .ref q_50, .int (nI 0), .ref q_58, .ref q_66, .ref q_74, .ref q_82, .int (nI 0), .int (nI 0), .ref q_90, .ref q_338, .ref q_388, .int (nI 0), .int (nI 0), .int (nI 0), .int (nI 0), .ref q_397, .int (nI 0)])), (q_7, .inl (aT 0, 77, .inl (fun _ => nI 0))), (q_15, .inl (aT 0, 77, .inl (fun _ => nI 0))), (q_23, .inl (aT 0, 77, .inl (fun _ => nI 0))), (q_32, .inl (aT 0, 616, .inl (fun _ => nI 0))), (q_50, .inl (aT 0, 60, .inl (fun _ => nI 0))), (q_58, .inl (aT 0, 12, .inl (fun _ => nI 0))), (q_66, .inl (aT 0, 12, .inl (fun _ => nI 0))), (q_74, .inl (aT 0, 12, .inl (fun _ => nI 0))), (q_82, .inl (aT 0, 12, .inl (fun _ => nI 0))), (q_90, .inl (aT 1, 41, .inl f_331)), (q_338, .inl (aT 0, 8, .inl f_380)), (q_388, .inl (aT 0, 244, .inl (fun _ => nI 0))), (q_397, .inl (aT 0, 400, .inl (fun _ => nI 0)))] A s.heap H _ := cx_drop hW [0, 1, 2, 3, 4, 5, 6, 7, 8, 9, 10, 11, 12, 13] rfl (by decide)
  have hwd : WdOk (fun r => if r = 9 then f_331 else if r = 10 then f_380 else if r = 13 then (fun k => if k = 6 ∨ k = 7 then -1 else nI 0) else (fun _ => nI 0)) := by
    refine ⟨fun j hj => ?_, fun j hj => ?_⟩
    · show f_380 j = nI (bgN j)
      rw [ef_380, ef_368, ef_358, ef_348]
      rcases (show j = 0 ∨ j = 1 ∨ j = 2 ∨ j = 3 ∨ j = 4 ∨ j = 5 ∨ j = 6 ∨ j = 7 by omega) with rfl | rfl | rfl | rfl | rfl | rfl | rfl | rfl <;> decide
    · show f_331 j = nI (ltN j)
      rw [ef_331, ef_325, ef_319, ef_313, ef_307, ef_301, ef_295, ef_289, ef_283, ef_277, ef_271, ef_265, ef_259, ef_253, ef_247, ef_241, ef_235, ef_229, ef_223, ef_217, ef_211, ef_205, ef_199, ef_193, ef_187, ef_181, ef_175, ef_169, ef_163, ef_157, ef_151, ef_145, ef_139, ef_133, ef_127, ef_121, ef_116, ef_111, ef_106, ef_101, ef_96]
      rcases (show j = 0 ∨ j = 1 ∨ j = 2 ∨ j = 3 ∨ j = 4 ∨ j = 5 ∨ j = 6 ∨ j = 7 ∨ j = 8 ∨ j = 9 ∨ j = 10 ∨ j = 11 ∨ j = 12 ∨ j = 13 ∨ j = 14 ∨ j = 15 ∨ j = 16 ∨ j = 17 ∨ j = 18 ∨ j = 19 ∨ j = 20 ∨ j = 21 ∨ j = 22 ∨ j = 23 ∨ j = 24 ∨ j = 25 ∨ j = 26 ∨ j = 27 ∨ j = 28 ∨ j = 29 ∨ j = 30 ∨ j = 31 ∨ j = 32 ∨ j = 33 ∨ j = 34 ∨ j = 35 ∨ j = 36 ∨ j = 37 ∨ j = 38 ∨ j = 39 ∨ j = 40 by omega) with rfl | rfl | rfl | rfl | rfl | rfl | rfl | rfl | rfl | rfl | rfl | rfl | rfl | rfl | rfl | rfl | rfl | rfl | rfl | rfl | rfl | rfl | rfl | rfl | rfl | rfl | rfl | rfl | rfl | rfl | rfl | rfl | rfl | rfl | rfl | rfl | rfl | rfl | rfl | rfl | rfl <;> decide
  exact cx_vret C hr hlocks hW ⟨Nat.le_of_ble_eq_true rfl, Nat.le_of_ble_eq_true rfl⟩ (⟨(fun k => ([q0, q_7, q_15, q_23, q_32, q_50, q_58, q_66, q_74, q_82, q_90, q_338, q_388, q_397] : List Nat).getD k 0), (fun r => if r = 9 then f_331 else if r = 10 then f_380 else if r = 13 then (fun k => if k = 6 ∨ k = 7 then -1 else nI 0) else (fun _ => nI 0)), rfl, rfl, rfl, rfl, fun _ => rfl, hwd, rfl⟩) dX10_init_402
