theorem tw_m_RX7_1 : Cond.methodLink RX7 1 objectInit ∈ TS := ts_mem 853 (by decide +kernel) rfl
theorem tw_code_yX7_init : Cond.code yX7_init cX7_init 1 none ∈ TS := ts_mem 852 (by decide +kernel) rfl
theorem dX7_init_0 : decode cX7_init 0 = .ok (.aload_n 0, 1) := by decide +kernel
theorem dX7_init_1 : decode cX7_init 1 = .ok (.invokespecial 1, 3) := by decide +kernel
theorem dX7_init_4 : decode cX7_init 4 = .ok (.aload_n 0, 1) := by decide +kernel
theorem dX7_init_5 : decode cX7_init 5 = .ok (.bipush 8, 2) := by decide +kernel
theorem dX7_init_7 : decode cX7_init 7 = .ok (.putfield 7, 3) := by decide +kernel
theorem dX7_init_10 : decode cX7_init 10 = .ok (.aload_n 0, 1) := by decide +kernel
theorem dX7_init_11 : decode cX7_init 11 = .ok (.iconst 5, 1) := by decide +kernel
theorem dX7_init_12 : decode cX7_init 12 = .ok (.putfield 13, 3) := by decide +kernel
theorem dX7_init_15 : decode cX7_init 15 = .ok (.aload_n 0, 1) := by decide +kernel
theorem dX7_init_16 : decode cX7_init 16 = .ok (.iconst 1, 1) := by decide +kernel
theorem dX7_init_17 : decode cX7_init 17 = .ok (.putfield 16, 3) := by decide +kernel
theorem dX7_init_20 : decode cX7_init 20 = .ok (.aload_n 0, 1) := by decide +kernel
theorem dX7_init_21 : decode cX7_init 21 = .ok (.iconst 1, 1) := by decide +kernel
theorem dX7_init_22 : decode cX7_init 22 = .ok (.putfield 19, 3) := by decide +kernel
theorem dX7_init_25 : decode cX7_init 25 = .ok (.aload_n 0, 1) := by decide +kernel
theorem dX7_init_26 : decode cX7_init 26 = .ok (.iconst (-1), 1) := by decide +kernel
theorem dX7_init_27 : decode cX7_init 27 = .ok (.putfield 22, 3) := by decide +kernel
theorem dX7_init_30 : decode cX7_init 30 = .ok (.aload_n 0, 1) := by decide +kernel
theorem dX7_init_31 : decode cX7_init 31 = .ok (.bipush 8, 2) := by decide +kernel
theorem dX7_init_33 : decode cX7_init 33 = .ok (.newarray .int, 2) := by decide +kernel
theorem dX7_init_35 : decode cX7_init 35 = .ok (.putfield 25, 3) := by decide +kernel
theorem dX7_init_38 : decode cX7_init 38 = .ok (.aload_n 0, 1) := by decide +kernel
theorem dX7_init_39 : decode cX7_init 39 = .ok (.bipush 7, 2) := by decide +kernel
theorem dX7_init_41 : decode cX7_init 41 = .ok (.newarray .int, 2) := by decide +kernel
theorem dX7_init_43 : decode cX7_init 43 = .ok (.putfield 29, 3) := by decide +kernel
theorem dX7_init_46 : decode cX7_init 46 = .ok (.aload_n 0, 1) := by decide +kernel
theorem dX7_init_47 : decode cX7_init 47 = .ok (.bipush 7, 2) := by decide +kernel
theorem dX7_init_49 : decode cX7_init 49 = .ok (.newarray .int, 2) := by decide +kernel
theorem dX7_init_51 : decode cX7_init 51 = .ok (.putfield 32, 3) := by decide +kernel
theorem dX7_init_54 : decode cX7_init 54 = .ok (.aload_n 0, 1) := by decide +kernel
theorem dX7_init_55 : decode cX7_init 55 = .ok (.bipush 7, 2) := by decide +kernel
theorem dX7_init_57 : decode cX7_init 57 = .ok (.newarray .int, 2) := by decide +kernel
theorem dX7_init_59 : decode cX7_init 59 = .ok (.putfield 35, 3) := by decide +kernel
theorem dX7_init_62 : decode cX7_init 62 = .ok (.aload_n 0, 1) := by decide +kernel
theorem dX7_init_63 : decode cX7_init 63 = .ok (.bipush 7, 2) := by decide +kernel
theorem dX7_init_65 : decode cX7_init 65 = .ok (.newarray .int, 2) := by decide +kernel
theorem dX7_init_67 : decode cX7_init 67 = .ok (.putfield 38, 3) := by decide +kernel
theorem dX7_init_70 : decode cX7_init 70 = .ok (.aload_n 0, 1) := by decide +kernel
theorem dX7_init_71 : decode cX7_init 71 = .ok (.bipush 7, 2) := by decide +kernel
theorem dX7_init_73 : decode cX7_init 73 = .ok (.newarray .int, 2) := by decide +kernel
theorem dX7_init_75 : decode cX7_init 75 = .ok (.putfield 41, 3) := by decide +kernel
theorem dX7_init_78 : decode cX7_init 78 = .ok (.aload_n 0, 1) := by decide +kernel
theorem dX7_init_79 : decode cX7_init 79 = .ok (.bipush 7, 2) := by decide +kernel
theorem dX7_init_81 : decode cX7_init 81 = .ok (.newarray .int, 2) := by decide +kernel
theorem dX7_init_83 : decode cX7_init 83 = .ok (.putfield 44, 3) := by decide +kernel
theorem dX7_init_86 : decode cX7_init 86 = .ok (.aload_n 0, 1) := by decide +kernel
theorem dX7_init_87 : decode cX7_init 87 = .ok (.bipush 7, 2) := by decide +kernel
theorem dX7_init_89 : decode cX7_init 89 = .ok (.newarray .int, 2) := by decide +kernel
theorem dX7_init_91 : decode cX7_init 91 = .ok (.putfield 47, 3) := by decide +kernel
theorem dX7_init_94 : decode cX7_init 94 = .ok (.aload_n 0, 1) := by decide +kernel
theorem dX7_init_95 : decode cX7_init 95 = .ok (.bipush 8, 2) := by decide +kernel
theorem dX7_init_97 : decode cX7_init 97 = .ok (.newarray .int, 2) := by decide +kernel
theorem dX7_init_99 : decode cX7_init 99 = .ok (.putfield 50, 3) := by decide +kernel
theorem dX7_init_102 : decode cX7_init 102 = .ok (.aload_n 0, 1) := by decide +kernel
theorem dX7_init_103 : decode cX7_init 103 = .ok (.bipush 8, 2) := by decide +kernel
theorem dX7_init_105 : decode cX7_init 105 = .ok (.newarray .int, 2) := by decide +kernel
theorem dX7_init_107 : decode cX7_init 107 = .ok (.putfield 53, 3) := by decide +kernel
theorem dX7_init_110 : decode cX7_init 110 = .ok (.aload_n 0, 1) := by decide +kernel
theorem dX7_init_111 : decode cX7_init 111 = .ok (.bipush 8, 2) := by decide +kernel
theorem dX7_init_113 : decode cX7_init 113 = .ok (.newarray .int, 2) := by decide +kernel
theorem dX7_init_115 : decode cX7_init 115 = .ok (.putfield 56, 3) := by decide +kernel
theorem dX7_init_118 : decode cX7_init 118 = .ok (.aload_n 0, 1) := by decide +kernel
theorem dX7_init_119 : decode cX7_init 119 = .ok (.bipush 8, 2) := by decide +kernel
theorem dX7_init_121 : decode cX7_init 121 = .ok (.newarray .int, 2) := by decide +kernel
theorem dX7_init_123 : decode cX7_init 123 = .ok (.putfield 59, 3) := by decide +kernel
theorem dX7_init_126 : decode cX7_init 126 = .ok (.aload_n 0, 1) := by decide +kernel
theorem dX7_init_127 : decode cX7_init 127 = .ok (.sipush 1280, 3) := by decide +kernel
theorem dX7_init_130 : decode cX7_init 130 = .ok (.newarray .long, 2) := by decide +kernel
theorem dX7_init_132 : decode cX7_init 132 = .ok (.putfield 62, 3) := by decide +kernel
theorem dX7_init_135 : decode cX7_init 135 = .ok (.aload_n 0, 1) := by decide +kernel
theorem dX7_init_136 : decode cX7_init 136 = .ok (.sipush 160, 3) := by decide +kernel
theorem dX7_init_139 : decode cX7_init 139 = .ok (.newarray .long, 2) := by decide +kernel
theorem dX7_init_141 : decode cX7_init 141 = .ok (.putfield 66, 3) := by decide +kernel
theorem dX7_init_144 : decode cX7_init 144 = .ok (.aload_n 0, 1) := by decide +kernel
theorem dX7_init_145 : decode cX7_init 145 = .ok (.bipush 36, 2) := by decide +kernel
theorem dX7_init_147 : decode cX7_init 147 = .ok (.newarray .int, 2) := by decide +kernel
theorem dX7_init_149 : decode cX7_init 149 = .ok (.dup, 1) := by decide +kernel
theorem dX7_init_150 : decode cX7_init 150 = .ok (.iconst 0, 1) := by decide +kernel
theorem dX7_init_151 : decode cX7_init 151 = .ok (.bipush 99, 2) := by decide +kernel
theorem dX7_init_153 : decode cX7_init 153 = .ok (.iastore, 1) := by decide +kernel
theorem dX7_init_154 : decode cX7_init 154 = .ok (.dup, 1) := by decide +kernel
theorem dX7_init_155 : decode cX7_init 155 = .ok (.iconst 1, 1) := by decide +kernel
theorem dX7_init_156 : decode cX7_init 156 = .ok (.bipush 111, 2) := by decide +kernel
theorem dX7_init_158 : decode cX7_init 158 = .ok (.iastore, 1) := by decide +kernel
theorem dX7_init_159 : decode cX7_init 159 = .ok (.dup, 1) := by decide +kernel
theorem dX7_init_160 : decode cX7_init 160 = .ok (.iconst 2, 1) := by decide +kernel
theorem dX7_init_161 : decode cX7_init 161 = .ok (.bipush 109, 2) := by decide +kernel
theorem dX7_init_163 : decode cX7_init 163 = .ok (.iastore, 1) := by decide +kernel
theorem dX7_init_164 : decode cX7_init 164 = .ok (.dup, 1) := by decide +kernel
theorem dX7_init_165 : decode cX7_init 165 = .ok (.iconst 3, 1) := by decide +kernel
theorem dX7_init_166 : decode cX7_init 166 = .ok (.bipush 101, 2) := by decide +kernel
theorem dX7_init_168 : decode cX7_init 168 = .ok (.iastore, 1) := by decide +kernel
theorem dX7_init_169 : decode cX7_init 169 = .ok (.dup, 1) := by decide +kernel
theorem dX7_init_170 : decode cX7_init 170 = .ok (.iconst 4, 1) := by decide +kernel
theorem dX7_init_171 : decode cX7_init 171 = .ok (.bipush 114, 2) := by decide +kernel
theorem dX7_init_173 : decode cX7_init 173 = .ok (.iastore, 1) := by decide +kernel
theorem dX7_init_174 : decode cX7_init 174 = .ok (.dup, 1) := by decide +kernel
theorem dX7_init_175 : decode cX7_init 175 = .ok (.iconst 5, 1) := by decide +kernel
theorem dX7_init_176 : decode cX7_init 176 = .ok (.bipush 32, 2) := by decide +kernel
theorem dX7_init_178 : decode cX7_init 178 = .ok (.iastore, 1) := by decide +kernel
theorem dX7_init_179 : decode cX7_init 179 = .ok (.dup, 1) := by decide +kernel
theorem dX7_init_180 : decode cX7_init 180 = .ok (.bipush 6, 2) := by decide +kernel
theorem dX7_init_182 : decode cX7_init 182 = .ok (.iconst 0, 1) := by decide +kernel
theorem dX7_init_183 : decode cX7_init 183 = .ok (.iastore, 1) := by decide +kernel
theorem dX7_init_184 : decode cX7_init 184 = .ok (.dup, 1) := by decide +kernel
theorem dX7_init_185 : decode cX7_init 185 = .ok (.bipush 7, 2) := by decide +kernel
theorem dX7_init_187 : decode cX7_init 187 = .ok (.bipush 100, 2) := by decide +kernel
theorem dX7_init_189 : decode cX7_init 189 = .ok (.iastore, 1) := by decide +kernel
theorem dX7_init_190 : decode cX7_init 190 = .ok (.dup, 1) := by decide +kernel
theorem dX7_init_191 : decode cX7_init 191 = .ok (.bipush 8, 2) := by decide +kernel
theorem dX7_init_193 : decode cX7_init 193 = .ok (.bipush 111, 2) := by decide +kernel
theorem dX7_init_195 : decode cX7_init 195 = .ok (.iastore, 1) := by decide +kernel
theorem dX7_init_196 : decode cX7_init 196 = .ok (.dup, 1) := by decide +kernel
theorem dX7_init_197 : decode cX7_init 197 = .ok (.bipush 9, 2) := by decide +kernel
theorem dX7_init_199 : decode cX7_init 199 = .ok (.bipush 117, 2) := by decide +kernel
theorem dX7_init_201 : decode cX7_init 201 = .ok (.iastore, 1) := by decide +kernel
theorem dX7_init_202 : decode cX7_init 202 = .ok (.dup, 1) := by decide +kernel
theorem dX7_init_203 : decode cX7_init 203 = .ok (.bipush 10, 2) := by decide +kernel
theorem dX7_init_205 : decode cX7_init 205 = .ok (.bipush 98, 2) := by decide +kernel
theorem dX7_init_207 : decode cX7_init 207 = .ok (.iastore, 1) := by decide +kernel
theorem dX7_init_208 : decode cX7_init 208 = .ok (.dup, 1) := by decide +kernel
theorem dX7_init_209 : decode cX7_init 209 = .ok (.bipush 11, 2) := by decide +kernel
theorem dX7_init_211 : decode cX7_init 211 = .ok (.bipush 116, 2) := by decide +kernel
theorem dX7_init_213 : decode cX7_init 213 = .ok (.iastore, 1) := by decide +kernel
theorem dX7_init_214 : decode cX7_init 214 = .ok (.dup, 1) := by decide +kernel
theorem dX7_init_215 : decode cX7_init 215 = .ok (.bipush 12, 2) := by decide +kernel
theorem dX7_init_217 : decode cX7_init 217 = .ok (.bipush 32, 2) := by decide +kernel
theorem dX7_init_219 : decode cX7_init 219 = .ok (.iastore, 1) := by decide +kernel
theorem dX7_init_220 : decode cX7_init 220 = .ok (.dup, 1) := by decide +kernel
theorem dX7_init_221 : decode cX7_init 221 = .ok (.bipush 13, 2) := by decide +kernel
theorem dX7_init_223 : decode cX7_init 223 = .ok (.iconst 0, 1) := by decide +kernel
theorem dX7_init_224 : decode cX7_init 224 = .ok (.iastore, 1) := by decide +kernel
theorem dX7_init_225 : decode cX7_init 225 = .ok (.dup, 1) := by decide +kernel
theorem dX7_init_226 : decode cX7_init 226 = .ok (.bipush 14, 2) := by decide +kernel
theorem dX7_init_228 : decode cX7_init 228 = .ok (.bipush 119, 2) := by decide +kernel
theorem dX7_init_230 : decode cX7_init 230 = .ok (.iastore, 1) := by decide +kernel
theorem dX7_init_231 : decode cX7_init 231 = .ok (.dup, 1) := by decide +kernel
theorem dX7_init_232 : decode cX7_init 232 = .ok (.bipush 15, 2) := by decide +kernel
theorem dX7_init_234 : decode cX7_init 234 = .ok (.bipush 97, 2) := by decide +kernel
theorem dX7_init_236 : decode cX7_init 236 = .ok (.iastore, 1) := by decide +kernel
theorem dX7_init_237 : decode cX7_init 237 = .ok (.dup, 1) := by decide +kernel
theorem dX7_init_238 : decode cX7_init 238 = .ok (.bipush 16, 2) := by decide +kernel
theorem dX7_init_240 : decode cX7_init 240 = .ok (.bipush 121, 2) := by decide +kernel
theorem dX7_init_242 : decode cX7_init 242 = .ok (.iastore, 1) := by decide +kernel
theorem dX7_init_243 : decode cX7_init 243 = .ok (.dup, 1) := by decide +kernel
theorem dX7_init_244 : decode cX7_init 244 = .ok (.bipush 17, 2) := by decide +kernel
theorem dX7_init_246 : decode cX7_init 246 = .ok (.bipush 32, 2) := by decide +kernel
theorem dX7_init_248 : decode cX7_init 248 = .ok (.iastore, 1) := by decide +kernel
theorem dX7_init_249 : decode cX7_init 249 = .ok (.dup, 1) := by decide +kernel
theorem dX7_init_250 : decode cX7_init 250 = .ok (.bipush 18, 2) := by decide +kernel
theorem dX7_init_252 : decode cX7_init 252 = .ok (.iconst 0, 1) := by decide +kernel
theorem dX7_init_253 : decode cX7_init 253 = .ok (.iastore, 1) := by decide +kernel
theorem dX7_init_254 : decode cX7_init 254 = .ok (.dup, 1) := by decide +kernel
theorem dX7_init_255 : decode cX7_init 255 = .ok (.bipush 19, 2) := by decide +kernel
theorem dX7_init_257 : decode cX7_init 257 = .ok (.bipush 102, 2) := by decide +kernel
theorem dX7_init_259 : decode cX7_init 259 = .ok (.iastore, 1) := by decide +kernel
theorem dX7_init_260 : decode cX7_init 260 = .ok (.dup, 1) := by decide +kernel
theorem dX7_init_261 : decode cX7_init 261 = .ok (.bipush 20, 2) := by decide +kernel
theorem dX7_init_263 : decode cX7_init 263 = .ok (.bipush 111, 2) := by decide +kernel
theorem dX7_init_265 : decode cX7_init 265 = .ok (.iastore, 1) := by decide +kernel
theorem dX7_init_266 : decode cX7_init 266 = .ok (.dup, 1) := by decide +kernel
theorem dX7_init_267 : decode cX7_init 267 = .ok (.bipush 21, 2) := by decide +kernel
theorem dX7_init_269 : decode cX7_init 269 = .ok (.bipush 103, 2) := by decide +kernel
theorem dX7_init_271 : decode cX7_init 271 = .ok (.iastore, 1) := by decide +kernel
theorem dX7_init_272 : decode cX7_init 272 = .ok (.dup, 1) := by decide +kernel
theorem dX7_init_273 : decode cX7_init 273 = .ok (.bipush 22, 2) := by decide +kernel
theorem dX7_init_275 : decode cX7_init 275 = .ok (.bipush 32, 2) := by decide +kernel
theorem dX7_init_277 : decode cX7_init 277 = .ok (.iastore, 1) := by decide +kernel
theorem dX7_init_278 : decode cX7_init 278 = .ok (.dup, 1) := by decide +kernel
theorem dX7_init_279 : decode cX7_init 279 = .ok (.bipush 23, 2) := by decide +kernel
theorem dX7_init_281 : decode cX7_init 281 = .ok (.iconst 0, 1) := by decide +kernel
theorem dX7_init_282 : decode cX7_init 282 = .ok (.iastore, 1) := by decide +kernel
theorem dX7_init_283 : decode cX7_init 283 = .ok (.dup, 1) := by decide +kernel
theorem dX7_init_284 : decode cX7_init 284 = .ok (.bipush 24, 2) := by decide +kernel
theorem dX7_init_286 : decode cX7_init 286 = .ok (.bipush 116, 2) := by decide +kernel
theorem dX7_init_288 : decode cX7_init 288 = .ok (.iastore, 1) := by decide +kernel
theorem dX7_init_289 : decode cX7_init 289 = .ok (.dup, 1) := by decide +kernel
theorem dX7_init_290 : decode cX7_init 290 = .ok (.bipush 25, 2) := by decide +kernel
theorem dX7_init_292 : decode cX7_init 292 = .ok (.bipush 111, 2) := by decide +kernel
theorem dX7_init_294 : decode cX7_init 294 = .ok (.iastore, 1) := by decide +kernel
theorem dX7_init_295 : decode cX7_init 295 = .ok (.dup, 1) := by decide +kernel
theorem dX7_init_296 : decode cX7_init 296 = .ok (.bipush 26, 2) := by decide +kernel
theorem dX7_init_298 : decode cX7_init 298 = .ok (.bipush 108, 2) := by decide +kernel
theorem dX7_init_300 : decode cX7_init 300 = .ok (.iastore, 1) := by decide +kernel
theorem dX7_init_301 : decode cX7_init 301 = .ok (.dup, 1) := by decide +kernel
theorem dX7_init_302 : decode cX7_init 302 = .ok (.bipush 27, 2) := by decide +kernel
theorem dX7_init_304 : decode cX7_init 304 = .ok (.bipush 108, 2) := by decide +kernel
theorem dX7_init_306 : decode cX7_init 306 = .ok (.iastore, 1) := by decide +kernel
theorem dX7_init_307 : decode cX7_init 307 = .ok (.dup, 1) := by decide +kernel
theorem dX7_init_308 : decode cX7_init 308 = .ok (.bipush 28, 2) := by decide +kernel
theorem dX7_init_310 : decode cX7_init 310 = .ok (.bipush 32, 2) := by decide +kernel
theorem dX7_init_312 : decode cX7_init 312 = .ok (.iastore, 1) := by decide +kernel
theorem dX7_init_313 : decode cX7_init 313 = .ok (.dup, 1) := by decide +kernel
theorem dX7_init_314 : decode cX7_init 314 = .ok (.bipush 29, 2) := by decide +kernel
theorem dX7_init_316 : decode cX7_init 316 = .ok (.iconst 0, 1) := by decide +kernel
theorem dX7_init_317 : decode cX7_init 317 = .ok (.iastore, 1) := by decide +kernel
theorem dX7_init_318 : decode cX7_init 318 = .ok (.dup, 1) := by decide +kernel
theorem dX7_init_319 : decode cX7_init 319 = .ok (.bipush 30, 2) := by decide +kernel
theorem dX7_init_321 : decode cX7_init 321 = .ok (.bipush 112, 2) := by decide +kernel
theorem dX7_init_323 : decode cX7_init 323 = .ok (.iastore, 1) := by decide +kernel
theorem dX7_init_324 : decode cX7_init 324 = .ok (.dup, 1) := by decide +kernel
theorem dX7_init_325 : decode cX7_init 325 = .ok (.bipush 31, 2) := by decide +kernel
theorem dX7_init_327 : decode cX7_init 327 = .ok (.bipush 117, 2) := by decide +kernel
theorem dX7_init_329 : decode cX7_init 329 = .ok (.iastore, 1) := by decide +kernel
theorem dX7_init_330 : decode cX7_init 330 = .ok (.dup, 1) := by decide +kernel
theorem dX7_init_331 : decode cX7_init 331 = .ok (.bipush 32, 2) := by decide +kernel
theorem dX7_init_333 : decode cX7_init 333 = .ok (.bipush 115, 2) := by decide +kernel
theorem dX7_init_335 : decode cX7_init 335 = .ok (.iastore, 1) := by decide +kernel
theorem dX7_init_336 : decode cX7_init 336 = .ok (.dup, 1) := by decide +kernel
theorem dX7_init_337 : decode cX7_init 337 = .ok (.bipush 33, 2) := by decide +kernel
theorem dX7_init_339 : decode cX7_init 339 = .ok (.bipush 104, 2) := by decide +kernel
theorem dX7_init_341 : decode cX7_init 341 = .ok (.iastore, 1) := by decide +kernel
theorem dX7_init_342 : decode cX7_init 342 = .ok (.dup, 1) := by decide +kernel
theorem dX7_init_343 : decode cX7_init 343 = .ok (.bipush 34, 2) := by decide +kernel
theorem dX7_init_345 : decode cX7_init 345 = .ok (.bipush 32, 2) := by decide +kernel
theorem dX7_init_347 : decode cX7_init 347 = .ok (.iastore, 1) := by decide +kernel
theorem dX7_init_348 : decode cX7_init 348 = .ok (.dup, 1) := by decide +kernel
theorem dX7_init_349 : decode cX7_init 349 = .ok (.bipush 35, 2) := by decide +kernel
theorem dX7_init_351 : decode cX7_init 351 = .ok (.iconst 0, 1) := by decide +kernel
theorem dX7_init_352 : decode cX7_init 352 = .ok (.iastore, 1) := by decide +kernel
theorem dX7_init_353 : decode cX7_init 353 = .ok (.putfield 69, 3) := by decide +kernel
theorem dX7_init_356 : decode cX7_init 356 = .ok (.aload_n 0, 1) := by decide +kernel
theorem dX7_init_357 : decode cX7_init 357 = .ok (.bipush 6, 2) := by decide +kernel
theorem dX7_init_359 : decode cX7_init 359 = .ok (.newarray .int, 2) := by decide +kernel
theorem dX7_init_361 : decode cX7_init 361 = .ok (.dup, 1) := by decide +kernel
theorem dX7_init_362 : decode cX7_init 362 = .ok (.iconst 0, 1) := by decide +kernel
theorem dX7_init_363 : decode cX7_init 363 = .ok (.bipush 6, 2) := by decide +kernel
theorem dX7_init_365 : decode cX7_init 365 = .ok (.iastore, 1) := by decide +kernel
theorem dX7_init_366 : decode cX7_init 366 = .ok (.dup, 1) := by decide +kernel
theorem dX7_init_367 : decode cX7_init 367 = .ok (.iconst 1, 1) := by decide +kernel
theorem dX7_init_368 : decode cX7_init 368 = .ok (.iconst 2, 1) := by decide +kernel
theorem dX7_init_369 : decode cX7_init 369 = .ok (.iastore, 1) := by decide +kernel
theorem dX7_init_370 : decode cX7_init 370 = .ok (.dup, 1) := by decide +kernel
theorem dX7_init_371 : decode cX7_init 371 = .ok (.iconst 2, 1) := by decide +kernel
theorem dX7_init_372 : decode cX7_init 372 = .ok (.iconst 1, 1) := by decide +kernel
theorem dX7_init_373 : decode cX7_init 373 = .ok (.iastore, 1) := by decide +kernel
theorem dX7_init_374 : decode cX7_init 374 = .ok (.dup, 1) := by decide +kernel
theorem dX7_init_375 : decode cX7_init 375 = .ok (.iconst 3, 1) := by decide +kernel
theorem dX7_init_376 : decode cX7_init 376 = .ok (.iconst 1, 1) := by decide +kernel
theorem dX7_init_377 : decode cX7_init 377 = .ok (.iastore, 1) := by decide +kernel
theorem dX7_init_378 : decode cX7_init 378 = .ok (.dup, 1) := by decide +kernel
theorem dX7_init_379 : decode cX7_init 379 = .ok (.iconst 4, 1) := by decide +kernel
theorem dX7_init_380 : decode cX7_init 380 = .ok (.iconst 1, 1) := by decide +kernel
theorem dX7_init_381 : decode cX7_init 381 = .ok (.iastore, 1) := by decide +kernel
theorem dX7_init_382 : decode cX7_init 382 = .ok (.dup, 1) := by decide +kernel
theorem dX7_init_383 : decode cX7_init 383 = .ok (.iconst 5, 1) := by decide +kernel
theorem dX7_init_384 : decode cX7_init 384 = .ok (.iconst 1, 1) := by decide +kernel
theorem dX7_init_385 : decode cX7_init 385 = .ok (.iastore, 1) := by decide +kernel
theorem dX7_init_386 : decode cX7_init 386 = .ok (.putfield 72, 3) := by decide +kernel
theorem dX7_init_389 : decode cX7_init 389 = .ok (.aload_n 0, 1) := by decide +kernel
theorem dX7_init_390 : decode cX7_init 390 = .ok (.bipush 6, 2) := by decide +kernel
theorem dX7_init_392 : decode cX7_init 392 = .ok (.newarray .int, 2) := by decide +kernel
theorem dX7_init_394 : decode cX7_init 394 = .ok (.dup, 1) := by decide +kernel
theorem dX7_init_395 : decode cX7_init 395 = .ok (.iconst 0, 1) := by decide +kernel
theorem dX7_init_396 : decode cX7_init 396 = .ok (.bipush 6, 2) := by decide +kernel
theorem dX7_init_398 : decode cX7_init 398 = .ok (.iastore, 1) := by decide +kernel
theorem dX7_init_399 : decode cX7_init 399 = .ok (.dup, 1) := by decide +kernel
theorem dX7_init_400 : decode cX7_init 400 = .ok (.iconst 1, 1) := by decide +kernel
theorem dX7_init_401 : decode cX7_init 401 = .ok (.bipush 9, 2) := by decide +kernel
theorem dX7_init_403 : decode cX7_init 403 = .ok (.iastore, 1) := by decide +kernel
theorem dX7_init_404 : decode cX7_init 404 = .ok (.dup, 1) := by decide +kernel
theorem dX7_init_405 : decode cX7_init 405 = .ok (.iconst 2, 1) := by decide +kernel
theorem dX7_init_406 : decode cX7_init 406 = .ok (.bipush 30, 2) := by decide +kernel
theorem dX7_init_408 : decode cX7_init 408 = .ok (.iastore, 1) := by decide +kernel
theorem dX7_init_409 : decode cX7_init 409 = .ok (.dup, 1) := by decide +kernel
theorem dX7_init_410 : decode cX7_init 410 = .ok (.iconst 3, 1) := by decide +kernel
theorem dX7_init_411 : decode cX7_init 411 = .ok (.bipush 9, 2) := by decide +kernel
theorem dX7_init_413 : decode cX7_init 413 = .ok (.iastore, 1) := by decide +kernel
theorem dX7_init_414 : decode cX7_init 414 = .ok (.dup, 1) := by decide +kernel
theorem dX7_init_415 : decode cX7_init 415 = .ok (.iconst 4, 1) := by decide +kernel
theorem dX7_init_416 : decode cX7_init 416 = .ok (.bipush 9, 2) := by decide +kernel
theorem dX7_init_418 : decode cX7_init 418 = .ok (.iastore, 1) := by decide +kernel
theorem dX7_init_419 : decode cX7_init 419 = .ok (.dup, 1) := by decide +kernel
theorem dX7_init_420 : decode cX7_init 420 = .ok (.iconst 5, 1) := by decide +kernel
theorem dX7_init_421 : decode cX7_init 421 = .ok (.bipush 99, 2) := by decide +kernel
theorem dX7_init_423 : decode cX7_init 423 = .ok (.iastore, 1) := by decide +kernel
theorem dX7_init_424 : decode cX7_init 424 = .ok (.putfield 75, 3) := by decide +kernel
theorem dX7_init_427 : decode cX7_init 427 = .ok (.aload_n 0, 1) := by decide +kernel
theorem dX7_init_428 : decode cX7_init 428 = .ok (.bipush 6, 2) := by decide +kernel
theorem dX7_init_430 : decode cX7_init 430 = .ok (.newarray .int, 2) := by decide +kernel
theorem dX7_init_432 : decode cX7_init 432 = .ok (.putfield 78, 3) := by decide +kernel
theorem dX7_init_435 : decode cX7_init 435 = .ok (.aload_n 0, 1) := by decide +kernel
theorem dX7_init_436 : decode cX7_init 436 = .ok (.bipush 60, 2) := by decide +kernel
theorem dX7_init_438 : decode cX7_init 438 = .ok (.newarray .int, 2) := by decide +kernel
theorem dX7_init_440 : decode cX7_init 440 = .ok (.putfield 81, 3) := by decide +kernel
theorem dX7_init_443 : decode cX7_init 443 = .ok (.aload_n 0, 1) := by decide +kernel
theorem dX7_init_444 : decode cX7_init 444 = .ok (.bipush 60, 2) := by decide +kernel
theorem dX7_init_446 : decode cX7_init 446 = .ok (.newarray .int, 2) := by decide +kernel
theorem dX7_init_448 : decode cX7_init 448 = .ok (.putfield 84, 3) := by decide +kernel
theorem dX7_init_451 : decode cX7_init 451 = .ok (.aload_n 0, 1) := by decide +kernel
theorem dX7_init_452 : decode cX7_init 452 = .ok (.bipush 7, 2) := by decide +kernel
theorem dX7_init_454 : decode cX7_init 454 = .ok (.newarray .int, 2) := by decide +kernel
theorem dX7_init_456 : decode cX7_init 456 = .ok (.putfield 87, 3) := by decide +kernel
theorem dX7_init_459 : decode cX7_init 459 = .ok (.aload_n 0, 1) := by decide +kernel
theorem dX7_init_460 : decode cX7_init 460 = .ok (.bipush 7, 2) := by decide +kernel
theorem dX7_init_462 : decode cX7_init 462 = .ok (.newarray .int, 2) := by decide +kernel
theorem dX7_init_464 : decode cX7_init 464 = .ok (.putfield 90, 3) := by decide +kernel
theorem dX7_init_467 : decode cX7_init 467 = .ok (.aload_n 0, 1) := by decide +kernel
theorem dX7_init_468 : decode cX7_init 468 = .ok (.bipush 7, 2) := by decide +kernel
theorem dX7_init_470 : decode cX7_init 470 = .ok (.newarray .int, 2) := by decide +kernel
theorem dX7_init_472 : decode cX7_init 472 = .ok (.putfield 93, 3) := by decide +kernel
theorem dX7_init_475 : decode cX7_init 475 = .ok (.aload_n 0, 1) := by decide +kernel
theorem dX7_init_476 : decode cX7_init 476 = .ok (.bipush 20, 2) := by decide +kernel
theorem dX7_init_478 : decode cX7_init 478 = .ok (.newarray .int, 2) := by decide +kernel
theorem dX7_init_480 : decode cX7_init 480 = .ok (.putfield 96, 3) := by decide +kernel
theorem dX7_init_483 : decode cX7_init 483 = .ok (.return_, 1) := by decide +kernel
abbrev k_X7_init : zK := (cX7_init, 1, RX7, none, ({ frames := 1, cells := 24, slots := 1744, locals := 12 } : Room))
theorem zc_X7_init : zcal yX7_init k_X7_init.1 k_X7_init.2.1 k_X7_init.2.2.2.1 0 := ⟨tw_code_yX7_init, tw_i_TollForHesitatorsModel, ⟨by decide +kernel, by decide +kernel⟩, by decide +kernel⟩
def F0_X7_init : Nat → Value := fun j => ([.int 0, .int 0, .int 0, .int 0, .int 0, .int 0, .int 0, .int 0, .null, .null, .null, .null, .null, .null, .null, .null, .null, .null, .null, .null, .null, .null, .null, .null, .null, .null, .int 0, .int 0, .int 0, .int 0, .int 0, .null, .null, .null, .null, .null, .int 0, .int 0, .int 0, .int 0, .int 0, .int 0, .null, .int 0, .int 0] : List Value).getD j .null
set_option maxRecDepth 8000 in
set_option maxHeartbeats 40000000 in
theorem c_X7_init {l : Launch} (G : zG) (P : pT) (q : Nat) (sz : Nat) : Met l yX7_init (.code yX7_init k_X7_init.1 k_X7_init.2.1 k_X7_init.2.2.2.1 :: TS) k_X7_init.2.2.2.2 (Pz G [.ref q] (Fw G (gX G P) ([(q, .inr (7, [.int 0, .int 0, .int 0, .int 0, .int 0, .int 0, .int 0, .int 0, .null, .null, .null, .null, .null, .null, .null, .null, .null, .null, .null, .null, .null, .null, .null, .null, .null, .null, .int 0, .int 0, .int 0, .int 0, .int 0, .null, .null, .null, .null, .null, .int 0, .int 0, .int 0, .int 0, .int 0, .int 0, .null, .int 0, .int 0]))]) sz)) (Qwv G (fun w => ∃ a : Nat → Nat, a 0 = q ∧ w = mW G a mI) (va_A ([(q, .inr (7, [.int 0, .int 0, .int 0, .int 0, .int 0, .int 0, .int 0, .int 0, .null, .null, .null, .null, .null, .null, .null, .null, .null, .null, .null, .null, .null, .null, .null, .null, .null, .null, .int 0, .int 0, .int 0, .int 0, .int 0, .null, .null, .null, .null, .null, .int 0, .int 0, .int 0, .int 0, .int 0, .int 0, .null, .int 0, .int 0]))]) sz)) 24 1744 (va_A ([(q, .inr (7, [.int 0, .int 0, .int 0, .int 0, .int 0, .int 0, .int 0, .int 0, .null, .null, .null, .null, .null, .null, .null, .null, .null, .null, .null, .null, .null, .null, .null, .null, .null, .null, .int 0, .int 0, .int 0, .int 0, .int 0, .null, .null, .null, .null, .null, .int 0, .int 0, .int 0, .int 0, .int 0, .int 0, .null, .int 0, .int 0]))]) sz) := by
  refine zmet (K := k_X7_init) (by decide +kernel) rfl rfl (fun Γ hl0 hQ hN hF => ?_)
  refine z_start (gX_ok G P) hF (fun hw => ?_)
  generalize va_A ([(q, .inr (7, [.int 0, .int 0, .int 0, .int 0, .int 0, .int 0, .int 0, .int 0, .null, .null, .null, .null, .null, .null, .null, .null, .null, .null, .null, .null, .null, .null, .null, .null, .null, .null, .int 0, .int 0, .int 0, .int 0, .int 0, .null, .null, .null, .null, .null, .int 0, .int 0, .int 0, .int 0, .int 0, .int 0, .null, .int 0, .int 0]))]) sz = A at hQ hw ⊢
  show Z k_X7_init G Γ _ 0 0 [(0, .ref q)] 0 []
  refine z_eqw (ws' := (q, .inr (7, fl 45 F0_X7_init)) :: []) rfl ?_
  refine z_aload_n dX7_init_0 rfl ?_
  refine z_objinit tw_m_RX7_1 tw_inst_objectInit tw_objcode ⟨Nat.le_of_ble_eq_true rfl, Nat.le_of_ble_eq_true rfl⟩ dX7_init_1 ?_
  refine z_aload_n dX7_init_4 rfl ?_
  refine z_bipush (v := 8) dX7_init_5 rfl ?_
  refine z_putU (v := .int 8) rfl uin_X7 tyX7 tyX7_ok nmX7 1 (Nat.le_of_ble_eq_true rfl) tw_f_RX7_7 rfl rfl (ty := .int) rfl rfl rfl dX7_init_7 ?_
  refine z_aload_n dX7_init_10 rfl ?_
  refine z_iconst (v := 5) dX7_init_11 rfl ?_
  refine z_putU (v := .int 5) rfl uin_X7 tyX7 tyX7_ok nmX7 3 (Nat.le_of_ble_eq_true rfl) tw_f_RX7_13 rfl rfl (ty := .int) rfl rfl rfl dX7_init_12 ?_
  refine z_aload_n dX7_init_15 rfl ?_
  refine z_iconst (v := 1) dX7_init_16 rfl ?_
  refine z_putU (v := .int 1) rfl uin_X7 tyX7 tyX7_ok nmX7 4 (Nat.le_of_ble_eq_true rfl) tw_f_RX7_16 rfl rfl (ty := .int) rfl rfl rfl dX7_init_17 ?_
  refine z_aload_n dX7_init_20 rfl ?_
  refine z_iconst (v := 1) dX7_init_21 rfl ?_
  refine z_putU (v := .int 1) rfl uin_X7 tyX7 tyX7_ok nmX7 6 (Nat.le_of_ble_eq_true rfl) tw_f_RX7_19 rfl rfl (ty := .int) rfl rfl rfl dX7_init_22 ?_
  refine z_aload_n dX7_init_25 rfl ?_
  refine z_iconst (v := (-1)) dX7_init_26 rfl ?_
  refine z_putU (v := .int (-1)) rfl uin_X7 tyX7 tyX7_ok nmX7 7 (Nat.le_of_ble_eq_true rfl) tw_f_RX7_22 rfl rfl (ty := .int) rfl rfl rfl dX7_init_27 ?_
  refine z_aload_n dX7_init_30 rfl ?_
  refine z_bipush (v := 8) dX7_init_31 rfl ?_
  refine z_newi (N := 8) hw tw_o_84 (by decide) (by decide) (by decide) (Nat.le_of_ble_eq_true rfl) (Nat.le_of_ble_eq_true rfl) dX7_init_33 (fun a1 => ?_)
  refine z_putFU (v := .ref a1) hN rfl uin_X7 tyX7 tyX7_ok nmX7 8 (Nat.le_of_ble_eq_true rfl) tw_f_RX7_25 rfl rfl rfl (ty := (.array .int)) rfl rfl rfl dX7_init_35 ?_
  refine z_aload_n dX7_init_38 rfl ?_
  refine z_bipush (v := 7) dX7_init_39 rfl ?_
  refine z_newi (N := 7) hw tw_o_84 (by decide) (by decide) (by decide) (Nat.le_of_ble_eq_true rfl) (Nat.le_of_ble_eq_true rfl) dX7_init_41 (fun a2 => ?_)
  refine z_putFU (v := .ref a2) hN rfl uin_X7 tyX7 tyX7_ok nmX7 9 (Nat.le_of_ble_eq_true rfl) tw_f_RX7_29 rfl rfl rfl (ty := (.array .int)) rfl rfl rfl dX7_init_43 ?_
  refine z_aload_n dX7_init_46 rfl ?_
  refine z_bipush (v := 7) dX7_init_47 rfl ?_
  refine z_newi (N := 7) hw tw_o_84 (by decide) (by decide) (by decide) (Nat.le_of_ble_eq_true rfl) (Nat.le_of_ble_eq_true rfl) dX7_init_49 (fun a3 => ?_)
  refine z_putFU (v := .ref a3) hN rfl uin_X7 tyX7 tyX7_ok nmX7 10 (Nat.le_of_ble_eq_true rfl) tw_f_RX7_32 rfl rfl rfl (ty := (.array .int)) rfl rfl rfl dX7_init_51 ?_
  refine z_aload_n dX7_init_54 rfl ?_
  refine z_bipush (v := 7) dX7_init_55 rfl ?_
  refine z_newi (N := 7) hw tw_o_84 (by decide) (by decide) (by decide) (Nat.le_of_ble_eq_true rfl) (Nat.le_of_ble_eq_true rfl) dX7_init_57 (fun a4 => ?_)
  refine z_putFU (v := .ref a4) hN rfl uin_X7 tyX7 tyX7_ok nmX7 11 (Nat.le_of_ble_eq_true rfl) tw_f_RX7_35 rfl rfl rfl (ty := (.array .int)) rfl rfl rfl dX7_init_59 ?_
  refine z_aload_n dX7_init_62 rfl ?_
  refine z_bipush (v := 7) dX7_init_63 rfl ?_
  refine z_newi (N := 7) hw tw_o_84 (by decide) (by decide) (by decide) (Nat.le_of_ble_eq_true rfl) (Nat.le_of_ble_eq_true rfl) dX7_init_65 (fun a5 => ?_)
  refine z_putFU (v := .ref a5) hN rfl uin_X7 tyX7 tyX7_ok nmX7 12 (Nat.le_of_ble_eq_true rfl) tw_f_RX7_38 rfl rfl rfl (ty := (.array .int)) rfl rfl rfl dX7_init_67 ?_
  refine z_aload_n dX7_init_70 rfl ?_
  refine z_bipush (v := 7) dX7_init_71 rfl ?_
  refine z_newi (N := 7) hw tw_o_84 (by decide) (by decide) (by decide) (Nat.le_of_ble_eq_true rfl) (Nat.le_of_ble_eq_true rfl) dX7_init_73 (fun a6 => ?_)
  refine z_putFU (v := .ref a6) hN rfl uin_X7 tyX7 tyX7_ok nmX7 13 (Nat.le_of_ble_eq_true rfl) tw_f_RX7_41 rfl rfl rfl (ty := (.array .int)) rfl rfl rfl dX7_init_75 ?_
  refine z_aload_n dX7_init_78 rfl ?_
  refine z_bipush (v := 7) dX7_init_79 rfl ?_
  refine z_newi (N := 7) hw tw_o_84 (by decide) (by decide) (by decide) (Nat.le_of_ble_eq_true rfl) (Nat.le_of_ble_eq_true rfl) dX7_init_81 (fun a7 => ?_)
  refine z_putFU (v := .ref a7) hN rfl uin_X7 tyX7 tyX7_ok nmX7 14 (Nat.le_of_ble_eq_true rfl) tw_f_RX7_44 rfl rfl rfl (ty := (.array .int)) rfl rfl rfl dX7_init_83 ?_
  refine z_aload_n dX7_init_86 rfl ?_
  refine z_bipush (v := 7) dX7_init_87 rfl ?_
  refine z_newi (N := 7) hw tw_o_84 (by decide) (by decide) (by decide) (Nat.le_of_ble_eq_true rfl) (Nat.le_of_ble_eq_true rfl) dX7_init_89 (fun a8 => ?_)
  refine z_putFU (v := .ref a8) hN rfl uin_X7 tyX7 tyX7_ok nmX7 15 (Nat.le_of_ble_eq_true rfl) tw_f_RX7_47 rfl rfl rfl (ty := (.array .int)) rfl rfl rfl dX7_init_91 ?_
  refine z_aload_n dX7_init_94 rfl ?_
  refine z_bipush (v := 8) dX7_init_95 rfl ?_
  refine z_newi (N := 8) hw tw_o_84 (by decide) (by decide) (by decide) (Nat.le_of_ble_eq_true rfl) (Nat.le_of_ble_eq_true rfl) dX7_init_97 (fun a9 => ?_)
  refine z_putFU (v := .ref a9) hN rfl uin_X7 tyX7 tyX7_ok nmX7 16 (Nat.le_of_ble_eq_true rfl) tw_f_RX7_50 rfl rfl rfl (ty := (.array .int)) rfl rfl rfl dX7_init_99 ?_
  refine z_aload_n dX7_init_102 rfl ?_
  refine z_bipush (v := 8) dX7_init_103 rfl ?_
  refine z_newi (N := 8) hw tw_o_84 (by decide) (by decide) (by decide) (Nat.le_of_ble_eq_true rfl) (Nat.le_of_ble_eq_true rfl) dX7_init_105 (fun a10 => ?_)
  refine z_putFU (v := .ref a10) hN rfl uin_X7 tyX7 tyX7_ok nmX7 17 (Nat.le_of_ble_eq_true rfl) tw_f_RX7_53 rfl rfl rfl (ty := (.array .int)) rfl rfl rfl dX7_init_107 ?_
  refine z_aload_n dX7_init_110 rfl ?_
  refine z_bipush (v := 8) dX7_init_111 rfl ?_
  refine z_newi (N := 8) hw tw_o_84 (by decide) (by decide) (by decide) (Nat.le_of_ble_eq_true rfl) (Nat.le_of_ble_eq_true rfl) dX7_init_113 (fun a11 => ?_)
  refine z_putFU (v := .ref a11) hN rfl uin_X7 tyX7 tyX7_ok nmX7 18 (Nat.le_of_ble_eq_true rfl) tw_f_RX7_56 rfl rfl rfl (ty := (.array .int)) rfl rfl rfl dX7_init_115 ?_
  refine z_aload_n dX7_init_118 rfl ?_
  refine z_bipush (v := 8) dX7_init_119 rfl ?_
  refine z_newi (N := 8) hw tw_o_84 (by decide) (by decide) (by decide) (Nat.le_of_ble_eq_true rfl) (Nat.le_of_ble_eq_true rfl) dX7_init_121 (fun a12 => ?_)
  refine z_putFU (v := .ref a12) hN rfl uin_X7 tyX7 tyX7_ok nmX7 19 (Nat.le_of_ble_eq_true rfl) tw_f_RX7_59 rfl rfl rfl (ty := (.array .int)) rfl rfl rfl dX7_init_123 ?_
  refine z_aload_n dX7_init_126 rfl ?_
  refine z_sipush (v := 1280) dX7_init_127 rfl ?_
  refine z_newl (N := 1280) hw tw_o_107 (by decide) (by decide) (by decide) (Nat.le_of_ble_eq_true rfl) (Nat.le_of_ble_eq_true rfl) dX7_init_130 (fun a13 => ?_)
  refine z_putFU (v := .ref a13) hN rfl uin_X7 tyX7 tyX7_ok nmX7 20 (Nat.le_of_ble_eq_true rfl) tw_f_RX7_62 rfl rfl rfl (ty := (.array .long)) rfl rfl rfl dX7_init_132 ?_
  refine z_aload_n dX7_init_135 rfl ?_
  refine z_sipush (v := 160) dX7_init_136 rfl ?_
  refine z_newl (N := 160) hw tw_o_107 (by decide) (by decide) (by decide) (Nat.le_of_ble_eq_true rfl) (Nat.le_of_ble_eq_true rfl) dX7_init_139 (fun a14 => ?_)
  refine z_putFU (v := .ref a14) hN rfl uin_X7 tyX7 tyX7_ok nmX7 21 (Nat.le_of_ble_eq_true rfl) tw_f_RX7_66 rfl rfl rfl (ty := (.array .long)) rfl rfl rfl dX7_init_141 ?_
  refine z_aload_n dX7_init_144 rfl ?_
  refine z_bipush (v := 36) dX7_init_145 rfl ?_
  refine z_newi (N := 36) hw tw_o_84 (by decide) (by decide) (by decide) (Nat.le_of_ble_eq_true rfl) (Nat.le_of_ble_eq_true rfl) dX7_init_147 (fun a15 => ?_)
  refine z_dup dX7_init_149 rfl ?_
  refine z_iconst (v := 0) dX7_init_150 rfl ?_
  refine z_bipush (v := 99) dX7_init_151 rfl ?_
  refine z_iastL (F := fa_fill t_words (fun _ => 0) 1) (vin rfl) ((congrArg (fun g => upd g 0 (t_words 0)) (fa_fill_0 t_words (fun _ => 0)).symm).trans (fa_fill_succ t_words (fun _ => 0) 0)) dX7_init_153 ?_
  refine z_dup dX7_init_154 rfl ?_
  refine z_iconst (v := 1) dX7_init_155 rfl ?_
  refine z_bipush (v := 111) dX7_init_156 rfl ?_
  refine z_iastL (F := fa_fill t_words (fun _ => 0) 2) (vin rfl) ((fa_fill_succ t_words (fun _ => 0) 1)) dX7_init_158 ?_
  refine z_dup dX7_init_159 rfl ?_
  refine z_iconst (v := 2) dX7_init_160 rfl ?_
  refine z_bipush (v := 109) dX7_init_161 rfl ?_
  refine z_iastL (F := fa_fill t_words (fun _ => 0) 3) (vin rfl) ((fa_fill_succ t_words (fun _ => 0) 2)) dX7_init_163 ?_
  refine z_dup dX7_init_164 rfl ?_
  refine z_iconst (v := 3) dX7_init_165 rfl ?_
  refine z_bipush (v := 101) dX7_init_166 rfl ?_
  refine z_iastL (F := fa_fill t_words (fun _ => 0) 4) (vin rfl) ((fa_fill_succ t_words (fun _ => 0) 3)) dX7_init_168 ?_
  refine z_dup dX7_init_169 rfl ?_
  refine z_iconst (v := 4) dX7_init_170 rfl ?_
  refine z_bipush (v := 114) dX7_init_171 rfl ?_
  refine z_iastL (F := fa_fill t_words (fun _ => 0) 5) (vin rfl) ((fa_fill_succ t_words (fun _ => 0) 4)) dX7_init_173 ?_
  refine z_dup dX7_init_174 rfl ?_
  refine z_iconst (v := 5) dX7_init_175 rfl ?_
  refine z_bipush (v := 32) dX7_init_176 rfl ?_
  refine z_iastL (F := fa_fill t_words (fun _ => 0) 6) (vin rfl) ((fa_fill_succ t_words (fun _ => 0) 5)) dX7_init_178 ?_
  refine z_dup dX7_init_179 rfl ?_
  refine z_bipush (v := 6) dX7_init_180 rfl ?_
  refine z_iconst (v := 0) dX7_init_182 rfl ?_
  refine z_iastL (F := fa_fill t_words (fun _ => 0) 7) (vin rfl) ((fa_fill_succ t_words (fun _ => 0) 6)) dX7_init_183 ?_
  refine z_dup dX7_init_184 rfl ?_
  refine z_bipush (v := 7) dX7_init_185 rfl ?_
  refine z_bipush (v := 100) dX7_init_187 rfl ?_
  refine z_iastL (F := fa_fill t_words (fun _ => 0) 8) (vin rfl) ((fa_fill_succ t_words (fun _ => 0) 7)) dX7_init_189 ?_
  refine z_dup dX7_init_190 rfl ?_
  refine z_bipush (v := 8) dX7_init_191 rfl ?_
  refine z_bipush (v := 111) dX7_init_193 rfl ?_
  refine z_iastL (F := fa_fill t_words (fun _ => 0) 9) (vin rfl) ((fa_fill_succ t_words (fun _ => 0) 8)) dX7_init_195 ?_
  refine z_dup dX7_init_196 rfl ?_
  refine z_bipush (v := 9) dX7_init_197 rfl ?_
  refine z_bipush (v := 117) dX7_init_199 rfl ?_
  refine z_iastL (F := fa_fill t_words (fun _ => 0) 10) (vin rfl) ((fa_fill_succ t_words (fun _ => 0) 9)) dX7_init_201 ?_
  refine z_dup dX7_init_202 rfl ?_
  refine z_bipush (v := 10) dX7_init_203 rfl ?_
  refine z_bipush (v := 98) dX7_init_205 rfl ?_
  refine z_iastL (F := fa_fill t_words (fun _ => 0) 11) (vin rfl) ((fa_fill_succ t_words (fun _ => 0) 10)) dX7_init_207 ?_
  refine z_dup dX7_init_208 rfl ?_
  refine z_bipush (v := 11) dX7_init_209 rfl ?_
  refine z_bipush (v := 116) dX7_init_211 rfl ?_
  refine z_iastL (F := fa_fill t_words (fun _ => 0) 12) (vin rfl) ((fa_fill_succ t_words (fun _ => 0) 11)) dX7_init_213 ?_
  refine z_dup dX7_init_214 rfl ?_
  refine z_bipush (v := 12) dX7_init_215 rfl ?_
  refine z_bipush (v := 32) dX7_init_217 rfl ?_
  refine z_iastL (F := fa_fill t_words (fun _ => 0) 13) (vin rfl) ((fa_fill_succ t_words (fun _ => 0) 12)) dX7_init_219 ?_
  refine z_dup dX7_init_220 rfl ?_
  refine z_bipush (v := 13) dX7_init_221 rfl ?_
  refine z_iconst (v := 0) dX7_init_223 rfl ?_
  refine z_iastL (F := fa_fill t_words (fun _ => 0) 14) (vin rfl) ((fa_fill_succ t_words (fun _ => 0) 13)) dX7_init_224 ?_
  refine z_dup dX7_init_225 rfl ?_
  refine z_bipush (v := 14) dX7_init_226 rfl ?_
  refine z_bipush (v := 119) dX7_init_228 rfl ?_
  refine z_iastL (F := fa_fill t_words (fun _ => 0) 15) (vin rfl) ((fa_fill_succ t_words (fun _ => 0) 14)) dX7_init_230 ?_
  refine z_dup dX7_init_231 rfl ?_
  refine z_bipush (v := 15) dX7_init_232 rfl ?_
  refine z_bipush (v := 97) dX7_init_234 rfl ?_
  refine z_iastL (F := fa_fill t_words (fun _ => 0) 16) (vin rfl) ((fa_fill_succ t_words (fun _ => 0) 15)) dX7_init_236 ?_
  refine z_dup dX7_init_237 rfl ?_
  refine z_bipush (v := 16) dX7_init_238 rfl ?_
  refine z_bipush (v := 121) dX7_init_240 rfl ?_
  refine z_iastL (F := fa_fill t_words (fun _ => 0) 17) (vin rfl) ((fa_fill_succ t_words (fun _ => 0) 16)) dX7_init_242 ?_
  refine z_dup dX7_init_243 rfl ?_
  refine z_bipush (v := 17) dX7_init_244 rfl ?_
  refine z_bipush (v := 32) dX7_init_246 rfl ?_
  refine z_iastL (F := fa_fill t_words (fun _ => 0) 18) (vin rfl) ((fa_fill_succ t_words (fun _ => 0) 17)) dX7_init_248 ?_
  refine z_dup dX7_init_249 rfl ?_
  refine z_bipush (v := 18) dX7_init_250 rfl ?_
  refine z_iconst (v := 0) dX7_init_252 rfl ?_
  refine z_iastL (F := fa_fill t_words (fun _ => 0) 19) (vin rfl) ((fa_fill_succ t_words (fun _ => 0) 18)) dX7_init_253 ?_
  refine z_dup dX7_init_254 rfl ?_
  refine z_bipush (v := 19) dX7_init_255 rfl ?_
  refine z_bipush (v := 102) dX7_init_257 rfl ?_
  refine z_iastL (F := fa_fill t_words (fun _ => 0) 20) (vin rfl) ((fa_fill_succ t_words (fun _ => 0) 19)) dX7_init_259 ?_
  refine z_dup dX7_init_260 rfl ?_
  refine z_bipush (v := 20) dX7_init_261 rfl ?_
  refine z_bipush (v := 111) dX7_init_263 rfl ?_
  refine z_iastL (F := fa_fill t_words (fun _ => 0) 21) (vin rfl) ((fa_fill_succ t_words (fun _ => 0) 20)) dX7_init_265 ?_
  refine z_dup dX7_init_266 rfl ?_
  refine z_bipush (v := 21) dX7_init_267 rfl ?_
  refine z_bipush (v := 103) dX7_init_269 rfl ?_
  refine z_iastL (F := fa_fill t_words (fun _ => 0) 22) (vin rfl) ((fa_fill_succ t_words (fun _ => 0) 21)) dX7_init_271 ?_
  refine z_dup dX7_init_272 rfl ?_
  refine z_bipush (v := 22) dX7_init_273 rfl ?_
  refine z_bipush (v := 32) dX7_init_275 rfl ?_
  refine z_iastL (F := fa_fill t_words (fun _ => 0) 23) (vin rfl) ((fa_fill_succ t_words (fun _ => 0) 22)) dX7_init_277 ?_
  refine z_dup dX7_init_278 rfl ?_
  refine z_bipush (v := 23) dX7_init_279 rfl ?_
  refine z_iconst (v := 0) dX7_init_281 rfl ?_
  refine z_iastL (F := fa_fill t_words (fun _ => 0) 24) (vin rfl) ((fa_fill_succ t_words (fun _ => 0) 23)) dX7_init_282 ?_
  refine z_dup dX7_init_283 rfl ?_
  refine z_bipush (v := 24) dX7_init_284 rfl ?_
  refine z_bipush (v := 116) dX7_init_286 rfl ?_
  refine z_iastL (F := fa_fill t_words (fun _ => 0) 25) (vin rfl) ((fa_fill_succ t_words (fun _ => 0) 24)) dX7_init_288 ?_
  refine z_dup dX7_init_289 rfl ?_
  refine z_bipush (v := 25) dX7_init_290 rfl ?_
  refine z_bipush (v := 111) dX7_init_292 rfl ?_
  refine z_iastL (F := fa_fill t_words (fun _ => 0) 26) (vin rfl) ((fa_fill_succ t_words (fun _ => 0) 25)) dX7_init_294 ?_
  refine z_dup dX7_init_295 rfl ?_
  refine z_bipush (v := 26) dX7_init_296 rfl ?_
  refine z_bipush (v := 108) dX7_init_298 rfl ?_
  refine z_iastL (F := fa_fill t_words (fun _ => 0) 27) (vin rfl) ((fa_fill_succ t_words (fun _ => 0) 26)) dX7_init_300 ?_
  refine z_dup dX7_init_301 rfl ?_
  refine z_bipush (v := 27) dX7_init_302 rfl ?_
  refine z_bipush (v := 108) dX7_init_304 rfl ?_
  refine z_iastL (F := fa_fill t_words (fun _ => 0) 28) (vin rfl) ((fa_fill_succ t_words (fun _ => 0) 27)) dX7_init_306 ?_
  refine z_dup dX7_init_307 rfl ?_
  refine z_bipush (v := 28) dX7_init_308 rfl ?_
  refine z_bipush (v := 32) dX7_init_310 rfl ?_
  refine z_iastL (F := fa_fill t_words (fun _ => 0) 29) (vin rfl) ((fa_fill_succ t_words (fun _ => 0) 28)) dX7_init_312 ?_
  refine z_dup dX7_init_313 rfl ?_
  refine z_bipush (v := 29) dX7_init_314 rfl ?_
  refine z_iconst (v := 0) dX7_init_316 rfl ?_
  refine z_iastL (F := fa_fill t_words (fun _ => 0) 30) (vin rfl) ((fa_fill_succ t_words (fun _ => 0) 29)) dX7_init_317 ?_
  refine z_dup dX7_init_318 rfl ?_
  refine z_bipush (v := 30) dX7_init_319 rfl ?_
  refine z_bipush (v := 112) dX7_init_321 rfl ?_
  refine z_iastL (F := fa_fill t_words (fun _ => 0) 31) (vin rfl) ((fa_fill_succ t_words (fun _ => 0) 30)) dX7_init_323 ?_
  refine z_dup dX7_init_324 rfl ?_
  refine z_bipush (v := 31) dX7_init_325 rfl ?_
  refine z_bipush (v := 117) dX7_init_327 rfl ?_
  refine z_iastL (F := fa_fill t_words (fun _ => 0) 32) (vin rfl) ((fa_fill_succ t_words (fun _ => 0) 31)) dX7_init_329 ?_
  refine z_dup dX7_init_330 rfl ?_
  refine z_bipush (v := 32) dX7_init_331 rfl ?_
  refine z_bipush (v := 115) dX7_init_333 rfl ?_
  refine z_iastL (F := fa_fill t_words (fun _ => 0) 33) (vin rfl) ((fa_fill_succ t_words (fun _ => 0) 32)) dX7_init_335 ?_
  refine z_dup dX7_init_336 rfl ?_
  refine z_bipush (v := 33) dX7_init_337 rfl ?_
  refine z_bipush (v := 104) dX7_init_339 rfl ?_
  refine z_iastL (F := fa_fill t_words (fun _ => 0) 34) (vin rfl) ((fa_fill_succ t_words (fun _ => 0) 33)) dX7_init_341 ?_
  refine z_dup dX7_init_342 rfl ?_
  refine z_bipush (v := 34) dX7_init_343 rfl ?_
  refine z_bipush (v := 32) dX7_init_345 rfl ?_
  refine z_iastL (F := fa_fill t_words (fun _ => 0) 35) (vin rfl) ((fa_fill_succ t_words (fun _ => 0) 34)) dX7_init_347 ?_
  refine z_dup dX7_init_348 rfl ?_
  refine z_bipush (v := 35) dX7_init_349 rfl ?_
  refine z_iconst (v := 0) dX7_init_351 rfl ?_
  refine z_iastL (F := fa_fill t_words (fun _ => 0) 36) (vin rfl) ((fa_fill_succ t_words (fun _ => 0) 35)) dX7_init_352 ?_
  refine z_putFU (v := .ref a15) hN rfl uin_X7 tyX7 tyX7_ok nmX7 22 (Nat.le_of_ble_eq_true rfl) tw_f_RX7_69 rfl rfl rfl (ty := (.array .int)) rfl rfl rfl dX7_init_353 ?_
  refine z_aload_n dX7_init_356 rfl ?_
  refine z_bipush (v := 6) dX7_init_357 rfl ?_
  refine z_newi (N := 6) hw tw_o_84 (by decide) (by decide) (by decide) (Nat.le_of_ble_eq_true rfl) (Nat.le_of_ble_eq_true rfl) dX7_init_359 (fun a16 => ?_)
  refine z_dup dX7_init_361 rfl ?_
  refine z_iconst (v := 0) dX7_init_362 rfl ?_
  refine z_bipush (v := 6) dX7_init_363 rfl ?_
  refine z_iastL (F := fa_fill t_numbers (fun _ => 0) 1) (vin rfl) ((congrArg (fun g => upd g 0 (t_numbers 0)) (fa_fill_0 t_numbers (fun _ => 0)).symm).trans (fa_fill_succ t_numbers (fun _ => 0) 0)) dX7_init_365 ?_
  refine z_dup dX7_init_366 rfl ?_
  refine z_iconst (v := 1) dX7_init_367 rfl ?_
  refine z_iconst (v := 2) dX7_init_368 rfl ?_
  refine z_iastL (F := fa_fill t_numbers (fun _ => 0) 2) (vin rfl) ((fa_fill_succ t_numbers (fun _ => 0) 1)) dX7_init_369 ?_
  refine z_dup dX7_init_370 rfl ?_
  refine z_iconst (v := 2) dX7_init_371 rfl ?_
  refine z_iconst (v := 1) dX7_init_372 rfl ?_
  refine z_iastL (F := fa_fill t_numbers (fun _ => 0) 3) (vin rfl) ((fa_fill_succ t_numbers (fun _ => 0) 2)) dX7_init_373 ?_
  refine z_dup dX7_init_374 rfl ?_
  refine z_iconst (v := 3) dX7_init_375 rfl ?_
  refine z_iconst (v := 1) dX7_init_376 rfl ?_
  refine z_iastL (F := fa_fill t_numbers (fun _ => 0) 4) (vin rfl) ((fa_fill_succ t_numbers (fun _ => 0) 3)) dX7_init_377 ?_
  refine z_dup dX7_init_378 rfl ?_
  refine z_iconst (v := 4) dX7_init_379 rfl ?_
  refine z_iconst (v := 1) dX7_init_380 rfl ?_
  refine z_iastL (F := fa_fill t_numbers (fun _ => 0) 5) (vin rfl) ((fa_fill_succ t_numbers (fun _ => 0) 4)) dX7_init_381 ?_
  refine z_dup dX7_init_382 rfl ?_
  refine z_iconst (v := 5) dX7_init_383 rfl ?_
  refine z_iconst (v := 1) dX7_init_384 rfl ?_
  refine z_iastL (F := fa_fill t_numbers (fun _ => 0) 6) (vin rfl) ((fa_fill_succ t_numbers (fun _ => 0) 5)) dX7_init_385 ?_
  refine z_putFU (v := .ref a16) hN rfl uin_X7 tyX7 tyX7_ok nmX7 23 (Nat.le_of_ble_eq_true rfl) tw_f_RX7_72 rfl rfl rfl (ty := (.array .int)) rfl rfl rfl dX7_init_386 ?_
  refine z_aload_n dX7_init_389 rfl ?_
  refine z_bipush (v := 6) dX7_init_390 rfl ?_
  refine z_newi (N := 6) hw tw_o_84 (by decide) (by decide) (by decide) (Nat.le_of_ble_eq_true rfl) (Nat.le_of_ble_eq_true rfl) dX7_init_392 (fun a17 => ?_)
  refine z_dup dX7_init_394 rfl ?_
  refine z_iconst (v := 0) dX7_init_395 rfl ?_
  refine z_bipush (v := 6) dX7_init_396 rfl ?_
  refine z_iastL (F := fa_fill t_mosts (fun _ => 0) 1) (vin rfl) ((congrArg (fun g => upd g 0 (t_mosts 0)) (fa_fill_0 t_mosts (fun _ => 0)).symm).trans (fa_fill_succ t_mosts (fun _ => 0) 0)) dX7_init_398 ?_
  refine z_dup dX7_init_399 rfl ?_
  refine z_iconst (v := 1) dX7_init_400 rfl ?_
  refine z_bipush (v := 9) dX7_init_401 rfl ?_
  refine z_iastL (F := fa_fill t_mosts (fun _ => 0) 2) (vin rfl) ((fa_fill_succ t_mosts (fun _ => 0) 1)) dX7_init_403 ?_
  refine z_dup dX7_init_404 rfl ?_
  refine z_iconst (v := 2) dX7_init_405 rfl ?_
  refine z_bipush (v := 30) dX7_init_406 rfl ?_
  refine z_iastL (F := fa_fill t_mosts (fun _ => 0) 3) (vin rfl) ((fa_fill_succ t_mosts (fun _ => 0) 2)) dX7_init_408 ?_
  refine z_dup dX7_init_409 rfl ?_
  refine z_iconst (v := 3) dX7_init_410 rfl ?_
  refine z_bipush (v := 9) dX7_init_411 rfl ?_
  refine z_iastL (F := fa_fill t_mosts (fun _ => 0) 4) (vin rfl) ((fa_fill_succ t_mosts (fun _ => 0) 3)) dX7_init_413 ?_
  refine z_dup dX7_init_414 rfl ?_
  refine z_iconst (v := 4) dX7_init_415 rfl ?_
  refine z_bipush (v := 9) dX7_init_416 rfl ?_
  refine z_iastL (F := fa_fill t_mosts (fun _ => 0) 5) (vin rfl) ((fa_fill_succ t_mosts (fun _ => 0) 4)) dX7_init_418 ?_
  refine z_dup dX7_init_419 rfl ?_
  refine z_iconst (v := 5) dX7_init_420 rfl ?_
  refine z_bipush (v := 99) dX7_init_421 rfl ?_
  refine z_iastL (F := fa_fill t_mosts (fun _ => 0) 6) (vin rfl) ((fa_fill_succ t_mosts (fun _ => 0) 5)) dX7_init_423 ?_
  refine z_putFU (v := .ref a17) hN rfl uin_X7 tyX7 tyX7_ok nmX7 24 (Nat.le_of_ble_eq_true rfl) tw_f_RX7_75 rfl rfl rfl (ty := (.array .int)) rfl rfl rfl dX7_init_424 ?_
  refine z_aload_n dX7_init_427 rfl ?_
  refine z_bipush (v := 6) dX7_init_428 rfl ?_
  refine z_newi (N := 6) hw tw_o_84 (by decide) (by decide) (by decide) (Nat.le_of_ble_eq_true rfl) (Nat.le_of_ble_eq_true rfl) dX7_init_430 (fun a18 => ?_)
  refine z_putFU (v := .ref a18) hN rfl uin_X7 tyX7 tyX7_ok nmX7 25 (Nat.le_of_ble_eq_true rfl) tw_f_RX7_78 rfl rfl rfl (ty := (.array .int)) rfl rfl rfl dX7_init_432 ?_
  refine z_aload_n dX7_init_435 rfl ?_
  refine z_bipush (v := 60) dX7_init_436 rfl ?_
  refine z_newi (N := 60) hw tw_o_84 (by decide) (by decide) (by decide) (Nat.le_of_ble_eq_true rfl) (Nat.le_of_ble_eq_true rfl) dX7_init_438 (fun a19 => ?_)
  refine z_putFU (v := .ref a19) hN rfl uin_X7 tyX7 tyX7_ok nmX7 31 (Nat.le_of_ble_eq_true rfl) tw_f_RX7_81 rfl rfl rfl (ty := (.array .int)) rfl rfl rfl dX7_init_440 ?_
  refine z_aload_n dX7_init_443 rfl ?_
  refine z_bipush (v := 60) dX7_init_444 rfl ?_
  refine z_newi (N := 60) hw tw_o_84 (by decide) (by decide) (by decide) (Nat.le_of_ble_eq_true rfl) (Nat.le_of_ble_eq_true rfl) dX7_init_446 (fun a20 => ?_)
  refine z_putFU (v := .ref a20) hN rfl uin_X7 tyX7 tyX7_ok nmX7 32 (Nat.le_of_ble_eq_true rfl) tw_f_RX7_84 rfl rfl rfl (ty := (.array .int)) rfl rfl rfl dX7_init_448 ?_
  refine z_aload_n dX7_init_451 rfl ?_
  refine z_bipush (v := 7) dX7_init_452 rfl ?_
  refine z_newi (N := 7) hw tw_o_84 (by decide) (by decide) (by decide) (Nat.le_of_ble_eq_true rfl) (Nat.le_of_ble_eq_true rfl) dX7_init_454 (fun a21 => ?_)
  refine z_putFU (v := .ref a21) hN rfl uin_X7 tyX7 tyX7_ok nmX7 33 (Nat.le_of_ble_eq_true rfl) tw_f_RX7_87 rfl rfl rfl (ty := (.array .int)) rfl rfl rfl dX7_init_456 ?_
  refine z_aload_n dX7_init_459 rfl ?_
  refine z_bipush (v := 7) dX7_init_460 rfl ?_
  refine z_newi (N := 7) hw tw_o_84 (by decide) (by decide) (by decide) (Nat.le_of_ble_eq_true rfl) (Nat.le_of_ble_eq_true rfl) dX7_init_462 (fun a22 => ?_)
  refine z_putFU (v := .ref a22) hN rfl uin_X7 tyX7 tyX7_ok nmX7 34 (Nat.le_of_ble_eq_true rfl) tw_f_RX7_90 rfl rfl rfl (ty := (.array .int)) rfl rfl rfl dX7_init_464 ?_
  refine z_aload_n dX7_init_467 rfl ?_
  refine z_bipush (v := 7) dX7_init_468 rfl ?_
  refine z_newi (N := 7) hw tw_o_84 (by decide) (by decide) (by decide) (Nat.le_of_ble_eq_true rfl) (Nat.le_of_ble_eq_true rfl) dX7_init_470 (fun a23 => ?_)
  refine z_putFU (v := .ref a23) hN rfl uin_X7 tyX7 tyX7_ok nmX7 35 (Nat.le_of_ble_eq_true rfl) tw_f_RX7_93 rfl rfl rfl (ty := (.array .int)) rfl rfl rfl dX7_init_472 ?_
  refine z_aload_n dX7_init_475 rfl ?_
  refine z_bipush (v := 20) dX7_init_476 rfl ?_
  refine z_newi (N := 20) hw tw_o_84 (by decide) (by decide) (by decide) (Nat.le_of_ble_eq_true rfl) (Nat.le_of_ble_eq_true rfl) dX7_init_478 (fun a24 => ?_)
  refine z_putFU (v := .ref a24) hN rfl uin_X7 tyX7 tyX7_ok nmX7 42 (Nat.le_of_ble_eq_true rfl) tw_f_RX7_96 rfl rfl rfl (ty := (.array .int)) rfl rfl rfl dX7_init_480 ?_
  refine z_eqw (ws' := (q, .inr (7, fl 45 (va_up (va_up (va_up (va_up (va_up (va_up (va_up (va_up (va_up (va_up (va_up (va_up (va_up (va_up (va_up (va_up (va_up (va_up (va_up (va_up (va_up (va_up (va_up (va_up (va_up (va_up (va_up (va_up (va_up F0_X7_init 1 (.int 8)) 3 (.int 5)) 4 (.int 1)) 6 (.int 1)) 7 (.int (-1))) 8 (.ref a1)) 9 (.ref a2)) 10 (.ref a3)) 11 (.ref a4)) 12 (.ref a5)) 13 (.ref a6)) 14 (.ref a7)) 15 (.ref a8)) 16 (.ref a9)) 17 (.ref a10)) 18 (.ref a11)) 19 (.ref a12)) 20 (.ref a13)) 21 (.ref a14)) 22 (.ref a15)) 23 (.ref a16)) 24 (.ref a17)) 25 (.ref a18)) 31 (.ref a19)) 32 (.ref a20)) 33 (.ref a21)) 34 (.ref a22)) 35 (.ref a23)) 42 (.ref a24)))) :: [(a1, .inl (G.2.2.1 0, 8, .inl (fun _ => 0))), (a2, .inl (G.2.2.1 0, 7, .inl (fun _ => 0))), (a3, .inl (G.2.2.1 0, 7, .inl (fun _ => 0))), (a4, .inl (G.2.2.1 0, 7, .inl (fun _ => 0))), (a5, .inl (G.2.2.1 0, 7, .inl (fun _ => 0))), (a6, .inl (G.2.2.1 0, 7, .inl (fun _ => 0))), (a7, .inl (G.2.2.1 0, 7, .inl (fun _ => 0))), (a8, .inl (G.2.2.1 0, 7, .inl (fun _ => 0))), (a9, .inl (G.2.2.1 0, 8, .inl (fun _ => 0))), (a10, .inl (G.2.2.1 0, 8, .inl (fun _ => 0))), (a11, .inl (G.2.2.1 0, 8, .inl (fun _ => 0))), (a12, .inl (G.2.2.1 0, 8, .inl (fun _ => 0))), (a13, .inl (G.2.2.1 1, 1280, .inr (.inl (fun _ => 0)))), (a14, .inl (G.2.2.1 1, 160, .inr (.inl (fun _ => 0)))), (a15, .inl (G.2.2.1 0, 36, .inl (fa_fill t_words (fun _ => 0) 36))), (a16, .inl (G.2.2.1 0, 6, .inl (fa_fill t_numbers (fun _ => 0) 6))), (a17, .inl (G.2.2.1 0, 6, .inl (fa_fill t_mosts (fun _ => 0) 6))), (a18, .inl (G.2.2.1 0, 6, .inl (fun _ => 0))), (a19, .inl (G.2.2.1 0, 60, .inl (fun _ => 0))), (a20, .inl (G.2.2.1 0, 60, .inl (fun _ => 0))), (a21, .inl (G.2.2.1 0, 7, .inl (fun _ => 0))), (a22, .inl (G.2.2.1 0, 7, .inl (fun _ => 0))), (a23, .inl (G.2.2.1 0, 7, .inl (fun _ => 0))), (a24, .inl (G.2.2.1 0, 20, .inl (fun _ => 0)))]) (by simp only [List.append_eq, List.append_assoc, List.cons_append, List.nil_append]) ?_
  exact z_vret_W hQ rfl rfl rfl ⟨ad [q, 0, 0, 0, 0, 0, 0, 0, a1, a2, a3, a4, a5, a6, a7, a8, a9, a10, a11, a12, a13, a14, a15, a16, a17, a18, 0, 0, 0, 0, 0, a19, a20, a21, a22, a23, 0, 0, 0, 0, 0, 0, a24, 0, 0], rfl, mW_u rfl rfl rfl rfl rfl rfl rfl rfl rfl rfl rfl rfl rfl rfl rfl rfl rfl rfl rfl rfl rfl rfl rfl rfl rfl rfl rfl rfl rfl rfl rfl rfl rfl rfl rfl rfl rfl rfl rfl rfl rfl rfl rfl rfl rfl rfl rfl (mI_z (by decide) (by decide) (by decide)) rfl (mI_z (by decide) (by decide) (by decide)) rfl (mI_z (by decide) (by decide) (by decide)) rfl (mI_z (by decide) (by decide) (by decide)) rfl (mI_z (by decide) (by decide) (by decide)) rfl (mI_z (by decide) (by decide) (by decide)) rfl (mI_z (by decide) (by decide) (by decide)) rfl (mI_z (by decide) (by decide) (by decide)) rfl (mI_z (by decide) (by decide) (by decide)) rfl (mI_z (by decide) (by decide) (by decide)) rfl (mI_z (by decide) (by decide) (by decide)) rfl (mI_z (by decide) (by decide) (by decide)) rfl rfl rfl rfl rfl mI_22 rfl mI_23 rfl mI_24 rfl (mI_z (by decide) (by decide) (by decide)) rfl (mI_z (by decide) (by decide) (by decide)) rfl (mI_z (by decide) (by decide) (by decide)) rfl (mI_z (by decide) (by decide) (by decide)) rfl (mI_z (by decide) (by decide) (by decide)) rfl (mI_z (by decide) (by decide) (by decide)) rfl (mI_z (by decide) (by decide) (by decide))⟩ dX7_init_483
