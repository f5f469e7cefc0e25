theorem dX11_init_0 : decode cX11_init 0 = .ok (.aload_n 0, 1) := by decide +kernel
theorem dX11_init_1 : decode cX11_init 1 = .ok (.invokespecial 1, 3) := by decide +kernel
theorem dX11_init_4 : decode cX11_init 4 = .ok (.aload_n 0, 1) := by decide +kernel
theorem dX11_init_5 : decode cX11_init 5 = .ok (.bipush 6, 2) := by decide +kernel
theorem dX11_init_7 : decode cX11_init 7 = .ok (.newarray .int, 2) := by decide +kernel
theorem dX11_init_9 : decode cX11_init 9 = .ok (.putfield 7, 3) := by decide +kernel
theorem dX11_init_12 : decode cX11_init 12 = .ok (.aload_n 0, 1) := by decide +kernel
theorem dX11_init_13 : decode cX11_init 13 = .ok (.bipush 6, 2) := by decide +kernel
theorem dX11_init_15 : decode cX11_init 15 = .ok (.newarray .int, 2) := by decide +kernel
theorem dX11_init_17 : decode cX11_init 17 = .ok (.putfield 13, 3) := by decide +kernel
theorem dX11_init_20 : decode cX11_init 20 = .ok (.aload_n 0, 1) := by decide +kernel
theorem dX11_init_21 : decode cX11_init 21 = .ok (.bipush 24, 2) := by decide +kernel
theorem dX11_init_23 : decode cX11_init 23 = .ok (.newarray .int, 2) := by decide +kernel
theorem dX11_init_25 : decode cX11_init 25 = .ok (.putfield 16, 3) := by decide +kernel
theorem dX11_init_28 : decode cX11_init 28 = .ok (.aload_n 0, 1) := by decide +kernel
theorem dX11_init_29 : decode cX11_init 29 = .ok (.bipush 13, 2) := by decide +kernel
theorem dX11_init_31 : decode cX11_init 31 = .ok (.newarray .int, 2) := by decide +kernel
theorem dX11_init_33 : decode cX11_init 33 = .ok (.dup, 1) := by decide +kernel
theorem dX11_init_34 : decode cX11_init 34 = .ok (.iconst 0, 1) := by decide +kernel
theorem dX11_init_35 : decode cX11_init 35 = .ok (.iconst 0, 1) := by decide +kernel
theorem dX11_init_36 : decode cX11_init 36 = .ok (.iastore, 1) := by decide +kernel
theorem dX11_init_37 : decode cX11_init 37 = .ok (.dup, 1) := by decide +kernel
theorem dX11_init_38 : decode cX11_init 38 = .ok (.iconst 1, 1) := by decide +kernel
theorem dX11_init_39 : decode cX11_init 39 = .ok (.iconst 0, 1) := by decide +kernel
theorem dX11_init_40 : decode cX11_init 40 = .ok (.iastore, 1) := by decide +kernel
theorem dX11_init_41 : decode cX11_init 41 = .ok (.dup, 1) := by decide +kernel
theorem dX11_init_42 : decode cX11_init 42 = .ok (.iconst 2, 1) := by decide +kernel
theorem dX11_init_43 : decode cX11_init 43 = .ok (.sipush 1023, 3) := by decide +kernel
theorem dX11_init_46 : decode cX11_init 46 = .ok (.iastore, 1) := by decide +kernel
theorem dX11_init_47 : decode cX11_init 47 = .ok (.dup, 1) := by decide +kernel
theorem dX11_init_48 : decode cX11_init 48 = .ok (.iconst 3, 1) := by decide +kernel
theorem dX11_init_49 : decode cX11_init 49 = .ok (.iconst 0, 1) := by decide +kernel
theorem dX11_init_50 : decode cX11_init 50 = .ok (.iastore, 1) := by decide +kernel
theorem dX11_init_51 : decode cX11_init 51 = .ok (.dup, 1) := by decide +kernel
theorem dX11_init_52 : decode cX11_init 52 = .ok (.iconst 4, 1) := by decide +kernel
theorem dX11_init_53 : decode cX11_init 53 = .ok (.iconst 0, 1) := by decide +kernel
theorem dX11_init_54 : decode cX11_init 54 = .ok (.iastore, 1) := by decide +kernel
theorem dX11_init_55 : decode cX11_init 55 = .ok (.dup, 1) := by decide +kernel
theorem dX11_init_56 : decode cX11_init 56 = .ok (.iconst 5, 1) := by decide +kernel
theorem dX11_init_57 : decode cX11_init 57 = .ok (.iconst 0, 1) := by decide +kernel
theorem dX11_init_58 : decode cX11_init 58 = .ok (.iastore, 1) := by decide +kernel
theorem dX11_init_59 : decode cX11_init 59 = .ok (.dup, 1) := by decide +kernel
theorem dX11_init_60 : decode cX11_init 60 = .ok (.bipush 6, 2) := by decide +kernel
theorem dX11_init_62 : decode cX11_init 62 = .ok (.iconst 0, 1) := by decide +kernel
theorem dX11_init_63 : decode cX11_init 63 = .ok (.iastore, 1) := by decide +kernel
theorem dX11_init_64 : decode cX11_init 64 = .ok (.dup, 1) := by decide +kernel
theorem dX11_init_65 : decode cX11_init 65 = .ok (.bipush 7, 2) := by decide +kernel
theorem dX11_init_67 : decode cX11_init 67 = .ok (.iconst 0, 1) := by decide +kernel
theorem dX11_init_68 : decode cX11_init 68 = .ok (.iastore, 1) := by decide +kernel
theorem dX11_init_69 : decode cX11_init 69 = .ok (.dup, 1) := by decide +kernel
theorem dX11_init_70 : decode cX11_init 70 = .ok (.bipush 8, 2) := by decide +kernel
theorem dX11_init_72 : decode cX11_init 72 = .ok (.iconst 0, 1) := by decide +kernel
theorem dX11_init_73 : decode cX11_init 73 = .ok (.iastore, 1) := by decide +kernel
theorem dX11_init_74 : decode cX11_init 74 = .ok (.dup, 1) := by decide +kernel
theorem dX11_init_75 : decode cX11_init 75 = .ok (.bipush 9, 2) := by decide +kernel
theorem dX11_init_77 : decode cX11_init 77 = .ok (.iconst 0, 1) := by decide +kernel
theorem dX11_init_78 : decode cX11_init 78 = .ok (.iastore, 1) := by decide +kernel
theorem dX11_init_79 : decode cX11_init 79 = .ok (.dup, 1) := by decide +kernel
theorem dX11_init_80 : decode cX11_init 80 = .ok (.bipush 10, 2) := by decide +kernel
theorem dX11_init_82 : decode cX11_init 82 = .ok (.iconst 0, 1) := by decide +kernel
theorem dX11_init_83 : decode cX11_init 83 = .ok (.iastore, 1) := by decide +kernel
theorem dX11_init_84 : decode cX11_init 84 = .ok (.dup, 1) := by decide +kernel
theorem dX11_init_85 : decode cX11_init 85 = .ok (.bipush 11, 2) := by decide +kernel
theorem dX11_init_87 : decode cX11_init 87 = .ok (.iconst 0, 1) := by decide +kernel
theorem dX11_init_88 : decode cX11_init 88 = .ok (.iastore, 1) := by decide +kernel
theorem dX11_init_89 : decode cX11_init 89 = .ok (.dup, 1) := by decide +kernel
theorem dX11_init_90 : decode cX11_init 90 = .ok (.bipush 12, 2) := by decide +kernel
theorem dX11_init_92 : decode cX11_init 92 = .ok (.iconst 0, 1) := by decide +kernel
theorem dX11_init_93 : decode cX11_init 93 = .ok (.iastore, 1) := by decide +kernel
theorem dX11_init_94 : decode cX11_init 94 = .ok (.putfield 19, 3) := by decide +kernel
theorem dX11_init_97 : decode cX11_init 97 = .ok (.aload_n 0, 1) := by decide +kernel
theorem dX11_init_98 : decode cX11_init 98 = .ok (.sipush 160, 3) := by decide +kernel
theorem dX11_init_101 : decode cX11_init 101 = .ok (.newarray .int, 2) := by decide +kernel
theorem dX11_init_103 : decode cX11_init 103 = .ok (.putfield 22, 3) := by decide +kernel
theorem dX11_init_106 : decode cX11_init 106 = .ok (.aload_n 0, 1) := by decide +kernel
theorem dX11_init_107 : decode cX11_init 107 = .ok (.sipush 1200, 3) := by decide +kernel
theorem dX11_init_110 : decode cX11_init 110 = .ok (.newarray .int, 2) := by decide +kernel
theorem dX11_init_112 : decode cX11_init 112 = .ok (.putfield 25, 3) := by decide +kernel
theorem dX11_init_115 : decode cX11_init 115 = .ok (.aload_n 0, 1) := by decide +kernel
theorem dX11_init_116 : decode cX11_init 116 = .ok (.bipush 24, 2) := by decide +kernel
theorem dX11_init_118 : decode cX11_init 118 = .ok (.newarray .int, 2) := by decide +kernel
theorem dX11_init_120 : decode cX11_init 120 = .ok (.putfield 28, 3) := by decide +kernel
theorem dX11_init_123 : decode cX11_init 123 = .ok (.aload_n 0, 1) := by decide +kernel
theorem dX11_init_124 : decode cX11_init 124 = .ok (.bipush 37, 2) := by decide +kernel
theorem dX11_init_126 : decode cX11_init 126 = .ok (.newarray .int, 2) := by decide +kernel
theorem dX11_init_128 : decode cX11_init 128 = .ok (.putfield 31, 3) := by decide +kernel
theorem dX11_init_131 : decode cX11_init 131 = .ok (.aload_n 0, 1) := by decide +kernel
theorem dX11_init_132 : decode cX11_init 132 = .ok (.iconst 2, 1) := by decide +kernel
theorem dX11_init_133 : decode cX11_init 133 = .ok (.newarray .int, 2) := by decide +kernel
theorem dX11_init_135 : decode cX11_init 135 = .ok (.putfield 34, 3) := by decide +kernel
theorem dX11_init_138 : decode cX11_init 138 = .ok (.aload_n 0, 1) := by decide +kernel
theorem dX11_init_139 : decode cX11_init 139 = .ok (.iconst 4, 1) := by decide +kernel
theorem dX11_init_140 : decode cX11_init 140 = .ok (.newarray .int, 2) := by decide +kernel
theorem dX11_init_142 : decode cX11_init 142 = .ok (.dup, 1) := by decide +kernel
theorem dX11_init_143 : decode cX11_init 143 = .ok (.iconst 0, 1) := by decide +kernel
theorem dX11_init_144 : decode cX11_init 144 = .ok (.iconst (-1), 1) := by decide +kernel
theorem dX11_init_145 : decode cX11_init 145 = .ok (.iastore, 1) := by decide +kernel
theorem dX11_init_146 : decode cX11_init 146 = .ok (.dup, 1) := by decide +kernel
theorem dX11_init_147 : decode cX11_init 147 = .ok (.iconst 1, 1) := by decide +kernel
theorem dX11_init_148 : decode cX11_init 148 = .ok (.iconst (-1), 1) := by decide +kernel
theorem dX11_init_149 : decode cX11_init 149 = .ok (.iastore, 1) := by decide +kernel
theorem dX11_init_150 : decode cX11_init 150 = .ok (.dup, 1) := by decide +kernel
theorem dX11_init_151 : decode cX11_init 151 = .ok (.iconst 2, 1) := by decide +kernel
theorem dX11_init_152 : decode cX11_init 152 = .ok (.iconst (-1), 1) := by decide +kernel
theorem dX11_init_153 : decode cX11_init 153 = .ok (.iastore, 1) := by decide +kernel
theorem dX11_init_154 : decode cX11_init 154 = .ok (.dup, 1) := by decide +kernel
theorem dX11_init_155 : decode cX11_init 155 = .ok (.iconst 3, 1) := by decide +kernel
theorem dX11_init_156 : decode cX11_init 156 = .ok (.iconst (-1), 1) := by decide +kernel
theorem dX11_init_157 : decode cX11_init 157 = .ok (.iastore, 1) := by decide +kernel
theorem dX11_init_158 : decode cX11_init 158 = .ok (.putfield 37, 3) := by decide +kernel
theorem dX11_init_161 : decode cX11_init 161 = .ok (.aload_n 0, 1) := by decide +kernel
theorem dX11_init_162 : decode cX11_init 162 = .ok (.iconst 4, 1) := by decide +kernel
theorem dX11_init_163 : decode cX11_init 163 = .ok (.newarray .int, 2) := by decide +kernel
theorem dX11_init_165 : decode cX11_init 165 = .ok (.putfield 40, 3) := by decide +kernel
theorem dX11_init_168 : decode cX11_init 168 = .ok (.aload_n 0, 1) := by decide +kernel
theorem dX11_init_169 : decode cX11_init 169 = .ok (.sipush 160, 3) := by decide +kernel
theorem dX11_init_172 : decode cX11_init 172 = .ok (.newarray .int, 2) := by decide +kernel
theorem dX11_init_174 : decode cX11_init 174 = .ok (.putfield 43, 3) := by decide +kernel
theorem dX11_init_177 : decode cX11_init 177 = .ok (.aload_n 0, 1) := by decide +kernel
theorem dX11_init_178 : decode cX11_init 178 = .ok (.bipush 34, 2) := by decide +kernel
theorem dX11_init_180 : decode cX11_init 180 = .ok (.newarray .int, 2) := by decide +kernel
theorem dX11_init_182 : decode cX11_init 182 = .ok (.dup, 1) := by decide +kernel
theorem dX11_init_183 : decode cX11_init 183 = .ok (.iconst 0, 1) := by decide +kernel
theorem dX11_init_184 : decode cX11_init 184 = .ok (.bipush 99, 2) := by decide +kernel
theorem dX11_init_186 : decode cX11_init 186 = .ok (.iastore, 1) := by decide +kernel
theorem dX11_init_187 : decode cX11_init 187 = .ok (.dup, 1) := by decide +kernel
theorem dX11_init_188 : decode cX11_init 188 = .ok (.iconst 1, 1) := by decide +kernel
theorem dX11_init_189 : decode cX11_init 189 = .ok (.bipush 117, 2) := by decide +kernel
theorem dX11_init_191 : decode cX11_init 191 = .ok (.iastore, 1) := by decide +kernel
theorem dX11_init_192 : decode cX11_init 192 = .ok (.dup, 1) := by decide +kernel
theorem dX11_init_193 : decode cX11_init 193 = .ok (.iconst 2, 1) := by decide +kernel
theorem dX11_init_194 : decode cX11_init 194 = .ok (.bipush 114, 2) := by decide +kernel
theorem dX11_init_196 : decode cX11_init 196 = .ok (.iastore, 1) := by decide +kernel
theorem dX11_init_197 : decode cX11_init 197 = .ok (.dup, 1) := by decide +kernel
theorem dX11_init_198 : decode cX11_init 198 = .ok (.iconst 3, 1) := by decide +kernel
theorem dX11_init_199 : decode cX11_init 199 = .ok (.bipush 105, 2) := by decide +kernel
theorem dX11_init_201 : decode cX11_init 201 = .ok (.iastore, 1) := by decide +kernel
theorem dX11_init_202 : decode cX11_init 202 = .ok (.dup, 1) := by decide +kernel
theorem dX11_init_203 : decode cX11_init 203 = .ok (.iconst 4, 1) := by decide +kernel
theorem dX11_init_204 : decode cX11_init 204 = .ok (.bipush 111, 2) := by decide +kernel
theorem dX11_init_206 : decode cX11_init 206 = .ok (.iastore, 1) := by decide +kernel
theorem dX11_init_207 : decode cX11_init 207 = .ok (.dup, 1) := by decide +kernel
theorem dX11_init_208 : decode cX11_init 208 = .ok (.iconst 5, 1) := by decide +kernel
theorem dX11_init_209 : decode cX11_init 209 = .ok (.bipush 117, 2) := by decide +kernel
theorem dX11_init_211 : decode cX11_init 211 = .ok (.iastore, 1) := by decide +kernel
theorem dX11_init_212 : decode cX11_init 212 = .ok (.dup, 1) := by decide +kernel
theorem dX11_init_213 : decode cX11_init 213 = .ok (.bipush 6, 2) := by decide +kernel
theorem dX11_init_215 : decode cX11_init 215 = .ok (.bipush 115, 2) := by decide +kernel
theorem dX11_init_217 : decode cX11_init 217 = .ok (.iastore, 1) := by decide +kernel
theorem dX11_init_218 : decode cX11_init 218 = .ok (.dup, 1) := by decide +kernel
theorem dX11_init_219 : decode cX11_init 219 = .ok (.bipush 7, 2) := by decide +kernel
theorem dX11_init_221 : decode cX11_init 221 = .ok (.bipush 32, 2) := by decide +kernel
theorem dX11_init_223 : decode cX11_init 223 = .ok (.iastore, 1) := by decide +kernel
theorem dX11_init_224 : decode cX11_init 224 = .ok (.dup, 1) := by decide +kernel
theorem dX11_init_225 : decode cX11_init 225 = .ok (.bipush 8, 2) := by decide +kernel
theorem dX11_init_227 : decode cX11_init 227 = .ok (.bipush 53, 2) := by decide +kernel
theorem dX11_init_229 : decode cX11_init 229 = .ok (.iastore, 1) := by decide +kernel
theorem dX11_init_230 : decode cX11_init 230 = .ok (.dup, 1) := by decide +kernel
theorem dX11_init_231 : decode cX11_init 231 = .ok (.bipush 9, 2) := by decide +kernel
theorem dX11_init_233 : decode cX11_init 233 = .ok (.bipush 48, 2) := by decide +kernel
theorem dX11_init_235 : decode cX11_init 235 = .ok (.iastore, 1) := by decide +kernel
theorem dX11_init_236 : decode cX11_init 236 = .ok (.dup, 1) := by decide +kernel
theorem dX11_init_237 : decode cX11_init 237 = .ok (.bipush 10, 2) := by decide +kernel
theorem dX11_init_239 : decode cX11_init 239 = .ok (.bipush 32, 2) := by decide +kernel
theorem dX11_init_241 : decode cX11_init 241 = .ok (.iastore, 1) := by decide +kernel
theorem dX11_init_242 : decode cX11_init 242 = .ok (.dup, 1) := by decide +kernel
theorem dX11_init_243 : decode cX11_init 243 = .ok (.bipush 11, 2) := by decide +kernel
theorem dX11_init_245 : decode cX11_init 245 = .ok (.bipush 59, 2) := by decide +kernel
theorem dX11_init_247 : decode cX11_init 247 = .ok (.iastore, 1) := by decide +kernel
theorem dX11_init_248 : decode cX11_init 248 = .ok (.dup, 1) := by decide +kernel
theorem dX11_init_249 : decode cX11_init 249 = .ok (.bipush 12, 2) := by decide +kernel
theorem dX11_init_251 : decode cX11_init 251 = .ok (.bipush 32, 2) := by decide +kernel
theorem dX11_init_253 : decode cX11_init 253 = .ok (.iastore, 1) := by decide +kernel
theorem dX11_init_254 : decode cX11_init 254 = .ok (.dup, 1) := by decide +kernel
theorem dX11_init_255 : decode cX11_init 255 = .ok (.bipush 13, 2) := by decide +kernel
theorem dX11_init_257 : decode cX11_init 257 = .ok (.bipush 100, 2) := by decide +kernel
theorem dX11_init_259 : decode cX11_init 259 = .ok (.iastore, 1) := by decide +kernel
theorem dX11_init_260 : decode cX11_init 260 = .ok (.dup, 1) := by decide +kernel
theorem dX11_init_261 : decode cX11_init 261 = .ok (.bipush 14, 2) := by decide +kernel
theorem dX11_init_263 : decode cX11_init 263 = .ok (.bipush 114, 2) := by decide +kernel
theorem dX11_init_265 : decode cX11_init 265 = .ok (.iastore, 1) := by decide +kernel
theorem dX11_init_266 : decode cX11_init 266 = .ok (.dup, 1) := by decide +kernel
theorem dX11_init_267 : decode cX11_init 267 = .ok (.bipush 15, 2) := by decide +kernel
theorem dX11_init_269 : decode cX11_init 269 = .ok (.bipush 101, 2) := by decide +kernel
theorem dX11_init_271 : decode cX11_init 271 = .ok (.iastore, 1) := by decide +kernel
theorem dX11_init_272 : decode cX11_init 272 = .ok (.dup, 1) := by decide +kernel
theorem dX11_init_273 : decode cX11_init 273 = .ok (.bipush 16, 2) := by decide +kernel
theorem dX11_init_275 : decode cX11_init 275 = .ok (.bipush 97, 2) := by decide +kernel
theorem dX11_init_277 : decode cX11_init 277 = .ok (.iastore, 1) := by decide +kernel
theorem dX11_init_278 : decode cX11_init 278 = .ok (.dup, 1) := by decide +kernel
theorem dX11_init_279 : decode cX11_init 279 = .ok (.bipush 17, 2) := by decide +kernel
theorem dX11_init_281 : decode cX11_init 281 = .ok (.bipush 100, 2) := by decide +kernel
theorem dX11_init_283 : decode cX11_init 283 = .ok (.iastore, 1) := by decide +kernel
theorem dX11_init_284 : decode cX11_init 284 = .ok (.dup, 1) := by decide +kernel
theorem dX11_init_285 : decode cX11_init 285 = .ok (.bipush 18, 2) := by decide +kernel
theorem dX11_init_287 : decode cX11_init 287 = .ok (.bipush 115, 2) := by decide +kernel
theorem dX11_init_289 : decode cX11_init 289 = .ok (.iastore, 1) := by decide +kernel
theorem dX11_init_290 : decode cX11_init 290 = .ok (.dup, 1) := by decide +kernel
theorem dX11_init_291 : decode cX11_init 291 = .ok (.bipush 19, 2) := by decide +kernel
theorem dX11_init_293 : decode cX11_init 293 = .ok (.bipush 32, 2) := by decide +kernel
theorem dX11_init_295 : decode cX11_init 295 = .ok (.iastore, 1) := by decide +kernel
theorem dX11_init_296 : decode cX11_init 296 = .ok (.dup, 1) := by decide +kernel
theorem dX11_init_297 : decode cX11_init 297 = .ok (.bipush 20, 2) := by decide +kernel
theorem dX11_init_299 : decode cX11_init 299 = .ok (.bipush 98, 2) := by decide +kernel
theorem dX11_init_301 : decode cX11_init 301 = .ok (.iastore, 1) := by decide +kernel
theorem dX11_init_302 : decode cX11_init 302 = .ok (.dup, 1) := by decide +kernel
theorem dX11_init_303 : decode cX11_init 303 = .ok (.bipush 21, 2) := by decide +kernel
theorem dX11_init_305 : decode cX11_init 305 = .ok (.bipush 97, 2) := by decide +kernel
theorem dX11_init_307 : decode cX11_init 307 = .ok (.iastore, 1) := by decide +kernel
theorem dX11_init_308 : decode cX11_init 308 = .ok (.dup, 1) := by decide +kernel
theorem dX11_init_309 : decode cX11_init 309 = .ok (.bipush 22, 2) := by decide +kernel
theorem dX11_init_311 : decode cX11_init 311 = .ok (.bipush 100, 2) := by decide +kernel
theorem dX11_init_313 : decode cX11_init 313 = .ok (.iastore, 1) := by decide +kernel
theorem dX11_init_314 : decode cX11_init 314 = .ok (.dup, 1) := by decide +kernel
theorem dX11_init_315 : decode cX11_init 315 = .ok (.bipush 23, 2) := by decide +kernel
theorem dX11_init_317 : decode cX11_init 317 = .ok (.bipush 32, 2) := by decide +kernel
theorem dX11_init_319 : decode cX11_init 319 = .ok (.iastore, 1) := by decide +kernel
theorem dX11_init_320 : decode cX11_init 320 = .ok (.dup, 1) := by decide +kernel
theorem dX11_init_321 : decode cX11_init 321 = .ok (.bipush 24, 2) := by decide +kernel
theorem dX11_init_323 : decode cX11_init 323 = .ok (.bipush 59, 2) := by decide +kernel
theorem dX11_init_325 : decode cX11_init 325 = .ok (.iastore, 1) := by decide +kernel
theorem dX11_init_326 : decode cX11_init 326 = .ok (.dup, 1) := by decide +kernel
theorem dX11_init_327 : decode cX11_init 327 = .ok (.bipush 25, 2) := by decide +kernel
theorem dX11_init_329 : decode cX11_init 329 = .ok (.bipush 32, 2) := by decide +kernel
theorem dX11_init_331 : decode cX11_init 331 = .ok (.iastore, 1) := by decide +kernel
theorem dX11_init_332 : decode cX11_init 332 = .ok (.dup, 1) := by decide +kernel
theorem dX11_init_333 : decode cX11_init 333 = .ok (.bipush 26, 2) := by decide +kernel
theorem dX11_init_335 : decode cX11_init 335 = .ok (.bipush 103, 2) := by decide +kernel
theorem dX11_init_337 : decode cX11_init 337 = .ok (.iastore, 1) := by decide +kernel
theorem dX11_init_338 : decode cX11_init 338 = .ok (.dup, 1) := by decide +kernel
theorem dX11_init_339 : decode cX11_init 339 = .ok (.bipush 27, 2) := by decide +kernel
theorem dX11_init_341 : decode cX11_init 341 = .ok (.bipush 111, 2) := by decide +kernel
theorem dX11_init_343 : decode cX11_init 343 = .ok (.iastore, 1) := by decide +kernel
theorem dX11_init_344 : decode cX11_init 344 = .ok (.dup, 1) := by decide +kernel
theorem dX11_init_345 : decode cX11_init 345 = .ok (.bipush 28, 2) := by decide +kernel
theorem dX11_init_347 : decode cX11_init 347 = .ok (.bipush 101, 2) := by decide +kernel
theorem dX11_init_349 : decode cX11_init 349 = .ok (.iastore, 1) := by decide +kernel
theorem dX11_init_350 : decode cX11_init 350 = .ok (.dup, 1) := by decide +kernel
theorem dX11_init_351 : decode cX11_init 351 = .ok (.bipush 29, 2) := by decide +kernel
theorem dX11_init_353 : decode cX11_init 353 = .ok (.bipush 115, 2) := by decide +kernel
theorem dX11_init_355 : decode cX11_init 355 = .ok (.iastore, 1) := by decide +kernel
theorem dX11_init_356 : decode cX11_init 356 = .ok (.dup, 1) := by decide +kernel
theorem dX11_init_357 : decode cX11_init 357 = .ok (.bipush 30, 2) := by decide +kernel
theorem dX11_init_359 : decode cX11_init 359 = .ok (.bipush 32, 2) := by decide +kernel
theorem dX11_init_361 : decode cX11_init 361 = .ok (.iastore, 1) := by decide +kernel
theorem dX11_init_362 : decode cX11_init 362 = .ok (.dup, 1) := by decide +kernel
theorem dX11_init_363 : decode cX11_init 363 = .ok (.bipush 31, 2) := by decide +kernel
theorem dX11_init_365 : decode cX11_init 365 = .ok (.bipush 48, 2) := by decide +kernel
theorem dX11_init_367 : decode cX11_init 367 = .ok (.iastore, 1) := by decide +kernel
theorem dX11_init_368 : decode cX11_init 368 = .ok (.dup, 1) := by decide +kernel
theorem dX11_init_369 : decode cX11_init 369 = .ok (.bipush 32, 2) := by decide +kernel
theorem dX11_init_371 : decode cX11_init 371 = .ok (.bipush 32, 2) := by decide +kernel
theorem dX11_init_373 : decode cX11_init 373 = .ok (.iastore, 1) := by decide +kernel
theorem dX11_init_374 : decode cX11_init 374 = .ok (.dup, 1) := by decide +kernel
theorem dX11_init_375 : decode cX11_init 375 = .ok (.bipush 33, 2) := by decide +kernel
theorem dX11_init_377 : decode cX11_init 377 = .ok (.bipush 59, 2) := by decide +kernel
theorem dX11_init_379 : decode cX11_init 379 = .ok (.iastore, 1) := by decide +kernel
theorem dX11_init_380 : decode cX11_init 380 = .ok (.putfield 46, 3) := by decide +kernel
theorem dX11_init_383 : decode cX11_init 383 = .ok (.aload_n 0, 1) := by decide +kernel
theorem dX11_init_384 : decode cX11_init 384 = .ok (.bipush 96, 2) := by decide +kernel
theorem dX11_init_386 : decode cX11_init 386 = .ok (.newarray .int, 2) := by decide +kernel
theorem dX11_init_388 : decode cX11_init 388 = .ok (.dup, 1) := by decide +kernel
theorem dX11_init_389 : decode cX11_init 389 = .ok (.iconst 0, 1) := by decide +kernel
theorem dX11_init_390 : decode cX11_init 390 = .ok (.bipush 99, 2) := by decide +kernel
theorem dX11_init_392 : decode cX11_init 392 = .ok (.iastore, 1) := by decide +kernel
theorem dX11_init_393 : decode cX11_init 393 = .ok (.dup, 1) := by decide +kernel
theorem dX11_init_394 : decode cX11_init 394 = .ok (.iconst 1, 1) := by decide +kernel
theorem dX11_init_395 : decode cX11_init 395 = .ok (.bipush 117, 2) := by decide +kernel
theorem dX11_init_397 : decode cX11_init 397 = .ok (.iastore, 1) := by decide +kernel
theorem dX11_init_398 : decode cX11_init 398 = .ok (.dup, 1) := by decide +kernel
theorem dX11_init_399 : decode cX11_init 399 = .ok (.iconst 2, 1) := by decide +kernel
theorem dX11_init_400 : decode cX11_init 400 = .ok (.bipush 114, 2) := by decide +kernel
theorem dX11_init_402 : decode cX11_init 402 = .ok (.iastore, 1) := by decide +kernel
theorem dX11_init_403 : decode cX11_init 403 = .ok (.dup, 1) := by decide +kernel
theorem dX11_init_404 : decode cX11_init 404 = .ok (.iconst 3, 1) := by decide +kernel
theorem dX11_init_405 : decode cX11_init 405 = .ok (.bipush 105, 2) := by decide +kernel
theorem dX11_init_407 : decode cX11_init 407 = .ok (.iastore, 1) := by decide +kernel
theorem dX11_init_408 : decode cX11_init 408 = .ok (.dup, 1) := by decide +kernel
theorem dX11_init_409 : decode cX11_init 409 = .ok (.iconst 4, 1) := by decide +kernel
theorem dX11_init_410 : decode cX11_init 410 = .ok (.bipush 111, 2) := by decide +kernel
theorem dX11_init_412 : decode cX11_init 412 = .ok (.iastore, 1) := by decide +kernel
theorem dX11_init_413 : decode cX11_init 413 = .ok (.dup, 1) := by decide +kernel
theorem dX11_init_414 : decode cX11_init 414 = .ok (.iconst 5, 1) := by decide +kernel
theorem dX11_init_415 : decode cX11_init 415 = .ok (.bipush 117, 2) := by decide +kernel
theorem dX11_init_417 : decode cX11_init 417 = .ok (.iastore, 1) := by decide +kernel
theorem dX11_init_418 : decode cX11_init 418 = .ok (.dup, 1) := by decide +kernel
theorem dX11_init_419 : decode cX11_init 419 = .ok (.bipush 6, 2) := by decide +kernel
theorem dX11_init_421 : decode cX11_init 421 = .ok (.bipush 115, 2) := by decide +kernel
theorem dX11_init_423 : decode cX11_init 423 = .ok (.iastore, 1) := by decide +kernel
theorem dX11_init_424 : decode cX11_init 424 = .ok (.dup, 1) := by decide +kernel
theorem dX11_init_425 : decode cX11_init 425 = .ok (.bipush 7, 2) := by decide +kernel
theorem dX11_init_427 : decode cX11_init 427 = .ok (.bipush 32, 2) := by decide +kernel
theorem dX11_init_429 : decode cX11_init 429 = .ok (.iastore, 1) := by decide +kernel
theorem dX11_init_430 : decode cX11_init 430 = .ok (.dup, 1) := by decide +kernel
theorem dX11_init_431 : decode cX11_init 431 = .ok (.bipush 8, 2) := by decide +kernel
theorem dX11_init_433 : decode cX11_init 433 = .ok (.bipush 100, 2) := by decide +kernel
theorem dX11_init_435 : decode cX11_init 435 = .ok (.iastore, 1) := by decide +kernel
theorem dX11_init_436 : decode cX11_init 436 = .ok (.dup, 1) := by decide +kernel
theorem dX11_init_437 : decode cX11_init 437 = .ok (.bipush 9, 2) := by decide +kernel
theorem dX11_init_439 : decode cX11_init 439 = .ok (.bipush 114, 2) := by decide +kernel
theorem dX11_init_441 : decode cX11_init 441 = .ok (.iastore, 1) := by decide +kernel
theorem dX11_init_442 : decode cX11_init 442 = .ok (.dup, 1) := by decide +kernel
theorem dX11_init_443 : decode cX11_init 443 = .ok (.bipush 10, 2) := by decide +kernel
theorem dX11_init_445 : decode cX11_init 445 = .ok (.bipush 101, 2) := by decide +kernel
theorem dX11_init_447 : decode cX11_init 447 = .ok (.iastore, 1) := by decide +kernel
theorem dX11_init_448 : decode cX11_init 448 = .ok (.dup, 1) := by decide +kernel
theorem dX11_init_449 : decode cX11_init 449 = .ok (.bipush 11, 2) := by decide +kernel
theorem dX11_init_451 : decode cX11_init 451 = .ok (.bipush 97, 2) := by decide +kernel
theorem dX11_init_453 : decode cX11_init 453 = .ok (.iastore, 1) := by decide +kernel
theorem dX11_init_454 : decode cX11_init 454 = .ok (.dup, 1) := by decide +kernel
theorem dX11_init_455 : decode cX11_init 455 = .ok (.bipush 12, 2) := by decide +kernel
theorem dX11_init_457 : decode cX11_init 457 = .ok (.bipush 100, 2) := by decide +kernel
theorem dX11_init_459 : decode cX11_init 459 = .ok (.iastore, 1) := by decide +kernel
theorem dX11_init_460 : decode cX11_init 460 = .ok (.dup, 1) := by decide +kernel
theorem dX11_init_461 : decode cX11_init 461 = .ok (.bipush 13, 2) := by decide +kernel
theorem dX11_init_463 : decode cX11_init 463 = .ok (.bipush 115, 2) := by decide +kernel
theorem dX11_init_465 : decode cX11_init 465 = .ok (.iastore, 1) := by decide +kernel
theorem dX11_init_466 : decode cX11_init 466 = .ok (.dup, 1) := by decide +kernel
theorem dX11_init_467 : decode cX11_init 467 = .ok (.bipush 14, 2) := by decide +kernel
theorem dX11_init_469 : decode cX11_init 469 = .ok (.bipush 32, 2) := by decide +kernel
theorem dX11_init_471 : decode cX11_init 471 = .ok (.iastore, 1) := by decide +kernel
theorem dX11_init_472 : decode cX11_init 472 = .ok (.dup, 1) := by decide +kernel
theorem dX11_init_473 : decode cX11_init 473 = .ok (.bipush 15, 2) := by decide +kernel
theorem dX11_init_475 : decode cX11_init 475 = .ok (.bipush 32, 2) := by decide +kernel
theorem dX11_init_477 : decode cX11_init 477 = .ok (.iastore, 1) := by decide +kernel
theorem dX11_init_478 : decode cX11_init 478 = .ok (.dup, 1) := by decide +kernel
theorem dX11_init_479 : decode cX11_init 479 = .ok (.bipush 16, 2) := by decide +kernel
theorem dX11_init_481 : decode cX11_init 481 = .ok (.bipush 103, 2) := by decide +kernel
theorem dX11_init_483 : decode cX11_init 483 = .ok (.iastore, 1) := by decide +kernel
theorem dX11_init_484 : decode cX11_init 484 = .ok (.dup, 1) := by decide +kernel
theorem dX11_init_485 : decode cX11_init 485 = .ok (.bipush 17, 2) := by decide +kernel
theorem dX11_init_487 : decode cX11_init 487 = .ok (.bipush 111, 2) := by decide +kernel
theorem dX11_init_489 : decode cX11_init 489 = .ok (.iastore, 1) := by decide +kernel
theorem dX11_init_490 : decode cX11_init 490 = .ok (.dup, 1) := by decide +kernel
theorem dX11_init_491 : decode cX11_init 491 = .ok (.bipush 18, 2) := by decide +kernel
theorem dX11_init_493 : decode cX11_init 493 = .ok (.bipush 101, 2) := by decide +kernel
theorem dX11_init_495 : decode cX11_init 495 = .ok (.iastore, 1) := by decide +kernel
theorem dX11_init_496 : decode cX11_init 496 = .ok (.dup, 1) := by decide +kernel
theorem dX11_init_497 : decode cX11_init 497 = .ok (.bipush 19, 2) := by decide +kernel
theorem dX11_init_499 : decode cX11_init 499 = .ok (.bipush 115, 2) := by decide +kernel
theorem dX11_init_501 : decode cX11_init 501 = .ok (.iastore, 1) := by decide +kernel
theorem dX11_init_502 : decode cX11_init 502 = .ok (.dup, 1) := by decide +kernel
theorem dX11_init_503 : decode cX11_init 503 = .ok (.bipush 20, 2) := by decide +kernel
theorem dX11_init_505 : decode cX11_init 505 = .ok (.bipush 32, 2) := by decide +kernel
theorem dX11_init_507 : decode cX11_init 507 = .ok (.iastore, 1) := by decide +kernel
theorem dX11_init_508 : decode cX11_init 508 = .ok (.dup, 1) := by decide +kernel
theorem dX11_init_509 : decode cX11_init 509 = .ok (.bipush 21, 2) := by decide +kernel
theorem dX11_init_511 : decode cX11_init 511 = .ok (.bipush 32, 2) := by decide +kernel
theorem dX11_init_513 : decode cX11_init 513 = .ok (.iastore, 1) := by decide +kernel
theorem dX11_init_514 : decode cX11_init 514 = .ok (.dup, 1) := by decide +kernel
theorem dX11_init_515 : decode cX11_init 515 = .ok (.bipush 22, 2) := by decide +kernel
theorem dX11_init_517 : decode cX11_init 517 = .ok (.bipush 32, 2) := by decide +kernel
theorem dX11_init_519 : decode cX11_init 519 = .ok (.iastore, 1) := by decide +kernel
theorem dX11_init_520 : decode cX11_init 520 = .ok (.dup, 1) := by decide +kernel
theorem dX11_init_521 : decode cX11_init 521 = .ok (.bipush 23, 2) := by decide +kernel
theorem dX11_init_523 : decode cX11_init 523 = .ok (.bipush 32, 2) := by decide +kernel
theorem dX11_init_525 : decode cX11_init 525 = .ok (.iastore, 1) := by decide +kernel
theorem dX11_init_526 : decode cX11_init 526 = .ok (.dup, 1) := by decide +kernel
theorem dX11_init_527 : decode cX11_init 527 = .ok (.bipush 24, 2) := by decide +kernel
theorem dX11_init_529 : decode cX11_init 529 = .ok (.bipush 98, 2) := by decide +kernel
theorem dX11_init_531 : decode cX11_init 531 = .ok (.iastore, 1) := by decide +kernel
theorem dX11_init_532 : decode cX11_init 532 = .ok (.dup, 1) := by decide +kernel
theorem dX11_init_533 : decode cX11_init 533 = .ok (.bipush 25, 2) := by decide +kernel
theorem dX11_init_535 : decode cX11_init 535 = .ok (.bipush 97, 2) := by decide +kernel
theorem dX11_init_537 : decode cX11_init 537 = .ok (.iastore, 1) := by decide +kernel
theorem dX11_init_538 : decode cX11_init 538 = .ok (.dup, 1) := by decide +kernel
theorem dX11_init_539 : decode cX11_init 539 = .ok (.bipush 26, 2) := by decide +kernel
theorem dX11_init_541 : decode cX11_init 541 = .ok (.bipush 100, 2) := by decide +kernel
theorem dX11_init_543 : decode cX11_init 543 = .ok (.iastore, 1) := by decide +kernel
theorem dX11_init_544 : decode cX11_init 544 = .ok (.dup, 1) := by decide +kernel
theorem dX11_init_545 : decode cX11_init 545 = .ok (.bipush 27, 2) := by decide +kernel
theorem dX11_init_547 : decode cX11_init 547 = .ok (.bipush 32, 2) := by decide +kernel
theorem dX11_init_549 : decode cX11_init 549 = .ok (.iastore, 1) := by decide +kernel
theorem dX11_init_550 : decode cX11_init 550 = .ok (.dup, 1) := by decide +kernel
theorem dX11_init_551 : decode cX11_init 551 = .ok (.bipush 28, 2) := by decide +kernel
theorem dX11_init_553 : decode cX11_init 553 = .ok (.bipush 32, 2) := by decide +kernel
theorem dX11_init_555 : decode cX11_init 555 = .ok (.iastore, 1) := by decide +kernel
theorem dX11_init_556 : decode cX11_init 556 = .ok (.dup, 1) := by decide +kernel
theorem dX11_init_557 : decode cX11_init 557 = .ok (.bipush 29, 2) := by decide +kernel
theorem dX11_init_559 : decode cX11_init 559 = .ok (.bipush 32, 2) := by decide +kernel
theorem dX11_init_561 : decode cX11_init 561 = .ok (.iastore, 1) := by decide +kernel
theorem dX11_init_562 : decode cX11_init 562 = .ok (.dup, 1) := by decide +kernel
theorem dX11_init_563 : decode cX11_init 563 = .ok (.bipush 30, 2) := by decide +kernel
theorem dX11_init_565 : decode cX11_init 565 = .ok (.bipush 32, 2) := by decide +kernel
theorem dX11_init_567 : decode cX11_init 567 = .ok (.iastore, 1) := by decide +kernel
theorem dX11_init_568 : decode cX11_init 568 = .ok (.dup, 1) := by decide +kernel
theorem dX11_init_569 : decode cX11_init 569 = .ok (.bipush 31, 2) := by decide +kernel
theorem dX11_init_571 : decode cX11_init 571 = .ok (.bipush 32, 2) := by decide +kernel
theorem dX11_init_573 : decode cX11_init 573 = .ok (.iastore, 1) := by decide +kernel
theorem dX11_init_574 : decode cX11_init 574 = .ok (.dup, 1) := by decide +kernel
theorem dX11_init_575 : decode cX11_init 575 = .ok (.bipush 32, 2) := by decide +kernel
theorem dX11_init_577 : decode cX11_init 577 = .ok (.bipush 99, 2) := by decide +kernel
theorem dX11_init_579 : decode cX11_init 579 = .ok (.iastore, 1) := by decide +kernel
theorem dX11_init_580 : decode cX11_init 580 = .ok (.dup, 1) := by decide +kernel
theorem dX11_init_581 : decode cX11_init 581 = .ok (.bipush 33, 2) := by decide +kernel
theorem dX11_init_583 : decode cX11_init 583 = .ok (.bipush 111, 2) := by decide +kernel
theorem dX11_init_585 : decode cX11_init 585 = .ok (.iastore, 1) := by decide +kernel
theorem dX11_init_586 : decode cX11_init 586 = .ok (.dup, 1) := by decide +kernel
theorem dX11_init_587 : decode cX11_init 587 = .ok (.bipush 34, 2) := by decide +kernel
theorem dX11_init_589 : decode cX11_init 589 = .ok (.bipush 114, 2) := by decide +kernel
theorem dX11_init_591 : decode cX11_init 591 = .ok (.iastore, 1) := by decide +kernel
theorem dX11_init_592 : decode cX11_init 592 = .ok (.dup, 1) := by decide +kernel
theorem dX11_init_593 : decode cX11_init 593 = .ok (.bipush 35, 2) := by decide +kernel
theorem dX11_init_595 : decode cX11_init 595 = .ok (.bipush 110, 2) := by decide +kernel
theorem dX11_init_597 : decode cX11_init 597 = .ok (.iastore, 1) := by decide +kernel
theorem dX11_init_598 : decode cX11_init 598 = .ok (.dup, 1) := by decide +kernel
theorem dX11_init_599 : decode cX11_init 599 = .ok (.bipush 36, 2) := by decide +kernel
theorem dX11_init_601 : decode cX11_init 601 = .ok (.bipush 101, 2) := by decide +kernel
theorem dX11_init_603 : decode cX11_init 603 = .ok (.iastore, 1) := by decide +kernel
theorem dX11_init_604 : decode cX11_init 604 = .ok (.dup, 1) := by decide +kernel
theorem dX11_init_605 : decode cX11_init 605 = .ok (.bipush 37, 2) := by decide +kernel
theorem dX11_init_607 : decode cX11_init 607 = .ok (.bipush 114, 2) := by decide +kernel
theorem dX11_init_609 : decode cX11_init 609 = .ok (.iastore, 1) := by decide +kernel
theorem dX11_init_610 : decode cX11_init 610 = .ok (.dup, 1) := by decide +kernel
theorem dX11_init_611 : decode cX11_init 611 = .ok (.bipush 38, 2) := by decide +kernel
theorem dX11_init_613 : decode cX11_init 613 = .ok (.bipush 32, 2) := by decide +kernel
theorem dX11_init_615 : decode cX11_init 615 = .ok (.iastore, 1) := by decide +kernel
theorem dX11_init_616 : decode cX11_init 616 = .ok (.dup, 1) := by decide +kernel
theorem dX11_init_617 : decode cX11_init 617 = .ok (.bipush 39, 2) := by decide +kernel
theorem dX11_init_619 : decode cX11_init 619 = .ok (.bipush 32, 2) := by decide +kernel
theorem dX11_init_621 : decode cX11_init 621 = .ok (.iastore, 1) := by decide +kernel
theorem dX11_init_622 : decode cX11_init 622 = .ok (.dup, 1) := by decide +kernel
theorem dX11_init_623 : decode cX11_init 623 = .ok (.bipush 40, 2) := by decide +kernel
theorem dX11_init_625 : decode cX11_init 625 = .ok (.bipush 107, 2) := by decide +kernel
theorem dX11_init_627 : decode cX11_init 627 = .ok (.iastore, 1) := by decide +kernel
theorem dX11_init_628 : decode cX11_init 628 = .ok (.dup, 1) := by decide +kernel
theorem dX11_init_629 : decode cX11_init 629 = .ok (.bipush 41, 2) := by decide +kernel
theorem dX11_init_631 : decode cX11_init 631 = .ok (.bipush 110, 2) := by decide +kernel
theorem dX11_init_633 : decode cX11_init 633 = .ok (.iastore, 1) := by decide +kernel
theorem dX11_init_634 : decode cX11_init 634 = .ok (.dup, 1) := by decide +kernel
theorem dX11_init_635 : decode cX11_init 635 = .ok (.bipush 42, 2) := by decide +kernel
theorem dX11_init_637 : decode cX11_init 637 = .ok (.bipush 111, 2) := by decide +kernel
theorem dX11_init_639 : decode cX11_init 639 = .ok (.iastore, 1) := by decide +kernel
theorem dX11_init_640 : decode cX11_init 640 = .ok (.dup, 1) := by decide +kernel
theorem dX11_init_641 : decode cX11_init 641 = .ok (.bipush 43, 2) := by decide +kernel
theorem dX11_init_643 : decode cX11_init 643 = .ok (.bipush 119, 2) := by decide +kernel
theorem dX11_init_645 : decode cX11_init 645 = .ok (.iastore, 1) := by decide +kernel
theorem dX11_init_646 : decode cX11_init 646 = .ok (.dup, 1) := by decide +kernel
theorem dX11_init_647 : decode cX11_init 647 = .ok (.bipush 44, 2) := by decide +kernel
theorem dX11_init_649 : decode cX11_init 649 = .ok (.bipush 110, 2) := by decide +kernel
theorem dX11_init_651 : decode cX11_init 651 = .ok (.iastore, 1) := by decide +kernel
theorem dX11_init_652 : decode cX11_init 652 = .ok (.dup, 1) := by decide +kernel
theorem dX11_init_653 : decode cX11_init 653 = .ok (.bipush 45, 2) := by decide +kernel
theorem dX11_init_655 : decode cX11_init 655 = .ok (.bipush 32, 2) := by decide +kernel
theorem dX11_init_657 : decode cX11_init 657 = .ok (.iastore, 1) := by decide +kernel
theorem dX11_init_658 : decode cX11_init 658 = .ok (.dup, 1) := by decide +kernel
theorem dX11_init_659 : decode cX11_init 659 = .ok (.bipush 46, 2) := by decide +kernel
theorem dX11_init_661 : decode cX11_init 661 = .ok (.bipush 32, 2) := by decide +kernel
theorem dX11_init_663 : decode cX11_init 663 = .ok (.iastore, 1) := by decide +kernel
theorem dX11_init_664 : decode cX11_init 664 = .ok (.dup, 1) := by decide +kernel
theorem dX11_init_665 : decode cX11_init 665 = .ok (.bipush 47, 2) := by decide +kernel
theorem dX11_init_667 : decode cX11_init 667 = .ok (.bipush 32, 2) := by decide +kernel
theorem dX11_init_669 : decode cX11_init 669 = .ok (.iastore, 1) := by decide +kernel
theorem dX11_init_670 : decode cX11_init 670 = .ok (.dup, 1) := by decide +kernel
theorem dX11_init_671 : decode cX11_init 671 = .ok (.bipush 48, 2) := by decide +kernel
theorem dX11_init_673 : decode cX11_init 673 = .ok (.bipush 119, 2) := by decide +kernel
theorem dX11_init_675 : decode cX11_init 675 = .ok (.iastore, 1) := by decide +kernel
theorem dX11_init_676 : decode cX11_init 676 = .ok (.dup, 1) := by decide +kernel
theorem dX11_init_677 : decode cX11_init 677 = .ok (.bipush 49, 2) := by decide +kernel
theorem dX11_init_679 : decode cX11_init 679 = .ok (.bipush 97, 2) := by decide +kernel
theorem dX11_init_681 : decode cX11_init 681 = .ok (.iastore, 1) := by decide +kernel
theorem dX11_init_682 : decode cX11_init 682 = .ok (.dup, 1) := by decide +kernel
theorem dX11_init_683 : decode cX11_init 683 = .ok (.bipush 50, 2) := by decide +kernel
theorem dX11_init_685 : decode cX11_init 685 = .ok (.bipush 110, 2) := by decide +kernel
theorem dX11_init_687 : decode cX11_init 687 = .ok (.iastore, 1) := by decide +kernel
theorem dX11_init_688 : decode cX11_init 688 = .ok (.dup, 1) := by decide +kernel
theorem dX11_init_689 : decode cX11_init 689 = .ok (.bipush 51, 2) := by decide +kernel
theorem dX11_init_691 : decode cX11_init 691 = .ok (.bipush 116, 2) := by decide +kernel
theorem dX11_init_693 : decode cX11_init 693 = .ok (.iastore, 1) := by decide +kernel
theorem dX11_init_694 : decode cX11_init 694 = .ok (.dup, 1) := by decide +kernel
theorem dX11_init_695 : decode cX11_init 695 = .ok (.bipush 52, 2) := by decide +kernel
theorem dX11_init_697 : decode cX11_init 697 = .ok (.bipush 101, 2) := by decide +kernel
theorem dX11_init_699 : decode cX11_init 699 = .ok (.iastore, 1) := by decide +kernel
theorem dX11_init_700 : decode cX11_init 700 = .ok (.dup, 1) := by decide +kernel
theorem dX11_init_701 : decode cX11_init 701 = .ok (.bipush 53, 2) := by decide +kernel
theorem dX11_init_703 : decode cX11_init 703 = .ok (.bipush 100, 2) := by decide +kernel
theorem dX11_init_705 : decode cX11_init 705 = .ok (.iastore, 1) := by decide +kernel
theorem dX11_init_706 : decode cX11_init 706 = .ok (.dup, 1) := by decide +kernel
theorem dX11_init_707 : decode cX11_init 707 = .ok (.bipush 54, 2) := by decide +kernel
theorem dX11_init_709 : decode cX11_init 709 = .ok (.bipush 32, 2) := by decide +kernel
theorem dX11_init_711 : decode cX11_init 711 = .ok (.iastore, 1) := by decide +kernel
theorem dX11_init_712 : decode cX11_init 712 = .ok (.dup, 1) := by decide +kernel
theorem dX11_init_713 : decode cX11_init 713 = .ok (.bipush 55, 2) := by decide +kernel
theorem dX11_init_715 : decode cX11_init 715 = .ok (.bipush 32, 2) := by decide +kernel
theorem dX11_init_717 : decode cX11_init 717 = .ok (.iastore, 1) := by decide +kernel
theorem dX11_init_718 : decode cX11_init 718 = .ok (.dup, 1) := by decide +kernel
theorem dX11_init_719 : decode cX11_init 719 = .ok (.bipush 56, 2) := by decide +kernel
theorem dX11_init_721 : decode cX11_init 721 = .ok (.bipush 104, 2) := by decide +kernel
theorem dX11_init_723 : decode cX11_init 723 = .ok (.iastore, 1) := by decide +kernel
theorem dX11_init_724 : decode cX11_init 724 = .ok (.dup, 1) := by decide +kernel
theorem dX11_init_725 : decode cX11_init 725 = .ok (.bipush 57, 2) := by decide +kernel
theorem dX11_init_727 : decode cX11_init 727 = .ok (.bipush 111, 2) := by decide +kernel
theorem dX11_init_729 : decode cX11_init 729 = .ok (.iastore, 1) := by decide +kernel
theorem dX11_init_730 : decode cX11_init 730 = .ok (.dup, 1) := by decide +kernel
theorem dX11_init_731 : decode cX11_init 731 = .ok (.bipush 58, 2) := by decide +kernel
theorem dX11_init_733 : decode cX11_init 733 = .ok (.bipush 117, 2) := by decide +kernel
theorem dX11_init_735 : decode cX11_init 735 = .ok (.iastore, 1) := by decide +kernel
theorem dX11_init_736 : decode cX11_init 736 = .ok (.dup, 1) := by decide +kernel
theorem dX11_init_737 : decode cX11_init 737 = .ok (.bipush 59, 2) := by decide +kernel
theorem dX11_init_739 : decode cX11_init 739 = .ok (.bipush 114, 2) := by decide +kernel
theorem dX11_init_741 : decode cX11_init 741 = .ok (.iastore, 1) := by decide +kernel
theorem dX11_init_742 : decode cX11_init 742 = .ok (.dup, 1) := by decide +kernel
theorem dX11_init_743 : decode cX11_init 743 = .ok (.bipush 60, 2) := by decide +kernel
theorem dX11_init_745 : decode cX11_init 745 = .ok (.bipush 32, 2) := by decide +kernel
theorem dX11_init_747 : decode cX11_init 747 = .ok (.iastore, 1) := by decide +kernel
theorem dX11_init_748 : decode cX11_init 748 = .ok (.dup, 1) := by decide +kernel
theorem dX11_init_749 : decode cX11_init 749 = .ok (.bipush 61, 2) := by decide +kernel
theorem dX11_init_751 : decode cX11_init 751 = .ok (.bipush 32, 2) := by decide +kernel
theorem dX11_init_753 : decode cX11_init 753 = .ok (.iastore, 1) := by decide +kernel
theorem dX11_init_754 : decode cX11_init 754 = .ok (.dup, 1) := by decide +kernel
theorem dX11_init_755 : decode cX11_init 755 = .ok (.bipush 62, 2) := by decide +kernel
theorem dX11_init_757 : decode cX11_init 757 = .ok (.bipush 32, 2) := by decide +kernel
theorem dX11_init_759 : decode cX11_init 759 = .ok (.iastore, 1) := by decide +kernel
theorem dX11_init_760 : decode cX11_init 760 = .ok (.dup, 1) := by decide +kernel
theorem dX11_init_761 : decode cX11_init 761 = .ok (.bipush 63, 2) := by decide +kernel
theorem dX11_init_763 : decode cX11_init 763 = .ok (.bipush 32, 2) := by decide +kernel
theorem dX11_init_765 : decode cX11_init 765 = .ok (.iastore, 1) := by decide +kernel
theorem dX11_init_766 : decode cX11_init 766 = .ok (.dup, 1) := by decide +kernel
theorem dX11_init_767 : decode cX11_init 767 = .ok (.bipush 64, 2) := by decide +kernel
theorem dX11_init_769 : decode cX11_init 769 = .ok (.bipush 109, 2) := by decide +kernel
theorem dX11_init_771 : decode cX11_init 771 = .ok (.iastore, 1) := by decide +kernel
theorem dX11_init_772 : decode cX11_init 772 = .ok (.dup, 1) := by decide +kernel
theorem dX11_init_773 : decode cX11_init 773 = .ok (.bipush 65, 2) := by decide +kernel
theorem dX11_init_775 : decode cX11_init 775 = .ok (.bipush 111, 2) := by decide +kernel
theorem dX11_init_777 : decode cX11_init 777 = .ok (.iastore, 1) := by decide +kernel
theorem dX11_init_778 : decode cX11_init 778 = .ok (.dup, 1) := by decide +kernel
theorem dX11_init_779 : decode cX11_init 779 = .ok (.bipush 66, 2) := by decide +kernel
theorem dX11_init_781 : decode cX11_init 781 = .ok (.bipush 114, 2) := by decide +kernel
theorem dX11_init_783 : decode cX11_init 783 = .ok (.iastore, 1) := by decide +kernel
theorem dX11_init_784 : decode cX11_init 784 = .ok (.dup, 1) := by decide +kernel
theorem dX11_init_785 : decode cX11_init 785 = .ok (.bipush 67, 2) := by decide +kernel
theorem dX11_init_787 : decode cX11_init 787 = .ok (.bipush 101, 2) := by decide +kernel
theorem dX11_init_789 : decode cX11_init 789 = .ok (.iastore, 1) := by decide +kernel
theorem dX11_init_790 : decode cX11_init 790 = .ok (.dup, 1) := by decide +kernel
theorem dX11_init_791 : decode cX11_init 791 = .ok (.bipush 68, 2) := by decide +kernel
theorem dX11_init_793 : decode cX11_init 793 = .ok (.bipush 32, 2) := by decide +kernel
theorem dX11_init_795 : decode cX11_init 795 = .ok (.iastore, 1) := by decide +kernel
theorem dX11_init_796 : decode cX11_init 796 = .ok (.dup, 1) := by decide +kernel
theorem dX11_init_797 : decode cX11_init 797 = .ok (.bipush 69, 2) := by decide +kernel
theorem dX11_init_799 : decode cX11_init 799 = .ok (.bipush 32, 2) := by decide +kernel
theorem dX11_init_801 : decode cX11_init 801 = .ok (.iastore, 1) := by decide +kernel
theorem dX11_init_802 : decode cX11_init 802 = .ok (.dup, 1) := by decide +kernel
theorem dX11_init_803 : decode cX11_init 803 = .ok (.bipush 70, 2) := by decide +kernel
theorem dX11_init_805 : decode cX11_init 805 = .ok (.bipush 32, 2) := by decide +kernel
theorem dX11_init_807 : decode cX11_init 807 = .ok (.iastore, 1) := by decide +kernel
theorem dX11_init_808 : decode cX11_init 808 = .ok (.dup, 1) := by decide +kernel
theorem dX11_init_809 : decode cX11_init 809 = .ok (.bipush 71, 2) := by decide +kernel
theorem dX11_init_811 : decode cX11_init 811 = .ok (.bipush 32, 2) := by decide +kernel
theorem dX11_init_813 : decode cX11_init 813 = .ok (.iastore, 1) := by decide +kernel
theorem dX11_init_814 : decode cX11_init 814 = .ok (.dup, 1) := by decide +kernel
theorem dX11_init_815 : decode cX11_init 815 = .ok (.bipush 72, 2) := by decide +kernel
theorem dX11_init_817 : decode cX11_init 817 = .ok (.bipush 111, 2) := by decide +kernel
theorem dX11_init_819 : decode cX11_init 819 = .ok (.iastore, 1) := by decide +kernel
theorem dX11_init_820 : decode cX11_init 820 = .ok (.dup, 1) := by decide +kernel
theorem dX11_init_821 : decode cX11_init 821 = .ok (.bipush 73, 2) := by decide +kernel
theorem dX11_init_823 : decode cX11_init 823 = .ok (.bipush 114, 2) := by decide +kernel
theorem dX11_init_825 : decode cX11_init 825 = .ok (.iastore, 1) := by decide +kernel
theorem dX11_init_826 : decode cX11_init 826 = .ok (.dup, 1) := by decide +kernel
theorem dX11_init_827 : decode cX11_init 827 = .ok (.bipush 74, 2) := by decide +kernel
theorem dX11_init_829 : decode cX11_init 829 = .ok (.bipush 32, 2) := by decide +kernel
theorem dX11_init_831 : decode cX11_init 831 = .ok (.iastore, 1) := by decide +kernel
theorem dX11_init_832 : decode cX11_init 832 = .ok (.dup, 1) := by decide +kernel
theorem dX11_init_833 : decode cX11_init 833 = .ok (.bipush 75, 2) := by decide +kernel
theorem dX11_init_835 : decode cX11_init 835 = .ok (.bipush 32, 2) := by decide +kernel
theorem dX11_init_837 : decode cX11_init 837 = .ok (.iastore, 1) := by decide +kernel
theorem dX11_init_838 : decode cX11_init 838 = .ok (.dup, 1) := by decide +kernel
theorem dX11_init_839 : decode cX11_init 839 = .ok (.bipush 76, 2) := by decide +kernel
theorem dX11_init_841 : decode cX11_init 841 = .ok (.bipush 32, 2) := by decide +kernel
theorem dX11_init_843 : decode cX11_init 843 = .ok (.iastore, 1) := by decide +kernel
theorem dX11_init_844 : decode cX11_init 844 = .ok (.dup, 1) := by decide +kernel
theorem dX11_init_845 : decode cX11_init 845 = .ok (.bipush 77, 2) := by decide +kernel
theorem dX11_init_847 : decode cX11_init 847 = .ok (.bipush 32, 2) := by decide +kernel
theorem dX11_init_849 : decode cX11_init 849 = .ok (.iastore, 1) := by decide +kernel
theorem dX11_init_850 : decode cX11_init 850 = .ok (.dup, 1) := by decide +kernel
theorem dX11_init_851 : decode cX11_init 851 = .ok (.bipush 78, 2) := by decide +kernel
theorem dX11_init_853 : decode cX11_init 853 = .ok (.bipush 32, 2) := by decide +kernel
theorem dX11_init_855 : decode cX11_init 855 = .ok (.iastore, 1) := by decide +kernel
theorem dX11_init_856 : decode cX11_init 856 = .ok (.dup, 1) := by decide +kernel
theorem dX11_init_857 : decode cX11_init 857 = .ok (.bipush 79, 2) := by decide +kernel
theorem dX11_init_859 : decode cX11_init 859 = .ok (.bipush 32, 2) := by decide +kernel
theorem dX11_init_861 : decode cX11_init 861 = .ok (.iastore, 1) := by decide +kernel
theorem dX11_init_862 : decode cX11_init 862 = .ok (.dup, 1) := by decide +kernel
theorem dX11_init_863 : decode cX11_init 863 = .ok (.bipush 80, 2) := by decide +kernel
theorem dX11_init_865 : decode cX11_init 865 = .ok (.bipush 97, 2) := by decide +kernel
theorem dX11_init_867 : decode cX11_init 867 = .ok (.iastore, 1) := by decide +kernel
theorem dX11_init_868 : decode cX11_init 868 = .ok (.dup, 1) := by decide +kernel
theorem dX11_init_869 : decode cX11_init 869 = .ok (.bipush 81, 2) := by decide +kernel
theorem dX11_init_871 : decode cX11_init 871 = .ok (.bipush 110, 2) := by decide +kernel
theorem dX11_init_873 : decode cX11_init 873 = .ok (.iastore, 1) := by decide +kernel
theorem dX11_init_874 : decode cX11_init 874 = .ok (.dup, 1) := by decide +kernel
theorem dX11_init_875 : decode cX11_init 875 = .ok (.bipush 82, 2) := by decide +kernel
theorem dX11_init_877 : decode cX11_init 877 = .ok (.bipush 100, 2) := by decide +kernel
theorem dX11_init_879 : decode cX11_init 879 = .ok (.iastore, 1) := by decide +kernel
theorem dX11_init_880 : decode cX11_init 880 = .ok (.dup, 1) := by decide +kernel
theorem dX11_init_881 : decode cX11_init 881 = .ok (.bipush 83, 2) := by decide +kernel
theorem dX11_init_883 : decode cX11_init 883 = .ok (.bipush 32, 2) := by decide +kernel
theorem dX11_init_885 : decode cX11_init 885 = .ok (.iastore, 1) := by decide +kernel
theorem dX11_init_886 : decode cX11_init 886 = .ok (.dup, 1) := by decide +kernel
theorem dX11_init_887 : decode cX11_init 887 = .ok (.bipush 84, 2) := by decide +kernel
theorem dX11_init_889 : decode cX11_init 889 = .ok (.bipush 32, 2) := by decide +kernel
theorem dX11_init_891 : decode cX11_init 891 = .ok (.iastore, 1) := by decide +kernel
theorem dX11_init_892 : decode cX11_init 892 = .ok (.dup, 1) := by decide +kernel
theorem dX11_init_893 : decode cX11_init 893 = .ok (.bipush 85, 2) := by decide +kernel
theorem dX11_init_895 : decode cX11_init 895 = .ok (.bipush 32, 2) := by decide +kernel
theorem dX11_init_897 : decode cX11_init 897 = .ok (.iastore, 1) := by decide +kernel
theorem dX11_init_898 : decode cX11_init 898 = .ok (.dup, 1) := by decide +kernel
theorem dX11_init_899 : decode cX11_init 899 = .ok (.bipush 86, 2) := by decide +kernel
theorem dX11_init_901 : decode cX11_init 901 = .ok (.bipush 32, 2) := by decide +kernel
theorem dX11_init_903 : decode cX11_init 903 = .ok (.iastore, 1) := by decide +kernel
theorem dX11_init_904 : decode cX11_init 904 = .ok (.dup, 1) := by decide +kernel
theorem dX11_init_905 : decode cX11_init 905 = .ok (.bipush 87, 2) := by decide +kernel
theorem dX11_init_907 : decode cX11_init 907 = .ok (.bipush 32, 2) := by decide +kernel
theorem dX11_init_909 : decode cX11_init 909 = .ok (.iastore, 1) := by decide +kernel
theorem dX11_init_910 : decode cX11_init 910 = .ok (.dup, 1) := by decide +kernel
theorem dX11_init_911 : decode cX11_init 911 = .ok (.bipush 88, 2) := by decide +kernel
theorem dX11_init_913 : decode cX11_init 913 = .ok (.bipush 110, 2) := by decide +kernel
theorem dX11_init_915 : decode cX11_init 915 = .ok (.iastore, 1) := by decide +kernel
theorem dX11_init_916 : decode cX11_init 916 = .ok (.dup, 1) := by decide +kernel
theorem dX11_init_917 : decode cX11_init 917 = .ok (.bipush 89, 2) := by decide +kernel
theorem dX11_init_919 : decode cX11_init 919 = .ok (.bipush 111, 2) := by decide +kernel
theorem dX11_init_921 : decode cX11_init 921 = .ok (.iastore, 1) := by decide +kernel
theorem dX11_init_922 : decode cX11_init 922 = .ok (.dup, 1) := by decide +kernel
theorem dX11_init_923 : decode cX11_init 923 = .ok (.bipush 90, 2) := by decide +kernel
theorem dX11_init_925 : decode cX11_init 925 = .ok (.bipush 116, 2) := by decide +kernel
theorem dX11_init_927 : decode cX11_init 927 = .ok (.iastore, 1) := by decide +kernel
theorem dX11_init_928 : decode cX11_init 928 = .ok (.dup, 1) := by decide +kernel
theorem dX11_init_929 : decode cX11_init 929 = .ok (.bipush 91, 2) := by decide +kernel
theorem dX11_init_931 : decode cX11_init 931 = .ok (.bipush 32, 2) := by decide +kernel
theorem dX11_init_933 : decode cX11_init 933 = .ok (.iastore, 1) := by decide +kernel
theorem dX11_init_934 : decode cX11_init 934 = .ok (.dup, 1) := by decide +kernel
theorem dX11_init_935 : decode cX11_init 935 = .ok (.bipush 92, 2) := by decide +kernel
theorem dX11_init_937 : decode cX11_init 937 = .ok (.bipush 32, 2) := by decide +kernel
theorem dX11_init_939 : decode cX11_init 939 = .ok (.iastore, 1) := by decide +kernel
theorem dX11_init_940 : decode cX11_init 940 = .ok (.dup, 1) := by decide +kernel
theorem dX11_init_941 : decode cX11_init 941 = .ok (.bipush 93, 2) := by decide +kernel
theorem dX11_init_943 : decode cX11_init 943 = .ok (.bipush 32, 2) := by decide +kernel
theorem dX11_init_945 : decode cX11_init 945 = .ok (.iastore, 1) := by decide +kernel
theorem dX11_init_946 : decode cX11_init 946 = .ok (.dup, 1) := by decide +kernel
theorem dX11_init_947 : decode cX11_init 947 = .ok (.bipush 94, 2) := by decide +kernel
theorem dX11_init_949 : decode cX11_init 949 = .ok (.bipush 32, 2) := by decide +kernel
theorem dX11_init_951 : decode cX11_init 951 = .ok (.iastore, 1) := by decide +kernel
theorem dX11_init_952 : decode cX11_init 952 = .ok (.dup, 1) := by decide +kernel
theorem dX11_init_953 : decode cX11_init 953 = .ok (.bipush 95, 2) := by decide +kernel
theorem dX11_init_955 : decode cX11_init 955 = .ok (.bipush 32, 2) := by decide +kernel
theorem dX11_init_957 : decode cX11_init 957 = .ok (.iastore, 1) := by decide +kernel
theorem dX11_init_958 : decode cX11_init 958 = .ok (.putfield 49, 3) := by decide +kernel
theorem dX11_init_961 : decode cX11_init 961 = .ok (.aload_n 0, 1) := by decide +kernel
theorem dX11_init_962 : decode cX11_init 962 = .ok (.sipush 200, 3) := by decide +kernel
theorem dX11_init_965 : decode cX11_init 965 = .ok (.newarray .int, 2) := by decide +kernel
theorem dX11_init_967 : decode cX11_init 967 = .ok (.putfield 52, 3) := by decide +kernel
theorem dX11_init_970 : decode cX11_init 970 = .ok (.aload_n 0, 1) := by decide +kernel
theorem dX11_init_971 : decode cX11_init 971 = .ok (.sipush 200, 3) := by decide +kernel
theorem dX11_init_974 : decode cX11_init 974 = .ok (.newarray .int, 2) := by decide +kernel
theorem dX11_init_976 : decode cX11_init 976 = .ok (.putfield 55, 3) := by decide +kernel
theorem dX11_init_979 : decode cX11_init 979 = .ok (.aload_n 0, 1) := by decide +kernel
theorem dX11_init_980 : decode cX11_init 980 = .ok (.bipush 6, 2) := by decide +kernel
theorem dX11_init_982 : decode cX11_init 982 = .ok (.newarray .int, 2) := by decide +kernel
theorem dX11_init_984 : decode cX11_init 984 = .ok (.putfield 58, 3) := by decide +kernel
theorem dX11_init_987 : decode cX11_init 987 = .ok (.aload_n 0, 1) := by decide +kernel
theorem dX11_init_988 : decode cX11_init 988 = .ok (.bipush 27, 2) := by decide +kernel
theorem dX11_init_990 : decode cX11_init 990 = .ok (.newarray .int, 2) := by decide +kernel
theorem dX11_init_992 : decode cX11_init 992 = .ok (.putfield 61, 3) := by decide +kernel
theorem dX11_init_995 : decode cX11_init 995 = .ok (.aload_n 0, 1) := by decide +kernel
theorem dX11_init_996 : decode cX11_init 996 = .ok (.bipush 9, 2) := by decide +kernel
theorem dX11_init_998 : decode cX11_init 998 = .ok (.newarray .int, 2) := by decide +kernel
theorem dX11_init_1000 : decode cX11_init 1000 = .ok (.putfield 64, 3) := by decide +kernel
theorem dX11_init_1003 : decode cX11_init 1003 = .ok (.iconst 0, 1) := by decide +kernel
theorem dX11_init_1004 : decode cX11_init 1004 = .ok (.istore_n 1, 1) := by decide +kernel
theorem dX11_init_1005 : decode cX11_init 1005 = .ok (.iload_n 1, 1) := by decide +kernel
theorem dX11_init_1006 : decode cX11_init 1006 = .ok (.bipush 34, 2) := by decide +kernel
theorem dX11_init_1008 : decode cX11_init 1008 = .ok (.if_icmp .ge 21, 3) := by decide +kernel
theorem dX11_init_1011 : decode cX11_init 1011 = .ok (.aload_n 0, 1) := by decide +kernel
theorem dX11_init_1012 : decode cX11_init 1012 = .ok (.getfield 22, 3) := by decide +kernel
theorem dX11_init_1015 : decode cX11_init 1015 = .ok (.iload_n 1, 1) := by decide +kernel
theorem dX11_init_1016 : decode cX11_init 1016 = .ok (.aload_n 0, 1) := by decide +kernel
theorem dX11_init_1017 : decode cX11_init 1017 = .ok (.getfield 46, 3) := by decide +kernel
theorem dX11_init_1020 : decode cX11_init 1020 = .ok (.iload_n 1, 1) := by decide +kernel
theorem dX11_init_1021 : decode cX11_init 1021 = .ok (.iaload, 1) := by decide +kernel
theorem dX11_init_1022 : decode cX11_init 1022 = .ok (.iastore, 1) := by decide +kernel
theorem dX11_init_1023 : decode cX11_init 1023 = .ok (.iinc 1 1, 3) := by decide +kernel
theorem dX11_init_1026 : decode cX11_init 1026 = .ok (.goto (-21), 3) := by decide +kernel
theorem dX11_init_1029 : decode cX11_init 1029 = .ok (.aload_n 0, 1) := by decide +kernel
theorem dX11_init_1030 : decode cX11_init 1030 = .ok (.bipush 34, 2) := by decide +kernel
theorem dX11_init_1032 : decode cX11_init 1032 = .ok (.putfield 67, 3) := by decide +kernel
theorem dX11_init_1035 : decode cX11_init 1035 = .ok (.aload_n 0, 1) := by decide +kernel
theorem dX11_init_1036 : decode cX11_init 1036 = .ok (.invokevirtual 71, 3) := by decide +kernel
theorem dX11_init_1039 : decode cX11_init 1039 = .ok (.pop, 1) := by decide +kernel
theorem dX11_init_1040 : decode cX11_init 1040 = .ok (.return_, 1) := by decide +kernel
set_option maxHeartbeats 16000000 in
set_option maxRecDepth 100000 in
theorem a_X11_init {E : gE} {b : Nat} {Q : State → Prop} (C : kCx E RX11 cX11_init 2 none) (hin : (e_M E).name = "<init>") (hRf : 40 ≤ (e_R E).frames) (hRl : 2560 ≤ (e_R E).locals) (hRc : 19 ≤ (e_R E).cells) (hRs : 2212 ≤ (e_R E).slots) (hsz : (e_s E).heap.size + 0 = b + 1) (hck : e_ck E = 19) (hcs : e_cs E = 2212) (had : e_ad E = fun k => b + k) (kk : GW SM E Q 1003 [some (.ref b), none] [] m_i0) : AW E 20 b 1 0 0 Q 0 [some (.ref b), none] [] (fun _ => .inr (11, [.int 0, .null, .null, .null, .null, .null, .int 0, .null, .null, .int 0, .int 0, .int 0, .null, .null, .null, .null, .null, .null, .int 0, .int 0, .int 0, .int 0, .null, .null, .int 0, .int 0, .int 0, .null, .null, .null, .null, .int 0])) := by
  refine A_aload_n (i := 0) C 1 dX11_init_0 rfl rfl rfl ?_
  refine A_objInit C 4 w_825 (by omega) (by omega) rfl (by decide) dX11_init_1 rfl ?_
  refine A_aload_n (i := 0) C 5 dX11_init_4 rfl rfl rfl ?_
  refine A_bipush (v := 6) C 7 dX11_init_5 rfl rfl ?_
  refine A_newa (N' := 6) C 9 rfl (by decide) (by omega) (Or.inl (by decide)) (by omega) (by omega) dX11_init_7 rfl ?_
  show AW E 20 b 2 1 6 _ 9 [some (.ref b), none] [.ref (b + 1), .ref b] _
  refine A_putF (fs := [.int 0, .null, .null, .null, .null, .null, .int 0, .null, .null, .int 0, .int 0, .int 0, .null, .null, .null, .null, .null, .null, .int 0, .int 0, .int 0, .int 0, .null, .null, .int 0, .int 0, .int 0, .null, .null, .null, .null, .int 0]) C hin 12 FL_11_7 tyX11_ok nmX11 rfl rfl (tyX11_ok 1 (by decide)) ⟨rfl, rfl⟩ (k := 0) (by decide) (by decide) rfl (Nat.le_of_ble_eq_true rfl) dX11_init_9 rfl ?_
  refine A_aload_n (i := 0) C 13 dX11_init_12 rfl rfl rfl ?_
  refine A_bipush (v := 6) C 15 dX11_init_13 rfl rfl ?_
  refine A_newa (N' := 6) C 17 rfl (by decide) (by omega) (Or.inl (by decide)) (by omega) (by omega) dX11_init_15 rfl ?_
  show AW E 20 b 3 2 12 _ 17 [some (.ref b), none] [.ref (b + 2), .ref b] _
  refine A_putF (fs := [.int 0, .ref (b + 1), .null, .null, .null, .null, .int 0, .null, .null, .int 0, .int 0, .int 0, .null, .null, .null, .null, .null, .null, .int 0, .int 0, .int 0, .int 0, .null, .null, .int 0, .int 0, .int 0, .null, .null, .null, .null, .int 0]) C hin 20 FL_11_13 tyX11_ok nmX11 rfl rfl (tyX11_ok 2 (by decide)) ⟨rfl, rfl⟩ (k := 0) (by decide) (by decide) rfl (Nat.le_of_ble_eq_true rfl) dX11_init_17 rfl ?_
  refine A_aload_n (i := 0) C 21 dX11_init_20 rfl rfl rfl ?_
  refine A_bipush (v := 24) C 23 dX11_init_21 rfl rfl ?_
  refine A_newa (N' := 24) C 25 rfl (by decide) (by omega) (Or.inl (by decide)) (by omega) (by omega) dX11_init_23 rfl ?_
  show AW E 20 b 4 3 36 _ 25 [some (.ref b), none] [.ref (b + 3), .ref b] _
  refine A_putF (fs := [.int 0, .ref (b + 1), .ref (b + 2), .null, .null, .null, .int 0, .null, .null, .int 0, .int 0, .int 0, .null, .null, .null, .null, .null, .null, .int 0, .int 0, .int 0, .int 0, .null, .null, .int 0, .int 0, .int 0, .null, .null, .null, .null, .int 0]) C hin 28 FL_11_16 tyX11_ok nmX11 rfl rfl (tyX11_ok 3 (by decide)) ⟨rfl, rfl⟩ (k := 0) (by decide) (by decide) rfl (Nat.le_of_ble_eq_true rfl) dX11_init_25 rfl ?_
  refine A_aload_n (i := 0) C 29 dX11_init_28 rfl rfl rfl ?_
  refine A_bipush (v := 13) C 31 dX11_init_29 rfl rfl ?_
  refine A_newa (N' := 13) C 33 rfl (by decide) (by omega) (Or.inl (by decide)) (by omega) (by omega) dX11_init_31 rfl ?_
  show AW E 20 b 5 4 49 _ 33 [some (.ref b), none] [.ref (b + 4), .ref b] _
  refine A_dup C 34 dX11_init_33 rfl rfl ?_
  refine A_iconst (v := 0) C 35 dX11_init_34 rfl rfl ?_
  refine A_iconst (v := 0) C 36 dX11_init_35 rfl rfl ?_
  refine A_iast (i' := 0) (k := 4) (f := (fun _ => 0)) C 37 rfl (by decide) (by decide) (by decide) (by decide) rfl dX11_init_36 rfl ?_
  refine A_dup C 38 dX11_init_37 rfl rfl ?_
  refine A_iconst (v := 1) C 39 dX11_init_38 rfl rfl ?_
  refine A_iconst (v := 0) C 40 dX11_init_39 rfl rfl ?_
  refine A_iast (i' := 1) (k := 4) (f := (upd (fun _ => 0) 0 0)) C 41 rfl (by decide) (by decide) (by decide) (by decide) rfl dX11_init_40 rfl ?_
  refine A_dup C 42 dX11_init_41 rfl rfl ?_
  refine A_iconst (v := 2) C 43 dX11_init_42 rfl rfl ?_
  refine A_sipush (v := 1023) C 46 dX11_init_43 rfl rfl ?_
  refine A_iast (i' := 2) (k := 4) (f := (upd (upd (fun _ => 0) 0 0) 1 0)) C 47 rfl (by decide) (by decide) (by decide) (by decide) rfl dX11_init_46 rfl ?_
  refine A_dup C 48 dX11_init_47 rfl rfl ?_
  refine A_iconst (v := 3) C 49 dX11_init_48 rfl rfl ?_
  refine A_iconst (v := 0) C 50 dX11_init_49 rfl rfl ?_
  refine A_iast (i' := 3) (k := 4) (f := (upd (upd (upd (fun _ => 0) 0 0) 1 0) 2 1023)) C 51 rfl (by decide) (by decide) (by decide) (by decide) rfl dX11_init_50 rfl ?_
  refine A_dup C 52 dX11_init_51 rfl rfl ?_
  refine A_iconst (v := 4) C 53 dX11_init_52 rfl rfl ?_
  refine A_iconst (v := 0) C 54 dX11_init_53 rfl rfl ?_
  refine A_iast (i' := 4) (k := 4) (f := (upd (upd (upd (upd (fun _ => 0) 0 0) 1 0) 2 1023) 3 0)) C 55 rfl (by decide) (by decide) (by decide) (by decide) rfl dX11_init_54 rfl ?_
  refine A_dup C 56 dX11_init_55 rfl rfl ?_
  refine A_iconst (v := 5) C 57 dX11_init_56 rfl rfl ?_
  refine A_iconst (v := 0) C 58 dX11_init_57 rfl rfl ?_
  refine A_iast (i' := 5) (k := 4) (f := (upd (upd (upd (upd (upd (fun _ => 0) 0 0) 1 0) 2 1023) 3 0) 4 0)) C 59 rfl (by decide) (by decide) (by decide) (by decide) rfl dX11_init_58 rfl ?_
  refine A_dup C 60 dX11_init_59 rfl rfl ?_
  refine A_bipush (v := 6) C 62 dX11_init_60 rfl rfl ?_
  refine A_iconst (v := 0) C 63 dX11_init_62 rfl rfl ?_
  refine A_iast (i' := 6) (k := 4) (f := (upd (upd (upd (upd (upd (upd (fun _ => 0) 0 0) 1 0) 2 1023) 3 0) 4 0) 5 0)) C 64 rfl (by decide) (by decide) (by decide) (by decide) rfl dX11_init_63 rfl ?_
  refine A_dup C 65 dX11_init_64 rfl rfl ?_
  refine A_bipush (v := 7) C 67 dX11_init_65 rfl rfl ?_
  refine A_iconst (v := 0) C 68 dX11_init_67 rfl rfl ?_
  refine A_iast (i' := 7) (k := 4) (f := (upd (upd (upd (upd (upd (upd (upd (fun _ => 0) 0 0) 1 0) 2 1023) 3 0) 4 0) 5 0) 6 0)) C 69 rfl (by decide) (by decide) (by decide) (by decide) rfl dX11_init_68 rfl ?_
  refine A_dup C 70 dX11_init_69 rfl rfl ?_
  refine A_bipush (v := 8) C 72 dX11_init_70 rfl rfl ?_
  refine A_iconst (v := 0) C 73 dX11_init_72 rfl rfl ?_
  refine A_iast (i' := 8) (k := 4) (f := (upd (upd (upd (upd (upd (upd (upd (upd (fun _ => 0) 0 0) 1 0) 2 1023) 3 0) 4 0) 5 0) 6 0) 7 0)) C 74 rfl (by decide) (by decide) (by decide) (by decide) rfl dX11_init_73 rfl ?_
  refine A_dup C 75 dX11_init_74 rfl rfl ?_
  refine A_bipush (v := 9) C 77 dX11_init_75 rfl rfl ?_
  refine A_iconst (v := 0) C 78 dX11_init_77 rfl rfl ?_
  refine A_iast (i' := 9) (k := 4) (f := (upd (upd (upd (upd (upd (upd (upd (upd (upd (fun _ => 0) 0 0) 1 0) 2 1023) 3 0) 4 0) 5 0) 6 0) 7 0) 8 0)) C 79 rfl (by decide) (by decide) (by decide) (by decide) rfl dX11_init_78 rfl ?_
  refine A_dup C 80 dX11_init_79 rfl rfl ?_
  refine A_bipush (v := 10) C 82 dX11_init_80 rfl rfl ?_
  refine A_iconst (v := 0) C 83 dX11_init_82 rfl rfl ?_
  refine A_iast (i' := 10) (k := 4) (f := (upd (upd (upd (upd (upd (upd (upd (upd (upd (upd (fun _ => 0) 0 0) 1 0) 2 1023) 3 0) 4 0) 5 0) 6 0) 7 0) 8 0) 9 0)) C 84 rfl (by decide) (by decide) (by decide) (by decide) rfl dX11_init_83 rfl ?_
  refine A_dup C 85 dX11_init_84 rfl rfl ?_
  refine A_bipush (v := 11) C 87 dX11_init_85 rfl rfl ?_
  refine A_iconst (v := 0) C 88 dX11_init_87 rfl rfl ?_
  refine A_iast (i' := 11) (k := 4) (f := (upd (upd (upd (upd (upd (upd (upd (upd (upd (upd (upd (fun _ => 0) 0 0) 1 0) 2 1023) 3 0) 4 0) 5 0) 6 0) 7 0) 8 0) 9 0) 10 0)) C 89 rfl (by decide) (by decide) (by decide) (by decide) rfl dX11_init_88 rfl ?_
  refine A_dup C 90 dX11_init_89 rfl rfl ?_
  refine A_bipush (v := 12) C 92 dX11_init_90 rfl rfl ?_
  refine A_iconst (v := 0) C 93 dX11_init_92 rfl rfl ?_
  refine A_iast (i' := 12) (k := 4) (f := (upd (upd (upd (upd (upd (upd (upd (upd (upd (upd (upd (upd (fun _ => 0) 0 0) 1 0) 2 1023) 3 0) 4 0) 5 0) 6 0) 7 0) 8 0) 9 0) 10 0) 11 0)) C 94 rfl (by decide) (by decide) (by decide) (by decide) rfl dX11_init_93 rfl ?_
  refine A_putF (fs := [.int 0, .ref (b + 1), .ref (b + 2), .ref (b + 3), .null, .null, .int 0, .null, .null, .int 0, .int 0, .int 0, .null, .null, .null, .null, .null, .null, .int 0, .int 0, .int 0, .int 0, .null, .null, .int 0, .int 0, .int 0, .null, .null, .null, .null, .int 0]) C hin 97 FL_11_19 tyX11_ok nmX11 rfl rfl (tyX11_ok 4 (by decide)) ⟨rfl, rfl⟩ (k := 0) (by decide) (by decide) rfl (Nat.le_of_ble_eq_true rfl) dX11_init_94 rfl ?_
  refine A_aload_n (i := 0) C 98 dX11_init_97 rfl rfl rfl ?_
  refine A_sipush (v := 160) C 101 dX11_init_98 rfl rfl ?_
  refine A_newa (N' := 160) C 103 rfl (by decide) (by omega) (Or.inl (by decide)) (by omega) (by omega) dX11_init_101 rfl ?_
  show AW E 20 b 6 5 209 _ 103 [some (.ref b), none] [.ref (b + 5), .ref b] _
  refine A_putF (fs := [.int 0, .ref (b + 1), .ref (b + 2), .ref (b + 3), .ref (b + 4), .null, .int 0, .null, .null, .int 0, .int 0, .int 0, .null, .null, .null, .null, .null, .null, .int 0, .int 0, .int 0, .int 0, .null, .null, .int 0, .int 0, .int 0, .null, .null, .null, .null, .int 0]) C hin 106 FL_11_22 tyX11_ok nmX11 rfl rfl (tyX11_ok 5 (by decide)) ⟨rfl, rfl⟩ (k := 0) (by decide) (by decide) rfl (Nat.le_of_ble_eq_true rfl) dX11_init_103 rfl ?_
  refine A_aload_n (i := 0) C 107 dX11_init_106 rfl rfl rfl ?_
  refine A_sipush (v := 1200) C 110 dX11_init_107 rfl rfl ?_
  refine A_newa (N' := 1200) C 112 rfl (by decide) (by omega) (Or.inl (by decide)) (by omega) (by omega) dX11_init_110 rfl ?_
  show AW E 20 b 7 6 1409 _ 112 [some (.ref b), none] [.ref (b + 6), .ref b] _
  refine A_putF (fs := [.int 0, .ref (b + 1), .ref (b + 2), .ref (b + 3), .ref (b + 4), .ref (b + 5), .int 0, .null, .null, .int 0, .int 0, .int 0, .null, .null, .null, .null, .null, .null, .int 0, .int 0, .int 0, .int 0, .null, .null, .int 0, .int 0, .int 0, .null, .null, .null, .null, .int 0]) C hin 115 FL_11_25 tyX11_ok nmX11 rfl rfl (tyX11_ok 7 (by decide)) ⟨rfl, rfl⟩ (k := 0) (by decide) (by decide) rfl (Nat.le_of_ble_eq_true rfl) dX11_init_112 rfl ?_
  refine A_aload_n (i := 0) C 116 dX11_init_115 rfl rfl rfl ?_
  refine A_bipush (v := 24) C 118 dX11_init_116 rfl rfl ?_
  refine A_newa (N' := 24) C 120 rfl (by decide) (by omega) (Or.inl (by decide)) (by omega) (by omega) dX11_init_118 rfl ?_
  show AW E 20 b 8 7 1433 _ 120 [some (.ref b), none] [.ref (b + 7), .ref b] _
  refine A_putF (fs := [.int 0, .ref (b + 1), .ref (b + 2), .ref (b + 3), .ref (b + 4), .ref (b + 5), .int 0, .ref (b + 6), .null, .int 0, .int 0, .int 0, .null, .null, .null, .null, .null, .null, .int 0, .int 0, .int 0, .int 0, .null, .null, .int 0, .int 0, .int 0, .null, .null, .null, .null, .int 0]) C hin 123 FL_11_28 tyX11_ok nmX11 rfl rfl (tyX11_ok 8 (by decide)) ⟨rfl, rfl⟩ (k := 0) (by decide) (by decide) rfl (Nat.le_of_ble_eq_true rfl) dX11_init_120 rfl ?_
  refine A_aload_n (i := 0) C 124 dX11_init_123 rfl rfl rfl ?_
  refine A_bipush (v := 37) C 126 dX11_init_124 rfl rfl ?_
  refine A_newa (N' := 37) C 128 rfl (by decide) (by omega) (Or.inl (by decide)) (by omega) (by omega) dX11_init_126 rfl ?_
  show AW E 20 b 9 8 1470 _ 128 [some (.ref b), none] [.ref (b + 8), .ref b] _
  refine A_putF (fs := [.int 0, .ref (b + 1), .ref (b + 2), .ref (b + 3), .ref (b + 4), .ref (b + 5), .int 0, .ref (b + 6), .ref (b + 7), .int 0, .int 0, .int 0, .null, .null, .null, .null, .null, .null, .int 0, .int 0, .int 0, .int 0, .null, .null, .int 0, .int 0, .int 0, .null, .null, .null, .null, .int 0]) C hin 131 FL_11_31 tyX11_ok nmX11 rfl rfl (tyX11_ok 12 (by decide)) ⟨rfl, rfl⟩ (k := 0) (by decide) (by decide) rfl (Nat.le_of_ble_eq_true rfl) dX11_init_128 rfl ?_
  refine A_aload_n (i := 0) C 132 dX11_init_131 rfl rfl rfl ?_
  refine A_iconst (v := 2) C 133 dX11_init_132 rfl rfl ?_
  refine A_newa (N' := 2) C 135 rfl (by decide) (by omega) (Or.inl (by decide)) (by omega) (by omega) dX11_init_133 rfl ?_
  show AW E 20 b 10 9 1472 _ 135 [some (.ref b), none] [.ref (b + 9), .ref b] _
  refine A_putF (fs := [.int 0, .ref (b + 1), .ref (b + 2), .ref (b + 3), .ref (b + 4), .ref (b + 5), .int 0, .ref (b + 6), .ref (b + 7), .int 0, .int 0, .int 0, .ref (b + 8), .null, .null, .null, .null, .null, .int 0, .int 0, .int 0, .int 0, .null, .null, .int 0, .int 0, .int 0, .null, .null, .null, .null, .int 0]) C hin 138 FL_11_34 tyX11_ok nmX11 rfl rfl (tyX11_ok 13 (by decide)) ⟨rfl, rfl⟩ (k := 0) (by decide) (by decide) rfl (Nat.le_of_ble_eq_true rfl) dX11_init_135 rfl ?_
  refine A_aload_n (i := 0) C 139 dX11_init_138 rfl rfl rfl ?_
  refine A_iconst (v := 4) C 140 dX11_init_139 rfl rfl ?_
  refine A_newa (N' := 4) C 142 rfl (by decide) (by omega) (Or.inl (by decide)) (by omega) (by omega) dX11_init_140 rfl ?_
  show AW E 20 b 11 10 1476 _ 142 [some (.ref b), none] [.ref (b + 10), .ref b] _
  refine A_dup C 143 dX11_init_142 rfl rfl ?_
  refine A_iconst (v := 0) C 144 dX11_init_143 rfl rfl ?_
  refine A_iconst (v := (-1)) C 145 dX11_init_144 rfl rfl ?_
  refine A_iast (i' := 0) (k := 10) (f := (fun _ => 0)) C 146 rfl (by decide) (by decide) (by decide) (by decide) rfl dX11_init_145 rfl ?_
  refine A_dup C 147 dX11_init_146 rfl rfl ?_
  refine A_iconst (v := 1) C 148 dX11_init_147 rfl rfl ?_
  refine A_iconst (v := (-1)) C 149 dX11_init_148 rfl rfl ?_
  refine A_iast (i' := 1) (k := 10) (f := (upd (fun _ => 0) 0 (-1))) C 150 rfl (by decide) (by decide) (by decide) (by decide) rfl dX11_init_149 rfl ?_
  refine A_dup C 151 dX11_init_150 rfl rfl ?_
  refine A_iconst (v := 2) C 152 dX11_init_151 rfl rfl ?_
  refine A_iconst (v := (-1)) C 153 dX11_init_152 rfl rfl ?_
  refine A_iast (i' := 2) (k := 10) (f := (upd (upd (fun _ => 0) 0 (-1)) 1 (-1))) C 154 rfl (by decide) (by decide) (by decide) (by decide) rfl dX11_init_153 rfl ?_
  refine A_dup C 155 dX11_init_154 rfl rfl ?_
  refine A_iconst (v := 3) C 156 dX11_init_155 rfl rfl ?_
  refine A_iconst (v := (-1)) C 157 dX11_init_156 rfl rfl ?_
  refine A_iast (i' := 3) (k := 10) (f := (upd (upd (upd (fun _ => 0) 0 (-1)) 1 (-1)) 2 (-1))) C 158 rfl (by decide) (by decide) (by decide) (by decide) rfl dX11_init_157 rfl ?_
  refine A_putF (fs := [.int 0, .ref (b + 1), .ref (b + 2), .ref (b + 3), .ref (b + 4), .ref (b + 5), .int 0, .ref (b + 6), .ref (b + 7), .int 0, .int 0, .int 0, .ref (b + 8), .ref (b + 9), .null, .null, .null, .null, .int 0, .int 0, .int 0, .int 0, .null, .null, .int 0, .int 0, .int 0, .null, .null, .null, .null, .int 0]) C hin 161 FL_11_37 tyX11_ok nmX11 rfl rfl (tyX11_ok 14 (by decide)) ⟨rfl, rfl⟩ (k := 0) (by decide) (by decide) rfl (Nat.le_of_ble_eq_true rfl) dX11_init_158 rfl ?_
  refine A_aload_n (i := 0) C 162 dX11_init_161 rfl rfl rfl ?_
  refine A_iconst (v := 4) C 163 dX11_init_162 rfl rfl ?_
  refine A_newa (N' := 4) C 165 rfl (by decide) (by omega) (Or.inl (by decide)) (by omega) (by omega) dX11_init_163 rfl ?_
  show AW E 20 b 12 11 1480 _ 165 [some (.ref b), none] [.ref (b + 11), .ref b] _
  refine A_putF (fs := [.int 0, .ref (b + 1), .ref (b + 2), .ref (b + 3), .ref (b + 4), .ref (b + 5), .int 0, .ref (b + 6), .ref (b + 7), .int 0, .int 0, .int 0, .ref (b + 8), .ref (b + 9), .ref (b + 10), .null, .null, .null, .int 0, .int 0, .int 0, .int 0, .null, .null, .int 0, .int 0, .int 0, .null, .null, .null, .null, .int 0]) C hin 168 FL_11_40 tyX11_ok nmX11 rfl rfl (tyX11_ok 15 (by decide)) ⟨rfl, rfl⟩ (k := 0) (by decide) (by decide) rfl (Nat.le_of_ble_eq_true rfl) dX11_init_165 rfl ?_
  refine A_aload_n (i := 0) C 169 dX11_init_168 rfl rfl rfl ?_
  refine A_sipush (v := 160) C 172 dX11_init_169 rfl rfl ?_
  refine A_newa (N' := 160) C 174 rfl (by decide) (by omega) (Or.inl (by decide)) (by omega) (by omega) dX11_init_172 rfl ?_
  show AW E 20 b 13 12 1640 _ 174 [some (.ref b), none] [.ref (b + 12), .ref b] _
  refine A_putF (fs := [.int 0, .ref (b + 1), .ref (b + 2), .ref (b + 3), .ref (b + 4), .ref (b + 5), .int 0, .ref (b + 6), .ref (b + 7), .int 0, .int 0, .int 0, .ref (b + 8), .ref (b + 9), .ref (b + 10), .ref (b + 11), .null, .null, .int 0, .int 0, .int 0, .int 0, .null, .null, .int 0, .int 0, .int 0, .null, .null, .null, .null, .int 0]) C hin 177 FL_11_43 tyX11_ok nmX11 rfl rfl (tyX11_ok 16 (by decide)) ⟨rfl, rfl⟩ (k := 0) (by decide) (by decide) rfl (Nat.le_of_ble_eq_true rfl) dX11_init_174 rfl ?_
  refine A_aload_n (i := 0) C 178 dX11_init_177 rfl rfl rfl ?_
  refine A_bipush (v := 34) C 180 dX11_init_178 rfl rfl ?_
  refine A_newa (N' := 34) C 182 rfl (by decide) (by omega) (Or.inl (by decide)) (by omega) (by omega) dX11_init_180 rfl ?_
  show AW E 20 b 14 13 1674 _ 182 [some (.ref b), none] [.ref (b + 13), .ref b] _
  refine A_dup C 183 dX11_init_182 rfl rfl ?_
  refine A_iconst (v := 0) C 184 dX11_init_183 rfl rfl ?_
  refine A_bipush (v := 99) C 186 dX11_init_184 rfl rfl ?_
  refine A_iast (i' := 0) (k := 13) (f := (fun _ => 0)) C 187 rfl (by decide) (by decide) (by decide) (by decide) rfl dX11_init_186 rfl ?_
  refine A_dup C 188 dX11_init_187 rfl rfl ?_
  refine A_iconst (v := 1) C 189 dX11_init_188 rfl rfl ?_
  refine A_bipush (v := 117) C 191 dX11_init_189 rfl rfl ?_
  refine A_iast (i' := 1) (k := 13) (f := (upd (fun _ => 0) 0 99)) C 192 rfl (by decide) (by decide) (by decide) (by decide) rfl dX11_init_191 rfl ?_
  refine A_dup C 193 dX11_init_192 rfl rfl ?_
  refine A_iconst (v := 2) C 194 dX11_init_193 rfl rfl ?_
  refine A_bipush (v := 114) C 196 dX11_init_194 rfl rfl ?_
  refine A_iast (i' := 2) (k := 13) (f := (upd (upd (fun _ => 0) 0 99) 1 117)) C 197 rfl (by decide) (by decide) (by decide) (by decide) rfl dX11_init_196 rfl ?_
  refine A_dup C 198 dX11_init_197 rfl rfl ?_
  refine A_iconst (v := 3) C 199 dX11_init_198 rfl rfl ?_
  refine A_bipush (v := 105) C 201 dX11_init_199 rfl rfl ?_
  refine A_iast (i' := 3) (k := 13) (f := (upd (upd (upd (fun _ => 0) 0 99) 1 117) 2 114)) C 202 rfl (by decide) (by decide) (by decide) (by decide) rfl dX11_init_201 rfl ?_
  refine A_dup C 203 dX11_init_202 rfl rfl ?_
  refine A_iconst (v := 4) C 204 dX11_init_203 rfl rfl ?_
  refine A_bipush (v := 111) C 206 dX11_init_204 rfl rfl ?_
  refine A_iast (i' := 4) (k := 13) (f := (upd (upd (upd (upd (fun _ => 0) 0 99) 1 117) 2 114) 3 105)) C 207 rfl (by decide) (by decide) (by decide) (by decide) rfl dX11_init_206 rfl ?_
  refine A_dup C 208 dX11_init_207 rfl rfl ?_
  refine A_iconst (v := 5) C 209 dX11_init_208 rfl rfl ?_
  refine A_bipush (v := 117) C 211 dX11_init_209 rfl rfl ?_
  refine A_iast (i' := 5) (k := 13) (f := (upd (upd (upd (upd (upd (fun _ => 0) 0 99) 1 117) 2 114) 3 105) 4 111)) C 212 rfl (by decide) (by decide) (by decide) (by decide) rfl dX11_init_211 rfl ?_
  refine A_dup C 213 dX11_init_212 rfl rfl ?_
  refine A_bipush (v := 6) C 215 dX11_init_213 rfl rfl ?_
  refine A_bipush (v := 115) C 217 dX11_init_215 rfl rfl ?_
  refine A_iast (i' := 6) (k := 13) (f := (upd (upd (upd (upd (upd (upd (fun _ => 0) 0 99) 1 117) 2 114) 3 105) 4 111) 5 117)) C 218 rfl (by decide) (by decide) (by decide) (by decide) rfl dX11_init_217 rfl ?_
  refine A_dup C 219 dX11_init_218 rfl rfl ?_
  refine A_bipush (v := 7) C 221 dX11_init_219 rfl rfl ?_
  refine A_bipush (v := 32) C 223 dX11_init_221 rfl rfl ?_
  refine A_iast (i' := 7) (k := 13) (f := (upd (upd (upd (upd (upd (upd (upd (fun _ => 0) 0 99) 1 117) 2 114) 3 105) 4 111) 5 117) 6 115)) C 224 rfl (by decide) (by decide) (by decide) (by decide) rfl dX11_init_223 rfl ?_
  refine A_dup C 225 dX11_init_224 rfl rfl ?_
  refine A_bipush (v := 8) C 227 dX11_init_225 rfl rfl ?_
  refine A_bipush (v := 53) C 229 dX11_init_227 rfl rfl ?_
  refine A_iast (i' := 8) (k := 13) (f := (upd (upd (upd (upd (upd (upd (upd (upd (fun _ => 0) 0 99) 1 117) 2 114) 3 105) 4 111) 5 117) 6 115) 7 32)) C 230 rfl (by decide) (by decide) (by decide) (by decide) rfl dX11_init_229 rfl ?_
  refine A_dup C 231 dX11_init_230 rfl rfl ?_
  refine A_bipush (v := 9) C 233 dX11_init_231 rfl rfl ?_
  refine A_bipush (v := 48) C 235 dX11_init_233 rfl rfl ?_
  refine A_iast (i' := 9) (k := 13) (f := (upd (upd (upd (upd (upd (upd (upd (upd (upd (fun _ => 0) 0 99) 1 117) 2 114) 3 105) 4 111) 5 117) 6 115) 7 32) 8 53)) C 236 rfl (by decide) (by decide) (by decide) (by decide) rfl dX11_init_235 rfl ?_
  refine A_dup C 237 dX11_init_236 rfl rfl ?_
  refine A_bipush (v := 10) C 239 dX11_init_237 rfl rfl ?_
  refine A_bipush (v := 32) C 241 dX11_init_239 rfl rfl ?_
  refine A_iast (i' := 10) (k := 13) (f := (upd (upd (upd (upd (upd (upd (upd (upd (upd (upd (fun _ => 0) 0 99) 1 117) 2 114) 3 105) 4 111) 5 117) 6 115) 7 32) 8 53) 9 48)) C 242 rfl (by decide) (by decide) (by decide) (by decide) rfl dX11_init_241 rfl ?_
  refine A_dup C 243 dX11_init_242 rfl rfl ?_
  refine A_bipush (v := 11) C 245 dX11_init_243 rfl rfl ?_
  refine A_bipush (v := 59) C 247 dX11_init_245 rfl rfl ?_
  refine A_iast (i' := 11) (k := 13) (f := (upd (upd (upd (upd (upd (upd (upd (upd (upd (upd (upd (fun _ => 0) 0 99) 1 117) 2 114) 3 105) 4 111) 5 117) 6 115) 7 32) 8 53) 9 48) 10 32)) C 248 rfl (by decide) (by decide) (by decide) (by decide) rfl dX11_init_247 rfl ?_
  refine A_dup C 249 dX11_init_248 rfl rfl ?_
  refine A_bipush (v := 12) C 251 dX11_init_249 rfl rfl ?_
  refine A_bipush (v := 32) C 253 dX11_init_251 rfl rfl ?_
  refine A_iast (i' := 12) (k := 13) (f := (upd (upd (upd (upd (upd (upd (upd (upd (upd (upd (upd (upd (fun _ => 0) 0 99) 1 117) 2 114) 3 105) 4 111) 5 117) 6 115) 7 32) 8 53) 9 48) 10 32) 11 59)) C 254 rfl (by decide) (by decide) (by decide) (by decide) rfl dX11_init_253 rfl ?_
  refine A_dup C 255 dX11_init_254 rfl rfl ?_
  refine A_bipush (v := 13) C 257 dX11_init_255 rfl rfl ?_
  refine A_bipush (v := 100) C 259 dX11_init_257 rfl rfl ?_
  refine A_iast (i' := 13) (k := 13) (f := (upd (upd (upd (upd (upd (upd (upd (upd (upd (upd (upd (upd (upd (fun _ => 0) 0 99) 1 117) 2 114) 3 105) 4 111) 5 117) 6 115) 7 32) 8 53) 9 48) 10 32) 11 59) 12 32)) C 260 rfl (by decide) (by decide) (by decide) (by decide) rfl dX11_init_259 rfl ?_
  refine A_dup C 261 dX11_init_260 rfl rfl ?_
  refine A_bipush (v := 14) C 263 dX11_init_261 rfl rfl ?_
  refine A_bipush (v := 114) C 265 dX11_init_263 rfl rfl ?_
  refine A_iast (i' := 14) (k := 13) (f := (upd (upd (upd (upd (upd (upd (upd (upd (upd (upd (upd (upd (upd (upd (fun _ => 0) 0 99) 1 117) 2 114) 3 105) 4 111) 5 117) 6 115) 7 32) 8 53) 9 48) 10 32) 11 59) 12 32) 13 100)) C 266 rfl (by decide) (by decide) (by decide) (by decide) rfl dX11_init_265 rfl ?_
  refine A_dup C 267 dX11_init_266 rfl rfl ?_
  refine A_bipush (v := 15) C 269 dX11_init_267 rfl rfl ?_
  refine A_bipush (v := 101) C 271 dX11_init_269 rfl rfl ?_
  refine A_iast (i' := 15) (k := 13) (f := (upd (upd (upd (upd (upd (upd (upd (upd (upd (upd (upd (upd (upd (upd (upd (fun _ => 0) 0 99) 1 117) 2 114) 3 105) 4 111) 5 117) 6 115) 7 32) 8 53) 9 48) 10 32) 11 59) 12 32) 13 100) 14 114)) C 272 rfl (by decide) (by decide) (by decide) (by decide) rfl dX11_init_271 rfl ?_
  refine A_dup C 273 dX11_init_272 rfl rfl ?_
  refine A_bipush (v := 16) C 275 dX11_init_273 rfl rfl ?_
  refine A_bipush (v := 97) C 277 dX11_init_275 rfl rfl ?_
  refine A_iast (i' := 16) (k := 13) (f := (upd (upd (upd (upd (upd (upd (upd (upd (upd (upd (upd (upd (upd (upd (upd (upd (fun _ => 0) 0 99) 1 117) 2 114) 3 105) 4 111) 5 117) 6 115) 7 32) 8 53) 9 48) 10 32) 11 59) 12 32) 13 100) 14 114) 15 101)) C 278 rfl (by decide) (by decide) (by decide) (by decide) rfl dX11_init_277 rfl ?_
  refine A_dup C 279 dX11_init_278 rfl rfl ?_
  refine A_bipush (v := 17) C 281 dX11_init_279 rfl rfl ?_
  refine A_bipush (v := 100) C 283 dX11_init_281 rfl rfl ?_
  refine A_iast (i' := 17) (k := 13) (f := (upd (upd (upd (upd (upd (upd (upd (upd (upd (upd (upd (upd (upd (upd (upd (upd (upd (fun _ => 0) 0 99) 1 117) 2 114) 3 105) 4 111) 5 117) 6 115) 7 32) 8 53) 9 48) 10 32) 11 59) 12 32) 13 100) 14 114) 15 101) 16 97)) C 284 rfl (by decide) (by decide) (by decide) (by decide) rfl dX11_init_283 rfl ?_
  refine A_dup C 285 dX11_init_284 rfl rfl ?_
  refine A_bipush (v := 18) C 287 dX11_init_285 rfl rfl ?_
  refine A_bipush (v := 115) C 289 dX11_init_287 rfl rfl ?_
  refine A_iast (i' := 18) (k := 13) (f := (upd (upd (upd (upd (upd (upd (upd (upd (upd (upd (upd (upd (upd (upd (upd (upd (upd (upd (fun _ => 0) 0 99) 1 117) 2 114) 3 105) 4 111) 5 117) 6 115) 7 32) 8 53) 9 48) 10 32) 11 59) 12 32) 13 100) 14 114) 15 101) 16 97) 17 100)) C 290 rfl (by decide) (by decide) (by decide) (by decide) rfl dX11_init_289 rfl ?_
  refine A_dup C 291 dX11_init_290 rfl rfl ?_
  refine A_bipush (v := 19) C 293 dX11_init_291 rfl rfl ?_
  refine A_bipush (v := 32) C 295 dX11_init_293 rfl rfl ?_
  refine A_iast (i' := 19) (k := 13) (f := (upd (upd (upd (upd (upd (upd (upd (upd (upd (upd (upd (upd (upd (upd (upd (upd (upd (upd (upd (fun _ => 0) 0 99) 1 117) 2 114) 3 105) 4 111) 5 117) 6 115) 7 32) 8 53) 9 48) 10 32) 11 59) 12 32) 13 100) 14 114) 15 101) 16 97) 17 100) 18 115)) C 296 rfl (by decide) (by decide) (by decide) (by decide) rfl dX11_init_295 rfl ?_
  refine A_dup C 297 dX11_init_296 rfl rfl ?_
  refine A_bipush (v := 20) C 299 dX11_init_297 rfl rfl ?_
  refine A_bipush (v := 98) C 301 dX11_init_299 rfl rfl ?_
  refine A_iast (i' := 20) (k := 13) (f := (upd (upd (upd (upd (upd (upd (upd (upd (upd (upd (upd (upd (upd (upd (upd (upd (upd (upd (upd (upd (fun _ => 0) 0 99) 1 117) 2 114) 3 105) 4 111) 5 117) 6 115) 7 32) 8 53) 9 48) 10 32) 11 59) 12 32) 13 100) 14 114) 15 101) 16 97) 17 100) 18 115) 19 32)) C 302 rfl (by decide) (by decide) (by decide) (by decide) rfl dX11_init_301 rfl ?_
  refine A_dup C 303 dX11_init_302 rfl rfl ?_
  refine A_bipush (v := 21) C 305 dX11_init_303 rfl rfl ?_
  refine A_bipush (v := 97) C 307 dX11_init_305 rfl rfl ?_
  refine A_iast (i' := 21) (k := 13) (f := (upd (upd (upd (upd (upd (upd (upd (upd (upd (upd (upd (upd (upd (upd (upd (upd (upd (upd (upd (upd (upd (fun _ => 0) 0 99) 1 117) 2 114) 3 105) 4 111) 5 117) 6 115) 7 32) 8 53) 9 48) 10 32) 11 59) 12 32) 13 100) 14 114) 15 101) 16 97) 17 100) 18 115) 19 32) 20 98)) C 308 rfl (by decide) (by decide) (by decide) (by decide) rfl dX11_init_307 rfl ?_
  refine A_dup C 309 dX11_init_308 rfl rfl ?_
  refine A_bipush (v := 22) C 311 dX11_init_309 rfl rfl ?_
  refine A_bipush (v := 100) C 313 dX11_init_311 rfl rfl ?_
  refine A_iast (i' := 22) (k := 13) (f := (upd (upd (upd (upd (upd (upd (upd (upd (upd (upd (upd (upd (upd (upd (upd (upd (upd (upd (upd (upd (upd (upd (fun _ => 0) 0 99) 1 117) 2 114) 3 105) 4 111) 5 117) 6 115) 7 32) 8 53) 9 48) 10 32) 11 59) 12 32) 13 100) 14 114) 15 101) 16 97) 17 100) 18 115) 19 32) 20 98) 21 97)) C 314 rfl (by decide) (by decide) (by decide) (by decide) rfl dX11_init_313 rfl ?_
  refine A_dup C 315 dX11_init_314 rfl rfl ?_
  refine A_bipush (v := 23) C 317 dX11_init_315 rfl rfl ?_
  refine A_bipush (v := 32) C 319 dX11_init_317 rfl rfl ?_
  refine A_iast (i' := 23) (k := 13) (f := (upd (upd (upd (upd (upd (upd (upd (upd (upd (upd (upd (upd (upd (upd (upd (upd (upd (upd (upd (upd (upd (upd (upd (fun _ => 0) 0 99) 1 117) 2 114) 3 105) 4 111) 5 117) 6 115) 7 32) 8 53) 9 48) 10 32) 11 59) 12 32) 13 100) 14 114) 15 101) 16 97) 17 100) 18 115) 19 32) 20 98) 21 97) 22 100)) C 320 rfl (by decide) (by decide) (by decide) (by decide) rfl dX11_init_319 rfl ?_
  refine A_dup C 321 dX11_init_320 rfl rfl ?_
  refine A_bipush (v := 24) C 323 dX11_init_321 rfl rfl ?_
  refine A_bipush (v := 59) C 325 dX11_init_323 rfl rfl ?_
  refine A_iast (i' := 24) (k := 13) (f := (upd (upd (upd (upd (upd (upd (upd (upd (upd (upd (upd (upd (upd (upd (upd (upd (upd (upd (upd (upd (upd (upd (upd (upd (fun _ => 0) 0 99) 1 117) 2 114) 3 105) 4 111) 5 117) 6 115) 7 32) 8 53) 9 48) 10 32) 11 59) 12 32) 13 100) 14 114) 15 101) 16 97) 17 100) 18 115) 19 32) 20 98) 21 97) 22 100) 23 32)) C 326 rfl (by decide) (by decide) (by decide) (by decide) rfl dX11_init_325 rfl ?_
  refine A_dup C 327 dX11_init_326 rfl rfl ?_
  refine A_bipush (v := 25) C 329 dX11_init_327 rfl rfl ?_
  refine A_bipush (v := 32) C 331 dX11_init_329 rfl rfl ?_
  refine A_iast (i' := 25) (k := 13) (f := (upd (upd (upd (upd (upd (upd (upd (upd (upd (upd (upd (upd (upd (upd (upd (upd (upd (upd (upd (upd (upd (upd (upd (upd (upd (fun _ => 0) 0 99) 1 117) 2 114) 3 105) 4 111) 5 117) 6 115) 7 32) 8 53) 9 48) 10 32) 11 59) 12 32) 13 100) 14 114) 15 101) 16 97) 17 100) 18 115) 19 32) 20 98) 21 97) 22 100) 23 32) 24 59)) C 332 rfl (by decide) (by decide) (by decide) (by decide) rfl dX11_init_331 rfl ?_
  refine A_dup C 333 dX11_init_332 rfl rfl ?_
  refine A_bipush (v := 26) C 335 dX11_init_333 rfl rfl ?_
  refine A_bipush (v := 103) C 337 dX11_init_335 rfl rfl ?_
  refine A_iast (i' := 26) (k := 13) (f := (upd (upd (upd (upd (upd (upd (upd (upd (upd (upd (upd (upd (upd (upd (upd (upd (upd (upd (upd (upd (upd (upd (upd (upd (upd (upd (fun _ => 0) 0 99) 1 117) 2 114) 3 105) 4 111) 5 117) 6 115) 7 32) 8 53) 9 48) 10 32) 11 59) 12 32) 13 100) 14 114) 15 101) 16 97) 17 100) 18 115) 19 32) 20 98) 21 97) 22 100) 23 32) 24 59) 25 32)) C 338 rfl (by decide) (by decide) (by decide) (by decide) rfl dX11_init_337 rfl ?_
  refine A_dup C 339 dX11_init_338 rfl rfl ?_
  refine A_bipush (v := 27) C 341 dX11_init_339 rfl rfl ?_
  refine A_bipush (v := 111) C 343 dX11_init_341 rfl rfl ?_
  refine A_iast (i' := 27) (k := 13) (f := (upd (upd (upd (upd (upd (upd (upd (upd (upd (upd (upd (upd (upd (upd (upd (upd (upd (upd (upd (upd (upd (upd (upd (upd (upd (upd (upd (fun _ => 0) 0 99) 1 117) 2 114) 3 105) 4 111) 5 117) 6 115) 7 32) 8 53) 9 48) 10 32) 11 59) 12 32) 13 100) 14 114) 15 101) 16 97) 17 100) 18 115) 19 32) 20 98) 21 97) 22 100) 23 32) 24 59) 25 32) 26 103)) C 344 rfl (by decide) (by decide) (by decide) (by decide) rfl dX11_init_343 rfl ?_
  refine A_dup C 345 dX11_init_344 rfl rfl ?_
  refine A_bipush (v := 28) C 347 dX11_init_345 rfl rfl ?_
  refine A_bipush (v := 101) C 349 dX11_init_347 rfl rfl ?_
  refine A_iast (i' := 28) (k := 13) (f := (upd (upd (upd (upd (upd (upd (upd (upd (upd (upd (upd (upd (upd (upd (upd (upd (upd (upd (upd (upd (upd (upd (upd (upd (upd (upd (upd (upd (fun _ => 0) 0 99) 1 117) 2 114) 3 105) 4 111) 5 117) 6 115) 7 32) 8 53) 9 48) 10 32) 11 59) 12 32) 13 100) 14 114) 15 101) 16 97) 17 100) 18 115) 19 32) 20 98) 21 97) 22 100) 23 32) 24 59) 25 32) 26 103) 27 111)) C 350 rfl (by decide) (by decide) (by decide) (by decide) rfl dX11_init_349 rfl ?_
  refine A_dup C 351 dX11_init_350 rfl rfl ?_
  refine A_bipush (v := 29) C 353 dX11_init_351 rfl rfl ?_
  refine A_bipush (v := 115) C 355 dX11_init_353 rfl rfl ?_
  refine A_iast (i' := 29) (k := 13) (f := (upd (upd (upd (upd (upd (upd (upd (upd (upd (upd (upd (upd (upd (upd (upd (upd (upd (upd (upd (upd (upd (upd (upd (upd (upd (upd (upd (upd (upd (fun _ => 0) 0 99) 1 117) 2 114) 3 105) 4 111) 5 117) 6 115) 7 32) 8 53) 9 48) 10 32) 11 59) 12 32) 13 100) 14 114) 15 101) 16 97) 17 100) 18 115) 19 32) 20 98) 21 97) 22 100) 23 32) 24 59) 25 32) 26 103) 27 111) 28 101)) C 356 rfl (by decide) (by decide) (by decide) (by decide) rfl dX11_init_355 rfl ?_
  refine A_dup C 357 dX11_init_356 rfl rfl ?_
  refine A_bipush (v := 30) C 359 dX11_init_357 rfl rfl ?_
  refine A_bipush (v := 32) C 361 dX11_init_359 rfl rfl ?_
  refine A_iast (i' := 30) (k := 13) (f := (upd (upd (upd (upd (upd (upd (upd (upd (upd (upd (upd (upd (upd (upd (upd (upd (upd (upd (upd (upd (upd (upd (upd (upd (upd (upd (upd (upd (upd (upd (fun _ => 0) 0 99) 1 117) 2 114) 3 105) 4 111) 5 117) 6 115) 7 32) 8 53) 9 48) 10 32) 11 59) 12 32) 13 100) 14 114) 15 101) 16 97) 17 100) 18 115) 19 32) 20 98) 21 97) 22 100) 23 32) 24 59) 25 32) 26 103) 27 111) 28 101) 29 115)) C 362 rfl (by decide) (by decide) (by decide) (by decide) rfl dX11_init_361 rfl ?_
  refine A_dup C 363 dX11_init_362 rfl rfl ?_
  refine A_bipush (v := 31) C 365 dX11_init_363 rfl rfl ?_
  refine A_bipush (v := 48) C 367 dX11_init_365 rfl rfl ?_
  refine A_iast (i' := 31) (k := 13) (f := (upd (upd (upd (upd (upd (upd (upd (upd (upd (upd (upd (upd (upd (upd (upd (upd (upd (upd (upd (upd (upd (upd (upd (upd (upd (upd (upd (upd (upd (upd (upd (fun _ => 0) 0 99) 1 117) 2 114) 3 105) 4 111) 5 117) 6 115) 7 32) 8 53) 9 48) 10 32) 11 59) 12 32) 13 100) 14 114) 15 101) 16 97) 17 100) 18 115) 19 32) 20 98) 21 97) 22 100) 23 32) 24 59) 25 32) 26 103) 27 111) 28 101) 29 115) 30 32)) C 368 rfl (by decide) (by decide) (by decide) (by decide) rfl dX11_init_367 rfl ?_
  refine A_dup C 369 dX11_init_368 rfl rfl ?_
  refine A_bipush (v := 32) C 371 dX11_init_369 rfl rfl ?_
  refine A_bipush (v := 32) C 373 dX11_init_371 rfl rfl ?_
  refine A_iast (i' := 32) (k := 13) (f := (upd (upd (upd (upd (upd (upd (upd (upd (upd (upd (upd (upd (upd (upd (upd (upd (upd (upd (upd (upd (upd (upd (upd (upd (upd (upd (upd (upd (upd (upd (upd (upd (fun _ => 0) 0 99) 1 117) 2 114) 3 105) 4 111) 5 117) 6 115) 7 32) 8 53) 9 48) 10 32) 11 59) 12 32) 13 100) 14 114) 15 101) 16 97) 17 100) 18 115) 19 32) 20 98) 21 97) 22 100) 23 32) 24 59) 25 32) 26 103) 27 111) 28 101) 29 115) 30 32) 31 48)) C 374 rfl (by decide) (by decide) (by decide) (by decide) rfl dX11_init_373 rfl ?_
  refine A_dup C 375 dX11_init_374 rfl rfl ?_
  refine A_bipush (v := 33) C 377 dX11_init_375 rfl rfl ?_
  refine A_bipush (v := 59) C 379 dX11_init_377 rfl rfl ?_
  refine A_iast (i' := 33) (k := 13) (f := (upd (upd (upd (upd (upd (upd (upd (upd (upd (upd (upd (upd (upd (upd (upd (upd (upd (upd (upd (upd (upd (upd (upd (upd (upd (upd (upd (upd (upd (upd (upd (upd (upd (fun _ => 0) 0 99) 1 117) 2 114) 3 105) 4 111) 5 117) 6 115) 7 32) 8 53) 9 48) 10 32) 11 59) 12 32) 13 100) 14 114) 15 101) 16 97) 17 100) 18 115) 19 32) 20 98) 21 97) 22 100) 23 32) 24 59) 25 32) 26 103) 27 111) 28 101) 29 115) 30 32) 31 48) 32 32)) C 380 rfl (by decide) (by decide) (by decide) (by decide) rfl dX11_init_379 rfl ?_
  refine A_putF (fs := [.int 0, .ref (b + 1), .ref (b + 2), .ref (b + 3), .ref (b + 4), .ref (b + 5), .int 0, .ref (b + 6), .ref (b + 7), .int 0, .int 0, .int 0, .ref (b + 8), .ref (b + 9), .ref (b + 10), .ref (b + 11), .ref (b + 12), .null, .int 0, .int 0, .int 0, .int 0, .null, .null, .int 0, .int 0, .int 0, .null, .null, .null, .null, .int 0]) C hin 383 FL_11_46 tyX11_ok nmX11 rfl rfl (tyX11_ok 17 (by decide)) ⟨rfl, rfl⟩ (k := 0) (by decide) (by decide) rfl (Nat.le_of_ble_eq_true rfl) dX11_init_380 rfl ?_
  refine A_aload_n (i := 0) C 384 dX11_init_383 rfl rfl rfl ?_
  refine A_bipush (v := 96) C 386 dX11_init_384 rfl rfl ?_
  refine A_newa (N' := 96) C 388 rfl (by decide) (by omega) (Or.inl (by decide)) (by omega) (by omega) dX11_init_386 rfl ?_
  show AW E 20 b 15 14 1770 _ 388 [some (.ref b), none] [.ref (b + 14), .ref b] _
  refine A_dup C 389 dX11_init_388 rfl rfl ?_
  refine A_iconst (v := 0) C 390 dX11_init_389 rfl rfl ?_
  refine A_bipush (v := 99) C 392 dX11_init_390 rfl rfl ?_
  refine A_iast (i' := 0) (k := 14) (f := (fun _ => 0)) C 393 rfl (by decide) (by decide) (by decide) (by decide) rfl dX11_init_392 rfl ?_
  refine A_dup C 394 dX11_init_393 rfl rfl ?_
  refine A_iconst (v := 1) C 395 dX11_init_394 rfl rfl ?_
  refine A_bipush (v := 117) C 397 dX11_init_395 rfl rfl ?_
  refine A_iast (i' := 1) (k := 14) (f := (upd (fun _ => 0) 0 99)) C 398 rfl (by decide) (by decide) (by decide) (by decide) rfl dX11_init_397 rfl ?_
  refine A_dup C 399 dX11_init_398 rfl rfl ?_
  refine A_iconst (v := 2) C 400 dX11_init_399 rfl rfl ?_
  refine A_bipush (v := 114) C 402 dX11_init_400 rfl rfl ?_
  refine A_iast (i' := 2) (k := 14) (f := (upd (upd (fun _ => 0) 0 99) 1 117)) C 403 rfl (by decide) (by decide) (by decide) (by decide) rfl dX11_init_402 rfl ?_
  refine A_dup C 404 dX11_init_403 rfl rfl ?_
  refine A_iconst (v := 3) C 405 dX11_init_404 rfl rfl ?_
  refine A_bipush (v := 105) C 407 dX11_init_405 rfl rfl ?_
  refine A_iast (i' := 3) (k := 14) (f := (upd (upd (upd (fun _ => 0) 0 99) 1 117) 2 114)) C 408 rfl (by decide) (by decide) (by decide) (by decide) rfl dX11_init_407 rfl ?_
  refine A_dup C 409 dX11_init_408 rfl rfl ?_
  refine A_iconst (v := 4) C 410 dX11_init_409 rfl rfl ?_
  refine A_bipush (v := 111) C 412 dX11_init_410 rfl rfl ?_
  refine A_iast (i' := 4) (k := 14) (f := (upd (upd (upd (upd (fun _ => 0) 0 99) 1 117) 2 114) 3 105)) C 413 rfl (by decide) (by decide) (by decide) (by decide) rfl dX11_init_412 rfl ?_
  refine A_dup C 414 dX11_init_413 rfl rfl ?_
  refine A_iconst (v := 5) C 415 dX11_init_414 rfl rfl ?_
  refine A_bipush (v := 117) C 417 dX11_init_415 rfl rfl ?_
  refine A_iast (i' := 5) (k := 14) (f := (upd (upd (upd (upd (upd (fun _ => 0) 0 99) 1 117) 2 114) 3 105) 4 111)) C 418 rfl (by decide) (by decide) (by decide) (by decide) rfl dX11_init_417 rfl ?_
  refine A_dup C 419 dX11_init_418 rfl rfl ?_
  refine A_bipush (v := 6) C 421 dX11_init_419 rfl rfl ?_
  refine A_bipush (v := 115) C 423 dX11_init_421 rfl rfl ?_
  refine A_iast (i' := 6) (k := 14) (f := (upd (upd (upd (upd (upd (upd (fun _ => 0) 0 99) 1 117) 2 114) 3 105) 4 111) 5 117)) C 424 rfl (by decide) (by decide) (by decide) (by decide) rfl dX11_init_423 rfl ?_
  refine A_dup C 425 dX11_init_424 rfl rfl ?_
  refine A_bipush (v := 7) C 427 dX11_init_425 rfl rfl ?_
  refine A_bipush (v := 32) C 429 dX11_init_427 rfl rfl ?_
  refine A_iast (i' := 7) (k := 14) (f := (upd (upd (upd (upd (upd (upd (upd (fun _ => 0) 0 99) 1 117) 2 114) 3 105) 4 111) 5 117) 6 115)) C 430 rfl (by decide) (by decide) (by decide) (by decide) rfl dX11_init_429 rfl ?_
  refine A_dup C 431 dX11_init_430 rfl rfl ?_
  refine A_bipush (v := 8) C 433 dX11_init_431 rfl rfl ?_
  refine A_bipush (v := 100) C 435 dX11_init_433 rfl rfl ?_
  refine A_iast (i' := 8) (k := 14) (f := (upd (upd (upd (upd (upd (upd (upd (upd (fun _ => 0) 0 99) 1 117) 2 114) 3 105) 4 111) 5 117) 6 115) 7 32)) C 436 rfl (by decide) (by decide) (by decide) (by decide) rfl dX11_init_435 rfl ?_
  refine A_dup C 437 dX11_init_436 rfl rfl ?_
  refine A_bipush (v := 9) C 439 dX11_init_437 rfl rfl ?_
  refine A_bipush (v := 114) C 441 dX11_init_439 rfl rfl ?_
  refine A_iast (i' := 9) (k := 14) (f := (upd (upd (upd (upd (upd (upd (upd (upd (upd (fun _ => 0) 0 99) 1 117) 2 114) 3 105) 4 111) 5 117) 6 115) 7 32) 8 100)) C 442 rfl (by decide) (by decide) (by decide) (by decide) rfl dX11_init_441 rfl ?_
  refine A_dup C 443 dX11_init_442 rfl rfl ?_
  refine A_bipush (v := 10) C 445 dX11_init_443 rfl rfl ?_
  refine A_bipush (v := 101) C 447 dX11_init_445 rfl rfl ?_
  refine A_iast (i' := 10) (k := 14) (f := (upd (upd (upd (upd (upd (upd (upd (upd (upd (upd (fun _ => 0) 0 99) 1 117) 2 114) 3 105) 4 111) 5 117) 6 115) 7 32) 8 100) 9 114)) C 448 rfl (by decide) (by decide) (by decide) (by decide) rfl dX11_init_447 rfl ?_
  refine A_dup C 449 dX11_init_448 rfl rfl ?_
  refine A_bipush (v := 11) C 451 dX11_init_449 rfl rfl ?_
  refine A_bipush (v := 97) C 453 dX11_init_451 rfl rfl ?_
  refine A_iast (i' := 11) (k := 14) (f := (upd (upd (upd (upd (upd (upd (upd (upd (upd (upd (upd (fun _ => 0) 0 99) 1 117) 2 114) 3 105) 4 111) 5 117) 6 115) 7 32) 8 100) 9 114) 10 101)) C 454 rfl (by decide) (by decide) (by decide) (by decide) rfl dX11_init_453 rfl ?_
  refine A_dup C 455 dX11_init_454 rfl rfl ?_
  refine A_bipush (v := 12) C 457 dX11_init_455 rfl rfl ?_
  refine A_bipush (v := 100) C 459 dX11_init_457 rfl rfl ?_
  refine A_iast (i' := 12) (k := 14) (f := (upd (upd (upd (upd (upd (upd (upd (upd (upd (upd (upd (upd (fun _ => 0) 0 99) 1 117) 2 114) 3 105) 4 111) 5 117) 6 115) 7 32) 8 100) 9 114) 10 101) 11 97)) C 460 rfl (by decide) (by decide) (by decide) (by decide) rfl dX11_init_459 rfl ?_
  refine A_dup C 461 dX11_init_460 rfl rfl ?_
  refine A_bipush (v := 13) C 463 dX11_init_461 rfl rfl ?_
  refine A_bipush (v := 115) C 465 dX11_init_463 rfl rfl ?_
  refine A_iast (i' := 13) (k := 14) (f := (upd (upd (upd (upd (upd (upd (upd (upd (upd (upd (upd (upd (upd (fun _ => 0) 0 99) 1 117) 2 114) 3 105) 4 111) 5 117) 6 115) 7 32) 8 100) 9 114) 10 101) 11 97) 12 100)) C 466 rfl (by decide) (by decide) (by decide) (by decide) rfl dX11_init_465 rfl ?_
  refine A_dup C 467 dX11_init_466 rfl rfl ?_
  refine A_bipush (v := 14) C 469 dX11_init_467 rfl rfl ?_
  refine A_bipush (v := 32) C 471 dX11_init_469 rfl rfl ?_
  refine A_iast (i' := 14) (k := 14) (f := (upd (upd (upd (upd (upd (upd (upd (upd (upd (upd (upd (upd (upd (upd (fun _ => 0) 0 99) 1 117) 2 114) 3 105) 4 111) 5 117) 6 115) 7 32) 8 100) 9 114) 10 101) 11 97) 12 100) 13 115)) C 472 rfl (by decide) (by decide) (by decide) (by decide) rfl dX11_init_471 rfl ?_
  refine A_dup C 473 dX11_init_472 rfl rfl ?_
  refine A_bipush (v := 15) C 475 dX11_init_473 rfl rfl ?_
  refine A_bipush (v := 32) C 477 dX11_init_475 rfl rfl ?_
  refine A_iast (i' := 15) (k := 14) (f := (upd (upd (upd (upd (upd (upd (upd (upd (upd (upd (upd (upd (upd (upd (upd (fun _ => 0) 0 99) 1 117) 2 114) 3 105) 4 111) 5 117) 6 115) 7 32) 8 100) 9 114) 10 101) 11 97) 12 100) 13 115) 14 32)) C 478 rfl (by decide) (by decide) (by decide) (by decide) rfl dX11_init_477 rfl ?_
  refine A_dup C 479 dX11_init_478 rfl rfl ?_
  refine A_bipush (v := 16) C 481 dX11_init_479 rfl rfl ?_
  refine A_bipush (v := 103) C 483 dX11_init_481 rfl rfl ?_
  refine A_iast (i' := 16) (k := 14) (f := (upd (upd (upd (upd (upd (upd (upd (upd (upd (upd (upd (upd (upd (upd (upd (upd (fun _ => 0) 0 99) 1 117) 2 114) 3 105) 4 111) 5 117) 6 115) 7 32) 8 100) 9 114) 10 101) 11 97) 12 100) 13 115) 14 32) 15 32)) C 484 rfl (by decide) (by decide) (by decide) (by decide) rfl dX11_init_483 rfl ?_
  refine A_dup C 485 dX11_init_484 rfl rfl ?_
  refine A_bipush (v := 17) C 487 dX11_init_485 rfl rfl ?_
  refine A_bipush (v := 111) C 489 dX11_init_487 rfl rfl ?_
  refine A_iast (i' := 17) (k := 14) (f := (upd (upd (upd (upd (upd (upd (upd (upd (upd (upd (upd (upd (upd (upd (upd (upd (upd (fun _ => 0) 0 99) 1 117) 2 114) 3 105) 4 111) 5 117) 6 115) 7 32) 8 100) 9 114) 10 101) 11 97) 12 100) 13 115) 14 32) 15 32) 16 103)) C 490 rfl (by decide) (by decide) (by decide) (by decide) rfl dX11_init_489 rfl ?_
  refine A_dup C 491 dX11_init_490 rfl rfl ?_
  refine A_bipush (v := 18) C 493 dX11_init_491 rfl rfl ?_
  refine A_bipush (v := 101) C 495 dX11_init_493 rfl rfl ?_
  refine A_iast (i' := 18) (k := 14) (f := (upd (upd (upd (upd (upd (upd (upd (upd (upd (upd (upd (upd (upd (upd (upd (upd (upd (upd (fun _ => 0) 0 99) 1 117) 2 114) 3 105) 4 111) 5 117) 6 115) 7 32) 8 100) 9 114) 10 101) 11 97) 12 100) 13 115) 14 32) 15 32) 16 103) 17 111)) C 496 rfl (by decide) (by decide) (by decide) (by decide) rfl dX11_init_495 rfl ?_
  refine A_dup C 497 dX11_init_496 rfl rfl ?_
  refine A_bipush (v := 19) C 499 dX11_init_497 rfl rfl ?_
  refine A_bipush (v := 115) C 501 dX11_init_499 rfl rfl ?_
  refine A_iast (i' := 19) (k := 14) (f := (upd (upd (upd (upd (upd (upd (upd (upd (upd (upd (upd (upd (upd (upd (upd (upd (upd (upd (upd (fun _ => 0) 0 99) 1 117) 2 114) 3 105) 4 111) 5 117) 6 115) 7 32) 8 100) 9 114) 10 101) 11 97) 12 100) 13 115) 14 32) 15 32) 16 103) 17 111) 18 101)) C 502 rfl (by decide) (by decide) (by decide) (by decide) rfl dX11_init_501 rfl ?_
  refine A_dup C 503 dX11_init_502 rfl rfl ?_
  refine A_bipush (v := 20) C 505 dX11_init_503 rfl rfl ?_
  refine A_bipush (v := 32) C 507 dX11_init_505 rfl rfl ?_
  refine A_iast (i' := 20) (k := 14) (f := (upd (upd (upd (upd (upd (upd (upd (upd (upd (upd (upd (upd (upd (upd (upd (upd (upd (upd (upd (upd (fun _ => 0) 0 99) 1 117) 2 114) 3 105) 4 111) 5 117) 6 115) 7 32) 8 100) 9 114) 10 101) 11 97) 12 100) 13 115) 14 32) 15 32) 16 103) 17 111) 18 101) 19 115)) C 508 rfl (by decide) (by decide) (by decide) (by decide) rfl dX11_init_507 rfl ?_
  refine A_dup C 509 dX11_init_508 rfl rfl ?_
  refine A_bipush (v := 21) C 511 dX11_init_509 rfl rfl ?_
  refine A_bipush (v := 32) C 513 dX11_init_511 rfl rfl ?_
  refine A_iast (i' := 21) (k := 14) (f := (upd (upd (upd (upd (upd (upd (upd (upd (upd (upd (upd (upd (upd (upd (upd (upd (upd (upd (upd (upd (upd (fun _ => 0) 0 99) 1 117) 2 114) 3 105) 4 111) 5 117) 6 115) 7 32) 8 100) 9 114) 10 101) 11 97) 12 100) 13 115) 14 32) 15 32) 16 103) 17 111) 18 101) 19 115) 20 32)) C 514 rfl (by decide) (by decide) (by decide) (by decide) rfl dX11_init_513 rfl ?_
  refine A_dup C 515 dX11_init_514 rfl rfl ?_
  refine A_bipush (v := 22) C 517 dX11_init_515 rfl rfl ?_
  refine A_bipush (v := 32) C 519 dX11_init_517 rfl rfl ?_
  refine A_iast (i' := 22) (k := 14) (f := (upd (upd (upd (upd (upd (upd (upd (upd (upd (upd (upd (upd (upd (upd (upd (upd (upd (upd (upd (upd (upd (upd (fun _ => 0) 0 99) 1 117) 2 114) 3 105) 4 111) 5 117) 6 115) 7 32) 8 100) 9 114) 10 101) 11 97) 12 100) 13 115) 14 32) 15 32) 16 103) 17 111) 18 101) 19 115) 20 32) 21 32)) C 520 rfl (by decide) (by decide) (by decide) (by decide) rfl dX11_init_519 rfl ?_
  refine A_dup C 521 dX11_init_520 rfl rfl ?_
  refine A_bipush (v := 23) C 523 dX11_init_521 rfl rfl ?_
  refine A_bipush (v := 32) C 525 dX11_init_523 rfl rfl ?_
  refine A_iast (i' := 23) (k := 14) (f := (upd (upd (upd (upd (upd (upd (upd (upd (upd (upd (upd (upd (upd (upd (upd (upd (upd (upd (upd (upd (upd (upd (upd (fun _ => 0) 0 99) 1 117) 2 114) 3 105) 4 111) 5 117) 6 115) 7 32) 8 100) 9 114) 10 101) 11 97) 12 100) 13 115) 14 32) 15 32) 16 103) 17 111) 18 101) 19 115) 20 32) 21 32) 22 32)) C 526 rfl (by decide) (by decide) (by decide) (by decide) rfl dX11_init_525 rfl ?_
  refine A_dup C 527 dX11_init_526 rfl rfl ?_
  refine A_bipush (v := 24) C 529 dX11_init_527 rfl rfl ?_
  refine A_bipush (v := 98) C 531 dX11_init_529 rfl rfl ?_
  refine A_iast (i' := 24) (k := 14) (f := (upd (upd (upd (upd (upd (upd (upd (upd (upd (upd (upd (upd (upd (upd (upd (upd (upd (upd (upd (upd (upd (upd (upd (upd (fun _ => 0) 0 99) 1 117) 2 114) 3 105) 4 111) 5 117) 6 115) 7 32) 8 100) 9 114) 10 101) 11 97) 12 100) 13 115) 14 32) 15 32) 16 103) 17 111) 18 101) 19 115) 20 32) 21 32) 22 32) 23 32)) C 532 rfl (by decide) (by decide) (by decide) (by decide) rfl dX11_init_531 rfl ?_
  refine A_dup C 533 dX11_init_532 rfl rfl ?_
  refine A_bipush (v := 25) C 535 dX11_init_533 rfl rfl ?_
  refine A_bipush (v := 97) C 537 dX11_init_535 rfl rfl ?_
  refine A_iast (i' := 25) (k := 14) (f := (upd (upd (upd (upd (upd (upd (upd (upd (upd (upd (upd (upd (upd (upd (upd (upd (upd (upd (upd (upd (upd (upd (upd (upd (upd (fun _ => 0) 0 99) 1 117) 2 114) 3 105) 4 111) 5 117) 6 115) 7 32) 8 100) 9 114) 10 101) 11 97) 12 100) 13 115) 14 32) 15 32) 16 103) 17 111) 18 101) 19 115) 20 32) 21 32) 22 32) 23 32) 24 98)) C 538 rfl (by decide) (by decide) (by decide) (by decide) rfl dX11_init_537 rfl ?_
  refine A_dup C 539 dX11_init_538 rfl rfl ?_
  refine A_bipush (v := 26) C 541 dX11_init_539 rfl rfl ?_
  refine A_bipush (v := 100) C 543 dX11_init_541 rfl rfl ?_
  refine A_iast (i' := 26) (k := 14) (f := (upd (upd (upd (upd (upd (upd (upd (upd (upd (upd (upd (upd (upd (upd (upd (upd (upd (upd (upd (upd (upd (upd (upd (upd (upd (upd (fun _ => 0) 0 99) 1 117) 2 114) 3 105) 4 111) 5 117) 6 115) 7 32) 8 100) 9 114) 10 101) 11 97) 12 100) 13 115) 14 32) 15 32) 16 103) 17 111) 18 101) 19 115) 20 32) 21 32) 22 32) 23 32) 24 98) 25 97)) C 544 rfl (by decide) (by decide) (by decide) (by decide) rfl dX11_init_543 rfl ?_
  refine A_dup C 545 dX11_init_544 rfl rfl ?_
  refine A_bipush (v := 27) C 547 dX11_init_545 rfl rfl ?_
  refine A_bipush (v := 32) C 549 dX11_init_547 rfl rfl ?_
  refine A_iast (i' := 27) (k := 14) (f := (upd (upd (upd (upd (upd (upd (upd (upd (upd (upd (upd (upd (upd (upd (upd (upd (upd (upd (upd (upd (upd (upd (upd (upd (upd (upd (upd (fun _ => 0) 0 99) 1 117) 2 114) 3 105) 4 111) 5 117) 6 115) 7 32) 8 100) 9 114) 10 101) 11 97) 12 100) 13 115) 14 32) 15 32) 16 103) 17 111) 18 101) 19 115) 20 32) 21 32) 22 32) 23 32) 24 98) 25 97) 26 100)) C 550 rfl (by decide) (by decide) (by decide) (by decide) rfl dX11_init_549 rfl ?_
  refine A_dup C 551 dX11_init_550 rfl rfl ?_
  refine A_bipush (v := 28) C 553 dX11_init_551 rfl rfl ?_
  refine A_bipush (v := 32) C 555 dX11_init_553 rfl rfl ?_
  refine A_iast (i' := 28) (k := 14) (f := (upd (upd (upd (upd (upd (upd (upd (upd (upd (upd (upd (upd (upd (upd (upd (upd (upd (upd (upd (upd (upd (upd (upd (upd (upd (upd (upd (upd (fun _ => 0) 0 99) 1 117) 2 114) 3 105) 4 111) 5 117) 6 115) 7 32) 8 100) 9 114) 10 101) 11 97) 12 100) 13 115) 14 32) 15 32) 16 103) 17 111) 18 101) 19 115) 20 32) 21 32) 22 32) 23 32) 24 98) 25 97) 26 100) 27 32)) C 556 rfl (by decide) (by decide) (by decide) (by decide) rfl dX11_init_555 rfl ?_
  refine A_dup C 557 dX11_init_556 rfl rfl ?_
  refine A_bipush (v := 29) C 559 dX11_init_557 rfl rfl ?_
  refine A_bipush (v := 32) C 561 dX11_init_559 rfl rfl ?_
  refine A_iast (i' := 29) (k := 14) (f := (upd (upd (upd (upd (upd (upd (upd (upd (upd (upd (upd (upd (upd (upd (upd (upd (upd (upd (upd (upd (upd (upd (upd (upd (upd (upd (upd (upd (upd (fun _ => 0) 0 99) 1 117) 2 114) 3 105) 4 111) 5 117) 6 115) 7 32) 8 100) 9 114) 10 101) 11 97) 12 100) 13 115) 14 32) 15 32) 16 103) 17 111) 18 101) 19 115) 20 32) 21 32) 22 32) 23 32) 24 98) 25 97) 26 100) 27 32) 28 32)) C 562 rfl (by decide) (by decide) (by decide) (by decide) rfl dX11_init_561 rfl ?_
  refine A_dup C 563 dX11_init_562 rfl rfl ?_
  refine A_bipush (v := 30) C 565 dX11_init_563 rfl rfl ?_
  refine A_bipush (v := 32) C 567 dX11_init_565 rfl rfl ?_
  refine A_iast (i' := 30) (k := 14) (f := (upd (upd (upd (upd (upd (upd (upd (upd (upd (upd (upd (upd (upd (upd (upd (upd (upd (upd (upd (upd (upd (upd (upd (upd (upd (upd (upd (upd (upd (upd (fun _ => 0) 0 99) 1 117) 2 114) 3 105) 4 111) 5 117) 6 115) 7 32) 8 100) 9 114) 10 101) 11 97) 12 100) 13 115) 14 32) 15 32) 16 103) 17 111) 18 101) 19 115) 20 32) 21 32) 22 32) 23 32) 24 98) 25 97) 26 100) 27 32) 28 32) 29 32)) C 568 rfl (by decide) (by decide) (by decide) (by decide) rfl dX11_init_567 rfl ?_
  refine A_dup C 569 dX11_init_568 rfl rfl ?_
  refine A_bipush (v := 31) C 571 dX11_init_569 rfl rfl ?_
  refine A_bipush (v := 32) C 573 dX11_init_571 rfl rfl ?_
  refine A_iast (i' := 31) (k := 14) (f := (upd (upd (upd (upd (upd (upd (upd (upd (upd (upd (upd (upd (upd (upd (upd (upd (upd (upd (upd (upd (upd (upd (upd (upd (upd (upd (upd (upd (upd (upd (upd (fun _ => 0) 0 99) 1 117) 2 114) 3 105) 4 111) 5 117) 6 115) 7 32) 8 100) 9 114) 10 101) 11 97) 12 100) 13 115) 14 32) 15 32) 16 103) 17 111) 18 101) 19 115) 20 32) 21 32) 22 32) 23 32) 24 98) 25 97) 26 100) 27 32) 28 32) 29 32) 30 32)) C 574 rfl (by decide) (by decide) (by decide) (by decide) rfl dX11_init_573 rfl ?_
  refine A_dup C 575 dX11_init_574 rfl rfl ?_
  refine A_bipush (v := 32) C 577 dX11_init_575 rfl rfl ?_
  refine A_bipush (v := 99) C 579 dX11_init_577 rfl rfl ?_
  refine A_iast (i' := 32) (k := 14) (f := (upd (upd (upd (upd (upd (upd (upd (upd (upd (upd (upd (upd (upd (upd (upd (upd (upd (upd (upd (upd (upd (upd (upd (upd (upd (upd (upd (upd (upd (upd (upd (upd (fun _ => 0) 0 99) 1 117) 2 114) 3 105) 4 111) 5 117) 6 115) 7 32) 8 100) 9 114) 10 101) 11 97) 12 100) 13 115) 14 32) 15 32) 16 103) 17 111) 18 101) 19 115) 20 32) 21 32) 22 32) 23 32) 24 98) 25 97) 26 100) 27 32) 28 32) 29 32) 30 32) 31 32)) C 580 rfl (by decide) (by decide) (by decide) (by decide) rfl dX11_init_579 rfl ?_
  refine A_dup C 581 dX11_init_580 rfl rfl ?_
  refine A_bipush (v := 33) C 583 dX11_init_581 rfl rfl ?_
  refine A_bipush (v := 111) C 585 dX11_init_583 rfl rfl ?_
  refine A_iast (i' := 33) (k := 14) (f := (upd (upd (upd (upd (upd (upd (upd (upd (upd (upd (upd (upd (upd (upd (upd (upd (upd (upd (upd (upd (upd (upd (upd (upd (upd (upd (upd (upd (upd (upd (upd (upd (upd (fun _ => 0) 0 99) 1 117) 2 114) 3 105) 4 111) 5 117) 6 115) 7 32) 8 100) 9 114) 10 101) 11 97) 12 100) 13 115) 14 32) 15 32) 16 103) 17 111) 18 101) 19 115) 20 32) 21 32) 22 32) 23 32) 24 98) 25 97) 26 100) 27 32) 28 32) 29 32) 30 32) 31 32) 32 99)) C 586 rfl (by decide) (by decide) (by decide) (by decide) rfl dX11_init_585 rfl ?_
  refine A_dup C 587 dX11_init_586 rfl rfl ?_
  refine A_bipush (v := 34) C 589 dX11_init_587 rfl rfl ?_
  refine A_bipush (v := 114) C 591 dX11_init_589 rfl rfl ?_
  refine A_iast (i' := 34) (k := 14) (f := (upd (upd (upd (upd (upd (upd (upd (upd (upd (upd (upd (upd (upd (upd (upd (upd (upd (upd (upd (upd (upd (upd (upd (upd (upd (upd (upd (upd (upd (upd (upd (upd (upd (upd (fun _ => 0) 0 99) 1 117) 2 114) 3 105) 4 111) 5 117) 6 115) 7 32) 8 100) 9 114) 10 101) 11 97) 12 100) 13 115) 14 32) 15 32) 16 103) 17 111) 18 101) 19 115) 20 32) 21 32) 22 32) 23 32) 24 98) 25 97) 26 100) 27 32) 28 32) 29 32) 30 32) 31 32) 32 99) 33 111)) C 592 rfl (by decide) (by decide) (by decide) (by decide) rfl dX11_init_591 rfl ?_
  refine A_dup C 593 dX11_init_592 rfl rfl ?_
  refine A_bipush (v := 35) C 595 dX11_init_593 rfl rfl ?_
  refine A_bipush (v := 110) C 597 dX11_init_595 rfl rfl ?_
  refine A_iast (i' := 35) (k := 14) (f := (upd (upd (upd (upd (upd (upd (upd (upd (upd (upd (upd (upd (upd (upd (upd (upd (upd (upd (upd (upd (upd (upd (upd (upd (upd (upd (upd (upd (upd (upd (upd (upd (upd (upd (upd (fun _ => 0) 0 99) 1 117) 2 114) 3 105) 4 111) 5 117) 6 115) 7 32) 8 100) 9 114) 10 101) 11 97) 12 100) 13 115) 14 32) 15 32) 16 103) 17 111) 18 101) 19 115) 20 32) 21 32) 22 32) 23 32) 24 98) 25 97) 26 100) 27 32) 28 32) 29 32) 30 32) 31 32) 32 99) 33 111) 34 114)) C 598 rfl (by decide) (by decide) (by decide) (by decide) rfl dX11_init_597 rfl ?_
  refine A_dup C 599 dX11_init_598 rfl rfl ?_
  refine A_bipush (v := 36) C 601 dX11_init_599 rfl rfl ?_
  refine A_bipush (v := 101) C 603 dX11_init_601 rfl rfl ?_
  refine A_iast (i' := 36) (k := 14) (f := (upd (upd (upd (upd (upd (upd (upd (upd (upd (upd (upd (upd (upd (upd (upd (upd (upd (upd (upd (upd (upd (upd (upd (upd (upd (upd (upd (upd (upd (upd (upd (upd (upd (upd (upd (upd (fun _ => 0) 0 99) 1 117) 2 114) 3 105) 4 111) 5 117) 6 115) 7 32) 8 100) 9 114) 10 101) 11 97) 12 100) 13 115) 14 32) 15 32) 16 103) 17 111) 18 101) 19 115) 20 32) 21 32) 22 32) 23 32) 24 98) 25 97) 26 100) 27 32) 28 32) 29 32) 30 32) 31 32) 32 99) 33 111) 34 114) 35 110)) C 604 rfl (by decide) (by decide) (by decide) (by decide) rfl dX11_init_603 rfl ?_
  refine A_dup C 605 dX11_init_604 rfl rfl ?_
  refine A_bipush (v := 37) C 607 dX11_init_605 rfl rfl ?_
  refine A_bipush (v := 114) C 609 dX11_init_607 rfl rfl ?_
  refine A_iast (i' := 37) (k := 14) (f := (upd (upd (upd (upd (upd (upd (upd (upd (upd (upd (upd (upd (upd (upd (upd (upd (upd (upd (upd (upd (upd (upd (upd (upd (upd (upd (upd (upd (upd (upd (upd (upd (upd (upd (upd (upd (upd (fun _ => 0) 0 99) 1 117) 2 114) 3 105) 4 111) 5 117) 6 115) 7 32) 8 100) 9 114) 10 101) 11 97) 12 100) 13 115) 14 32) 15 32) 16 103) 17 111) 18 101) 19 115) 20 32) 21 32) 22 32) 23 32) 24 98) 25 97) 26 100) 27 32) 28 32) 29 32) 30 32) 31 32) 32 99) 33 111) 34 114) 35 110) 36 101)) C 610 rfl (by decide) (by decide) (by decide) (by decide) rfl dX11_init_609 rfl ?_
  refine A_dup C 611 dX11_init_610 rfl rfl ?_
  refine A_bipush (v := 38) C 613 dX11_init_611 rfl rfl ?_
  refine A_bipush (v := 32) C 615 dX11_init_613 rfl rfl ?_
  refine A_iast (i' := 38) (k := 14) (f := (upd (upd (upd (upd (upd (upd (upd (upd (upd (upd (upd (upd (upd (upd (upd (upd (upd (upd (upd (upd (upd (upd (upd (upd (upd (upd (upd (upd (upd (upd (upd (upd (upd (upd (upd (upd (upd (upd (fun _ => 0) 0 99) 1 117) 2 114) 3 105) 4 111) 5 117) 6 115) 7 32) 8 100) 9 114) 10 101) 11 97) 12 100) 13 115) 14 32) 15 32) 16 103) 17 111) 18 101) 19 115) 20 32) 21 32) 22 32) 23 32) 24 98) 25 97) 26 100) 27 32) 28 32) 29 32) 30 32) 31 32) 32 99) 33 111) 34 114) 35 110) 36 101) 37 114)) C 616 rfl (by decide) (by decide) (by decide) (by decide) rfl dX11_init_615 rfl ?_
  refine A_dup C 617 dX11_init_616 rfl rfl ?_
  refine A_bipush (v := 39) C 619 dX11_init_617 rfl rfl ?_
  refine A_bipush (v := 32) C 621 dX11_init_619 rfl rfl ?_
  refine A_iast (i' := 39) (k := 14) (f := (upd (upd (upd (upd (upd (upd (upd (upd (upd (upd (upd (upd (upd (upd (upd (upd (upd (upd (upd (upd (upd (upd (upd (upd (upd (upd (upd (upd (upd (upd (upd (upd (upd (upd (upd (upd (upd (upd (upd (fun _ => 0) 0 99) 1 117) 2 114) 3 105) 4 111) 5 117) 6 115) 7 32) 8 100) 9 114) 10 101) 11 97) 12 100) 13 115) 14 32) 15 32) 16 103) 17 111) 18 101) 19 115) 20 32) 21 32) 22 32) 23 32) 24 98) 25 97) 26 100) 27 32) 28 32) 29 32) 30 32) 31 32) 32 99) 33 111) 34 114) 35 110) 36 101) 37 114) 38 32)) C 622 rfl (by decide) (by decide) (by decide) (by decide) rfl dX11_init_621 rfl ?_
  refine A_dup C 623 dX11_init_622 rfl rfl ?_
  refine A_bipush (v := 40) C 625 dX11_init_623 rfl rfl ?_
  refine A_bipush (v := 107) C 627 dX11_init_625 rfl rfl ?_
  refine A_iast (i' := 40) (k := 14) (f := (upd (upd (upd (upd (upd (upd (upd (upd (upd (upd (upd (upd (upd (upd (upd (upd (upd (upd (upd (upd (upd (upd (upd (upd (upd (upd (upd (upd (upd (upd (upd (upd (upd (upd (upd (upd (upd (upd (upd (upd (fun _ => 0) 0 99) 1 117) 2 114) 3 105) 4 111) 5 117) 6 115) 7 32) 8 100) 9 114) 10 101) 11 97) 12 100) 13 115) 14 32) 15 32) 16 103) 17 111) 18 101) 19 115) 20 32) 21 32) 22 32) 23 32) 24 98) 25 97) 26 100) 27 32) 28 32) 29 32) 30 32) 31 32) 32 99) 33 111) 34 114) 35 110) 36 101) 37 114) 38 32) 39 32)) C 628 rfl (by decide) (by decide) (by decide) (by decide) rfl dX11_init_627 rfl ?_
  refine A_dup C 629 dX11_init_628 rfl rfl ?_
  refine A_bipush (v := 41) C 631 dX11_init_629 rfl rfl ?_
  refine A_bipush (v := 110) C 633 dX11_init_631 rfl rfl ?_
  refine A_iast (i' := 41) (k := 14) (f := (upd (upd (upd (upd (upd (upd (upd (upd (upd (upd (upd (upd (upd (upd (upd (upd (upd (upd (upd (upd (upd (upd (upd (upd (upd (upd (upd (upd (upd (upd (upd (upd (upd (upd (upd (upd (upd (upd (upd (upd (upd (fun _ => 0) 0 99) 1 117) 2 114) 3 105) 4 111) 5 117) 6 115) 7 32) 8 100) 9 114) 10 101) 11 97) 12 100) 13 115) 14 32) 15 32) 16 103) 17 111) 18 101) 19 115) 20 32) 21 32) 22 32) 23 32) 24 98) 25 97) 26 100) 27 32) 28 32) 29 32) 30 32) 31 32) 32 99) 33 111) 34 114) 35 110) 36 101) 37 114) 38 32) 39 32) 40 107)) C 634 rfl (by decide) (by decide) (by decide) (by decide) rfl dX11_init_633 rfl ?_
  refine A_dup C 635 dX11_init_634 rfl rfl ?_
  refine A_bipush (v := 42) C 637 dX11_init_635 rfl rfl ?_
  refine A_bipush (v := 111) C 639 dX11_init_637 rfl rfl ?_
  refine A_iast (i' := 42) (k := 14) (f := (upd (upd (upd (upd (upd (upd (upd (upd (upd (upd (upd (upd (upd (upd (upd (upd (upd (upd (upd (upd (upd (upd (upd (upd (upd (upd (upd (upd (upd (upd (upd (upd (upd (upd (upd (upd (upd (upd (upd (upd (upd (upd (fun _ => 0) 0 99) 1 117) 2 114) 3 105) 4 111) 5 117) 6 115) 7 32) 8 100) 9 114) 10 101) 11 97) 12 100) 13 115) 14 32) 15 32) 16 103) 17 111) 18 101) 19 115) 20 32) 21 32) 22 32) 23 32) 24 98) 25 97) 26 100) 27 32) 28 32) 29 32) 30 32) 31 32) 32 99) 33 111) 34 114) 35 110) 36 101) 37 114) 38 32) 39 32) 40 107) 41 110)) C 640 rfl (by decide) (by decide) (by decide) (by decide) rfl dX11_init_639 rfl ?_
  refine A_dup C 641 dX11_init_640 rfl rfl ?_
  refine A_bipush (v := 43) C 643 dX11_init_641 rfl rfl ?_
  refine A_bipush (v := 119) C 645 dX11_init_643 rfl rfl ?_
  refine A_iast (i' := 43) (k := 14) (f := (upd (upd (upd (upd (upd (upd (upd (upd (upd (upd (upd (upd (upd (upd (upd (upd (upd (upd (upd (upd (upd (upd (upd (upd (upd (upd (upd (upd (upd (upd (upd (upd (upd (upd (upd (upd (upd (upd (upd (upd (upd (upd (upd (fun _ => 0) 0 99) 1 117) 2 114) 3 105) 4 111) 5 117) 6 115) 7 32) 8 100) 9 114) 10 101) 11 97) 12 100) 13 115) 14 32) 15 32) 16 103) 17 111) 18 101) 19 115) 20 32) 21 32) 22 32) 23 32) 24 98) 25 97) 26 100) 27 32) 28 32) 29 32) 30 32) 31 32) 32 99) 33 111) 34 114) 35 110) 36 101) 37 114) 38 32) 39 32) 40 107) 41 110) 42 111)) C 646 rfl (by decide) (by decide) (by decide) (by decide) rfl dX11_init_645 rfl ?_
  refine A_dup C 647 dX11_init_646 rfl rfl ?_
  refine A_bipush (v := 44) C 649 dX11_init_647 rfl rfl ?_
  refine A_bipush (v := 110) C 651 dX11_init_649 rfl rfl ?_
  refine A_iast (i' := 44) (k := 14) (f := (upd (upd (upd (upd (upd (upd (upd (upd (upd (upd (upd (upd (upd (upd (upd (upd (upd (upd (upd (upd (upd (upd (upd (upd (upd (upd (upd (upd (upd (upd (upd (upd (upd (upd (upd (upd (upd (upd (upd (upd (upd (upd (upd (upd (fun _ => 0) 0 99) 1 117) 2 114) 3 105) 4 111) 5 117) 6 115) 7 32) 8 100) 9 114) 10 101) 11 97) 12 100) 13 115) 14 32) 15 32) 16 103) 17 111) 18 101) 19 115) 20 32) 21 32) 22 32) 23 32) 24 98) 25 97) 26 100) 27 32) 28 32) 29 32) 30 32) 31 32) 32 99) 33 111) 34 114) 35 110) 36 101) 37 114) 38 32) 39 32) 40 107) 41 110) 42 111) 43 119)) C 652 rfl (by decide) (by decide) (by decide) (by decide) rfl dX11_init_651 rfl ?_
  refine A_dup C 653 dX11_init_652 rfl rfl ?_
  refine A_bipush (v := 45) C 655 dX11_init_653 rfl rfl ?_
  refine A_bipush (v := 32) C 657 dX11_init_655 rfl rfl ?_
  refine A_iast (i' := 45) (k := 14) (f := (upd (upd (upd (upd (upd (upd (upd (upd (upd (upd (upd (upd (upd (upd (upd (upd (upd (upd (upd (upd (upd (upd (upd (upd (upd (upd (upd (upd (upd (upd (upd (upd (upd (upd (upd (upd (upd (upd (upd (upd (upd (upd (upd (upd (upd (fun _ => 0) 0 99) 1 117) 2 114) 3 105) 4 111) 5 117) 6 115) 7 32) 8 100) 9 114) 10 101) 11 97) 12 100) 13 115) 14 32) 15 32) 16 103) 17 111) 18 101) 19 115) 20 32) 21 32) 22 32) 23 32) 24 98) 25 97) 26 100) 27 32) 28 32) 29 32) 30 32) 31 32) 32 99) 33 111) 34 114) 35 110) 36 101) 37 114) 38 32) 39 32) 40 107) 41 110) 42 111) 43 119) 44 110)) C 658 rfl (by decide) (by decide) (by decide) (by decide) rfl dX11_init_657 rfl ?_
  refine A_dup C 659 dX11_init_658 rfl rfl ?_
  refine A_bipush (v := 46) C 661 dX11_init_659 rfl rfl ?_
  refine A_bipush (v := 32) C 663 dX11_init_661 rfl rfl ?_
  refine A_iast (i' := 46) (k := 14) (f := (upd (upd (upd (upd (upd (upd (upd (upd (upd (upd (upd (upd (upd (upd (upd (upd (upd (upd (upd (upd (upd (upd (upd (upd (upd (upd (upd (upd (upd (upd (upd (upd (upd (upd (upd (upd (upd (upd (upd (upd (upd (upd (upd (upd (upd (upd (fun _ => 0) 0 99) 1 117) 2 114) 3 105) 4 111) 5 117) 6 115) 7 32) 8 100) 9 114) 10 101) 11 97) 12 100) 13 115) 14 32) 15 32) 16 103) 17 111) 18 101) 19 115) 20 32) 21 32) 22 32) 23 32) 24 98) 25 97) 26 100) 27 32) 28 32) 29 32) 30 32) 31 32) 32 99) 33 111) 34 114) 35 110) 36 101) 37 114) 38 32) 39 32) 40 107) 41 110) 42 111) 43 119) 44 110) 45 32)) C 664 rfl (by decide) (by decide) (by decide) (by decide) rfl dX11_init_663 rfl ?_
  refine A_dup C 665 dX11_init_664 rfl rfl ?_
  refine A_bipush (v := 47) C 667 dX11_init_665 rfl rfl ?_
  refine A_bipush (v := 32) C 669 dX11_init_667 rfl rfl ?_
  refine A_iast (i' := 47) (k := 14) (f := (upd (upd (upd (upd (upd (upd (upd (upd (upd (upd (upd (upd (upd (upd (upd (upd (upd (upd (upd (upd (upd (upd (upd (upd (upd (upd (upd (upd (upd (upd (upd (upd (upd (upd (upd (upd (upd (upd (upd (upd (upd (upd (upd (upd (upd (upd (upd (fun _ => 0) 0 99) 1 117) 2 114) 3 105) 4 111) 5 117) 6 115) 7 32) 8 100) 9 114) 10 101) 11 97) 12 100) 13 115) 14 32) 15 32) 16 103) 17 111) 18 101) 19 115) 20 32) 21 32) 22 32) 23 32) 24 98) 25 97) 26 100) 27 32) 28 32) 29 32) 30 32) 31 32) 32 99) 33 111) 34 114) 35 110) 36 101) 37 114) 38 32) 39 32) 40 107) 41 110) 42 111) 43 119) 44 110) 45 32) 46 32)) C 670 rfl (by decide) (by decide) (by decide) (by decide) rfl dX11_init_669 rfl ?_
  refine A_dup C 671 dX11_init_670 rfl rfl ?_
  refine A_bipush (v := 48) C 673 dX11_init_671 rfl rfl ?_
  refine A_bipush (v := 119) C 675 dX11_init_673 rfl rfl ?_
  refine A_iast (i' := 48) (k := 14) (f := (upd (upd (upd (upd (upd (upd (upd (upd (upd (upd (upd (upd (upd (upd (upd (upd (upd (upd (upd (upd (upd (upd (upd (upd (upd (upd (upd (upd (upd (upd (upd (upd (upd (upd (upd (upd (upd (upd (upd (upd (upd (upd (upd (upd (upd (upd (upd (upd (fun _ => 0) 0 99) 1 117) 2 114) 3 105) 4 111) 5 117) 6 115) 7 32) 8 100) 9 114) 10 101) 11 97) 12 100) 13 115) 14 32) 15 32) 16 103) 17 111) 18 101) 19 115) 20 32) 21 32) 22 32) 23 32) 24 98) 25 97) 26 100) 27 32) 28 32) 29 32) 30 32) 31 32) 32 99) 33 111) 34 114) 35 110) 36 101) 37 114) 38 32) 39 32) 40 107) 41 110) 42 111) 43 119) 44 110) 45 32) 46 32) 47 32)) C 676 rfl (by decide) (by decide) (by decide) (by decide) rfl dX11_init_675 rfl ?_
  refine A_dup C 677 dX11_init_676 rfl rfl ?_
  refine A_bipush (v := 49) C 679 dX11_init_677 rfl rfl ?_
  refine A_bipush (v := 97) C 681 dX11_init_679 rfl rfl ?_
  refine A_iast (i' := 49) (k := 14) (f := (upd (upd (upd (upd (upd (upd (upd (upd (upd (upd (upd (upd (upd (upd (upd (upd (upd (upd (upd (upd (upd (upd (upd (upd (upd (upd (upd (upd (upd (upd (upd (upd (upd (upd (upd (upd (upd (upd (upd (upd (upd (upd (upd (upd (upd (upd (upd (upd (upd (fun _ => 0) 0 99) 1 117) 2 114) 3 105) 4 111) 5 117) 6 115) 7 32) 8 100) 9 114) 10 101) 11 97) 12 100) 13 115) 14 32) 15 32) 16 103) 17 111) 18 101) 19 115) 20 32) 21 32) 22 32) 23 32) 24 98) 25 97) 26 100) 27 32) 28 32) 29 32) 30 32) 31 32) 32 99) 33 111) 34 114) 35 110) 36 101) 37 114) 38 32) 39 32) 40 107) 41 110) 42 111) 43 119) 44 110) 45 32) 46 32) 47 32) 48 119)) C 682 rfl (by decide) (by decide) (by decide) (by decide) rfl dX11_init_681 rfl ?_
  refine A_dup C 683 dX11_init_682 rfl rfl ?_
  refine A_bipush (v := 50) C 685 dX11_init_683 rfl rfl ?_
  refine A_bipush (v := 110) C 687 dX11_init_685 rfl rfl ?_
  refine A_iast (i' := 50) (k := 14) (f := (upd (upd (upd (upd (upd (upd (upd (upd (upd (upd (upd (upd (upd (upd (upd (upd (upd (upd (upd (upd (upd (upd (upd (upd (upd (upd (upd (upd (upd (upd (upd (upd (upd (upd (upd (upd (upd (upd (upd (upd (upd (upd (upd (upd (upd (upd (upd (upd (upd (upd (fun _ => 0) 0 99) 1 117) 2 114) 3 105) 4 111) 5 117) 6 115) 7 32) 8 100) 9 114) 10 101) 11 97) 12 100) 13 115) 14 32) 15 32) 16 103) 17 111) 18 101) 19 115) 20 32) 21 32) 22 32) 23 32) 24 98) 25 97) 26 100) 27 32) 28 32) 29 32) 30 32) 31 32) 32 99) 33 111) 34 114) 35 110) 36 101) 37 114) 38 32) 39 32) 40 107) 41 110) 42 111) 43 119) 44 110) 45 32) 46 32) 47 32) 48 119) 49 97)) C 688 rfl (by decide) (by decide) (by decide) (by decide) rfl dX11_init_687 rfl ?_
  refine A_dup C 689 dX11_init_688 rfl rfl ?_
  refine A_bipush (v := 51) C 691 dX11_init_689 rfl rfl ?_
  refine A_bipush (v := 116) C 693 dX11_init_691 rfl rfl ?_
  refine A_iast (i' := 51) (k := 14) (f := (upd (upd (upd (upd (upd (upd (upd (upd (upd (upd (upd (upd (upd (upd (upd (upd (upd (upd (upd (upd (upd (upd (upd (upd (upd (upd (upd (upd (upd (upd (upd (upd (upd (upd (upd (upd (upd (upd (upd (upd (upd (upd (upd (upd (upd (upd (upd (upd (upd (upd (upd (fun _ => 0) 0 99) 1 117) 2 114) 3 105) 4 111) 5 117) 6 115) 7 32) 8 100) 9 114) 10 101) 11 97) 12 100) 13 115) 14 32) 15 32) 16 103) 17 111) 18 101) 19 115) 20 32) 21 32) 22 32) 23 32) 24 98) 25 97) 26 100) 27 32) 28 32) 29 32) 30 32) 31 32) 32 99) 33 111) 34 114) 35 110) 36 101) 37 114) 38 32) 39 32) 40 107) 41 110) 42 111) 43 119) 44 110) 45 32) 46 32) 47 32) 48 119) 49 97) 50 110)) C 694 rfl (by decide) (by decide) (by decide) (by decide) rfl dX11_init_693 rfl ?_
  refine A_dup C 695 dX11_init_694 rfl rfl ?_
  refine A_bipush (v := 52) C 697 dX11_init_695 rfl rfl ?_
  refine A_bipush (v := 101) C 699 dX11_init_697 rfl rfl ?_
  refine A_iast (i' := 52) (k := 14) (f := (upd (upd (upd (upd (upd (upd (upd (upd (upd (upd (upd (upd (upd (upd (upd (upd (upd (upd (upd (upd (upd (upd (upd (upd (upd (upd (upd (upd (upd (upd (upd (upd (upd (upd (upd (upd (upd (upd (upd (upd (upd (upd (upd (upd (upd (upd (upd (upd (upd (upd (upd (upd (fun _ => 0) 0 99) 1 117) 2 114) 3 105) 4 111) 5 117) 6 115) 7 32) 8 100) 9 114) 10 101) 11 97) 12 100) 13 115) 14 32) 15 32) 16 103) 17 111) 18 101) 19 115) 20 32) 21 32) 22 32) 23 32) 24 98) 25 97) 26 100) 27 32) 28 32) 29 32) 30 32) 31 32) 32 99) 33 111) 34 114) 35 110) 36 101) 37 114) 38 32) 39 32) 40 107) 41 110) 42 111) 43 119) 44 110) 45 32) 46 32) 47 32) 48 119) 49 97) 50 110) 51 116)) C 700 rfl (by decide) (by decide) (by decide) (by decide) rfl dX11_init_699 rfl ?_
  refine A_dup C 701 dX11_init_700 rfl rfl ?_
  refine A_bipush (v := 53) C 703 dX11_init_701 rfl rfl ?_
  refine A_bipush (v := 100) C 705 dX11_init_703 rfl rfl ?_
  refine A_iast (i' := 53) (k := 14) (f := (upd (upd (upd (upd (upd (upd (upd (upd (upd (upd (upd (upd (upd (upd (upd (upd (upd (upd (upd (upd (upd (upd (upd (upd (upd (upd (upd (upd (upd (upd (upd (upd (upd (upd (upd (upd (upd (upd (upd (upd (upd (upd (upd (upd (upd (upd (upd (upd (upd (upd (upd (upd (upd (fun _ => 0) 0 99) 1 117) 2 114) 3 105) 4 111) 5 117) 6 115) 7 32) 8 100) 9 114) 10 101) 11 97) 12 100) 13 115) 14 32) 15 32) 16 103) 17 111) 18 101) 19 115) 20 32) 21 32) 22 32) 23 32) 24 98) 25 97) 26 100) 27 32) 28 32) 29 32) 30 32) 31 32) 32 99) 33 111) 34 114) 35 110) 36 101) 37 114) 38 32) 39 32) 40 107) 41 110) 42 111) 43 119) 44 110) 45 32) 46 32) 47 32) 48 119) 49 97) 50 110) 51 116) 52 101)) C 706 rfl (by decide) (by decide) (by decide) (by decide) rfl dX11_init_705 rfl ?_
  refine A_dup C 707 dX11_init_706 rfl rfl ?_
  refine A_bipush (v := 54) C 709 dX11_init_707 rfl rfl ?_
  refine A_bipush (v := 32) C 711 dX11_init_709 rfl rfl ?_
  refine A_iast (i' := 54) (k := 14) (f := (upd (upd (upd (upd (upd (upd (upd (upd (upd (upd (upd (upd (upd (upd (upd (upd (upd (upd (upd (upd (upd (upd (upd (upd (upd (upd (upd (upd (upd (upd (upd (upd (upd (upd (upd (upd (upd (upd (upd (upd (upd (upd (upd (upd (upd (upd (upd (upd (upd (upd (upd (upd (upd (upd (fun _ => 0) 0 99) 1 117) 2 114) 3 105) 4 111) 5 117) 6 115) 7 32) 8 100) 9 114) 10 101) 11 97) 12 100) 13 115) 14 32) 15 32) 16 103) 17 111) 18 101) 19 115) 20 32) 21 32) 22 32) 23 32) 24 98) 25 97) 26 100) 27 32) 28 32) 29 32) 30 32) 31 32) 32 99) 33 111) 34 114) 35 110) 36 101) 37 114) 38 32) 39 32) 40 107) 41 110) 42 111) 43 119) 44 110) 45 32) 46 32) 47 32) 48 119) 49 97) 50 110) 51 116) 52 101) 53 100)) C 712 rfl (by decide) (by decide) (by decide) (by decide) rfl dX11_init_711 rfl ?_
  refine A_dup C 713 dX11_init_712 rfl rfl ?_
  refine A_bipush (v := 55) C 715 dX11_init_713 rfl rfl ?_
  refine A_bipush (v := 32) C 717 dX11_init_715 rfl rfl ?_
  refine A_iast (i' := 55) (k := 14) (f := (upd (upd (upd (upd (upd (upd (upd (upd (upd (upd (upd (upd (upd (upd (upd (upd (upd (upd (upd (upd (upd (upd (upd (upd (upd (upd (upd (upd (upd (upd (upd (upd (upd (upd (upd (upd (upd (upd (upd (upd (upd (upd (upd (upd (upd (upd (upd (upd (upd (upd (upd (upd (upd (upd (upd (fun _ => 0) 0 99) 1 117) 2 114) 3 105) 4 111) 5 117) 6 115) 7 32) 8 100) 9 114) 10 101) 11 97) 12 100) 13 115) 14 32) 15 32) 16 103) 17 111) 18 101) 19 115) 20 32) 21 32) 22 32) 23 32) 24 98) 25 97) 26 100) 27 32) 28 32) 29 32) 30 32) 31 32) 32 99) 33 111) 34 114) 35 110) 36 101) 37 114) 38 32) 39 32) 40 107) 41 110) 42 111) 43 119) 44 110) 45 32) 46 32) 47 32) 48 119) 49 97) 50 110) 51 116) 52 101) 53 100) 54 32)) C 718 rfl (by decide) (by decide) (by decide) (by decide) rfl dX11_init_717 rfl ?_
  refine A_dup C 719 dX11_init_718 rfl rfl ?_
  refine A_bipush (v := 56) C 721 dX11_init_719 rfl rfl ?_
  refine A_bipush (v := 104) C 723 dX11_init_721 rfl rfl ?_
  refine A_iast (i' := 56) (k := 14) (f := (upd (upd (upd (upd (upd (upd (upd (upd (upd (upd (upd (upd (upd (upd (upd (upd (upd (upd (upd (upd (upd (upd (upd (upd (upd (upd (upd (upd (upd (upd (upd (upd (upd (upd (upd (upd (upd (upd (upd (upd (upd (upd (upd (upd (upd (upd (upd (upd (upd (upd (upd (upd (upd (upd (upd (upd (fun _ => 0) 0 99) 1 117) 2 114) 3 105) 4 111) 5 117) 6 115) 7 32) 8 100) 9 114) 10 101) 11 97) 12 100) 13 115) 14 32) 15 32) 16 103) 17 111) 18 101) 19 115) 20 32) 21 32) 22 32) 23 32) 24 98) 25 97) 26 100) 27 32) 28 32) 29 32) 30 32) 31 32) 32 99) 33 111) 34 114) 35 110) 36 101) 37 114) 38 32) 39 32) 40 107) 41 110) 42 111) 43 119) 44 110) 45 32) 46 32) 47 32) 48 119) 49 97) 50 110) 51 116) 52 101) 53 100) 54 32) 55 32)) C 724 rfl (by decide) (by decide) (by decide) (by decide) rfl dX11_init_723 rfl ?_
  refine A_dup C 725 dX11_init_724 rfl rfl ?_
  refine A_bipush (v := 57) C 727 dX11_init_725 rfl rfl ?_
  refine A_bipush (v := 111) C 729 dX11_init_727 rfl rfl ?_
  refine A_iast (i' := 57) (k := 14) (f := (upd (upd (upd (upd (upd (upd (upd (upd (upd (upd (upd (upd (upd (upd (upd (upd (upd (upd (upd (upd (upd (upd (upd (upd (upd (upd (upd (upd (upd (upd (upd (upd (upd (upd (upd (upd (upd (upd (upd (upd (upd (upd (upd (upd (upd (upd (upd (upd (upd (upd (upd (upd (upd (upd (upd (upd (upd (fun _ => 0) 0 99) 1 117) 2 114) 3 105) 4 111) 5 117) 6 115) 7 32) 8 100) 9 114) 10 101) 11 97) 12 100) 13 115) 14 32) 15 32) 16 103) 17 111) 18 101) 19 115) 20 32) 21 32) 22 32) 23 32) 24 98) 25 97) 26 100) 27 32) 28 32) 29 32) 30 32) 31 32) 32 99) 33 111) 34 114) 35 110) 36 101) 37 114) 38 32) 39 32) 40 107) 41 110) 42 111) 43 119) 44 110) 45 32) 46 32) 47 32) 48 119) 49 97) 50 110) 51 116) 52 101) 53 100) 54 32) 55 32) 56 104)) C 730 rfl (by decide) (by decide) (by decide) (by decide) rfl dX11_init_729 rfl ?_
  refine A_dup C 731 dX11_init_730 rfl rfl ?_
  refine A_bipush (v := 58) C 733 dX11_init_731 rfl rfl ?_
  refine A_bipush (v := 117) C 735 dX11_init_733 rfl rfl ?_
  refine A_iast (i' := 58) (k := 14) (f := (upd (upd (upd (upd (upd (upd (upd (upd (upd (upd (upd (upd (upd (upd (upd (upd (upd (upd (upd (upd (upd (upd (upd (upd (upd (upd (upd (upd (upd (upd (upd (upd (upd (upd (upd (upd (upd (upd (upd (upd (upd (upd (upd (upd (upd (upd (upd (upd (upd (upd (upd (upd (upd (upd (upd (upd (upd (upd (fun _ => 0) 0 99) 1 117) 2 114) 3 105) 4 111) 5 117) 6 115) 7 32) 8 100) 9 114) 10 101) 11 97) 12 100) 13 115) 14 32) 15 32) 16 103) 17 111) 18 101) 19 115) 20 32) 21 32) 22 32) 23 32) 24 98) 25 97) 26 100) 27 32) 28 32) 29 32) 30 32) 31 32) 32 99) 33 111) 34 114) 35 110) 36 101) 37 114) 38 32) 39 32) 40 107) 41 110) 42 111) 43 119) 44 110) 45 32) 46 32) 47 32) 48 119) 49 97) 50 110) 51 116) 52 101) 53 100) 54 32) 55 32) 56 104) 57 111)) C 736 rfl (by decide) (by decide) (by decide) (by decide) rfl dX11_init_735 rfl ?_
  refine A_dup C 737 dX11_init_736 rfl rfl ?_
  refine A_bipush (v := 59) C 739 dX11_init_737 rfl rfl ?_
  refine A_bipush (v := 114) C 741 dX11_init_739 rfl rfl ?_
  refine A_iast (i' := 59) (k := 14) (f := (upd (upd (upd (upd (upd (upd (upd (upd (upd (upd (upd (upd (upd (upd (upd (upd (upd (upd (upd (upd (upd (upd (upd (upd (upd (upd (upd (upd (upd (upd (upd (upd (upd (upd (upd (upd (upd (upd (upd (upd (upd (upd (upd (upd (upd (upd (upd (upd (upd (upd (upd (upd (upd (upd (upd (upd (upd (upd (upd (fun _ => 0) 0 99) 1 117) 2 114) 3 105) 4 111) 5 117) 6 115) 7 32) 8 100) 9 114) 10 101) 11 97) 12 100) 13 115) 14 32) 15 32) 16 103) 17 111) 18 101) 19 115) 20 32) 21 32) 22 32) 23 32) 24 98) 25 97) 26 100) 27 32) 28 32) 29 32) 30 32) 31 32) 32 99) 33 111) 34 114) 35 110) 36 101) 37 114) 38 32) 39 32) 40 107) 41 110) 42 111) 43 119) 44 110) 45 32) 46 32) 47 32) 48 119) 49 97) 50 110) 51 116) 52 101) 53 100) 54 32) 55 32) 56 104) 57 111) 58 117)) C 742 rfl (by decide) (by decide) (by decide) (by decide) rfl dX11_init_741 rfl ?_
  refine A_dup C 743 dX11_init_742 rfl rfl ?_
  refine A_bipush (v := 60) C 745 dX11_init_743 rfl rfl ?_
  refine A_bipush (v := 32) C 747 dX11_init_745 rfl rfl ?_
  refine A_iast (i' := 60) (k := 14) (f := (upd (upd (upd (upd (upd (upd (upd (upd (upd (upd (upd (upd (upd (upd (upd (upd (upd (upd (upd (upd (upd (upd (upd (upd (upd (upd (upd (upd (upd (upd (upd (upd (upd (upd (upd (upd (upd (upd (upd (upd (upd (upd (upd (upd (upd (upd (upd (upd (upd (upd (upd (upd (upd (upd (upd (upd (upd (upd (upd (upd (fun _ => 0) 0 99) 1 117) 2 114) 3 105) 4 111) 5 117) 6 115) 7 32) 8 100) 9 114) 10 101) 11 97) 12 100) 13 115) 14 32) 15 32) 16 103) 17 111) 18 101) 19 115) 20 32) 21 32) 22 32) 23 32) 24 98) 25 97) 26 100) 27 32) 28 32) 29 32) 30 32) 31 32) 32 99) 33 111) 34 114) 35 110) 36 101) 37 114) 38 32) 39 32) 40 107) 41 110) 42 111) 43 119) 44 110) 45 32) 46 32) 47 32) 48 119) 49 97) 50 110) 51 116) 52 101) 53 100) 54 32) 55 32) 56 104) 57 111) 58 117) 59 114)) C 748 rfl (by decide) (by decide) (by decide) (by decide) rfl dX11_init_747 rfl ?_
  refine A_dup C 749 dX11_init_748 rfl rfl ?_
  refine A_bipush (v := 61) C 751 dX11_init_749 rfl rfl ?_
  refine A_bipush (v := 32) C 753 dX11_init_751 rfl rfl ?_
  refine A_iast (i' := 61) (k := 14) (f := (upd (upd (upd (upd (upd (upd (upd (upd (upd (upd (upd (upd (upd (upd (upd (upd (upd (upd (upd (upd (upd (upd (upd (upd (upd (upd (upd (upd (upd (upd (upd (upd (upd (upd (upd (upd (upd (upd (upd (upd (upd (upd (upd (upd (upd (upd (upd (upd (upd (upd (upd (upd (upd (upd (upd (upd (upd (upd (upd (upd (upd (fun _ => 0) 0 99) 1 117) 2 114) 3 105) 4 111) 5 117) 6 115) 7 32) 8 100) 9 114) 10 101) 11 97) 12 100) 13 115) 14 32) 15 32) 16 103) 17 111) 18 101) 19 115) 20 32) 21 32) 22 32) 23 32) 24 98) 25 97) 26 100) 27 32) 28 32) 29 32) 30 32) 31 32) 32 99) 33 111) 34 114) 35 110) 36 101) 37 114) 38 32) 39 32) 40 107) 41 110) 42 111) 43 119) 44 110) 45 32) 46 32) 47 32) 48 119) 49 97) 50 110) 51 116) 52 101) 53 100) 54 32) 55 32) 56 104) 57 111) 58 117) 59 114) 60 32)) C 754 rfl (by decide) (by decide) (by decide) (by decide) rfl dX11_init_753 rfl ?_
  refine A_dup C 755 dX11_init_754 rfl rfl ?_
  refine A_bipush (v := 62) C 757 dX11_init_755 rfl rfl ?_
  refine A_bipush (v := 32) C 759 dX11_init_757 rfl rfl ?_
  refine A_iast (i' := 62) (k := 14) (f := (upd (upd (upd (upd (upd (upd (upd (upd (upd (upd (upd (upd (upd (upd (upd (upd (upd (upd (upd (upd (upd (upd (upd (upd (upd (upd (upd (upd (upd (upd (upd (upd (upd (upd (upd (upd (upd (upd (upd (upd (upd (upd (upd (upd (upd (upd (upd (upd (upd (upd (upd (upd (upd (upd (upd (upd (upd (upd (upd (upd (upd (upd (fun _ => 0) 0 99) 1 117) 2 114) 3 105) 4 111) 5 117) 6 115) 7 32) 8 100) 9 114) 10 101) 11 97) 12 100) 13 115) 14 32) 15 32) 16 103) 17 111) 18 101) 19 115) 20 32) 21 32) 22 32) 23 32) 24 98) 25 97) 26 100) 27 32) 28 32) 29 32) 30 32) 31 32) 32 99) 33 111) 34 114) 35 110) 36 101) 37 114) 38 32) 39 32) 40 107) 41 110) 42 111) 43 119) 44 110) 45 32) 46 32) 47 32) 48 119) 49 97) 50 110) 51 116) 52 101) 53 100) 54 32) 55 32) 56 104) 57 111) 58 117) 59 114) 60 32) 61 32)) C 760 rfl (by decide) (by decide) (by decide) (by decide) rfl dX11_init_759 rfl ?_
  refine A_dup C 761 dX11_init_760 rfl rfl ?_
  refine A_bipush (v := 63) C 763 dX11_init_761 rfl rfl ?_
  refine A_bipush (v := 32) C 765 dX11_init_763 rfl rfl ?_
  refine A_iast (i' := 63) (k := 14) (f := (upd (upd (upd (upd (upd (upd (upd (upd (upd (upd (upd (upd (upd (upd (upd (upd (upd (upd (upd (upd (upd (upd (upd (upd (upd (upd (upd (upd (upd (upd (upd (upd (upd (upd (upd (upd (upd (upd (upd (upd (upd (upd (upd (upd (upd (upd (upd (upd (upd (upd (upd (upd (upd (upd (upd (upd (upd (upd (upd (upd (upd (upd (upd (fun _ => 0) 0 99) 1 117) 2 114) 3 105) 4 111) 5 117) 6 115) 7 32) 8 100) 9 114) 10 101) 11 97) 12 100) 13 115) 14 32) 15 32) 16 103) 17 111) 18 101) 19 115) 20 32) 21 32) 22 32) 23 32) 24 98) 25 97) 26 100) 27 32) 28 32) 29 32) 30 32) 31 32) 32 99) 33 111) 34 114) 35 110) 36 101) 37 114) 38 32) 39 32) 40 107) 41 110) 42 111) 43 119) 44 110) 45 32) 46 32) 47 32) 48 119) 49 97) 50 110) 51 116) 52 101) 53 100) 54 32) 55 32) 56 104) 57 111) 58 117) 59 114) 60 32) 61 32) 62 32)) C 766 rfl (by decide) (by decide) (by decide) (by decide) rfl dX11_init_765 rfl ?_
  refine A_dup C 767 dX11_init_766 rfl rfl ?_
  refine A_bipush (v := 64) C 769 dX11_init_767 rfl rfl ?_
  refine A_bipush (v := 109) C 771 dX11_init_769 rfl rfl ?_
  refine A_iast (i' := 64) (k := 14) (f := (upd (upd (upd (upd (upd (upd (upd (upd (upd (upd (upd (upd (upd (upd (upd (upd (upd (upd (upd (upd (upd (upd (upd (upd (upd (upd (upd (upd (upd (upd (upd (upd (upd (upd (upd (upd (upd (upd (upd (upd (upd (upd (upd (upd (upd (upd (upd (upd (upd (upd (upd (upd (upd (upd (upd (upd (upd (upd (upd (upd (upd (upd (upd (upd (fun _ => 0) 0 99) 1 117) 2 114) 3 105) 4 111) 5 117) 6 115) 7 32) 8 100) 9 114) 10 101) 11 97) 12 100) 13 115) 14 32) 15 32) 16 103) 17 111) 18 101) 19 115) 20 32) 21 32) 22 32) 23 32) 24 98) 25 97) 26 100) 27 32) 28 32) 29 32) 30 32) 31 32) 32 99) 33 111) 34 114) 35 110) 36 101) 37 114) 38 32) 39 32) 40 107) 41 110) 42 111) 43 119) 44 110) 45 32) 46 32) 47 32) 48 119) 49 97) 50 110) 51 116) 52 101) 53 100) 54 32) 55 32) 56 104) 57 111) 58 117) 59 114) 60 32) 61 32) 62 32) 63 32)) C 772 rfl (by decide) (by decide) (by decide) (by decide) rfl dX11_init_771 rfl ?_
  refine A_dup C 773 dX11_init_772 rfl rfl ?_
  refine A_bipush (v := 65) C 775 dX11_init_773 rfl rfl ?_
  refine A_bipush (v := 111) C 777 dX11_init_775 rfl rfl ?_
  refine A_iast (i' := 65) (k := 14) (f := (upd (upd (upd (upd (upd (upd (upd (upd (upd (upd (upd (upd (upd (upd (upd (upd (upd (upd (upd (upd (upd (upd (upd (upd (upd (upd (upd (upd (upd (upd (upd (upd (upd (upd (upd (upd (upd (upd (upd (upd (upd (upd (upd (upd (upd (upd (upd (upd (upd (upd (upd (upd (upd (upd (upd (upd (upd (upd (upd (upd (upd (upd (upd (upd (upd (fun _ => 0) 0 99) 1 117) 2 114) 3 105) 4 111) 5 117) 6 115) 7 32) 8 100) 9 114) 10 101) 11 97) 12 100) 13 115) 14 32) 15 32) 16 103) 17 111) 18 101) 19 115) 20 32) 21 32) 22 32) 23 32) 24 98) 25 97) 26 100) 27 32) 28 32) 29 32) 30 32) 31 32) 32 99) 33 111) 34 114) 35 110) 36 101) 37 114) 38 32) 39 32) 40 107) 41 110) 42 111) 43 119) 44 110) 45 32) 46 32) 47 32) 48 119) 49 97) 50 110) 51 116) 52 101) 53 100) 54 32) 55 32) 56 104) 57 111) 58 117) 59 114) 60 32) 61 32) 62 32) 63 32) 64 109)) C 778 rfl (by decide) (by decide) (by decide) (by decide) rfl dX11_init_777 rfl ?_
  refine A_dup C 779 dX11_init_778 rfl rfl ?_
  refine A_bipush (v := 66) C 781 dX11_init_779 rfl rfl ?_
  refine A_bipush (v := 114) C 783 dX11_init_781 rfl rfl ?_
  refine A_iast (i' := 66) (k := 14) (f := (upd (upd (upd (upd (upd (upd (upd (upd (upd (upd (upd (upd (upd (upd (upd (upd (upd (upd (upd (upd (upd (upd (upd (upd (upd (upd (upd (upd (upd (upd (upd (upd (upd (upd (upd (upd (upd (upd (upd (upd (upd (upd (upd (upd (upd (upd (upd (upd (upd (upd (upd (upd (upd (upd (upd (upd (upd (upd (upd (upd (upd (upd (upd (upd (upd (upd (fun _ => 0) 0 99) 1 117) 2 114) 3 105) 4 111) 5 117) 6 115) 7 32) 8 100) 9 114) 10 101) 11 97) 12 100) 13 115) 14 32) 15 32) 16 103) 17 111) 18 101) 19 115) 20 32) 21 32) 22 32) 23 32) 24 98) 25 97) 26 100) 27 32) 28 32) 29 32) 30 32) 31 32) 32 99) 33 111) 34 114) 35 110) 36 101) 37 114) 38 32) 39 32) 40 107) 41 110) 42 111) 43 119) 44 110) 45 32) 46 32) 47 32) 48 119) 49 97) 50 110) 51 116) 52 101) 53 100) 54 32) 55 32) 56 104) 57 111) 58 117) 59 114) 60 32) 61 32) 62 32) 63 32) 64 109) 65 111)) C 784 rfl (by decide) (by decide) (by decide) (by decide) rfl dX11_init_783 rfl ?_
  refine A_dup C 785 dX11_init_784 rfl rfl ?_
  refine A_bipush (v := 67) C 787 dX11_init_785 rfl rfl ?_
  refine A_bipush (v := 101) C 789 dX11_init_787 rfl rfl ?_
  refine A_iast (i' := 67) (k := 14) (f := (upd (upd (upd (upd (upd (upd (upd (upd (upd (upd (upd (upd (upd (upd (upd (upd (upd (upd (upd (upd (upd (upd (upd (upd (upd (upd (upd (upd (upd (upd (upd (upd (upd (upd (upd (upd (upd (upd (upd (upd (upd (upd (upd (upd (upd (upd (upd (upd (upd (upd (upd (upd (upd (upd (upd (upd (upd (upd (upd (upd (upd (upd (upd (upd (upd (upd (upd (fun _ => 0) 0 99) 1 117) 2 114) 3 105) 4 111) 5 117) 6 115) 7 32) 8 100) 9 114) 10 101) 11 97) 12 100) 13 115) 14 32) 15 32) 16 103) 17 111) 18 101) 19 115) 20 32) 21 32) 22 32) 23 32) 24 98) 25 97) 26 100) 27 32) 28 32) 29 32) 30 32) 31 32) 32 99) 33 111) 34 114) 35 110) 36 101) 37 114) 38 32) 39 32) 40 107) 41 110) 42 111) 43 119) 44 110) 45 32) 46 32) 47 32) 48 119) 49 97) 50 110) 51 116) 52 101) 53 100) 54 32) 55 32) 56 104) 57 111) 58 117) 59 114) 60 32) 61 32) 62 32) 63 32) 64 109) 65 111) 66 114)) C 790 rfl (by decide) (by decide) (by decide) (by decide) rfl dX11_init_789 rfl ?_
  refine A_dup C 791 dX11_init_790 rfl rfl ?_
  refine A_bipush (v := 68) C 793 dX11_init_791 rfl rfl ?_
  refine A_bipush (v := 32) C 795 dX11_init_793 rfl rfl ?_
  refine A_iast (i' := 68) (k := 14) (f := (upd (upd (upd (upd (upd (upd (upd (upd (upd (upd (upd (upd (upd (upd (upd (upd (upd (upd (upd (upd (upd (upd (upd (upd (upd (upd (upd (upd (upd (upd (upd (upd (upd (upd (upd (upd (upd (upd (upd (upd (upd (upd (upd (upd (upd (upd (upd (upd (upd (upd (upd (upd (upd (upd (upd (upd (upd (upd (upd (upd (upd (upd (upd (upd (upd (upd (upd (upd (fun _ => 0) 0 99) 1 117) 2 114) 3 105) 4 111) 5 117) 6 115) 7 32) 8 100) 9 114) 10 101) 11 97) 12 100) 13 115) 14 32) 15 32) 16 103) 17 111) 18 101) 19 115) 20 32) 21 32) 22 32) 23 32) 24 98) 25 97) 26 100) 27 32) 28 32) 29 32) 30 32) 31 32) 32 99) 33 111) 34 114) 35 110) 36 101) 37 114) 38 32) 39 32) 40 107) 41 110) 42 111) 43 119) 44 110) 45 32) 46 32) 47 32) 48 119) 49 97) 50 110) 51 116) 52 101) 53 100) 54 32) 55 32) 56 104) 57 111) 58 117) 59 114) 60 32) 61 32) 62 32) 63 32) 64 109) 65 111) 66 114) 67 101)) C 796 rfl (by decide) (by decide) (by decide) (by decide) rfl dX11_init_795 rfl ?_
  refine A_dup C 797 dX11_init_796 rfl rfl ?_
  refine A_bipush (v := 69) C 799 dX11_init_797 rfl rfl ?_
  refine A_bipush (v := 32) C 801 dX11_init_799 rfl rfl ?_
  refine A_iast (i' := 69) (k := 14) (f := (upd (upd (upd (upd (upd (upd (upd (upd (upd (upd (upd (upd (upd (upd (upd (upd (upd (upd (upd (upd (upd (upd (upd (upd (upd (upd (upd (upd (upd (upd (upd (upd (upd (upd (upd (upd (upd (upd (upd (upd (upd (upd (upd (upd (upd (upd (upd (upd (upd (upd (upd (upd (upd (upd (upd (upd (upd (upd (upd (upd (upd (upd (upd (upd (upd (upd (upd (upd (upd (fun _ => 0) 0 99) 1 117) 2 114) 3 105) 4 111) 5 117) 6 115) 7 32) 8 100) 9 114) 10 101) 11 97) 12 100) 13 115) 14 32) 15 32) 16 103) 17 111) 18 101) 19 115) 20 32) 21 32) 22 32) 23 32) 24 98) 25 97) 26 100) 27 32) 28 32) 29 32) 30 32) 31 32) 32 99) 33 111) 34 114) 35 110) 36 101) 37 114) 38 32) 39 32) 40 107) 41 110) 42 111) 43 119) 44 110) 45 32) 46 32) 47 32) 48 119) 49 97) 50 110) 51 116) 52 101) 53 100) 54 32) 55 32) 56 104) 57 111) 58 117) 59 114) 60 32) 61 32) 62 32) 63 32) 64 109) 65 111) 66 114) 67 101) 68 32)) C 802 rfl (by decide) (by decide) (by decide) (by decide) rfl dX11_init_801 rfl ?_
  refine A_dup C 803 dX11_init_802 rfl rfl ?_
  refine A_bipush (v := 70) C 805 dX11_init_803 rfl rfl ?_
  refine A_bipush (v := 32) C 807 dX11_init_805 rfl rfl ?_
  refine A_iast (i' := 70) (k := 14) (f := (upd (upd (upd (upd (upd (upd (upd (upd (upd (upd (upd (upd (upd (upd (upd (upd (upd (upd (upd (upd (upd (upd (upd (upd (upd (upd (upd (upd (upd (upd (upd (upd (upd (upd (upd (upd (upd (upd (upd (upd (upd (upd (upd (upd (upd (upd (upd (upd (upd (upd (upd (upd (upd (upd (upd (upd (upd (upd (upd (upd (upd (upd (upd (upd (upd (upd (upd (upd (upd (upd (fun _ => 0) 0 99) 1 117) 2 114) 3 105) 4 111) 5 117) 6 115) 7 32) 8 100) 9 114) 10 101) 11 97) 12 100) 13 115) 14 32) 15 32) 16 103) 17 111) 18 101) 19 115) 20 32) 21 32) 22 32) 23 32) 24 98) 25 97) 26 100) 27 32) 28 32) 29 32) 30 32) 31 32) 32 99) 33 111) 34 114) 35 110) 36 101) 37 114) 38 32) 39 32) 40 107) 41 110) 42 111) 43 119) 44 110) 45 32) 46 32) 47 32) 48 119) 49 97) 50 110) 51 116) 52 101) 53 100) 54 32) 55 32) 56 104) 57 111) 58 117) 59 114) 60 32) 61 32) 62 32) 63 32) 64 109) 65 111) 66 114) 67 101) 68 32) 69 32)) C 808 rfl (by decide) (by decide) (by decide) (by decide) rfl dX11_init_807 rfl ?_
  refine A_dup C 809 dX11_init_808 rfl rfl ?_
  refine A_bipush (v := 71) C 811 dX11_init_809 rfl rfl ?_
  refine A_bipush (v := 32) C 813 dX11_init_811 rfl rfl ?_
  refine A_iast (i' := 71) (k := 14) (f := (upd (upd (upd (upd (upd (upd (upd (upd (upd (upd (upd (upd (upd (upd (upd (upd (upd (upd (upd (upd (upd (upd (upd (upd (upd (upd (upd (upd (upd (upd (upd (upd (upd (upd (upd (upd (upd (upd (upd (upd (upd (upd (upd (upd (upd (upd (upd (upd (upd (upd (upd (upd (upd (upd (upd (upd (upd (upd (upd (upd (upd (upd (upd (upd (upd (upd (upd (upd (upd (upd (upd (fun _ => 0) 0 99) 1 117) 2 114) 3 105) 4 111) 5 117) 6 115) 7 32) 8 100) 9 114) 10 101) 11 97) 12 100) 13 115) 14 32) 15 32) 16 103) 17 111) 18 101) 19 115) 20 32) 21 32) 22 32) 23 32) 24 98) 25 97) 26 100) 27 32) 28 32) 29 32) 30 32) 31 32) 32 99) 33 111) 34 114) 35 110) 36 101) 37 114) 38 32) 39 32) 40 107) 41 110) 42 111) 43 119) 44 110) 45 32) 46 32) 47 32) 48 119) 49 97) 50 110) 51 116) 52 101) 53 100) 54 32) 55 32) 56 104) 57 111) 58 117) 59 114) 60 32) 61 32) 62 32) 63 32) 64 109) 65 111) 66 114) 67 101) 68 32) 69 32) 70 32)) C 814 rfl (by decide) (by decide) (by decide) (by decide) rfl dX11_init_813 rfl ?_
  refine A_dup C 815 dX11_init_814 rfl rfl ?_
  refine A_bipush (v := 72) C 817 dX11_init_815 rfl rfl ?_
  refine A_bipush (v := 111) C 819 dX11_init_817 rfl rfl ?_
  refine A_iast (i' := 72) (k := 14) (f := (upd (upd (upd (upd (upd (upd (upd (upd (upd (upd (upd (upd (upd (upd (upd (upd (upd (upd (upd (upd (upd (upd (upd (upd (upd (upd (upd (upd (upd (upd (upd (upd (upd (upd (upd (upd (upd (upd (upd (upd (upd (upd (upd (upd (upd (upd (upd (upd (upd (upd (upd (upd (upd (upd (upd (upd (upd (upd (upd (upd (upd (upd (upd (upd (upd (upd (upd (upd (upd (upd (upd (upd (fun _ => 0) 0 99) 1 117) 2 114) 3 105) 4 111) 5 117) 6 115) 7 32) 8 100) 9 114) 10 101) 11 97) 12 100) 13 115) 14 32) 15 32) 16 103) 17 111) 18 101) 19 115) 20 32) 21 32) 22 32) 23 32) 24 98) 25 97) 26 100) 27 32) 28 32) 29 32) 30 32) 31 32) 32 99) 33 111) 34 114) 35 110) 36 101) 37 114) 38 32) 39 32) 40 107) 41 110) 42 111) 43 119) 44 110) 45 32) 46 32) 47 32) 48 119) 49 97) 50 110) 51 116) 52 101) 53 100) 54 32) 55 32) 56 104) 57 111) 58 117) 59 114) 60 32) 61 32) 62 32) 63 32) 64 109) 65 111) 66 114) 67 101) 68 32) 69 32) 70 32) 71 32)) C 820 rfl (by decide) (by decide) (by decide) (by decide) rfl dX11_init_819 rfl ?_
  refine A_dup C 821 dX11_init_820 rfl rfl ?_
  refine A_bipush (v := 73) C 823 dX11_init_821 rfl rfl ?_
  refine A_bipush (v := 114) C 825 dX11_init_823 rfl rfl ?_
  refine A_iast (i' := 73) (k := 14) (f := (upd (upd (upd (upd (upd (upd (upd (upd (upd (upd (upd (upd (upd (upd (upd (upd (upd (upd (upd (upd (upd (upd (upd (upd (upd (upd (upd (upd (upd (upd (upd (upd (upd (upd (upd (upd (upd (upd (upd (upd (upd (upd (upd (upd (upd (upd (upd (upd (upd (upd (upd (upd (upd (upd (upd (upd (upd (upd (upd (upd (upd (upd (upd (upd (upd (upd (upd (upd (upd (upd (upd (upd (upd (fun _ => 0) 0 99) 1 117) 2 114) 3 105) 4 111) 5 117) 6 115) 7 32) 8 100) 9 114) 10 101) 11 97) 12 100) 13 115) 14 32) 15 32) 16 103) 17 111) 18 101) 19 115) 20 32) 21 32) 22 32) 23 32) 24 98) 25 97) 26 100) 27 32) 28 32) 29 32) 30 32) 31 32) 32 99) 33 111) 34 114) 35 110) 36 101) 37 114) 38 32) 39 32) 40 107) 41 110) 42 111) 43 119) 44 110) 45 32) 46 32) 47 32) 48 119) 49 97) 50 110) 51 116) 52 101) 53 100) 54 32) 55 32) 56 104) 57 111) 58 117) 59 114) 60 32) 61 32) 62 32) 63 32) 64 109) 65 111) 66 114) 67 101) 68 32) 69 32) 70 32) 71 32) 72 111)) C 826 rfl (by decide) (by decide) (by decide) (by decide) rfl dX11_init_825 rfl ?_
  refine A_dup C 827 dX11_init_826 rfl rfl ?_
  refine A_bipush (v := 74) C 829 dX11_init_827 rfl rfl ?_
  refine A_bipush (v := 32) C 831 dX11_init_829 rfl rfl ?_
  refine A_iast (i' := 74) (k := 14) (f := (upd (upd (upd (upd (upd (upd (upd (upd (upd (upd (upd (upd (upd (upd (upd (upd (upd (upd (upd (upd (upd (upd (upd (upd (upd (upd (upd (upd (upd (upd (upd (upd (upd (upd (upd (upd (upd (upd (upd (upd (upd (upd (upd (upd (upd (upd (upd (upd (upd (upd (upd (upd (upd (upd (upd (upd (upd (upd (upd (upd (upd (upd (upd (upd (upd (upd (upd (upd (upd (upd (upd (upd (upd (upd (fun _ => 0) 0 99) 1 117) 2 114) 3 105) 4 111) 5 117) 6 115) 7 32) 8 100) 9 114) 10 101) 11 97) 12 100) 13 115) 14 32) 15 32) 16 103) 17 111) 18 101) 19 115) 20 32) 21 32) 22 32) 23 32) 24 98) 25 97) 26 100) 27 32) 28 32) 29 32) 30 32) 31 32) 32 99) 33 111) 34 114) 35 110) 36 101) 37 114) 38 32) 39 32) 40 107) 41 110) 42 111) 43 119) 44 110) 45 32) 46 32) 47 32) 48 119) 49 97) 50 110) 51 116) 52 101) 53 100) 54 32) 55 32) 56 104) 57 111) 58 117) 59 114) 60 32) 61 32) 62 32) 63 32) 64 109) 65 111) 66 114) 67 101) 68 32) 69 32) 70 32) 71 32) 72 111) 73 114)) C 832 rfl (by decide) (by decide) (by decide) (by decide) rfl dX11_init_831 rfl ?_
  refine A_dup C 833 dX11_init_832 rfl rfl ?_
  refine A_bipush (v := 75) C 835 dX11_init_833 rfl rfl ?_
  refine A_bipush (v := 32) C 837 dX11_init_835 rfl rfl ?_
  refine A_iast (i' := 75) (k := 14) (f := (upd (upd (upd (upd (upd (upd (upd (upd (upd (upd (upd (upd (upd (upd (upd (upd (upd (upd (upd (upd (upd (upd (upd (upd (upd (upd (upd (upd (upd (upd (upd (upd (upd (upd (upd (upd (upd (upd (upd (upd (upd (upd (upd (upd (upd (upd (upd (upd (upd (upd (upd (upd (upd (upd (upd (upd (upd (upd (upd (upd (upd (upd (upd (upd (upd (upd (upd (upd (upd (upd (upd (upd (upd (upd (upd (fun _ => 0) 0 99) 1 117) 2 114) 3 105) 4 111) 5 117) 6 115) 7 32) 8 100) 9 114) 10 101) 11 97) 12 100) 13 115) 14 32) 15 32) 16 103) 17 111) 18 101) 19 115) 20 32) 21 32) 22 32) 23 32) 24 98) 25 97) 26 100) 27 32) 28 32) 29 32) 30 32) 31 32) 32 99) 33 111) 34 114) 35 110) 36 101) 37 114) 38 32) 39 32) 40 107) 41 110) 42 111) 43 119) 44 110) 45 32) 46 32) 47 32) 48 119) 49 97) 50 110) 51 116) 52 101) 53 100) 54 32) 55 32) 56 104) 57 111) 58 117) 59 114) 60 32) 61 32) 62 32) 63 32) 64 109) 65 111) 66 114) 67 101) 68 32) 69 32) 70 32) 71 32) 72 111) 73 114) 74 32)) C 838 rfl (by decide) (by decide) (by decide) (by decide) rfl dX11_init_837 rfl ?_
  refine A_dup C 839 dX11_init_838 rfl rfl ?_
  refine A_bipush (v := 76) C 841 dX11_init_839 rfl rfl ?_
  refine A_bipush (v := 32) C 843 dX11_init_841 rfl rfl ?_
  refine A_iast (i' := 76) (k := 14) (f := (upd (upd (upd (upd (upd (upd (upd (upd (upd (upd (upd (upd (upd (upd (upd (upd (upd (upd (upd (upd (upd (upd (upd (upd (upd (upd (upd (upd (upd (upd (upd (upd (upd (upd (upd (upd (upd (upd (upd (upd (upd (upd (upd (upd (upd (upd (upd (upd (upd (upd (upd (upd (upd (upd (upd (upd (upd (upd (upd (upd (upd (upd (upd (upd (upd (upd (upd (upd (upd (upd (upd (upd (upd (upd (upd (upd (fun _ => 0) 0 99) 1 117) 2 114) 3 105) 4 111) 5 117) 6 115) 7 32) 8 100) 9 114) 10 101) 11 97) 12 100) 13 115) 14 32) 15 32) 16 103) 17 111) 18 101) 19 115) 20 32) 21 32) 22 32) 23 32) 24 98) 25 97) 26 100) 27 32) 28 32) 29 32) 30 32) 31 32) 32 99) 33 111) 34 114) 35 110) 36 101) 37 114) 38 32) 39 32) 40 107) 41 110) 42 111) 43 119) 44 110) 45 32) 46 32) 47 32) 48 119) 49 97) 50 110) 51 116) 52 101) 53 100) 54 32) 55 32) 56 104) 57 111) 58 117) 59 114) 60 32) 61 32) 62 32) 63 32) 64 109) 65 111) 66 114) 67 101) 68 32) 69 32) 70 32) 71 32) 72 111) 73 114) 74 32) 75 32)) C 844 rfl (by decide) (by decide) (by decide) (by decide) rfl dX11_init_843 rfl ?_
  refine A_dup C 845 dX11_init_844 rfl rfl ?_
  refine A_bipush (v := 77) C 847 dX11_init_845 rfl rfl ?_
  refine A_bipush (v := 32) C 849 dX11_init_847 rfl rfl ?_
  refine A_iast (i' := 77) (k := 14) (f := (upd (upd (upd (upd (upd (upd (upd (upd (upd (upd (upd (upd (upd (upd (upd (upd (upd (upd (upd (upd (upd (upd (upd (upd (upd (upd (upd (upd (upd (upd (upd (upd (upd (upd (upd (upd (upd (upd (upd (upd (upd (upd (upd (upd (upd (upd (upd (upd (upd (upd (upd (upd (upd (upd (upd (upd (upd (upd (upd (upd (upd (upd (upd (upd (upd (upd (upd (upd (upd (upd (upd (upd (upd (upd (upd (upd (upd (fun _ => 0) 0 99) 1 117) 2 114) 3 105) 4 111) 5 117) 6 115) 7 32) 8 100) 9 114) 10 101) 11 97) 12 100) 13 115) 14 32) 15 32) 16 103) 17 111) 18 101) 19 115) 20 32) 21 32) 22 32) 23 32) 24 98) 25 97) 26 100) 27 32) 28 32) 29 32) 30 32) 31 32) 32 99) 33 111) 34 114) 35 110) 36 101) 37 114) 38 32) 39 32) 40 107) 41 110) 42 111) 43 119) 44 110) 45 32) 46 32) 47 32) 48 119) 49 97) 50 110) 51 116) 52 101) 53 100) 54 32) 55 32) 56 104) 57 111) 58 117) 59 114) 60 32) 61 32) 62 32) 63 32) 64 109) 65 111) 66 114) 67 101) 68 32) 69 32) 70 32) 71 32) 72 111) 73 114) 74 32) 75 32) 76 32)) C 850 rfl (by decide) (by decide) (by decide) (by decide) rfl dX11_init_849 rfl ?_
  refine A_dup C 851 dX11_init_850 rfl rfl ?_
  refine A_bipush (v := 78) C 853 dX11_init_851 rfl rfl ?_
  refine A_bipush (v := 32) C 855 dX11_init_853 rfl rfl ?_
  refine A_iast (i' := 78) (k := 14) (f := (upd (upd (upd (upd (upd (upd (upd (upd (upd (upd (upd (upd (upd (upd (upd (upd (upd (upd (upd (upd (upd (upd (upd (upd (upd (upd (upd (upd (upd (upd (upd (upd (upd (upd (upd (upd (upd (upd (upd (upd (upd (upd (upd (upd (upd (upd (upd (upd (upd (upd (upd (upd (upd (upd (upd (upd (upd (upd (upd (upd (upd (upd (upd (upd (upd (upd (upd (upd (upd (upd (upd (upd (upd (upd (upd (upd (upd (upd (fun _ => 0) 0 99) 1 117) 2 114) 3 105) 4 111) 5 117) 6 115) 7 32) 8 100) 9 114) 10 101) 11 97) 12 100) 13 115) 14 32) 15 32) 16 103) 17 111) 18 101) 19 115) 20 32) 21 32) 22 32) 23 32) 24 98) 25 97) 26 100) 27 32) 28 32) 29 32) 30 32) 31 32) 32 99) 33 111) 34 114) 35 110) 36 101) 37 114) 38 32) 39 32) 40 107) 41 110) 42 111) 43 119) 44 110) 45 32) 46 32) 47 32) 48 119) 49 97) 50 110) 51 116) 52 101) 53 100) 54 32) 55 32) 56 104) 57 111) 58 117) 59 114) 60 32) 61 32) 62 32) 63 32) 64 109) 65 111) 66 114) 67 101) 68 32) 69 32) 70 32) 71 32) 72 111) 73 114) 74 32) 75 32) 76 32) 77 32)) C 856 rfl (by decide) (by decide) (by decide) (by decide) rfl dX11_init_855 rfl ?_
  refine A_dup C 857 dX11_init_856 rfl rfl ?_
  refine A_bipush (v := 79) C 859 dX11_init_857 rfl rfl ?_
  refine A_bipush (v := 32) C 861 dX11_init_859 rfl rfl ?_
  refine A_iast (i' := 79) (k := 14) (f := (upd (upd (upd (upd (upd (upd (upd (upd (upd (upd (upd (upd (upd (upd (upd (upd (upd (upd (upd (upd (upd (upd (upd (upd (upd (upd (upd (upd (upd (upd (upd (upd (upd (upd (upd (upd (upd (upd (upd (upd (upd (upd (upd (upd (upd (upd (upd (upd (upd (upd (upd (upd (upd (upd (upd (upd (upd (upd (upd (upd (upd (upd (upd (upd (upd (upd (upd (upd (upd (upd (upd (upd (upd (upd (upd (upd (upd (upd (upd (fun _ => 0) 0 99) 1 117) 2 114) 3 105) 4 111) 5 117) 6 115) 7 32) 8 100) 9 114) 10 101) 11 97) 12 100) 13 115) 14 32) 15 32) 16 103) 17 111) 18 101) 19 115) 20 32) 21 32) 22 32) 23 32) 24 98) 25 97) 26 100) 27 32) 28 32) 29 32) 30 32) 31 32) 32 99) 33 111) 34 114) 35 110) 36 101) 37 114) 38 32) 39 32) 40 107) 41 110) 42 111) 43 119) 44 110) 45 32) 46 32) 47 32) 48 119) 49 97) 50 110) 51 116) 52 101) 53 100) 54 32) 55 32) 56 104) 57 111) 58 117) 59 114) 60 32) 61 32) 62 32) 63 32) 64 109) 65 111) 66 114) 67 101) 68 32) 69 32) 70 32) 71 32) 72 111) 73 114) 74 32) 75 32) 76 32) 77 32) 78 32)) C 862 rfl (by decide) (by decide) (by decide) (by decide) rfl dX11_init_861 rfl ?_
  refine A_dup C 863 dX11_init_862 rfl rfl ?_
  refine A_bipush (v := 80) C 865 dX11_init_863 rfl rfl ?_
  refine A_bipush (v := 97) C 867 dX11_init_865 rfl rfl ?_
  refine A_iast (i' := 80) (k := 14) (f := (upd (upd (upd (upd (upd (upd (upd (upd (upd (upd (upd (upd (upd (upd (upd (upd (upd (upd (upd (upd (upd (upd (upd (upd (upd (upd (upd (upd (upd (upd (upd (upd (upd (upd (upd (upd (upd (upd (upd (upd (upd (upd (upd (upd (upd (upd (upd (upd (upd (upd (upd (upd (upd (upd (upd (upd (upd (upd (upd (upd (upd (upd (upd (upd (upd (upd (upd (upd (upd (upd (upd (upd (upd (upd (upd (upd (upd (upd (upd (upd (fun _ => 0) 0 99) 1 117) 2 114) 3 105) 4 111) 5 117) 6 115) 7 32) 8 100) 9 114) 10 101) 11 97) 12 100) 13 115) 14 32) 15 32) 16 103) 17 111) 18 101) 19 115) 20 32) 21 32) 22 32) 23 32) 24 98) 25 97) 26 100) 27 32) 28 32) 29 32) 30 32) 31 32) 32 99) 33 111) 34 114) 35 110) 36 101) 37 114) 38 32) 39 32) 40 107) 41 110) 42 111) 43 119) 44 110) 45 32) 46 32) 47 32) 48 119) 49 97) 50 110) 51 116) 52 101) 53 100) 54 32) 55 32) 56 104) 57 111) 58 117) 59 114) 60 32) 61 32) 62 32) 63 32) 64 109) 65 111) 66 114) 67 101) 68 32) 69 32) 70 32) 71 32) 72 111) 73 114) 74 32) 75 32) 76 32) 77 32) 78 32) 79 32)) C 868 rfl (by decide) (by decide) (by decide) (by decide) rfl dX11_init_867 rfl ?_
  refine A_dup C 869 dX11_init_868 rfl rfl ?_
  refine A_bipush (v := 81) C 871 dX11_init_869 rfl rfl ?_
  refine A_bipush (v := 110) C 873 dX11_init_871 rfl rfl ?_
  refine A_iast (i' := 81) (k := 14) (f := (upd (upd (upd (upd (upd (upd (upd (upd (upd (upd (upd (upd (upd (upd (upd (upd (upd (upd (upd (upd (upd (upd (upd (upd (upd (upd (upd (upd (upd (upd (upd (upd (upd (upd (upd (upd (upd (upd (upd (upd (upd (upd (upd (upd (upd (upd (upd (upd (upd (upd (upd (upd (upd (upd (upd (upd (upd (upd (upd (upd (upd (upd (upd (upd (upd (upd (upd (upd (upd (upd (upd (upd (upd (upd (upd (upd (upd (upd (upd (upd (upd (fun _ => 0) 0 99) 1 117) 2 114) 3 105) 4 111) 5 117) 6 115) 7 32) 8 100) 9 114) 10 101) 11 97) 12 100) 13 115) 14 32) 15 32) 16 103) 17 111) 18 101) 19 115) 20 32) 21 32) 22 32) 23 32) 24 98) 25 97) 26 100) 27 32) 28 32) 29 32) 30 32) 31 32) 32 99) 33 111) 34 114) 35 110) 36 101) 37 114) 38 32) 39 32) 40 107) 41 110) 42 111) 43 119) 44 110) 45 32) 46 32) 47 32) 48 119) 49 97) 50 110) 51 116) 52 101) 53 100) 54 32) 55 32) 56 104) 57 111) 58 117) 59 114) 60 32) 61 32) 62 32) 63 32) 64 109) 65 111) 66 114) 67 101) 68 32) 69 32) 70 32) 71 32) 72 111) 73 114) 74 32) 75 32) 76 32) 77 32) 78 32) 79 32) 80 97)) C 874 rfl (by decide) (by decide) (by decide) (by decide) rfl dX11_init_873 rfl ?_
  refine A_dup C 875 dX11_init_874 rfl rfl ?_
  refine A_bipush (v := 82) C 877 dX11_init_875 rfl rfl ?_
  refine A_bipush (v := 100) C 879 dX11_init_877 rfl rfl ?_
  refine A_iast (i' := 82) (k := 14) (f := (upd (upd (upd (upd (upd (upd (upd (upd (upd (upd (upd (upd (upd (upd (upd (upd (upd (upd (upd (upd (upd (upd (upd (upd (upd (upd (upd (upd (upd (upd (upd (upd (upd (upd (upd (upd (upd (upd (upd (upd (upd (upd (upd (upd (upd (upd (upd (upd (upd (upd (upd (upd (upd (upd (upd (upd (upd (upd (upd (upd (upd (upd (upd (upd (upd (upd (upd (upd (upd (upd (upd (upd (upd (upd (upd (upd (upd (upd (upd (upd (upd (upd (fun _ => 0) 0 99) 1 117) 2 114) 3 105) 4 111) 5 117) 6 115) 7 32) 8 100) 9 114) 10 101) 11 97) 12 100) 13 115) 14 32) 15 32) 16 103) 17 111) 18 101) 19 115) 20 32) 21 32) 22 32) 23 32) 24 98) 25 97) 26 100) 27 32) 28 32) 29 32) 30 32) 31 32) 32 99) 33 111) 34 114) 35 110) 36 101) 37 114) 38 32) 39 32) 40 107) 41 110) 42 111) 43 119) 44 110) 45 32) 46 32) 47 32) 48 119) 49 97) 50 110) 51 116) 52 101) 53 100) 54 32) 55 32) 56 104) 57 111) 58 117) 59 114) 60 32) 61 32) 62 32) 63 32) 64 109) 65 111) 66 114) 67 101) 68 32) 69 32) 70 32) 71 32) 72 111) 73 114) 74 32) 75 32) 76 32) 77 32) 78 32) 79 32) 80 97) 81 110)) C 880 rfl (by decide) (by decide) (by decide) (by decide) rfl dX11_init_879 rfl ?_
  refine A_dup C 881 dX11_init_880 rfl rfl ?_
  refine A_bipush (v := 83) C 883 dX11_init_881 rfl rfl ?_
  refine A_bipush (v := 32) C 885 dX11_init_883 rfl rfl ?_
  refine A_iast (i' := 83) (k := 14) (f := (upd (upd (upd (upd (upd (upd (upd (upd (upd (upd (upd (upd (upd (upd (upd (upd (upd (upd (upd (upd (upd (upd (upd (upd (upd (upd (upd (upd (upd (upd (upd (upd (upd (upd (upd (upd (upd (upd (upd (upd (upd (upd (upd (upd (upd (upd (upd (upd (upd (upd (upd (upd (upd (upd (upd (upd (upd (upd (upd (upd (upd (upd (upd (upd (upd (upd (upd (upd (upd (upd (upd (upd (upd (upd (upd (upd (upd (upd (upd (upd (upd (upd (upd (fun _ => 0) 0 99) 1 117) 2 114) 3 105) 4 111) 5 117) 6 115) 7 32) 8 100) 9 114) 10 101) 11 97) 12 100) 13 115) 14 32) 15 32) 16 103) 17 111) 18 101) 19 115) 20 32) 21 32) 22 32) 23 32) 24 98) 25 97) 26 100) 27 32) 28 32) 29 32) 30 32) 31 32) 32 99) 33 111) 34 114) 35 110) 36 101) 37 114) 38 32) 39 32) 40 107) 41 110) 42 111) 43 119) 44 110) 45 32) 46 32) 47 32) 48 119) 49 97) 50 110) 51 116) 52 101) 53 100) 54 32) 55 32) 56 104) 57 111) 58 117) 59 114) 60 32) 61 32) 62 32) 63 32) 64 109) 65 111) 66 114) 67 101) 68 32) 69 32) 70 32) 71 32) 72 111) 73 114) 74 32) 75 32) 76 32) 77 32) 78 32) 79 32) 80 97) 81 110) 82 100)) C 886 rfl (by decide) (by decide) (by decide) (by decide) rfl dX11_init_885 rfl ?_
  refine A_dup C 887 dX11_init_886 rfl rfl ?_
  refine A_bipush (v := 84) C 889 dX11_init_887 rfl rfl ?_
  refine A_bipush (v := 32) C 891 dX11_init_889 rfl rfl ?_
  refine A_iast (i' := 84) (k := 14) (f := (upd (upd (upd (upd (upd (upd (upd (upd (upd (upd (upd (upd (upd (upd (upd (upd (upd (upd (upd (upd (upd (upd (upd (upd (upd (upd (upd (upd (upd (upd (upd (upd (upd (upd (upd (upd (upd (upd (upd (upd (upd (upd (upd (upd (upd (upd (upd (upd (upd (upd (upd (upd (upd (upd (upd (upd (upd (upd (upd (upd (upd (upd (upd (upd (upd (upd (upd (upd (upd (upd (upd (upd (upd (upd (upd (upd (upd (upd (upd (upd (upd (upd (upd (upd (fun _ => 0) 0 99) 1 117) 2 114) 3 105) 4 111) 5 117) 6 115) 7 32) 8 100) 9 114) 10 101) 11 97) 12 100) 13 115) 14 32) 15 32) 16 103) 17 111) 18 101) 19 115) 20 32) 21 32) 22 32) 23 32) 24 98) 25 97) 26 100) 27 32) 28 32) 29 32) 30 32) 31 32) 32 99) 33 111) 34 114) 35 110) 36 101) 37 114) 38 32) 39 32) 40 107) 41 110) 42 111) 43 119) 44 110) 45 32) 46 32) 47 32) 48 119) 49 97) 50 110) 51 116) 52 101) 53 100) 54 32) 55 32) 56 104) 57 111) 58 117) 59 114) 60 32) 61 32) 62 32) 63 32) 64 109) 65 111) 66 114) 67 101) 68 32) 69 32) 70 32) 71 32) 72 111) 73 114) 74 32) 75 32) 76 32) 77 32) 78 32) 79 32) 80 97) 81 110) 82 100) 83 32)) C 892 rfl (by decide) (by decide) (by decide) (by decide) rfl dX11_init_891 rfl ?_
  refine A_dup C 893 dX11_init_892 rfl rfl ?_
  refine A_bipush (v := 85) C 895 dX11_init_893 rfl rfl ?_
  refine A_bipush (v := 32) C 897 dX11_init_895 rfl rfl ?_
  refine A_iast (i' := 85) (k := 14) (f := (upd (upd (upd (upd (upd (upd (upd (upd (upd (upd (upd (upd (upd (upd (upd (upd (upd (upd (upd (upd (upd (upd (upd (upd (upd (upd (upd (upd (upd (upd (upd (upd (upd (upd (upd (upd (upd (upd (upd (upd (upd (upd (upd (upd (upd (upd (upd (upd (upd (upd (upd (upd (upd (upd (upd (upd (upd (upd (upd (upd (upd (upd (upd (upd (upd (upd (upd (upd (upd (upd (upd (upd (upd (upd (upd (upd (upd (upd (upd (upd (upd (upd (upd (upd (upd (fun _ => 0) 0 99) 1 117) 2 114) 3 105) 4 111) 5 117) 6 115) 7 32) 8 100) 9 114) 10 101) 11 97) 12 100) 13 115) 14 32) 15 32) 16 103) 17 111) 18 101) 19 115) 20 32) 21 32) 22 32) 23 32) 24 98) 25 97) 26 100) 27 32) 28 32) 29 32) 30 32) 31 32) 32 99) 33 111) 34 114) 35 110) 36 101) 37 114) 38 32) 39 32) 40 107) 41 110) 42 111) 43 119) 44 110) 45 32) 46 32) 47 32) 48 119) 49 97) 50 110) 51 116) 52 101) 53 100) 54 32) 55 32) 56 104) 57 111) 58 117) 59 114) 60 32) 61 32) 62 32) 63 32) 64 109) 65 111) 66 114) 67 101) 68 32) 69 32) 70 32) 71 32) 72 111) 73 114) 74 32) 75 32) 76 32) 77 32) 78 32) 79 32) 80 97) 81 110) 82 100) 83 32) 84 32)) C 898 rfl (by decide) (by decide) (by decide) (by decide) rfl dX11_init_897 rfl ?_
  refine A_dup C 899 dX11_init_898 rfl rfl ?_
  refine A_bipush (v := 86) C 901 dX11_init_899 rfl rfl ?_
  refine A_bipush (v := 32) C 903 dX11_init_901 rfl rfl ?_
  refine A_iast (i' := 86) (k := 14) (f := (upd (upd (upd (upd (upd (upd (upd (upd (upd (upd (upd (upd (upd (upd (upd (upd (upd (upd (upd (upd (upd (upd (upd (upd (upd (upd (upd (upd (upd (upd (upd (upd (upd (upd (upd (upd (upd (upd (upd (upd (upd (upd (upd (upd (upd (upd (upd (upd (upd (upd (upd (upd (upd (upd (upd (upd (upd (upd (upd (upd (upd (upd (upd (upd (upd (upd (upd (upd (upd (upd (upd (upd (upd (upd (upd (upd (upd (upd (upd (upd (upd (upd (upd (upd (upd (upd (fun _ => 0) 0 99) 1 117) 2 114) 3 105) 4 111) 5 117) 6 115) 7 32) 8 100) 9 114) 10 101) 11 97) 12 100) 13 115) 14 32) 15 32) 16 103) 17 111) 18 101) 19 115) 20 32) 21 32) 22 32) 23 32) 24 98) 25 97) 26 100) 27 32) 28 32) 29 32) 30 32) 31 32) 32 99) 33 111) 34 114) 35 110) 36 101) 37 114) 38 32) 39 32) 40 107) 41 110) 42 111) 43 119) 44 110) 45 32) 46 32) 47 32) 48 119) 49 97) 50 110) 51 116) 52 101) 53 100) 54 32) 55 32) 56 104) 57 111) 58 117) 59 114) 60 32) 61 32) 62 32) 63 32) 64 109) 65 111) 66 114) 67 101) 68 32) 69 32) 70 32) 71 32) 72 111) 73 114) 74 32) 75 32) 76 32) 77 32) 78 32) 79 32) 80 97) 81 110) 82 100) 83 32) 84 32) 85 32)) C 904 rfl (by decide) (by decide) (by decide) (by decide) rfl dX11_init_903 rfl ?_
  refine A_dup C 905 dX11_init_904 rfl rfl ?_
  refine A_bipush (v := 87) C 907 dX11_init_905 rfl rfl ?_
  refine A_bipush (v := 32) C 909 dX11_init_907 rfl rfl ?_
  refine A_iast (i' := 87) (k := 14) (f := (upd (upd (upd (upd (upd (upd (upd (upd (upd (upd (upd (upd (upd (upd (upd (upd (upd (upd (upd (upd (upd (upd (upd (upd (upd (upd (upd (upd (upd (upd (upd (upd (upd (upd (upd (upd (upd (upd (upd (upd (upd (upd (upd (upd (upd (upd (upd (upd (upd (upd (upd (upd (upd (upd (upd (upd (upd (upd (upd (upd (upd (upd (upd (upd (upd (upd (upd (upd (upd (upd (upd (upd (upd (upd (upd (upd (upd (upd (upd (upd (upd (upd (upd (upd (upd (upd (upd (fun _ => 0) 0 99) 1 117) 2 114) 3 105) 4 111) 5 117) 6 115) 7 32) 8 100) 9 114) 10 101) 11 97) 12 100) 13 115) 14 32) 15 32) 16 103) 17 111) 18 101) 19 115) 20 32) 21 32) 22 32) 23 32) 24 98) 25 97) 26 100) 27 32) 28 32) 29 32) 30 32) 31 32) 32 99) 33 111) 34 114) 35 110) 36 101) 37 114) 38 32) 39 32) 40 107) 41 110) 42 111) 43 119) 44 110) 45 32) 46 32) 47 32) 48 119) 49 97) 50 110) 51 116) 52 101) 53 100) 54 32) 55 32) 56 104) 57 111) 58 117) 59 114) 60 32) 61 32) 62 32) 63 32) 64 109) 65 111) 66 114) 67 101) 68 32) 69 32) 70 32) 71 32) 72 111) 73 114) 74 32) 75 32) 76 32) 77 32) 78 32) 79 32) 80 97) 81 110) 82 100) 83 32) 84 32) 85 32) 86 32)) C 910 rfl (by decide) (by decide) (by decide) (by decide) rfl dX11_init_909 rfl ?_
  refine A_dup C 911 dX11_init_910 rfl rfl ?_
  refine A_bipush (v := 88) C 913 dX11_init_911 rfl rfl ?_
  refine A_bipush (v := 110) C 915 dX11_init_913 rfl rfl ?_
  refine A_iast (i' := 88) (k := 14) (f := (upd (upd (upd (upd (upd (upd (upd (upd (upd (upd (upd (upd (upd (upd (upd (upd (upd (upd (upd (upd (upd (upd (upd (upd (upd (upd (upd (upd (upd (upd (upd (upd (upd (upd (upd (upd (upd (upd (upd (upd (upd (upd (upd (upd (upd (upd (upd (upd (upd (upd (upd (upd (upd (upd (upd (upd (upd (upd (upd (upd (upd (upd (upd (upd (upd (upd (upd (upd (upd (upd (upd (upd (upd (upd (upd (upd (upd (upd (upd (upd (upd (upd (upd (upd (upd (upd (upd (upd (fun _ => 0) 0 99) 1 117) 2 114) 3 105) 4 111) 5 117) 6 115) 7 32) 8 100) 9 114) 10 101) 11 97) 12 100) 13 115) 14 32) 15 32) 16 103) 17 111) 18 101) 19 115) 20 32) 21 32) 22 32) 23 32) 24 98) 25 97) 26 100) 27 32) 28 32) 29 32) 30 32) 31 32) 32 99) 33 111) 34 114) 35 110) 36 101) 37 114) 38 32) 39 32) 40 107) 41 110) 42 111) 43 119) 44 110) 45 32) 46 32) 47 32) 48 119) 49 97) 50 110) 51 116) 52 101) 53 100) 54 32) 55 32) 56 104) 57 111) 58 117) 59 114) 60 32) 61 32) 62 32) 63 32) 64 109) 65 111) 66 114) 67 101) 68 32) 69 32) 70 32) 71 32) 72 111) 73 114) 74 32) 75 32) 76 32) 77 32) 78 32) 79 32) 80 97) 81 110) 82 100) 83 32) 84 32) 85 32) 86 32) 87 32)) C 916 rfl (by decide) (by decide) (by decide) (by decide) rfl dX11_init_915 rfl ?_
  refine A_dup C 917 dX11_init_916 rfl rfl ?_
  refine A_bipush (v := 89) C 919 dX11_init_917 rfl rfl ?_
  refine A_bipush (v := 111) C 921 dX11_init_919 rfl rfl ?_
  refine A_iast (i' := 89) (k := 14) (f := (upd (upd (upd (upd (upd (upd (upd (upd (upd (upd (upd (upd (upd (upd (upd (upd (upd (upd (upd (upd (upd (upd (upd (upd (upd (upd (upd (upd (upd (upd (upd (upd (upd (upd (upd (upd (upd (upd (upd (upd (upd (upd (upd (upd (upd (upd (upd (upd (upd (upd (upd (upd (upd (upd (upd (upd (upd (upd (upd (upd (upd (upd (upd (upd (upd (upd (upd (upd (upd (upd (upd (upd (upd (upd (upd (upd (upd (upd (upd (upd (upd (upd (upd (upd (upd (upd (upd (upd (upd (fun _ => 0) 0 99) 1 117) 2 114) 3 105) 4 111) 5 117) 6 115) 7 32) 8 100) 9 114) 10 101) 11 97) 12 100) 13 115) 14 32) 15 32) 16 103) 17 111) 18 101) 19 115) 20 32) 21 32) 22 32) 23 32) 24 98) 25 97) 26 100) 27 32) 28 32) 29 32) 30 32) 31 32) 32 99) 33 111) 34 114) 35 110) 36 101) 37 114) 38 32) 39 32) 40 107) 41 110) 42 111) 43 119) 44 110) 45 32) 46 32) 47 32) 48 119) 49 97) 50 110) 51 116) 52 101) 53 100) 54 32) 55 32) 56 104) 57 111) 58 117) 59 114) 60 32) 61 32) 62 32) 63 32) 64 109) 65 111) 66 114) 67 101) 68 32) 69 32) 70 32) 71 32) 72 111) 73 114) 74 32) 75 32) 76 32) 77 32) 78 32) 79 32) 80 97) 81 110) 82 100) 83 32) 84 32) 85 32) 86 32) 87 32) 88 110)) C 922 rfl (by decide) (by decide) (by decide) (by decide) rfl dX11_init_921 rfl ?_
  refine A_dup C 923 dX11_init_922 rfl rfl ?_
  refine A_bipush (v := 90) C 925 dX11_init_923 rfl rfl ?_
  refine A_bipush (v := 116) C 927 dX11_init_925 rfl rfl ?_
  refine A_iast (i' := 90) (k := 14) (f := (upd (upd (upd (upd (upd (upd (upd (upd (upd (upd (upd (upd (upd (upd (upd (upd (upd (upd (upd (upd (upd (upd (upd (upd (upd (upd (upd (upd (upd (upd (upd (upd (upd (upd (upd (upd (upd (upd (upd (upd (upd (upd (upd (upd (upd (upd (upd (upd (upd (upd (upd (upd (upd (upd (upd (upd (upd (upd (upd (upd (upd (upd (upd (upd (upd (upd (upd (upd (upd (upd (upd (upd (upd (upd (upd (upd (upd (upd (upd (upd (upd (upd (upd (upd (upd (upd (upd (upd (upd (upd (fun _ => 0) 0 99) 1 117) 2 114) 3 105) 4 111) 5 117) 6 115) 7 32) 8 100) 9 114) 10 101) 11 97) 12 100) 13 115) 14 32) 15 32) 16 103) 17 111) 18 101) 19 115) 20 32) 21 32) 22 32) 23 32) 24 98) 25 97) 26 100) 27 32) 28 32) 29 32) 30 32) 31 32) 32 99) 33 111) 34 114) 35 110) 36 101) 37 114) 38 32) 39 32) 40 107) 41 110) 42 111) 43 119) 44 110) 45 32) 46 32) 47 32) 48 119) 49 97) 50 110) 51 116) 52 101) 53 100) 54 32) 55 32) 56 104) 57 111) 58 117) 59 114) 60 32) 61 32) 62 32) 63 32) 64 109) 65 111) 66 114) 67 101) 68 32) 69 32) 70 32) 71 32) 72 111) 73 114) 74 32) 75 32) 76 32) 77 32) 78 32) 79 32) 80 97) 81 110) 82 100) 83 32) 84 32) 85 32) 86 32) 87 32) 88 110) 89 111)) C 928 rfl (by decide) (by decide) (by decide) (by decide) rfl dX11_init_927 rfl ?_
  refine A_dup C 929 dX11_init_928 rfl rfl ?_
  refine A_bipush (v := 91) C 931 dX11_init_929 rfl rfl ?_
  refine A_bipush (v := 32) C 933 dX11_init_931 rfl rfl ?_
  refine A_iast (i' := 91) (k := 14) (f := (upd (upd (upd (upd (upd (upd (upd (upd (upd (upd (upd (upd (upd (upd (upd (upd (upd (upd (upd (upd (upd (upd (upd (upd (upd (upd (upd (upd (upd (upd (upd (upd (upd (upd (upd (upd (upd (upd (upd (upd (upd (upd (upd (upd (upd (upd (upd (upd (upd (upd (upd (upd (upd (upd (upd (upd (upd (upd (upd (upd (upd (upd (upd (upd (upd (upd (upd (upd (upd (upd (upd (upd (upd (upd (upd (upd (upd (upd (upd (upd (upd (upd (upd (upd (upd (upd (upd (upd (upd (upd (upd (fun _ => 0) 0 99) 1 117) 2 114) 3 105) 4 111) 5 117) 6 115) 7 32) 8 100) 9 114) 10 101) 11 97) 12 100) 13 115) 14 32) 15 32) 16 103) 17 111) 18 101) 19 115) 20 32) 21 32) 22 32) 23 32) 24 98) 25 97) 26 100) 27 32) 28 32) 29 32) 30 32) 31 32) 32 99) 33 111) 34 114) 35 110) 36 101) 37 114) 38 32) 39 32) 40 107) 41 110) 42 111) 43 119) 44 110) 45 32) 46 32) 47 32) 48 119) 49 97) 50 110) 51 116) 52 101) 53 100) 54 32) 55 32) 56 104) 57 111) 58 117) 59 114) 60 32) 61 32) 62 32) 63 32) 64 109) 65 111) 66 114) 67 101) 68 32) 69 32) 70 32) 71 32) 72 111) 73 114) 74 32) 75 32) 76 32) 77 32) 78 32) 79 32) 80 97) 81 110) 82 100) 83 32) 84 32) 85 32) 86 32) 87 32) 88 110) 89 111) 90 116)) C 934 rfl (by decide) (by decide) (by decide) (by decide) rfl dX11_init_933 rfl ?_
  refine A_dup C 935 dX11_init_934 rfl rfl ?_
  refine A_bipush (v := 92) C 937 dX11_init_935 rfl rfl ?_
  refine A_bipush (v := 32) C 939 dX11_init_937 rfl rfl ?_
  refine A_iast (i' := 92) (k := 14) (f := (upd (upd (upd (upd (upd (upd (upd (upd (upd (upd (upd (upd (upd (upd (upd (upd (upd (upd (upd (upd (upd (upd (upd (upd (upd (upd (upd (upd (upd (upd (upd (upd (upd (upd (upd (upd (upd (upd (upd (upd (upd (upd (upd (upd (upd (upd (upd (upd (upd (upd (upd (upd (upd (upd (upd (upd (upd (upd (upd (upd (upd (upd (upd (upd (upd (upd (upd (upd (upd (upd (upd (upd (upd (upd (upd (upd (upd (upd (upd (upd (upd (upd (upd (upd (upd (upd (upd (upd (upd (upd (upd (upd (fun _ => 0) 0 99) 1 117) 2 114) 3 105) 4 111) 5 117) 6 115) 7 32) 8 100) 9 114) 10 101) 11 97) 12 100) 13 115) 14 32) 15 32) 16 103) 17 111) 18 101) 19 115) 20 32) 21 32) 22 32) 23 32) 24 98) 25 97) 26 100) 27 32) 28 32) 29 32) 30 32) 31 32) 32 99) 33 111) 34 114) 35 110) 36 101) 37 114) 38 32) 39 32) 40 107) 41 110) 42 111) 43 119) 44 110) 45 32) 46 32) 47 32) 48 119) 49 97) 50 110) 51 116) 52 101) 53 100) 54 32) 55 32) 56 104) 57 111) 58 117) 59 114) 60 32) 61 32) 62 32) 63 32) 64 109) 65 111) 66 114) 67 101) 68 32) 69 32) 70 32) 71 32) 72 111) 73 114) 74 32) 75 32) 76 32) 77 32) 78 32) 79 32) 80 97) 81 110) 82 100) 83 32) 84 32) 85 32) 86 32) 87 32) 88 110) 89 111) 90 116) 91 32)) C 940 rfl (by decide) (by decide) (by decide) (by decide) rfl dX11_init_939 rfl ?_
  refine A_dup C 941 dX11_init_940 rfl rfl ?_
  refine A_bipush (v := 93) C 943 dX11_init_941 rfl rfl ?_
  refine A_bipush (v := 32) C 945 dX11_init_943 rfl rfl ?_
  refine A_iast (i' := 93) (k := 14) (f := (upd (upd (upd (upd (upd (upd (upd (upd (upd (upd (upd (upd (upd (upd (upd (upd (upd (upd (upd (upd (upd (upd (upd (upd (upd (upd (upd (upd (upd (upd (upd (upd (upd (upd (upd (upd (upd (upd (upd (upd (upd (upd (upd (upd (upd (upd (upd (upd (upd (upd (upd (upd (upd (upd (upd (upd (upd (upd (upd (upd (upd (upd (upd (upd (upd (upd (upd (upd (upd (upd (upd (upd (upd (upd (upd (upd (upd (upd (upd (upd (upd (upd (upd (upd (upd (upd (upd (upd (upd (upd (upd (upd (upd (fun _ => 0) 0 99) 1 117) 2 114) 3 105) 4 111) 5 117) 6 115) 7 32) 8 100) 9 114) 10 101) 11 97) 12 100) 13 115) 14 32) 15 32) 16 103) 17 111) 18 101) 19 115) 20 32) 21 32) 22 32) 23 32) 24 98) 25 97) 26 100) 27 32) 28 32) 29 32) 30 32) 31 32) 32 99) 33 111) 34 114) 35 110) 36 101) 37 114) 38 32) 39 32) 40 107) 41 110) 42 111) 43 119) 44 110) 45 32) 46 32) 47 32) 48 119) 49 97) 50 110) 51 116) 52 101) 53 100) 54 32) 55 32) 56 104) 57 111) 58 117) 59 114) 60 32) 61 32) 62 32) 63 32) 64 109) 65 111) 66 114) 67 101) 68 32) 69 32) 70 32) 71 32) 72 111) 73 114) 74 32) 75 32) 76 32) 77 32) 78 32) 79 32) 80 97) 81 110) 82 100) 83 32) 84 32) 85 32) 86 32) 87 32) 88 110) 89 111) 90 116) 91 32) 92 32)) C 946 rfl (by decide) (by decide) (by decide) (by decide) rfl dX11_init_945 rfl ?_
  refine A_dup C 947 dX11_init_946 rfl rfl ?_
  refine A_bipush (v := 94) C 949 dX11_init_947 rfl rfl ?_
  refine A_bipush (v := 32) C 951 dX11_init_949 rfl rfl ?_
  refine A_iast (i' := 94) (k := 14) (f := (upd (upd (upd (upd (upd (upd (upd (upd (upd (upd (upd (upd (upd (upd (upd (upd (upd (upd (upd (upd (upd (upd (upd (upd (upd (upd (upd (upd (upd (upd (upd (upd (upd (upd (upd (upd (upd (upd (upd (upd (upd (upd (upd (upd (upd (upd (upd (upd (upd (upd (upd (upd (upd (upd (upd (upd (upd (upd (upd (upd (upd (upd (upd (upd (upd (upd (upd (upd (upd (upd (upd (upd (upd (upd (upd (upd (upd (upd (upd (upd (upd (upd (upd (upd (upd (upd (upd (upd (upd (upd (upd (upd (upd (upd (fun _ => 0) 0 99) 1 117) 2 114) 3 105) 4 111) 5 117) 6 115) 7 32) 8 100) 9 114) 10 101) 11 97) 12 100) 13 115) 14 32) 15 32) 16 103) 17 111) 18 101) 19 115) 20 32) 21 32) 22 32) 23 32) 24 98) 25 97) 26 100) 27 32) 28 32) 29 32) 30 32) 31 32) 32 99) 33 111) 34 114) 35 110) 36 101) 37 114) 38 32) 39 32) 40 107) 41 110) 42 111) 43 119) 44 110) 45 32) 46 32) 47 32) 48 119) 49 97) 50 110) 51 116) 52 101) 53 100) 54 32) 55 32) 56 104) 57 111) 58 117) 59 114) 60 32) 61 32) 62 32) 63 32) 64 109) 65 111) 66 114) 67 101) 68 32) 69 32) 70 32) 71 32) 72 111) 73 114) 74 32) 75 32) 76 32) 77 32) 78 32) 79 32) 80 97) 81 110) 82 100) 83 32) 84 32) 85 32) 86 32) 87 32) 88 110) 89 111) 90 116) 91 32) 92 32) 93 32)) C 952 rfl (by decide) (by decide) (by decide) (by decide) rfl dX11_init_951 rfl ?_
  refine A_dup C 953 dX11_init_952 rfl rfl ?_
  refine A_bipush (v := 95) C 955 dX11_init_953 rfl rfl ?_
  refine A_bipush (v := 32) C 957 dX11_init_955 rfl rfl ?_
  refine A_iast (i' := 95) (k := 14) (f := (upd (upd (upd (upd (upd (upd (upd (upd (upd (upd (upd (upd (upd (upd (upd (upd (upd (upd (upd (upd (upd (upd (upd (upd (upd (upd (upd (upd (upd (upd (upd (upd (upd (upd (upd (upd (upd (upd (upd (upd (upd (upd (upd (upd (upd (upd (upd (upd (upd (upd (upd (upd (upd (upd (upd (upd (upd (upd (upd (upd (upd (upd (upd (upd (upd (upd (upd (upd (upd (upd (upd (upd (upd (upd (upd (upd (upd (upd (upd (upd (upd (upd (upd (upd (upd (upd (upd (upd (upd (upd (upd (upd (upd (upd (upd (fun _ => 0) 0 99) 1 117) 2 114) 3 105) 4 111) 5 117) 6 115) 7 32) 8 100) 9 114) 10 101) 11 97) 12 100) 13 115) 14 32) 15 32) 16 103) 17 111) 18 101) 19 115) 20 32) 21 32) 22 32) 23 32) 24 98) 25 97) 26 100) 27 32) 28 32) 29 32) 30 32) 31 32) 32 99) 33 111) 34 114) 35 110) 36 101) 37 114) 38 32) 39 32) 40 107) 41 110) 42 111) 43 119) 44 110) 45 32) 46 32) 47 32) 48 119) 49 97) 50 110) 51 116) 52 101) 53 100) 54 32) 55 32) 56 104) 57 111) 58 117) 59 114) 60 32) 61 32) 62 32) 63 32) 64 109) 65 111) 66 114) 67 101) 68 32) 69 32) 70 32) 71 32) 72 111) 73 114) 74 32) 75 32) 76 32) 77 32) 78 32) 79 32) 80 97) 81 110) 82 100) 83 32) 84 32) 85 32) 86 32) 87 32) 88 110) 89 111) 90 116) 91 32) 92 32) 93 32) 94 32)) C 958 rfl (by decide) (by decide) (by decide) (by decide) rfl dX11_init_957 rfl ?_
  refine A_putF (fs := [.int 0, .ref (b + 1), .ref (b + 2), .ref (b + 3), .ref (b + 4), .ref (b + 5), .int 0, .ref (b + 6), .ref (b + 7), .int 0, .int 0, .int 0, .ref (b + 8), .ref (b + 9), .ref (b + 10), .ref (b + 11), .ref (b + 12), .ref (b + 13), .int 0, .int 0, .int 0, .int 0, .null, .null, .int 0, .int 0, .int 0, .null, .null, .null, .null, .int 0]) C hin 961 FL_11_49 tyX11_ok nmX11 rfl rfl (tyX11_ok 22 (by decide)) ⟨rfl, rfl⟩ (k := 0) (by decide) (by decide) rfl (Nat.le_of_ble_eq_true rfl) dX11_init_958 rfl ?_
  refine A_aload_n (i := 0) C 962 dX11_init_961 rfl rfl rfl ?_
  refine A_sipush (v := 200) C 965 dX11_init_962 rfl rfl ?_
  refine A_newa (N' := 200) C 967 rfl (by decide) (by omega) (Or.inl (by decide)) (by omega) (by omega) dX11_init_965 rfl ?_
  show AW E 20 b 16 15 1970 _ 967 [some (.ref b), none] [.ref (b + 15), .ref b] _
  refine A_putF (fs := [.int 0, .ref (b + 1), .ref (b + 2), .ref (b + 3), .ref (b + 4), .ref (b + 5), .int 0, .ref (b + 6), .ref (b + 7), .int 0, .int 0, .int 0, .ref (b + 8), .ref (b + 9), .ref (b + 10), .ref (b + 11), .ref (b + 12), .ref (b + 13), .int 0, .int 0, .int 0, .int 0, .ref (b + 14), .null, .int 0, .int 0, .int 0, .null, .null, .null, .null, .int 0]) C hin 970 FL_11_52 tyX11_ok nmX11 rfl rfl (tyX11_ok 23 (by decide)) ⟨rfl, rfl⟩ (k := 0) (by decide) (by decide) rfl (Nat.le_of_ble_eq_true rfl) dX11_init_967 rfl ?_
  refine A_aload_n (i := 0) C 971 dX11_init_970 rfl rfl rfl ?_
  refine A_sipush (v := 200) C 974 dX11_init_971 rfl rfl ?_
  refine A_newa (N' := 200) C 976 rfl (by decide) (by omega) (Or.inl (by decide)) (by omega) (by omega) dX11_init_974 rfl ?_
  show AW E 20 b 17 16 2170 _ 976 [some (.ref b), none] [.ref (b + 16), .ref b] _
  refine A_putF (fs := [.int 0, .ref (b + 1), .ref (b + 2), .ref (b + 3), .ref (b + 4), .ref (b + 5), .int 0, .ref (b + 6), .ref (b + 7), .int 0, .int 0, .int 0, .ref (b + 8), .ref (b + 9), .ref (b + 10), .ref (b + 11), .ref (b + 12), .ref (b + 13), .int 0, .int 0, .int 0, .int 0, .ref (b + 14), .ref (b + 15), .int 0, .int 0, .int 0, .null, .null, .null, .null, .int 0]) C hin 979 FL_11_55 tyX11_ok nmX11 rfl rfl (tyX11_ok 27 (by decide)) ⟨rfl, rfl⟩ (k := 0) (by decide) (by decide) rfl (Nat.le_of_ble_eq_true rfl) dX11_init_976 rfl ?_
  refine A_aload_n (i := 0) C 980 dX11_init_979 rfl rfl rfl ?_
  refine A_bipush (v := 6) C 982 dX11_init_980 rfl rfl ?_
  refine A_newa (N' := 6) C 984 rfl (by decide) (by omega) (Or.inl (by decide)) (by omega) (by omega) dX11_init_982 rfl ?_
  show AW E 20 b 18 17 2176 _ 984 [some (.ref b), none] [.ref (b + 17), .ref b] _
  refine A_putF (fs := [.int 0, .ref (b + 1), .ref (b + 2), .ref (b + 3), .ref (b + 4), .ref (b + 5), .int 0, .ref (b + 6), .ref (b + 7), .int 0, .int 0, .int 0, .ref (b + 8), .ref (b + 9), .ref (b + 10), .ref (b + 11), .ref (b + 12), .ref (b + 13), .int 0, .int 0, .int 0, .int 0, .ref (b + 14), .ref (b + 15), .int 0, .int 0, .int 0, .ref (b + 16), .null, .null, .null, .int 0]) C hin 987 FL_11_58 tyX11_ok nmX11 rfl rfl (tyX11_ok 28 (by decide)) ⟨rfl, rfl⟩ (k := 0) (by decide) (by decide) rfl (Nat.le_of_ble_eq_true rfl) dX11_init_984 rfl ?_
  refine A_aload_n (i := 0) C 988 dX11_init_987 rfl rfl rfl ?_
  refine A_bipush (v := 27) C 990 dX11_init_988 rfl rfl ?_
  refine A_newa (N' := 27) C 992 rfl (by decide) (by omega) (Or.inl (by decide)) (by omega) (by omega) dX11_init_990 rfl ?_
  show AW E 20 b 19 18 2203 _ 992 [some (.ref b), none] [.ref (b + 18), .ref b] _
  refine A_putF (fs := [.int 0, .ref (b + 1), .ref (b + 2), .ref (b + 3), .ref (b + 4), .ref (b + 5), .int 0, .ref (b + 6), .ref (b + 7), .int 0, .int 0, .int 0, .ref (b + 8), .ref (b + 9), .ref (b + 10), .ref (b + 11), .ref (b + 12), .ref (b + 13), .int 0, .int 0, .int 0, .int 0, .ref (b + 14), .ref (b + 15), .int 0, .int 0, .int 0, .ref (b + 16), .ref (b + 17), .null, .null, .int 0]) C hin 995 FL_11_61 tyX11_ok nmX11 rfl rfl (tyX11_ok 29 (by decide)) ⟨rfl, rfl⟩ (k := 0) (by decide) (by decide) rfl (Nat.le_of_ble_eq_true rfl) dX11_init_992 rfl ?_
  refine A_aload_n (i := 0) C 996 dX11_init_995 rfl rfl rfl ?_
  refine A_bipush (v := 9) C 998 dX11_init_996 rfl rfl ?_
  refine A_newa (N' := 9) C 1000 rfl (by decide) (by omega) (Or.inl (by decide)) (by omega) (by omega) dX11_init_998 rfl ?_
  show AW E 20 b 20 19 2212 _ 1000 [some (.ref b), none] [.ref (b + 19), .ref b] _
  refine A_putF (fs := [.int 0, .ref (b + 1), .ref (b + 2), .ref (b + 3), .ref (b + 4), .ref (b + 5), .int 0, .ref (b + 6), .ref (b + 7), .int 0, .int 0, .int 0, .ref (b + 8), .ref (b + 9), .ref (b + 10), .ref (b + 11), .ref (b + 12), .ref (b + 13), .int 0, .int 0, .int 0, .int 0, .ref (b + 14), .ref (b + 15), .int 0, .int 0, .int 0, .ref (b + 16), .ref (b + 17), .ref (b + 18), .null, .int 0]) C hin 1003 FL_11_64 tyX11_ok nmX11 rfl rfl (tyX11_ok 30 (by decide)) ⟨rfl, rfl⟩ (k := 0) (by decide) (by decide) rfl (Nat.le_of_ble_eq_true rfl) dX11_init_1000 rfl ?_
  refine A_toG (S := SM) (σ := m_i0) rfl had hck.symm hcs.symm ?_ m_i0_z kk
  rw [had]
  exact r_cons (fun H h => h) (r_cons (fun H h => h) (r_cons (fun H h => h) (r_cons (fun H h => h) (r_cons (fun H h => at_i (by decide +kernel) h) (r_cons (fun H h => h) (r_cons (fun H h => h) (r_cons (fun H h => h) (r_cons (fun H h => h) (r_cons (fun H h => h) (r_cons (fun H h => at_i (by decide +kernel) h) (r_cons (fun H h => h) (r_cons (fun H h => h) (r_cons (fun H h => at_i (by decide +kernel) h) (r_cons (fun H h => at_i (by decide +kernel) h) (r_cons (fun H h => h) (r_cons (fun H h => h) (r_cons (fun H h => h) (r_cons (fun H h => h) (r_cons (fun H h => h) (r_end))))))))))))))))))))
set_option maxHeartbeats 4000000 in
set_option maxRecDepth 100000 in
theorem c_X11_tail {E : gE} {d : Nat} (C : gCx SM E RX11 cX11_init 2 none d) (hd : 40 ≤ d) : GW SM E (gFin SM E (gQv SM (fun s' => RM tX0 P00 B00 s'))) 1003 [some (.ref (e_ad E 0)), none] [] m_i0 := by
  have fr : ∀ k, k ≠ 0 → k ≠ 5 → m_i0 k = m_i0 k := fun _ _ _ => rfl
  have f0 : ∀ j, j ≠ 6 → m_i0 0 j = 0 := fun _ _ => rfl
  have hy : ∀ j, j < 0 → m_i0 5 j = s_b 0 j := fun j hj => absurd hj (by omega)
  refine G_iconst (v := 0) C 1004 dX11_init_1003 rfl rfl ?_
  refine G_istore_n (i := 1) (L' := [some (.ref (e_ad E 0)), some (.int 0)]) C 1005 dX11_init_1004 rfl rfl (Nat.le_of_ble_eq_true rfl) rfl rfl ?_
  have L1005 : ∀ (f1005 : Nat) (k : Nat) (w : Int32) (sl1005 : gS) (Ew : w = nI k) (hk : k ≤ 34) (frl1005 : ∀ k, k ≠ 0 → k ≠ 5 → sl1005 k = m_i0 k) (f0l1005 : ∀ j, j ≠ 6 → sl1005 0 j = 0) (hyl1005 : ∀ j, j < k → sl1005 5 j = s_b 0 j), 34 < k + f1005 → GW SM E (gFin SM E (gQv SM (fun s' => RM tX0 P00 B00 s'))) 1005 [some (.ref (e_ad E 0)), some (.int w)] [] sl1005 := by
    intro f1005
    induction f1005 with
    | zero =>
      intro k w sl1005 Ew hk frl1005 f0l1005 hyl1005 hf1005
      exact absurd hf1005 (by omega)
    | succ f1005 ih1005 =>
      intro k w sl1005 Ew hk frl1005 f0l1005 hyl1005 hf1005
      refine G_iload_n (i := 1) C 1006 dX11_init_1005 rfl rfl rfl ?_
      refine G_bipush (v := 34) C 1008 dX11_init_1006 rfl rfl ?_
      refine G_icmp_ge C 1029 1011 dX11_init_1008 rfl rfl (fun c1008 => ?_) (fun c1008 => ?_)
      ·
        have n1008 : ¬ k < 34 := fun hq_ => c1008 ((g_ltN (a := k) (b := 34) (hx := Ew) (hy := rfl) (by omega) (by omega)).mpr hq_)
        obtain rfl : k = 34 := by omega
        refine G_aload_n (i := 0) C 1030 dX11_init_1029 rfl rfl rfl ?_
        refine G_bipush (v := 34) C 1032 dX11_init_1030 rfl rfl ?_
        refine X11_67p C 1035 dX11_init_1032 rfl (fun s1032 es1032 => ?_)
        have fr_1 : ∀ k, k ≠ 0 → k ≠ 5 → s1032 k = m_i0 k := fun q h0 h5 => by rw [es1032, g_up_n h0]; exact frl1005 q h0 h5
        have f0_1 : ∀ j, j ≠ 6 → s1032 0 j = 0 := fun j hj => by rw [es1032, g_up_sj, if_neg hj]; exact f0l1005 j hj
        have hy_1 : ∀ j, j < 34 → s1032 5 j = s_b 0 j := fun j hj => by rw [es1032, g_up_n (by decide)]; exact hyl1005 j hj
        refine G_aload_n (i := 0) C 1036 dX11_init_1035 rfl rfl rfl ?_
        refine G_calli 1039 (G_runV C Kc_X11_text KV_X11_71 (by omega) (by decide) (eM _ _ _) rfl (c_X11_text 0 s1032 0 34 (f0_1 9 (by decide)) (by decide) (by rw [es1032, g_up_sj, if_pos rfl]; rfl) (by decide) (fun r s' => t_post s1032 0 34 r s') (fun _ _ h => h)) rfl rfl rfl (Nat.le_of_ble_eq_true rfl) rfl dX11_init_1036) rfl (fun x1036 s1036 h1036 => ?_)
        refine G_pop C 1040 dX11_init_1039 rfl rfl ?_
        exact G_vret C dX11_init_1040 (m_fin fr_1 f0_1 hy_1 h1036)
      ·
        have n1008 : k < 34 := (g_ltN (a := k) (b := 34) (hx := Ew) (hy := rfl) (by omega) (by omega)).mp c1008
        refine G_aload_n (i := 0) C 1012 dX11_init_1011 rfl rfl rfl ?_
        refine X11_22g C 1015 dX11_init_1012 rfl ?_
        refine G_iload_n (i := 1) C 1016 dX11_init_1015 rfl rfl rfl ?_
        refine G_aload_n (i := 0) C 1017 dX11_init_1016 rfl rfl rfl ?_
        refine X11_46g C 1020 dX11_init_1017 rfl ?_
        refine G_iload_n (i := 1) C 1021 dX11_init_1020 rfl rfl rfl ?_
        refine G_iald (n := 34) C 1022 (by decide) (eMk (by decide) _ _ _) (k) Ew (by omega) (by decide) dX11_init_1021 rfl (fun x1021 ex1021 => ?_)
        have Sx1021 : x1021 = s_b 0 k := ex1021.trans (congrFun (frl1005 13 (by decide) (by decide)) k)
        refine G_iast (n := 160) C 1023 (by decide) (fun σ => eMk (by decide) _ _ σ) (k) Ew (by omega) (by decide) (Nat.le_refl _) dX11_init_1022 rfl (fun s1022 es1022 => ?_)
        have fr_1 : ∀ k, k ≠ 0 → k ≠ 5 → s1022 k = m_i0 k := fun q h0 h5 => by rw [es1022, g_up_n h5]; exact frl1005 q h0 h5
        have f0_1 : ∀ j, j ≠ 6 → s1022 0 j = 0 := fun j hj => by rw [es1022, g_up_n (by decide)]; exact f0l1005 j hj
        have hy_1 : ∀ j, j < k + 1 → s1022 5 j = s_b 0 j := fun j hj => by
          rw [es1022, g_up_sj]
          by_cases e : j = k
          · rw [if_pos e, e]; exact Sx1021
          · rw [if_neg e]; exact hyl1005 j (by omega)
        refine G_iinc (w := 1) C 1026 dX11_init_1023 rfl rfl rfl rfl (fun x1023 ex1023 => ?_)
        have Nx1023 : x1023 = nI (k + 1) := g_addN ex1023 Ew rfl
        show GW SM E _ 1026 [some (.ref (e_ad E 0)), some (.int x1023)] [] s1022
        refine G_goto C 1005 dX11_init_1026 rfl ?_
        exact ih1005 (k + 1) x1023 s1022 (g_cn (a := (k + 1)) Nx1023 (by first | rfl | omega | (simp only [List.length_cons, List.length_drop]; done) | (simp only [List.length_cons, List.length_drop]; omega))) (by omega) fr_1 f0_1 (hy_1) (by omega)
  exact L1005 (34 + 1) 0 0 m_i0 (g_cn (a := 0) rfl (by first | rfl | omega)) (by omega) fr f0 (hy) (by omega)
set_option maxHeartbeats 4000000 in
set_option maxRecDepth 100000 in
theorem k_X11_init (l : Launch) (D : va_G) (cA : Nat → ClassId) (b : Nat) (z : Nat → Nat) : Met l yX11_init (.code yX11_init cX11_init 2 none :: gTB) { frames := 40, cells := 19, slots := 2212, locals := 2560 } (va_Pc [.ref b] (kPre (.inr (11, [.int 0, .null, .null, .null, .null, .null, .int 0, .null, .null, .int 0, .int 0, .int 0, .null, .null, .null, .null, .null, .null, .int 0, .int 0, .int 0, .int 0, .null, .null, .int 0, .int 0, .int 0, .null, .null, .null, .null, .int 0])) D cA b (fun _ => True))) (gQv SM (fun s' => RM tX0 P00 B00 s') D cA (fun k => b + k)) 19 2212 (gA SM (fun k => b + k)) := by
  refine g_ofWF (cc := cX11_init) (maxL := 2) (ret := none) (by decide +kernel) rfl ?_
  intro p e s m args below meth c s₁ B hml hv
  obtain ⟨rfl, hz, hP, hK, hJ, hS⟩ := hv
  have hts := atoms_spec (ws := .code yX11_init cX11_init 2 none :: gTB) B.pre
  rw [lg_entry_eq]
  generalize hE : ((p, l, e, { frames := 40, cells := 19, slots := 2212, locals := 2560 }, s, m, ([.ref b] : List Value).toArray, below, meth, c, D, cA, fun k => b + k, z, 19, 2212) : gE) = E
  have hts2 : ∀ w ∈ gTB, w.before ([.ref b] : List Value).toArray s = true := fun w hw => hts w (List.mem_cons_of_mem _ hw)
  have hown := findClass_of_methodNamed B.named
  have C : kCx E RX11 cX11_init 2 none := by subst hE; exact ⟨B.exec, B.bytes, hml, hown, hts2, B.returns, B.notSynchronized, hK⟩
  have G : gCx SM E RX11 cX11_init 2 none 40 := by subst hE; exact ⟨B.exec, B.bytes, hml, hown, hts2, B.returns, B.notSynchronized, hK, gInj_b b, hS, SM_ok, Nat.le_refl _, Nat.le_refl _, Nat.le_refl _, Nat.le_refl _⟩
  have T := c_X11_tail G (Nat.le_refl _)
  have had : e_ad E = fun k => b + k := by subst hE; rfl
  have A : AW E 20 b 1 0 0 (gFin SM E (gQv SM (fun s' => RM tX0 P00 B00 s'))) 0 [some (.ref b), none] [] (fun _ => .inr (11, [.int 0, .null, .null, .null, .null, .null, .int 0, .null, .null, .int 0, .int 0, .int 0, .null, .null, .null, .null, .null, .null, .int 0, .int 0, .int 0, .int 0, .null, .null, .int 0, .int 0, .int 0, .null, .null, .null, .null, .int 0])) := by
    refine a_X11_init C (by subst hE; exact (name_of_methodNamed B.named B.method).1) (by subst hE; exact Nat.le_refl _) (by subst hE; exact Nat.le_refl _) (by subst hE; exact Nat.le_refl _) (by subst hE; exact Nat.le_refl _) (by subst hE; exact hz) (by subst hE; rfl) (by subst hE; rfl) had ?_
    rw [had] at T
    exact T
  subst hE
  exact A s.heap [] _ (by
    intro k q hq
    obtain ⟨hk, rfl⟩ := cR_inv hq
    rw [show k = 0 by omega]
    exact hP 0 _ rfl) va_S.rf (show lv_has _ 2 (gl [some (.ref b), none] 0) from lv_entry [.ref b] (Nat.le_of_ble_eq_true rfl))
