theorem t_V0 {c : Nat} {v : Int32} (h : c < 20 ∨ (36 ≤ c ∧ c < 100000)) : t_V c v := ⟨fun q => by omega, fun q1 q2 => by omega, fun q1 q2 => by omega⟩
theorem x_inDig {x : Int32} (h : ¬ x_in x 48 57 = 0) : ∃ b, 48 ≤ b ∧ b ≤ 57 ∧ x = nI b := by
  obtain ⟨h1, h2⟩ := x_inN.mp h
  have h0 : ¬ x < 0 := fun q => h1 (Int32.lt_trans q (by decide))
  obtain ⟨j, hj, rfl⟩ := nI_of h0
  refine ⟨j, ?_, ?_, rfl⟩
  · rw [show (48 : Int32) = nI 48 from rfl, nI_ltI hj (by decide)] at h1
    omega
  · rw [show (57 : Int32) = nI 57 from rfl, nI_ltI (by decide) hj] at h2
    omega
theorem t_valS {f : Nat → Int32} {i n : Nat} {a b c x y : Int32} (hx : x = nI (t_val f i n)) (hb : ¬ x_in (f (i + n)) 48 57 = 0) (hy : y = f (i + n)) (ea : a = 10 * x) (eb : b = a + y) (ec : c = b - 48) : c = nI (t_val f i (n + 1)) := by
  obtain ⟨z, h1, h2, ez⟩ := x_inDig hb
  rw [ec, eb, ea, hx, hy, ez, show (10 : Int32) = nI 10 from rfl, pk_mul, nI_add, show (48 : Int32) = nI 48 from rfl, pk_sub (by omega)]
  show nI (10 * t_val f i n + z - 48) = nI (10 * t_val f i n + ((f (i + n)).toNatClampNeg - 48))
  rw [ez, nI_clamp (by omega), show 10 * t_val f i n + z - 48 = 10 * t_val f i n + (z - 48) by omega]
theorem dX11_next_0 : decode cX11_next 0 = .ok (.aload_n 0, 1) := by decide +kernel
theorem dX11_next_1 : decode cX11_next 1 = .ok (.getfield 99, 3) := by decide +kernel
theorem dX11_next_4 : decode cX11_next 4 = .ok (.aload_n 0, 1) := by decide +kernel
theorem dX11_next_5 : decode cX11_next 5 = .ok (.getfield 67, 3) := by decide +kernel
theorem dX11_next_8 : decode cX11_next 8 = .ok (.if_icmp .ge 44, 3) := by decide +kernel
theorem dX11_next_11 : decode cX11_next 11 = .ok (.aload_n 0, 1) := by decide +kernel
theorem dX11_next_12 : decode cX11_next 12 = .ok (.getfield 22, 3) := by decide +kernel
theorem dX11_next_15 : decode cX11_next 15 = .ok (.aload_n 0, 1) := by decide +kernel
theorem dX11_next_16 : decode cX11_next 16 = .ok (.getfield 99, 3) := by decide +kernel
theorem dX11_next_19 : decode cX11_next 19 = .ok (.iaload, 1) := by decide +kernel
theorem dX11_next_20 : decode cX11_next 20 = .ok (.bipush 32, 2) := by decide +kernel
theorem dX11_next_22 : decode cX11_next 22 = .ok (.if_icmp .eq 17, 3) := by decide +kernel
theorem dX11_next_25 : decode cX11_next 25 = .ok (.aload_n 0, 1) := by decide +kernel
theorem dX11_next_26 : decode cX11_next 26 = .ok (.getfield 22, 3) := by decide +kernel
theorem dX11_next_29 : decode cX11_next 29 = .ok (.aload_n 0, 1) := by decide +kernel
theorem dX11_next_30 : decode cX11_next 30 = .ok (.getfield 99, 3) := by decide +kernel
theorem dX11_next_33 : decode cX11_next 33 = .ok (.iaload, 1) := by decide +kernel
theorem dX11_next_34 : decode cX11_next 34 = .ok (.bipush 10, 2) := by decide +kernel
theorem dX11_next_36 : decode cX11_next 36 = .ok (.if_icmp .ne 16, 3) := by decide +kernel
theorem dX11_next_39 : decode cX11_next 39 = .ok (.aload_n 0, 1) := by decide +kernel
theorem dX11_next_40 : decode cX11_next 40 = .ok (.dup, 1) := by decide +kernel
theorem dX11_next_41 : decode cX11_next 41 = .ok (.getfield 99, 3) := by decide +kernel
theorem dX11_next_44 : decode cX11_next 44 = .ok (.iconst 1, 1) := by decide +kernel
theorem dX11_next_45 : decode cX11_next 45 = .ok (.iadd, 1) := by decide +kernel
theorem dX11_next_46 : decode cX11_next 46 = .ok (.putfield 99, 3) := by decide +kernel
theorem dX11_next_49 : decode cX11_next 49 = .ok (.goto (-49), 3) := by decide +kernel
theorem dX11_next_52 : decode cX11_next 52 = .ok (.aload_n 0, 1) := by decide +kernel
theorem dX11_next_53 : decode cX11_next 53 = .ok (.aload_n 0, 1) := by decide +kernel
theorem dX11_next_54 : decode cX11_next 54 = .ok (.getfield 99, 3) := by decide +kernel
theorem dX11_next_57 : decode cX11_next 57 = .ok (.putfield 102, 3) := by decide +kernel
theorem dX11_next_60 : decode cX11_next 60 = .ok (.aload_n 0, 1) := by decide +kernel
theorem dX11_next_61 : decode cX11_next 61 = .ok (.iconst 0, 1) := by decide +kernel
theorem dX11_next_62 : decode cX11_next 62 = .ok (.putfield 105, 3) := by decide +kernel
theorem dX11_next_65 : decode cX11_next 65 = .ok (.aload_n 0, 1) := by decide +kernel
theorem dX11_next_66 : decode cX11_next 66 = .ok (.iconst 0, 1) := by decide +kernel
theorem dX11_next_67 : decode cX11_next 67 = .ok (.putfield 108, 3) := by decide +kernel
theorem dX11_next_70 : decode cX11_next 70 = .ok (.aload_n 0, 1) := by decide +kernel
theorem dX11_next_71 : decode cX11_next 71 = .ok (.getfield 99, 3) := by decide +kernel
theorem dX11_next_74 : decode cX11_next 74 = .ok (.aload_n 0, 1) := by decide +kernel
theorem dX11_next_75 : decode cX11_next 75 = .ok (.getfield 67, 3) := by decide +kernel
theorem dX11_next_78 : decode cX11_next 78 = .ok (.if_icmp .ne 4, 3) := by decide +kernel
theorem dX11_next_81 : decode cX11_next 81 = .ok (.return_, 1) := by decide +kernel
theorem dX11_next_82 : decode cX11_next 82 = .ok (.aload_n 0, 1) := by decide +kernel
theorem dX11_next_83 : decode cX11_next 83 = .ok (.getfield 22, 3) := by decide +kernel
theorem dX11_next_86 : decode cX11_next 86 = .ok (.aload_n 0, 1) := by decide +kernel
theorem dX11_next_87 : decode cX11_next 87 = .ok (.getfield 99, 3) := by decide +kernel
theorem dX11_next_90 : decode cX11_next 90 = .ok (.iaload, 1) := by decide +kernel
theorem dX11_next_91 : decode cX11_next 91 = .ok (.istore_n 1, 1) := by decide +kernel
theorem dX11_next_92 : decode cX11_next 92 = .ok (.iload_n 1, 1) := by decide +kernel
theorem dX11_next_93 : decode cX11_next 93 = .ok (.bipush 97, 2) := by decide +kernel
theorem dX11_next_95 : decode cX11_next 95 = .ok (.bipush 122, 2) := by decide +kernel
theorem dX11_next_97 : decode cX11_next 97 = .ok (.invokestatic 78, 3) := by decide +kernel
theorem dX11_next_100 : decode cX11_next 100 = .ok (.ifCond .eq 117, 3) := by decide +kernel
theorem dX11_next_103 : decode cX11_next 103 = .ok (.aload_n 0, 1) := by decide +kernel
theorem dX11_next_104 : decode cX11_next 104 = .ok (.getfield 99, 3) := by decide +kernel
theorem dX11_next_107 : decode cX11_next 107 = .ok (.aload_n 0, 1) := by decide +kernel
theorem dX11_next_108 : decode cX11_next 108 = .ok (.getfield 67, 3) := by decide +kernel
theorem dX11_next_111 : decode cX11_next 111 = .ok (.if_icmp .ge 35, 3) := by decide +kernel
theorem dX11_next_114 : decode cX11_next 114 = .ok (.aload_n 0, 1) := by decide +kernel
theorem dX11_next_115 : decode cX11_next 115 = .ok (.getfield 22, 3) := by decide +kernel
theorem dX11_next_118 : decode cX11_next 118 = .ok (.aload_n 0, 1) := by decide +kernel
theorem dX11_next_119 : decode cX11_next 119 = .ok (.getfield 99, 3) := by decide +kernel
theorem dX11_next_122 : decode cX11_next 122 = .ok (.iaload, 1) := by decide +kernel
theorem dX11_next_123 : decode cX11_next 123 = .ok (.bipush 97, 2) := by decide +kernel
theorem dX11_next_125 : decode cX11_next 125 = .ok (.bipush 122, 2) := by decide +kernel
theorem dX11_next_127 : decode cX11_next 127 = .ok (.invokestatic 78, 3) := by decide +kernel
theorem dX11_next_130 : decode cX11_next 130 = .ok (.ifCond .eq 16, 3) := by decide +kernel
theorem dX11_next_133 : decode cX11_next 133 = .ok (.aload_n 0, 1) := by decide +kernel
theorem dX11_next_134 : decode cX11_next 134 = .ok (.dup, 1) := by decide +kernel
theorem dX11_next_135 : decode cX11_next 135 = .ok (.getfield 99, 3) := by decide +kernel
theorem dX11_next_138 : decode cX11_next 138 = .ok (.iconst 1, 1) := by decide +kernel
theorem dX11_next_139 : decode cX11_next 139 = .ok (.iadd, 1) := by decide +kernel
theorem dX11_next_140 : decode cX11_next 140 = .ok (.putfield 99, 3) := by decide +kernel
theorem dX11_next_143 : decode cX11_next 143 = .ok (.goto (-40), 3) := by decide +kernel
theorem dX11_next_146 : decode cX11_next 146 = .ok (.aload_n 0, 1) := by decide +kernel
theorem dX11_next_147 : decode cX11_next 147 = .ok (.aload_n 0, 1) := by decide +kernel
theorem dX11_next_148 : decode cX11_next 148 = .ok (.getfield 102, 3) := by decide +kernel
theorem dX11_next_151 : decode cX11_next 151 = .ok (.aload_n 0, 1) := by decide +kernel
theorem dX11_next_152 : decode cX11_next 152 = .ok (.getfield 99, 3) := by decide +kernel
theorem dX11_next_155 : decode cX11_next 155 = .ok (.invokevirtual 111, 3) := by decide +kernel
theorem dX11_next_158 : decode cX11_next 158 = .ok (.istore_n 2, 1) := by decide +kernel
theorem dX11_next_159 : decode cX11_next 159 = .ok (.aload_n 0, 1) := by decide +kernel
theorem dX11_next_160 : decode cX11_next 160 = .ok (.iload_n 2, 1) := by decide +kernel
theorem dX11_next_161 : decode cX11_next 161 = .ok (.iconst 3, 1) := by decide +kernel
theorem dX11_next_162 : decode cX11_next 162 = .ok (.if_icmp .ge 7, 3) := by decide +kernel
theorem dX11_next_165 : decode cX11_next 165 = .ok (.iconst 3, 1) := by decide +kernel
theorem dX11_next_166 : decode cX11_next 166 = .ok (.goto 29, 3) := by decide +kernel
theorem dX11_next_169 : decode cX11_next 169 = .ok (.iload_n 2, 1) := by decide +kernel
theorem dX11_next_170 : decode cX11_next 170 = .ok (.bipush 9, 2) := by decide +kernel
theorem dX11_next_172 : decode cX11_next 172 = .ok (.if_icmp .ge 7, 3) := by decide +kernel
theorem dX11_next_175 : decode cX11_next 175 = .ok (.iconst 2, 1) := by decide +kernel
theorem dX11_next_176 : decode cX11_next 176 = .ok (.goto 19, 3) := by decide +kernel
theorem dX11_next_179 : decode cX11_next 179 = .ok (.iload_n 2, 1) := by decide +kernel
theorem dX11_next_180 : decode cX11_next 180 = .ok (.bipush 12, 2) := by decide +kernel
theorem dX11_next_182 : decode cX11_next 182 = .ok (.if_icmp .ne 7, 3) := by decide +kernel
theorem dX11_next_185 : decode cX11_next 185 = .ok (.iconst (-1), 1) := by decide +kernel
theorem dX11_next_186 : decode cX11_next 186 = .ok (.goto 9, 3) := by decide +kernel
theorem dX11_next_189 : decode cX11_next 189 = .ok (.iconst 4, 1) := by decide +kernel
theorem dX11_next_190 : decode cX11_next 190 = .ok (.iload_n 2, 1) := by decide +kernel
theorem dX11_next_191 : decode cX11_next 191 = .ok (.iadd, 1) := by decide +kernel
theorem dX11_next_192 : decode cX11_next 192 = .ok (.bipush 9, 2) := by decide +kernel
theorem dX11_next_194 : decode cX11_next 194 = .ok (.isub, 1) := by decide +kernel
theorem dX11_next_195 : decode cX11_next 195 = .ok (.putfield 105, 3) := by decide +kernel
theorem dX11_next_198 : decode cX11_next 198 = .ok (.aload_n 0, 1) := by decide +kernel
theorem dX11_next_199 : decode cX11_next 199 = .ok (.iload_n 2, 1) := by decide +kernel
theorem dX11_next_200 : decode cX11_next 200 = .ok (.iconst 3, 1) := by decide +kernel
theorem dX11_next_201 : decode cX11_next 201 = .ok (.if_icmp .ge 7, 3) := by decide +kernel
theorem dX11_next_204 : decode cX11_next 204 = .ok (.iload_n 2, 1) := by decide +kernel
theorem dX11_next_205 : decode cX11_next 205 = .ok (.goto 6, 3) := by decide +kernel
theorem dX11_next_208 : decode cX11_next 208 = .ok (.iload_n 2, 1) := by decide +kernel
theorem dX11_next_209 : decode cX11_next 209 = .ok (.iconst 3, 1) := by decide +kernel
theorem dX11_next_210 : decode cX11_next 210 = .ok (.isub, 1) := by decide +kernel
theorem dX11_next_211 : decode cX11_next 211 = .ok (.putfield 108, 3) := by decide +kernel
theorem dX11_next_214 : decode cX11_next 214 = .ok (.goto 189, 3) := by decide +kernel
theorem dX11_next_217 : decode cX11_next 217 = .ok (.iload_n 1, 1) := by decide +kernel
theorem dX11_next_218 : decode cX11_next 218 = .ok (.bipush 48, 2) := by decide +kernel
theorem dX11_next_220 : decode cX11_next 220 = .ok (.bipush 57, 2) := by decide +kernel
theorem dX11_next_222 : decode cX11_next 222 = .ok (.invokestatic 78, 3) := by decide +kernel
theorem dX11_next_225 : decode cX11_next 225 = .ok (.ifCond .eq 101, 3) := by decide +kernel
theorem dX11_next_228 : decode cX11_next 228 = .ok (.iconst 0, 1) := by decide +kernel
theorem dX11_next_229 : decode cX11_next 229 = .ok (.istore_n 2, 1) := by decide +kernel
theorem dX11_next_230 : decode cX11_next 230 = .ok (.aload_n 0, 1) := by decide +kernel
theorem dX11_next_231 : decode cX11_next 231 = .ok (.getfield 99, 3) := by decide +kernel
theorem dX11_next_234 : decode cX11_next 234 = .ok (.aload_n 0, 1) := by decide +kernel
theorem dX11_next_235 : decode cX11_next 235 = .ok (.getfield 67, 3) := by decide +kernel
theorem dX11_next_238 : decode cX11_next 238 = .ok (.if_icmp .ge 71, 3) := by decide +kernel
theorem dX11_next_241 : decode cX11_next 241 = .ok (.aload_n 0, 1) := by decide +kernel
theorem dX11_next_242 : decode cX11_next 242 = .ok (.getfield 22, 3) := by decide +kernel
theorem dX11_next_245 : decode cX11_next 245 = .ok (.aload_n 0, 1) := by decide +kernel
theorem dX11_next_246 : decode cX11_next 246 = .ok (.getfield 99, 3) := by decide +kernel
theorem dX11_next_249 : decode cX11_next 249 = .ok (.iaload, 1) := by decide +kernel
theorem dX11_next_250 : decode cX11_next 250 = .ok (.bipush 48, 2) := by decide +kernel
theorem dX11_next_252 : decode cX11_next 252 = .ok (.bipush 57, 2) := by decide +kernel
theorem dX11_next_254 : decode cX11_next 254 = .ok (.invokestatic 78, 3) := by decide +kernel
theorem dX11_next_257 : decode cX11_next 257 = .ok (.ifCond .eq 52, 3) := by decide +kernel
theorem dX11_next_260 : decode cX11_next 260 = .ok (.aload_n 0, 1) := by decide +kernel
theorem dX11_next_261 : decode cX11_next 261 = .ok (.iload_n 2, 1) := by decide +kernel
theorem dX11_next_262 : decode cX11_next 262 = .ok (.iconst 4, 1) := by decide +kernel
theorem dX11_next_263 : decode cX11_next 263 = .ok (.if_icmp .ge 26, 3) := by decide +kernel
theorem dX11_next_266 : decode cX11_next 266 = .ok (.bipush 10, 2) := by decide +kernel
theorem dX11_next_268 : decode cX11_next 268 = .ok (.aload_n 0, 1) := by decide +kernel
theorem dX11_next_269 : decode cX11_next 269 = .ok (.getfield 108, 3) := by decide +kernel
theorem dX11_next_272 : decode cX11_next 272 = .ok (.imul, 1) := by decide +kernel
theorem dX11_next_273 : decode cX11_next 273 = .ok (.aload_n 0, 1) := by decide +kernel
theorem dX11_next_274 : decode cX11_next 274 = .ok (.getfield 22, 3) := by decide +kernel
theorem dX11_next_277 : decode cX11_next 277 = .ok (.aload_n 0, 1) := by decide +kernel
theorem dX11_next_278 : decode cX11_next 278 = .ok (.getfield 99, 3) := by decide +kernel
theorem dX11_next_281 : decode cX11_next 281 = .ok (.iaload, 1) := by decide +kernel
theorem dX11_next_282 : decode cX11_next 282 = .ok (.iadd, 1) := by decide +kernel
theorem dX11_next_283 : decode cX11_next 283 = .ok (.bipush 48, 2) := by decide +kernel
theorem dX11_next_285 : decode cX11_next 285 = .ok (.isub, 1) := by decide +kernel
theorem dX11_next_286 : decode cX11_next 286 = .ok (.goto 4, 3) := by decide +kernel
theorem dX11_next_289 : decode cX11_next 289 = .ok (.iconst 0, 1) := by decide +kernel
theorem dX11_next_290 : decode cX11_next 290 = .ok (.putfield 108, 3) := by decide +kernel
theorem dX11_next_293 : decode cX11_next 293 = .ok (.iinc 2 1, 3) := by decide +kernel
theorem dX11_next_296 : decode cX11_next 296 = .ok (.aload_n 0, 1) := by decide +kernel
theorem dX11_next_297 : decode cX11_next 297 = .ok (.dup, 1) := by decide +kernel
theorem dX11_next_298 : decode cX11_next 298 = .ok (.getfield 99, 3) := by decide +kernel
theorem dX11_next_301 : decode cX11_next 301 = .ok (.iconst 1, 1) := by decide +kernel
theorem dX11_next_302 : decode cX11_next 302 = .ok (.iadd, 1) := by decide +kernel
theorem dX11_next_303 : decode cX11_next 303 = .ok (.putfield 99, 3) := by decide +kernel
theorem dX11_next_306 : decode cX11_next 306 = .ok (.goto (-76), 3) := by decide +kernel
theorem dX11_next_309 : decode cX11_next 309 = .ok (.aload_n 0, 1) := by decide +kernel
theorem dX11_next_310 : decode cX11_next 310 = .ok (.iload_n 2, 1) := by decide +kernel
theorem dX11_next_311 : decode cX11_next 311 = .ok (.iconst 4, 1) := by decide +kernel
theorem dX11_next_312 : decode cX11_next 312 = .ok (.if_icmp .le 7, 3) := by decide +kernel
theorem dX11_next_315 : decode cX11_next 315 = .ok (.iconst (-1), 1) := by decide +kernel
theorem dX11_next_316 : decode cX11_next 316 = .ok (.goto 4, 3) := by decide +kernel
theorem dX11_next_319 : decode cX11_next 319 = .ok (.iconst 1, 1) := by decide +kernel
theorem dX11_next_320 : decode cX11_next 320 = .ok (.putfield 105, 3) := by decide +kernel
theorem dX11_next_323 : decode cX11_next 323 = .ok (.goto 80, 3) := by decide +kernel
theorem dX11_next_326 : decode cX11_next 326 = .ok (.iload_n 1, 1) := by decide +kernel
theorem dX11_next_327 : decode cX11_next 327 = .ok (.bipush 40, 2) := by decide +kernel
theorem dX11_next_329 : decode cX11_next 329 = .ok (.if_icmp .eq 45, 3) := by decide +kernel
theorem dX11_next_332 : decode cX11_next 332 = .ok (.iload_n 1, 1) := by decide +kernel
theorem dX11_next_333 : decode cX11_next 333 = .ok (.bipush 41, 2) := by decide +kernel
theorem dX11_next_335 : decode cX11_next 335 = .ok (.if_icmp .eq 39, 3) := by decide +kernel
theorem dX11_next_338 : decode cX11_next 338 = .ok (.iload_n 1, 1) := by decide +kernel
theorem dX11_next_339 : decode cX11_next 339 = .ok (.bipush 59, 2) := by decide +kernel
theorem dX11_next_341 : decode cX11_next 341 = .ok (.if_icmp .eq 33, 3) := by decide +kernel
theorem dX11_next_344 : decode cX11_next 344 = .ok (.iload_n 1, 1) := by decide +kernel
theorem dX11_next_345 : decode cX11_next 345 = .ok (.bipush 43, 2) := by decide +kernel
theorem dX11_next_347 : decode cX11_next 347 = .ok (.if_icmp .eq 27, 3) := by decide +kernel
theorem dX11_next_350 : decode cX11_next 350 = .ok (.iload_n 1, 1) := by decide +kernel
theorem dX11_next_351 : decode cX11_next 351 = .ok (.bipush 45, 2) := by decide +kernel
theorem dX11_next_353 : decode cX11_next 353 = .ok (.if_icmp .eq 21, 3) := by decide +kernel
theorem dX11_next_356 : decode cX11_next 356 = .ok (.iload_n 1, 1) := by decide +kernel
theorem dX11_next_357 : decode cX11_next 357 = .ok (.bipush 42, 2) := by decide +kernel
theorem dX11_next_359 : decode cX11_next 359 = .ok (.if_icmp .eq 15, 3) := by decide +kernel
theorem dX11_next_362 : decode cX11_next 362 = .ok (.iload_n 1, 1) := by decide +kernel
theorem dX11_next_363 : decode cX11_next 363 = .ok (.bipush 60, 2) := by decide +kernel
theorem dX11_next_365 : decode cX11_next 365 = .ok (.if_icmp .eq 9, 3) := by decide +kernel
theorem dX11_next_368 : decode cX11_next 368 = .ok (.iload_n 1, 1) := by decide +kernel
theorem dX11_next_369 : decode cX11_next 369 = .ok (.bipush 61, 2) := by decide +kernel
theorem dX11_next_371 : decode cX11_next 371 = .ok (.if_icmp .ne 7, 3) := by decide +kernel
theorem dX11_next_374 : decode cX11_next 374 = .ok (.iconst 1, 1) := by decide +kernel
theorem dX11_next_375 : decode cX11_next 375 = .ok (.goto 4, 3) := by decide +kernel
theorem dX11_next_378 : decode cX11_next 378 = .ok (.iconst 0, 1) := by decide +kernel
theorem dX11_next_379 : decode cX11_next 379 = .ok (.istore_n 2, 1) := by decide +kernel
theorem dX11_next_380 : decode cX11_next 380 = .ok (.aload_n 0, 1) := by decide +kernel
theorem dX11_next_381 : decode cX11_next 381 = .ok (.iload_n 2, 1) := by decide +kernel
theorem dX11_next_382 : decode cX11_next 382 = .ok (.ifCond .eq 7, 3) := by decide +kernel
theorem dX11_next_385 : decode cX11_next 385 = .ok (.iload_n 1, 1) := by decide +kernel
theorem dX11_next_386 : decode cX11_next 386 = .ok (.goto 4, 3) := by decide +kernel
theorem dX11_next_389 : decode cX11_next 389 = .ok (.iconst (-1), 1) := by decide +kernel
theorem dX11_next_390 : decode cX11_next 390 = .ok (.putfield 105, 3) := by decide +kernel
theorem dX11_next_393 : decode cX11_next 393 = .ok (.aload_n 0, 1) := by decide +kernel
theorem dX11_next_394 : decode cX11_next 394 = .ok (.dup, 1) := by decide +kernel
theorem dX11_next_395 : decode cX11_next 395 = .ok (.getfield 99, 3) := by decide +kernel
theorem dX11_next_398 : decode cX11_next 398 = .ok (.iconst 1, 1) := by decide +kernel
theorem dX11_next_399 : decode cX11_next 399 = .ok (.iadd, 1) := by decide +kernel
theorem dX11_next_400 : decode cX11_next 400 = .ok (.putfield 99, 3) := by decide +kernel
theorem dX11_next_403 : decode cX11_next 403 = .ok (.return_, 1) := by decide +kernel
set_option maxHeartbeats 4000000 in
set_option maxRecDepth 100000 in
theorem c_X11_next (d : Nat) (s : gS) (p e : Nat) (hp : s 0 18 = nI p) (he : s 0 6 = nI e) (hpe : p ≤ e) (he160 : e ≤ 160) : gMt SM yX11_next cX11_next 3 none (d + 2) (fun ad => [.ref (ad 0)]) s (gQv SM (fun s' => t_N s s' ∧ s' 0 19 = nI (t_pl (s 5) e p) ∧ s' 0 18 = nI (t_n (s 5) e p) ∧ s' 0 20 = t_mt (t_c (s 5) e p) ∧ t_V (t_c (s 5) e p) (s' 0 21))) := by
  refine gMt_of SM_ok (by decide +kernel) (fun ad => [some (.ref (ad 0)), none, none]) (fun _ => rfl) (fun _ => rfl) (fun _ => Nat.le_of_ble_eq_true rfl) (fun E C0 => ?_)
  have C : gCx SM E RX11 cX11_next 3 none (d + 2) := C0
  have f : t_N s s := t_N.rf
  have f18 : s 0 18 = nI p := hp
  have f19 : s 0 19 = s 0 19 := rfl
  have f20 : s 0 20 = s 0 20 := rfl
  have f21 : s 0 21 = s 0 21 := rfl
  have L0 : ∀ (f0 : Nat) (k : Nat) (sl0 : gS) (hk1 : p ≤ k) (hk2 : k ≤ e) (hpl : t_pl (s 5) e k = t_pl (s 5) e p) (fl0 : t_N s sl0) (f18l0 : sl0 0 18 = nI k) (f19l0 : sl0 0 19 = s 0 19) (f20l0 : sl0 0 20 = s 0 20) (f21l0 : sl0 0 21 = s 0 21), e < k + f0 → GW SM E (gFin SM E (gQv SM (fun s' => t_N s s' ∧ s' 0 19 = nI (t_pl (s 5) e p) ∧ s' 0 18 = nI (t_n (s 5) e p) ∧ s' 0 20 = t_mt (t_c (s 5) e p) ∧ t_V (t_c (s 5) e p) (s' 0 21)))) 0 [some (.ref (e_ad E 0)), none, none] [] sl0 := by
    intro f0
    induction f0 with
    | zero =>
      intro k sl0 hk1 hk2 hpl fl0 f18l0 f19l0 f20l0 f21l0 hf0
      exact absurd hf0 (by omega)
    | succ f0 ih0 =>
      intro k sl0 hk1 hk2 hpl fl0 f18l0 f19l0 f20l0 f21l0 hf0
      refine G_aload_n (i := 0) C 1 dX11_next_0 rfl rfl rfl ?_
      refine X11_99g C 4 dX11_next_1 rfl (fun x1 ex1 => ?_)
      have Sx1 : x1 = nI k := ex1.trans f18l0
      refine G_aload_n (i := 0) C 5 dX11_next_4 rfl rfl rfl ?_
      refine X11_67g C 8 dX11_next_5 rfl (fun x5 ex5 => ?_)
      have Sx5 : x5 = nI e := ex5.trans ((fl0.2 6 (by decide)).trans he)
      refine G_icmp_ge C 52 11 dX11_next_8 rfl rfl (fun c8 => ?_) (fun c8 => ?_)
      ·
        have n8 : ¬ k < e := fun h => c8 ((g_ltN (a := k) (b := e) (hx := Sx1) (hy := Sx5) (by omega) (by omega)).mpr h)
        have hi : t_pl (s 5) e p = k := hpl.symm.trans (t_pl_e (by omega))
        refine G_aload_n (i := 0) C 53 dX11_next_52 rfl rfl rfl ?_
        refine G_aload_n (i := 0) C 54 dX11_next_53 rfl rfl rfl ?_
        refine X11_99g C 57 dX11_next_54 rfl (fun x54 ex54 => ?_)
        have Sx54 : x54 = nI k := ex54.trans f18l0
        refine X11_102p C 60 dX11_next_57 rfl (fun s57 es57 => ?_)
        have f_1 : t_N s s57 := t_N.up fl0 es57 (by decide)
        have f18_1 : s57 0 18 = nI k := by rw [es57, g_up_sj]; exact (if_neg (by decide)).trans f18l0
        have f19_1 : s57 0 19 = nI k := by rw [es57, g_up_sj]; exact (if_pos rfl).trans Sx54
        have f20_1 : s57 0 20 = s 0 20 := by rw [es57, g_up_sj]; exact (if_neg (by decide)).trans f20l0
        have f21_1 : s57 0 21 = s 0 21 := by rw [es57, g_up_sj]; exact (if_neg (by decide)).trans f21l0
        refine G_aload_n (i := 0) C 61 dX11_next_60 rfl rfl rfl ?_
        refine G_iconst (v := 0) C 62 dX11_next_61 rfl rfl ?_
        refine X11_105p C 65 dX11_next_62 rfl (fun s62 es62 => ?_)
        have f_2 : t_N s s62 := t_N.up f_1 es62 (by decide)
        have f18_2 : s62 0 18 = nI k := by rw [es62, g_up_sj]; exact (if_neg (by decide)).trans f18_1
        have f19_2 : s62 0 19 = nI k := by rw [es62, g_up_sj]; exact (if_neg (by decide)).trans f19_1
        have f20_2 : s62 0 20 = nI 0 := by rw [es62, g_up_sj]; exact (if_pos rfl).trans rfl
        have f21_2 : s62 0 21 = s 0 21 := by rw [es62, g_up_sj]; exact (if_neg (by decide)).trans f21_1
        refine G_aload_n (i := 0) C 66 dX11_next_65 rfl rfl rfl ?_
        refine G_iconst (v := 0) C 67 dX11_next_66 rfl rfl ?_
        refine X11_108p C 70 dX11_next_67 rfl (fun s67 es67 => ?_)
        have f_3 : t_N s s67 := t_N.up f_2 es67 (by decide)
        have f18_3 : s67 0 18 = nI k := by rw [es67, g_up_sj]; exact (if_neg (by decide)).trans f18_2
        have f19_3 : s67 0 19 = nI k := by rw [es67, g_up_sj]; exact (if_neg (by decide)).trans f19_2
        have f20_3 : s67 0 20 = nI 0 := by rw [es67, g_up_sj]; exact (if_neg (by decide)).trans f20_2
        have f21_3 : s67 0 21 = nI 0 := by rw [es67, g_up_sj]; exact (if_pos rfl).trans rfl
        refine G_aload_n (i := 0) C 71 dX11_next_70 rfl rfl rfl ?_
        refine X11_99g C 74 dX11_next_71 rfl (fun x71 ex71 => ?_)
        have Sx71 : x71 = nI k := ex71.trans f18_3
        refine G_aload_n (i := 0) C 75 dX11_next_74 rfl rfl rfl ?_
        refine X11_67g C 78 dX11_next_75 rfl (fun x75 ex75 => ?_)
        have Sx75 : x75 = nI e := ex75.trans ((f_3.2 6 (by decide)).trans he)
        refine G_icmp_ne C 82 81 dX11_next_78 rfl rfl (fun c78 => ?_) (fun c78 => ?_)
        ·
          have n78 : ¬ k = e := fun h => c78 ((g_eqN (a := k) (b := e) (hx := Sx71) (hy := Sx75) (by omega) (by omega)).mpr h)
          have hke : k < e := by omega
          have hcd : t_c (s 5) e p = t_cd (s 5) e k := by unfold t_c; rw [hi, if_pos hke]
          have hnx : t_n (s 5) e p = t_nx (s 5) e k := by unfold t_n; rw [hi, if_pos hke]
          refine G_aload_n (i := 0) C 83 dX11_next_82 rfl rfl rfl ?_
          refine X11_22g C 86 dX11_next_83 rfl ?_
          refine G_aload_n (i := 0) C 87 dX11_next_86 rfl rfl rfl ?_
          refine X11_99g C 90 dX11_next_87 rfl (fun x87 ex87 => ?_)
          have Sx87 : x87 = nI k := ex87.trans f18_3
          refine G_iald (n := 160) C 91 (by decide) (eMk (by decide) _ _ _) (k) Sx87 (by omega) (by decide) dX11_next_90 rfl (fun x90 ex90 => ?_)
          have Sx90 : x90 = s 5 k := ex90.trans (congrFun (f_3.1 5 (by decide)) k)
          refine G_istore_n (i := 1) (L' := [some (.ref (e_ad E 0)), some (.int x90), none]) C 92 dX11_next_91 rfl rfl (Nat.le_of_ble_eq_true rfl) rfl rfl ?_
          refine G_iload_n (i := 1) C 93 dX11_next_92 rfl rfl rfl ?_
          refine G_bipush (v := 97) C 95 dX11_next_93 rfl rfl ?_
          refine G_bipush (v := 122) C 97 dX11_next_95 rfl rfl ?_
          refine G_calli 100 (G_runS C Kc_X11_in KS_X11_78 (by omega) (c_X11_in 0 x90 97 122 s67) rfl rfl (Nat.le_of_ble_eq_true rfl) rfl dX11_next_97) rfl (fun x97 s97 h97 => ?_)
          obtain ⟨es97, h97⟩ := h97
          have es97 := es97.symm
          subst es97
          refine G_if_eq C 217 103 dX11_next_100 rfl rfl (fun c100 => ?_) (fun c100 => ?_)
          ·
            have k100 := h97.symm.trans c100
            refine G_iload_n (i := 1) C 218 dX11_next_217 rfl rfl rfl ?_
            refine G_bipush (v := 48) C 220 dX11_next_218 rfl rfl ?_
            refine G_bipush (v := 57) C 222 dX11_next_220 rfl rfl ?_
            refine G_calli 225 (G_runS C Kc_X11_in KS_X11_78 (by omega) (c_X11_in 0 x90 48 57 s67) rfl rfl (Nat.le_of_ble_eq_true rfl) rfl dX11_next_222) rfl (fun x222 s222 h222 => ?_)
            obtain ⟨es222, h222⟩ := h222
            have es222 := es222.symm
            subst es222
            refine G_if_eq C 326 228 dX11_next_225 rfl rfl (fun c225 => ?_) (fun c225 => ?_)
            ·
              have k225 := h222.symm.trans c225
              refine G_iload_n (i := 1) C 327 dX11_next_326 rfl rfl rfl ?_
              refine G_bipush (v := 40) C 329 dX11_next_327 rfl rfl ?_
              refine G_icmp_eq C 374 332 dX11_next_329 rfl rfl (fun c329 => ?_) (fun c329 => ?_)
              ·
                refine G_iconst (v := 1) C 375 dX11_next_374 rfl rfl ?_
                refine G_goto C 379 dX11_next_375 rfl ?_
                refine G_istore_n (i := 2) (L' := [some (.ref (e_ad E 0)), some (.int x90), some (.int 1)]) C 380 dX11_next_379 rfl rfl (Nat.le_of_ble_eq_true rfl) rfl rfl ?_
                refine G_aload_n (i := 0) C 381 dX11_next_380 rfl rfl rfl ?_
                refine G_iload_n (i := 2) C 382 dX11_next_381 rfl rfl rfl ?_
                refine G_if_eq C 389 385 dX11_next_382 rfl rfl (fun c => absurd c (by decide)) (fun _ => ?_)
                refine G_iload_n (i := 1) C 386 dX11_next_385 rfl rfl rfl ?_
                refine G_goto C 390 dX11_next_386 rfl ?_
                refine X11_105p C 393 dX11_next_390 rfl (fun s390 es390 => ?_)
                have f_4 : t_N s s390 := t_N.up f_3 es390 (by decide)
                have f18_4 : s390 0 18 = nI k := by rw [es390, g_up_sj]; exact (if_neg (by decide)).trans f18_3
                have f19_4 : s390 0 19 = nI k := by rw [es390, g_up_sj]; exact (if_neg (by decide)).trans f19_3
                have f20_4 : s390 0 20 = x90 := by rw [es390, g_up_sj]; exact if_pos rfl
                have f21_4 : s390 0 21 = nI 0 := by rw [es390, g_up_sj]; exact (if_neg (by decide)).trans f21_3
                refine G_aload_n (i := 0) C 394 dX11_next_393 rfl rfl rfl ?_
                refine G_dup C 395 dX11_next_394 rfl rfl ?_
                refine X11_99g C 398 dX11_next_395 rfl (fun x395 ex395 => ?_)
                have Sx395 : x395 = nI k := ex395.trans f18_4
                refine G_iconst (v := 1) C 399 dX11_next_398 rfl rfl ?_
                refine G_iadd C 400 dX11_next_399 rfl (fun x399 ex399 => ?_)
                have Nx399 : x399 = nI (k + 1) := g_addN ex399 Sx395 rfl
                refine X11_99p C 403 dX11_next_400 rfl (fun s400 es400 => ?_)
                have f_5 : t_N s s400 := t_N.up f_4 es400 (by decide)
                have f18_5 : s400 0 18 = nI (k + 1) := by rw [es400, g_up_sj]; exact (if_pos rfl).trans Nx399
                have f19_5 : s400 0 19 = nI k := by rw [es400, g_up_sj]; exact (if_neg (by decide)).trans f19_4
                have f20_5 : s400 0 20 = x90 := by rw [es400, g_up_sj]; exact (if_neg (by decide)).trans f20_4
                have f21_5 : s400 0 21 = nI 0 := by rw [es400, g_up_sj]; exact (if_neg (by decide)).trans f21_4
                have hsg : t_cd (s 5) e k = t_sg x90 := by unfold t_cd; rw [if_pos (by rw [← Sx90]; exact k100), if_pos (by rw [← Sx90]; exact k225), Sx90]
                exact G_vret C dX11_next_403 (⟨f_5, f19_5.trans (by rw [hi]), f18_5.trans (by rw [hnx]; unfold t_nx; rw [if_pos (by rw [← Sx90]; exact k100), if_pos (by rw [← Sx90]; exact k225)]), f20_5.trans (by rw [hcd, hsg, c329]; decide), by rw [hcd, hsg, c329]; exact t_V0 (by decide)⟩)
              ·
                refine G_iload_n (i := 1) C 333 dX11_next_332 rfl rfl rfl ?_
                refine G_bipush (v := 41) C 335 dX11_next_333 rfl rfl ?_
                refine G_icmp_eq C 374 338 dX11_next_335 rfl rfl (fun c335 => ?_) (fun c335 => ?_)
                ·
                  refine G_iconst (v := 1) C 375 dX11_next_374 rfl rfl ?_
                  refine G_goto C 379 dX11_next_375 rfl ?_
                  refine G_istore_n (i := 2) (L' := [some (.ref (e_ad E 0)), some (.int x90), some (.int 1)]) C 380 dX11_next_379 rfl rfl (Nat.le_of_ble_eq_true rfl) rfl rfl ?_
                  refine G_aload_n (i := 0) C 381 dX11_next_380 rfl rfl rfl ?_
                  refine G_iload_n (i := 2) C 382 dX11_next_381 rfl rfl rfl ?_
                  refine G_if_eq C 389 385 dX11_next_382 rfl rfl (fun c => absurd c (by decide)) (fun _ => ?_)
                  refine G_iload_n (i := 1) C 386 dX11_next_385 rfl rfl rfl ?_
                  refine G_goto C 390 dX11_next_386 rfl ?_
                  refine X11_105p C 393 dX11_next_390 rfl (fun s390 es390 => ?_)
                  have f_4 : t_N s s390 := t_N.up f_3 es390 (by decide)
                  have f18_4 : s390 0 18 = nI k := by rw [es390, g_up_sj]; exact (if_neg (by decide)).trans f18_3
                  have f19_4 : s390 0 19 = nI k := by rw [es390, g_up_sj]; exact (if_neg (by decide)).trans f19_3
                  have f20_4 : s390 0 20 = x90 := by rw [es390, g_up_sj]; exact if_pos rfl
                  have f21_4 : s390 0 21 = nI 0 := by rw [es390, g_up_sj]; exact (if_neg (by decide)).trans f21_3
                  refine G_aload_n (i := 0) C 394 dX11_next_393 rfl rfl rfl ?_
                  refine G_dup C 395 dX11_next_394 rfl rfl ?_
                  refine X11_99g C 398 dX11_next_395 rfl (fun x395 ex395 => ?_)
                  have Sx395 : x395 = nI k := ex395.trans f18_4
                  refine G_iconst (v := 1) C 399 dX11_next_398 rfl rfl ?_
                  refine G_iadd C 400 dX11_next_399 rfl (fun x399 ex399 => ?_)
                  have Nx399 : x399 = nI (k + 1) := g_addN ex399 Sx395 rfl
                  refine X11_99p C 403 dX11_next_400 rfl (fun s400 es400 => ?_)
                  have f_5 : t_N s s400 := t_N.up f_4 es400 (by decide)
                  have f18_5 : s400 0 18 = nI (k + 1) := by rw [es400, g_up_sj]; exact (if_pos rfl).trans Nx399
                  have f19_5 : s400 0 19 = nI k := by rw [es400, g_up_sj]; exact (if_neg (by decide)).trans f19_4
                  have f20_5 : s400 0 20 = x90 := by rw [es400, g_up_sj]; exact (if_neg (by decide)).trans f20_4
                  have f21_5 : s400 0 21 = nI 0 := by rw [es400, g_up_sj]; exact (if_neg (by decide)).trans f21_4
                  have hsg : t_cd (s 5) e k = t_sg x90 := by unfold t_cd; rw [if_pos (by rw [← Sx90]; exact k100), if_pos (by rw [← Sx90]; exact k225), Sx90]
                  exact G_vret C dX11_next_403 (⟨f_5, f19_5.trans (by rw [hi]), f18_5.trans (by rw [hnx]; unfold t_nx; rw [if_pos (by rw [← Sx90]; exact k100), if_pos (by rw [← Sx90]; exact k225)]), f20_5.trans (by rw [hcd, hsg, c335]; decide), by rw [hcd, hsg, c335]; exact t_V0 (by decide)⟩)
                ·
                  refine G_iload_n (i := 1) C 339 dX11_next_338 rfl rfl rfl ?_
                  refine G_bipush (v := 59) C 341 dX11_next_339 rfl rfl ?_
                  refine G_icmp_eq C 374 344 dX11_next_341 rfl rfl (fun c341 => ?_) (fun c341 => ?_)
                  ·
                    refine G_iconst (v := 1) C 375 dX11_next_374 rfl rfl ?_
                    refine G_goto C 379 dX11_next_375 rfl ?_
                    refine G_istore_n (i := 2) (L' := [some (.ref (e_ad E 0)), some (.int x90), some (.int 1)]) C 380 dX11_next_379 rfl rfl (Nat.le_of_ble_eq_true rfl) rfl rfl ?_
                    refine G_aload_n (i := 0) C 381 dX11_next_380 rfl rfl rfl ?_
                    refine G_iload_n (i := 2) C 382 dX11_next_381 rfl rfl rfl ?_
                    refine G_if_eq C 389 385 dX11_next_382 rfl rfl (fun c => absurd c (by decide)) (fun _ => ?_)
                    refine G_iload_n (i := 1) C 386 dX11_next_385 rfl rfl rfl ?_
                    refine G_goto C 390 dX11_next_386 rfl ?_
                    refine X11_105p C 393 dX11_next_390 rfl (fun s390 es390 => ?_)
                    have f_4 : t_N s s390 := t_N.up f_3 es390 (by decide)
                    have f18_4 : s390 0 18 = nI k := by rw [es390, g_up_sj]; exact (if_neg (by decide)).trans f18_3
                    have f19_4 : s390 0 19 = nI k := by rw [es390, g_up_sj]; exact (if_neg (by decide)).trans f19_3
                    have f20_4 : s390 0 20 = x90 := by rw [es390, g_up_sj]; exact if_pos rfl
                    have f21_4 : s390 0 21 = nI 0 := by rw [es390, g_up_sj]; exact (if_neg (by decide)).trans f21_3
                    refine G_aload_n (i := 0) C 394 dX11_next_393 rfl rfl rfl ?_
                    refine G_dup C 395 dX11_next_394 rfl rfl ?_
                    refine X11_99g C 398 dX11_next_395 rfl (fun x395 ex395 => ?_)
                    have Sx395 : x395 = nI k := ex395.trans f18_4
                    refine G_iconst (v := 1) C 399 dX11_next_398 rfl rfl ?_
                    refine G_iadd C 400 dX11_next_399 rfl (fun x399 ex399 => ?_)
                    have Nx399 : x399 = nI (k + 1) := g_addN ex399 Sx395 rfl
                    refine X11_99p C 403 dX11_next_400 rfl (fun s400 es400 => ?_)
                    have f_5 : t_N s s400 := t_N.up f_4 es400 (by decide)
                    have f18_5 : s400 0 18 = nI (k + 1) := by rw [es400, g_up_sj]; exact (if_pos rfl).trans Nx399
                    have f19_5 : s400 0 19 = nI k := by rw [es400, g_up_sj]; exact (if_neg (by decide)).trans f19_4
                    have f20_5 : s400 0 20 = x90 := by rw [es400, g_up_sj]; exact (if_neg (by decide)).trans f20_4
                    have f21_5 : s400 0 21 = nI 0 := by rw [es400, g_up_sj]; exact (if_neg (by decide)).trans f21_4
                    have hsg : t_cd (s 5) e k = t_sg x90 := by unfold t_cd; rw [if_pos (by rw [← Sx90]; exact k100), if_pos (by rw [← Sx90]; exact k225), Sx90]
                    exact G_vret C dX11_next_403 (⟨f_5, f19_5.trans (by rw [hi]), f18_5.trans (by rw [hnx]; unfold t_nx; rw [if_pos (by rw [← Sx90]; exact k100), if_pos (by rw [← Sx90]; exact k225)]), f20_5.trans (by rw [hcd, hsg, c341]; decide), by rw [hcd, hsg, c341]; exact t_V0 (by decide)⟩)
                  ·
                    refine G_iload_n (i := 1) C 345 dX11_next_344 rfl rfl rfl ?_
                    refine G_bipush (v := 43) C 347 dX11_next_345 rfl rfl ?_
                    refine G_icmp_eq C 374 350 dX11_next_347 rfl rfl (fun c347 => ?_) (fun c347 => ?_)
                    ·
                      refine G_iconst (v := 1) C 375 dX11_next_374 rfl rfl ?_
                      refine G_goto C 379 dX11_next_375 rfl ?_
                      refine G_istore_n (i := 2) (L' := [some (.ref (e_ad E 0)), some (.int x90), some (.int 1)]) C 380 dX11_next_379 rfl rfl (Nat.le_of_ble_eq_true rfl) rfl rfl ?_
                      refine G_aload_n (i := 0) C 381 dX11_next_380 rfl rfl rfl ?_
                      refine G_iload_n (i := 2) C 382 dX11_next_381 rfl rfl rfl ?_
                      refine G_if_eq C 389 385 dX11_next_382 rfl rfl (fun c => absurd c (by decide)) (fun _ => ?_)
                      refine G_iload_n (i := 1) C 386 dX11_next_385 rfl rfl rfl ?_
                      refine G_goto C 390 dX11_next_386 rfl ?_
                      refine X11_105p C 393 dX11_next_390 rfl (fun s390 es390 => ?_)
                      have f_4 : t_N s s390 := t_N.up f_3 es390 (by decide)
                      have f18_4 : s390 0 18 = nI k := by rw [es390, g_up_sj]; exact (if_neg (by decide)).trans f18_3
                      have f19_4 : s390 0 19 = nI k := by rw [es390, g_up_sj]; exact (if_neg (by decide)).trans f19_3
                      have f20_4 : s390 0 20 = x90 := by rw [es390, g_up_sj]; exact if_pos rfl
                      have f21_4 : s390 0 21 = nI 0 := by rw [es390, g_up_sj]; exact (if_neg (by decide)).trans f21_3
                      refine G_aload_n (i := 0) C 394 dX11_next_393 rfl rfl rfl ?_
                      refine G_dup C 395 dX11_next_394 rfl rfl ?_
                      refine X11_99g C 398 dX11_next_395 rfl (fun x395 ex395 => ?_)
                      have Sx395 : x395 = nI k := ex395.trans f18_4
                      refine G_iconst (v := 1) C 399 dX11_next_398 rfl rfl ?_
                      refine G_iadd C 400 dX11_next_399 rfl (fun x399 ex399 => ?_)
                      have Nx399 : x399 = nI (k + 1) := g_addN ex399 Sx395 rfl
                      refine X11_99p C 403 dX11_next_400 rfl (fun s400 es400 => ?_)
                      have f_5 : t_N s s400 := t_N.up f_4 es400 (by decide)
                      have f18_5 : s400 0 18 = nI (k + 1) := by rw [es400, g_up_sj]; exact (if_pos rfl).trans Nx399
                      have f19_5 : s400 0 19 = nI k := by rw [es400, g_up_sj]; exact (if_neg (by decide)).trans f19_4
                      have f20_5 : s400 0 20 = x90 := by rw [es400, g_up_sj]; exact (if_neg (by decide)).trans f20_4
                      have f21_5 : s400 0 21 = nI 0 := by rw [es400, g_up_sj]; exact (if_neg (by decide)).trans f21_4
                      have hsg : t_cd (s 5) e k = t_sg x90 := by unfold t_cd; rw [if_pos (by rw [← Sx90]; exact k100), if_pos (by rw [← Sx90]; exact k225), Sx90]
                      exact G_vret C dX11_next_403 (⟨f_5, f19_5.trans (by rw [hi]), f18_5.trans (by rw [hnx]; unfold t_nx; rw [if_pos (by rw [← Sx90]; exact k100), if_pos (by rw [← Sx90]; exact k225)]), f20_5.trans (by rw [hcd, hsg, c347]; decide), by rw [hcd, hsg, c347]; exact t_V0 (by decide)⟩)
                    ·
                      refine G_iload_n (i := 1) C 351 dX11_next_350 rfl rfl rfl ?_
                      refine G_bipush (v := 45) C 353 dX11_next_351 rfl rfl ?_
                      refine G_icmp_eq C 374 356 dX11_next_353 rfl rfl (fun c353 => ?_) (fun c353 => ?_)
                      ·
                        refine G_iconst (v := 1) C 375 dX11_next_374 rfl rfl ?_
                        refine G_goto C 379 dX11_next_375 rfl ?_
                        refine G_istore_n (i := 2) (L' := [some (.ref (e_ad E 0)), some (.int x90), some (.int 1)]) C 380 dX11_next_379 rfl rfl (Nat.le_of_ble_eq_true rfl) rfl rfl ?_
                        refine G_aload_n (i := 0) C 381 dX11_next_380 rfl rfl rfl ?_
                        refine G_iload_n (i := 2) C 382 dX11_next_381 rfl rfl rfl ?_
                        refine G_if_eq C 389 385 dX11_next_382 rfl rfl (fun c => absurd c (by decide)) (fun _ => ?_)
                        refine G_iload_n (i := 1) C 386 dX11_next_385 rfl rfl rfl ?_
                        refine G_goto C 390 dX11_next_386 rfl ?_
                        refine X11_105p C 393 dX11_next_390 rfl (fun s390 es390 => ?_)
                        have f_4 : t_N s s390 := t_N.up f_3 es390 (by decide)
                        have f18_4 : s390 0 18 = nI k := by rw [es390, g_up_sj]; exact (if_neg (by decide)).trans f18_3
                        have f19_4 : s390 0 19 = nI k := by rw [es390, g_up_sj]; exact (if_neg (by decide)).trans f19_3
                        have f20_4 : s390 0 20 = x90 := by rw [es390, g_up_sj]; exact if_pos rfl
                        have f21_4 : s390 0 21 = nI 0 := by rw [es390, g_up_sj]; exact (if_neg (by decide)).trans f21_3
                        refine G_aload_n (i := 0) C 394 dX11_next_393 rfl rfl rfl ?_
                        refine G_dup C 395 dX11_next_394 rfl rfl ?_
                        refine X11_99g C 398 dX11_next_395 rfl (fun x395 ex395 => ?_)
                        have Sx395 : x395 = nI k := ex395.trans f18_4
                        refine G_iconst (v := 1) C 399 dX11_next_398 rfl rfl ?_
                        refine G_iadd C 400 dX11_next_399 rfl (fun x399 ex399 => ?_)
                        have Nx399 : x399 = nI (k + 1) := g_addN ex399 Sx395 rfl
                        refine X11_99p C 403 dX11_next_400 rfl (fun s400 es400 => ?_)
                        have f_5 : t_N s s400 := t_N.up f_4 es400 (by decide)
                        have f18_5 : s400 0 18 = nI (k + 1) := by rw [es400, g_up_sj]; exact (if_pos rfl).trans Nx399
                        have f19_5 : s400 0 19 = nI k := by rw [es400, g_up_sj]; exact (if_neg (by decide)).trans f19_4
                        have f20_5 : s400 0 20 = x90 := by rw [es400, g_up_sj]; exact (if_neg (by decide)).trans f20_4
                        have f21_5 : s400 0 21 = nI 0 := by rw [es400, g_up_sj]; exact (if_neg (by decide)).trans f21_4
                        have hsg : t_cd (s 5) e k = t_sg x90 := by unfold t_cd; rw [if_pos (by rw [← Sx90]; exact k100), if_pos (by rw [← Sx90]; exact k225), Sx90]
                        exact G_vret C dX11_next_403 (⟨f_5, f19_5.trans (by rw [hi]), f18_5.trans (by rw [hnx]; unfold t_nx; rw [if_pos (by rw [← Sx90]; exact k100), if_pos (by rw [← Sx90]; exact k225)]), f20_5.trans (by rw [hcd, hsg, c353]; decide), by rw [hcd, hsg, c353]; exact t_V0 (by decide)⟩)
                      ·
                        refine G_iload_n (i := 1) C 357 dX11_next_356 rfl rfl rfl ?_
                        refine G_bipush (v := 42) C 359 dX11_next_357 rfl rfl ?_
                        refine G_icmp_eq C 374 362 dX11_next_359 rfl rfl (fun c359 => ?_) (fun c359 => ?_)
                        ·
                          refine G_iconst (v := 1) C 375 dX11_next_374 rfl rfl ?_
                          refine G_goto C 379 dX11_next_375 rfl ?_
                          refine G_istore_n (i := 2) (L' := [some (.ref (e_ad E 0)), some (.int x90), some (.int 1)]) C 380 dX11_next_379 rfl rfl (Nat.le_of_ble_eq_true rfl) rfl rfl ?_
                          refine G_aload_n (i := 0) C 381 dX11_next_380 rfl rfl rfl ?_
                          refine G_iload_n (i := 2) C 382 dX11_next_381 rfl rfl rfl ?_
                          refine G_if_eq C 389 385 dX11_next_382 rfl rfl (fun c => absurd c (by decide)) (fun _ => ?_)
                          refine G_iload_n (i := 1) C 386 dX11_next_385 rfl rfl rfl ?_
                          refine G_goto C 390 dX11_next_386 rfl ?_
                          refine X11_105p C 393 dX11_next_390 rfl (fun s390 es390 => ?_)
                          have f_4 : t_N s s390 := t_N.up f_3 es390 (by decide)
                          have f18_4 : s390 0 18 = nI k := by rw [es390, g_up_sj]; exact (if_neg (by decide)).trans f18_3
                          have f19_4 : s390 0 19 = nI k := by rw [es390, g_up_sj]; exact (if_neg (by decide)).trans f19_3
                          have f20_4 : s390 0 20 = x90 := by rw [es390, g_up_sj]; exact if_pos rfl
                          have f21_4 : s390 0 21 = nI 0 := by rw [es390, g_up_sj]; exact (if_neg (by decide)).trans f21_3
                          refine G_aload_n (i := 0) C 394 dX11_next_393 rfl rfl rfl ?_
                          refine G_dup C 395 dX11_next_394 rfl rfl ?_
                          refine X11_99g C 398 dX11_next_395 rfl (fun x395 ex395 => ?_)
                          have Sx395 : x395 = nI k := ex395.trans f18_4
                          refine G_iconst (v := 1) C 399 dX11_next_398 rfl rfl ?_
                          refine G_iadd C 400 dX11_next_399 rfl (fun x399 ex399 => ?_)
                          have Nx399 : x399 = nI (k + 1) := g_addN ex399 Sx395 rfl
                          refine X11_99p C 403 dX11_next_400 rfl (fun s400 es400 => ?_)
                          have f_5 : t_N s s400 := t_N.up f_4 es400 (by decide)
                          have f18_5 : s400 0 18 = nI (k + 1) := by rw [es400, g_up_sj]; exact (if_pos rfl).trans Nx399
                          have f19_5 : s400 0 19 = nI k := by rw [es400, g_up_sj]; exact (if_neg (by decide)).trans f19_4
                          have f20_5 : s400 0 20 = x90 := by rw [es400, g_up_sj]; exact (if_neg (by decide)).trans f20_4
                          have f21_5 : s400 0 21 = nI 0 := by rw [es400, g_up_sj]; exact (if_neg (by decide)).trans f21_4
                          have hsg : t_cd (s 5) e k = t_sg x90 := by unfold t_cd; rw [if_pos (by rw [← Sx90]; exact k100), if_pos (by rw [← Sx90]; exact k225), Sx90]
                          exact G_vret C dX11_next_403 (⟨f_5, f19_5.trans (by rw [hi]), f18_5.trans (by rw [hnx]; unfold t_nx; rw [if_pos (by rw [← Sx90]; exact k100), if_pos (by rw [← Sx90]; exact k225)]), f20_5.trans (by rw [hcd, hsg, c359]; decide), by rw [hcd, hsg, c359]; exact t_V0 (by decide)⟩)
                        ·
                          refine G_iload_n (i := 1) C 363 dX11_next_362 rfl rfl rfl ?_
                          refine G_bipush (v := 60) C 365 dX11_next_363 rfl rfl ?_
                          refine G_icmp_eq C 374 368 dX11_next_365 rfl rfl (fun c365 => ?_) (fun c365 => ?_)
                          ·
                            refine G_iconst (v := 1) C 375 dX11_next_374 rfl rfl ?_
                            refine G_goto C 379 dX11_next_375 rfl ?_
                            refine G_istore_n (i := 2) (L' := [some (.ref (e_ad E 0)), some (.int x90), some (.int 1)]) C 380 dX11_next_379 rfl rfl (Nat.le_of_ble_eq_true rfl) rfl rfl ?_
                            refine G_aload_n (i := 0) C 381 dX11_next_380 rfl rfl rfl ?_
                            refine G_iload_n (i := 2) C 382 dX11_next_381 rfl rfl rfl ?_
                            refine G_if_eq C 389 385 dX11_next_382 rfl rfl (fun c => absurd c (by decide)) (fun _ => ?_)
                            refine G_iload_n (i := 1) C 386 dX11_next_385 rfl rfl rfl ?_
                            refine G_goto C 390 dX11_next_386 rfl ?_
                            refine X11_105p C 393 dX11_next_390 rfl (fun s390 es390 => ?_)
                            have f_4 : t_N s s390 := t_N.up f_3 es390 (by decide)
                            have f18_4 : s390 0 18 = nI k := by rw [es390, g_up_sj]; exact (if_neg (by decide)).trans f18_3
                            have f19_4 : s390 0 19 = nI k := by rw [es390, g_up_sj]; exact (if_neg (by decide)).trans f19_3
                            have f20_4 : s390 0 20 = x90 := by rw [es390, g_up_sj]; exact if_pos rfl
                            have f21_4 : s390 0 21 = nI 0 := by rw [es390, g_up_sj]; exact (if_neg (by decide)).trans f21_3
                            refine G_aload_n (i := 0) C 394 dX11_next_393 rfl rfl rfl ?_
                            refine G_dup C 395 dX11_next_394 rfl rfl ?_
                            refine X11_99g C 398 dX11_next_395 rfl (fun x395 ex395 => ?_)
                            have Sx395 : x395 = nI k := ex395.trans f18_4
                            refine G_iconst (v := 1) C 399 dX11_next_398 rfl rfl ?_
                            refine G_iadd C 400 dX11_next_399 rfl (fun x399 ex399 => ?_)
                            have Nx399 : x399 = nI (k + 1) := g_addN ex399 Sx395 rfl
                            refine X11_99p C 403 dX11_next_400 rfl (fun s400 es400 => ?_)
                            have f_5 : t_N s s400 := t_N.up f_4 es400 (by decide)
                            have f18_5 : s400 0 18 = nI (k + 1) := by rw [es400, g_up_sj]; exact (if_pos rfl).trans Nx399
                            have f19_5 : s400 0 19 = nI k := by rw [es400, g_up_sj]; exact (if_neg (by decide)).trans f19_4
                            have f20_5 : s400 0 20 = x90 := by rw [es400, g_up_sj]; exact (if_neg (by decide)).trans f20_4
                            have f21_5 : s400 0 21 = nI 0 := by rw [es400, g_up_sj]; exact (if_neg (by decide)).trans f21_4
                            have hsg : t_cd (s 5) e k = t_sg x90 := by unfold t_cd; rw [if_pos (by rw [← Sx90]; exact k100), if_pos (by rw [← Sx90]; exact k225), Sx90]
                            exact G_vret C dX11_next_403 (⟨f_5, f19_5.trans (by rw [hi]), f18_5.trans (by rw [hnx]; unfold t_nx; rw [if_pos (by rw [← Sx90]; exact k100), if_pos (by rw [← Sx90]; exact k225)]), f20_5.trans (by rw [hcd, hsg, c365]; decide), by rw [hcd, hsg, c365]; exact t_V0 (by decide)⟩)
                          ·
                            refine G_iload_n (i := 1) C 369 dX11_next_368 rfl rfl rfl ?_
                            refine G_bipush (v := 61) C 371 dX11_next_369 rfl rfl ?_
                            refine G_icmp_ne C 378 374 dX11_next_371 rfl rfl (fun c371 => ?_) (fun c371 => ?_)
                            ·
                              refine G_iconst (v := 0) C 379 dX11_next_378 rfl rfl ?_
                              refine G_istore_n (i := 2) (L' := [some (.ref (e_ad E 0)), some (.int x90), some (.int 0)]) C 380 dX11_next_379 rfl rfl (Nat.le_of_ble_eq_true rfl) rfl rfl ?_
                              refine G_aload_n (i := 0) C 381 dX11_next_380 rfl rfl rfl ?_
                              refine G_iload_n (i := 2) C 382 dX11_next_381 rfl rfl rfl ?_
                              refine G_if_eq C 389 385 dX11_next_382 rfl rfl (fun _ => ?_) (fun c => absurd c (by decide))
                              refine G_iconst (v := (-1)) C 390 dX11_next_389 rfl rfl ?_
                              refine X11_105p C 393 dX11_next_390 rfl (fun s390 es390 => ?_)
                              have f_4 : t_N s s390 := t_N.up f_3 es390 (by decide)
                              have f18_4 : s390 0 18 = nI k := by rw [es390, g_up_sj]; exact (if_neg (by decide)).trans f18_3
                              have f19_4 : s390 0 19 = nI k := by rw [es390, g_up_sj]; exact (if_neg (by decide)).trans f19_3
                              have f20_4 : s390 0 20 = (-1) := by rw [es390, g_up_sj]; exact if_pos rfl
                              have f21_4 : s390 0 21 = nI 0 := by rw [es390, g_up_sj]; exact (if_neg (by decide)).trans f21_3
                              refine G_aload_n (i := 0) C 394 dX11_next_393 rfl rfl rfl ?_
                              refine G_dup C 395 dX11_next_394 rfl rfl ?_
                              refine X11_99g C 398 dX11_next_395 rfl (fun x395 ex395 => ?_)
                              have Sx395 : x395 = nI k := ex395.trans f18_4
                              refine G_iconst (v := 1) C 399 dX11_next_398 rfl rfl ?_
                              refine G_iadd C 400 dX11_next_399 rfl (fun x399 ex399 => ?_)
                              have Nx399 : x399 = nI (k + 1) := g_addN ex399 Sx395 rfl
                              refine X11_99p C 403 dX11_next_400 rfl (fun s400 es400 => ?_)
                              have f_5 : t_N s s400 := t_N.up f_4 es400 (by decide)
                              have f18_5 : s400 0 18 = nI (k + 1) := by rw [es400, g_up_sj]; exact (if_pos rfl).trans Nx399
                              have f19_5 : s400 0 19 = nI k := by rw [es400, g_up_sj]; exact (if_neg (by decide)).trans f19_4
                              have f20_5 : s400 0 20 = (-1) := by rw [es400, g_up_sj]; exact (if_neg (by decide)).trans f20_4
                              have f21_5 : s400 0 21 = nI 0 := by rw [es400, g_up_sj]; exact (if_neg (by decide)).trans f21_4
                              have hsg : t_cd (s 5) e k = t_sg x90 := by unfold t_cd; rw [if_pos (by rw [← Sx90]; exact k100), if_pos (by rw [← Sx90]; exact k225), Sx90]
                              have hs1 : t_sg x90 = 1 := by unfold t_sg; rw [if_neg c329, if_neg c335, if_neg c341, if_neg c347, if_neg c353, if_neg c359, if_neg c365, if_neg c371]
                              exact G_vret C dX11_next_403 (⟨f_5, f19_5.trans (by rw [hi]), f18_5.trans (by rw [hnx]; unfold t_nx; rw [if_pos (by rw [← Sx90]; exact k100), if_pos (by rw [← Sx90]; exact k225)]), f20_5.trans (by rw [hcd, hsg, hs1]; rfl), by rw [hcd, hsg, hs1]; exact t_V0 (by decide)⟩)
                            ·
                              refine G_iconst (v := 1) C 375 dX11_next_374 rfl rfl ?_
                              refine G_goto C 379 dX11_next_375 rfl ?_
                              refine G_istore_n (i := 2) (L' := [some (.ref (e_ad E 0)), some (.int x90), some (.int 1)]) C 380 dX11_next_379 rfl rfl (Nat.le_of_ble_eq_true rfl) rfl rfl ?_
                              refine G_aload_n (i := 0) C 381 dX11_next_380 rfl rfl rfl ?_
                              refine G_iload_n (i := 2) C 382 dX11_next_381 rfl rfl rfl ?_
                              refine G_if_eq C 389 385 dX11_next_382 rfl rfl (fun c => absurd c (by decide)) (fun _ => ?_)
                              refine G_iload_n (i := 1) C 386 dX11_next_385 rfl rfl rfl ?_
                              refine G_goto C 390 dX11_next_386 rfl ?_
                              refine X11_105p C 393 dX11_next_390 rfl (fun s390 es390 => ?_)
                              have f_4 : t_N s s390 := t_N.up f_3 es390 (by decide)
                              have f18_4 : s390 0 18 = nI k := by rw [es390, g_up_sj]; exact (if_neg (by decide)).trans f18_3
                              have f19_4 : s390 0 19 = nI k := by rw [es390, g_up_sj]; exact (if_neg (by decide)).trans f19_3
                              have f20_4 : s390 0 20 = x90 := by rw [es390, g_up_sj]; exact if_pos rfl
                              have f21_4 : s390 0 21 = nI 0 := by rw [es390, g_up_sj]; exact (if_neg (by decide)).trans f21_3
                              refine G_aload_n (i := 0) C 394 dX11_next_393 rfl rfl rfl ?_
                              refine G_dup C 395 dX11_next_394 rfl rfl ?_
                              refine X11_99g C 398 dX11_next_395 rfl (fun x395 ex395 => ?_)
                              have Sx395 : x395 = nI k := ex395.trans f18_4
                              refine G_iconst (v := 1) C 399 dX11_next_398 rfl rfl ?_
                              refine G_iadd C 400 dX11_next_399 rfl (fun x399 ex399 => ?_)
                              have Nx399 : x399 = nI (k + 1) := g_addN ex399 Sx395 rfl
                              refine X11_99p C 403 dX11_next_400 rfl (fun s400 es400 => ?_)
                              have f_5 : t_N s s400 := t_N.up f_4 es400 (by decide)
                              have f18_5 : s400 0 18 = nI (k + 1) := by rw [es400, g_up_sj]; exact (if_pos rfl).trans Nx399
                              have f19_5 : s400 0 19 = nI k := by rw [es400, g_up_sj]; exact (if_neg (by decide)).trans f19_4
                              have f20_5 : s400 0 20 = x90 := by rw [es400, g_up_sj]; exact (if_neg (by decide)).trans f20_4
                              have f21_5 : s400 0 21 = nI 0 := by rw [es400, g_up_sj]; exact (if_neg (by decide)).trans f21_4
                              have hsg : t_cd (s 5) e k = t_sg x90 := by unfold t_cd; rw [if_pos (by rw [← Sx90]; exact k100), if_pos (by rw [← Sx90]; exact k225), Sx90]
                              exact G_vret C dX11_next_403 (⟨f_5, f19_5.trans (by rw [hi]), f18_5.trans (by rw [hnx]; unfold t_nx; rw [if_pos (by rw [← Sx90]; exact k100), if_pos (by rw [← Sx90]; exact k225)]), f20_5.trans (by rw [hcd, hsg, c371]; decide), by rw [hcd, hsg, c371]; exact t_V0 (by decide)⟩)
            ·
              have k225 := g_neT h222 c225
              refine G_iconst (v := 0) C 229 dX11_next_228 rfl rfl ?_
              refine G_istore_n (i := 2) (L' := [some (.ref (e_ad E 0)), some (.int x90), some (.int 0)]) C 230 dX11_next_229 rfl rfl (Nat.le_of_ble_eq_true rfl) rfl rfl ?_
              have L230 : ∀ (f230 : Nat) (m : Nat) (w : Int32) (sl230 : gS) (Ew : w = nI ((m - k))) (hm1 : k ≤ m) (hm2 : m ≤ e) (hte : t_end (s 5) e 48 57 m = t_end (s 5) e 48 57 k) (hv : m - k ≤ 4 → sl230 0 21 = nI (t_val (s 5) k (m - k))) (fl230 : t_N s sl230) (f18l230 : sl230 0 18 = nI m) (f19l230 : sl230 0 19 = nI k) (f20l230 : sl230 0 20 = nI 0) (f21l230 : sl230 0 21 = sl230 0 21), e < m + f230 → GW SM E (gFin SM E (gQv SM (fun s' => t_N s s' ∧ s' 0 19 = nI (t_pl (s 5) e p) ∧ s' 0 18 = nI (t_n (s 5) e p) ∧ s' 0 20 = t_mt (t_c (s 5) e p) ∧ t_V (t_c (s 5) e p) (s' 0 21)))) 230 [some (.ref (e_ad E 0)), some (.int x90), some (.int w)] [] sl230 := by
                intro f230
                induction f230 with
                | zero =>
                  intro m w sl230 Ew hm1 hm2 hte hv fl230 f18l230 f19l230 f20l230 f21l230 hf230
                  exact absurd hf230 (by omega)
                | succ f230 ih230 =>
                  intro m w sl230 Ew hm1 hm2 hte hv fl230 f18l230 f19l230 f20l230 f21l230 hf230
                  refine G_aload_n (i := 0) C 231 dX11_next_230 rfl rfl rfl ?_
                  refine X11_99g C 234 dX11_next_231 rfl (fun x231 ex231 => ?_)
                  have Sx231 : x231 = nI m := ex231.trans f18l230
                  refine G_aload_n (i := 0) C 235 dX11_next_234 rfl rfl rfl ?_
                  refine X11_67g C 238 dX11_next_235 rfl (fun x235 ex235 => ?_)
                  have Sx235 : x235 = nI e := ex235.trans ((fl230.2 6 (by decide)).trans he)
                  refine G_icmp_ge C 309 241 dX11_next_238 rfl rfl (fun c238 => ?_) (fun c238 => ?_)
                  ·
                    have n238 : ¬ m < e := fun h => c238 ((g_ltN (a := m) (b := e) (hx := Sx231) (hy := Sx235) (by omega) (by omega)).mpr h)
                    have hm : t_end (s 5) e 48 57 k = m := hte.symm.trans (t_end_e (by omega))
                    have hnd : t_nx (s 5) e k = m := by unfold t_nx; rw [if_pos (by rw [← Sx90]; exact k100), if_neg (by rw [← Sx90]; exact k225), hm]
                    have hdd : t_cd (s 5) e k = if 4 < m - k then 1 else 100000 + t_val (s 5) k (m - k) := by unfold t_cd; rw [if_pos (by rw [← Sx90]; exact k100), if_neg (by rw [← Sx90]; exact k225), hm]
                    refine G_aload_n (i := 0) C 310 dX11_next_309 rfl rfl rfl ?_
                    refine G_iload_n (i := 2) C 311 dX11_next_310 rfl rfl rfl ?_
                    refine G_iconst (v := 4) C 312 dX11_next_311 rfl rfl ?_
                    refine G_icmp_le C 319 315 dX11_next_312 rfl rfl (fun c312 => ?_) (fun c312 => ?_)
                    ·
                      have n312 : ¬ 4 < (m - k) := fun h => c312 ((g_ltN (a := 4) (b := (m - k)) (hx := rfl) (hy := Ew) (by omega) (by omega)).mpr h)
                      refine G_iconst (v := 1) C 320 dX11_next_319 rfl rfl ?_
                      refine X11_105p C 323 dX11_next_320 rfl (fun s320 es320 => ?_)
                      have f_4 : t_N s s320 := t_N.up fl230 es320 (by decide)
                      have f18_4 : s320 0 18 = nI m := by rw [es320, g_up_sj]; exact (if_neg (by decide)).trans f18l230
                      have f19_4 : s320 0 19 = nI k := by rw [es320, g_up_sj]; exact (if_neg (by decide)).trans f19l230
                      have f20_4 : s320 0 20 = nI 1 := by rw [es320, g_up_sj]; exact (if_pos rfl).trans rfl
                      have f21_4 : s320 0 21 = sl230 0 21 := by rw [es320, g_up_sj]; exact (if_neg (by decide)).trans f21l230
                      refine G_goto C 403 dX11_next_323 rfl ?_
                      have hv2 : m - k ≤ 4 → s320 0 21 = nI (t_val (s 5) k (m - k)) := fun hh => by rw [es320, g_up_sj, if_neg (by decide)]; exact hv hh
                      exact G_vret C dX11_next_403 (⟨f_4, f19_4.trans (by rw [hi]), f18_4.trans (by rw [hnx, hnd]), f20_4.trans (by rw [hcd, hdd, if_neg n312]; exact (if_pos (by omega)).symm), by
                          rw [hcd, hdd, if_neg n312, hv2 (by omega)]
                          exact ⟨fun _ => by rw [Nat.add_sub_cancel_left], fun q1 q2 => by omega, fun q1 q2 => by omega⟩⟩)
                    ·
                      have n312 : 4 < (m - k) := (g_ltN (a := 4) (b := (m - k)) (hx := rfl) (hy := Ew) (by omega) (by omega)).mp c312
                      refine G_iconst (v := (-1)) C 316 dX11_next_315 rfl rfl ?_
                      refine G_goto C 320 dX11_next_316 rfl ?_
                      refine X11_105p C 323 dX11_next_320 rfl (fun s320 es320 => ?_)
                      have f_4 : t_N s s320 := t_N.up fl230 es320 (by decide)
                      have f18_4 : s320 0 18 = nI m := by rw [es320, g_up_sj]; exact (if_neg (by decide)).trans f18l230
                      have f19_4 : s320 0 19 = nI k := by rw [es320, g_up_sj]; exact (if_neg (by decide)).trans f19l230
                      have f20_4 : s320 0 20 = (-1) := by rw [es320, g_up_sj]; exact if_pos rfl
                      have f21_4 : s320 0 21 = sl230 0 21 := by rw [es320, g_up_sj]; exact (if_neg (by decide)).trans f21l230
                      refine G_goto C 403 dX11_next_323 rfl ?_
                      exact G_vret C dX11_next_403 (⟨f_4, f19_4.trans (by rw [hi]), f18_4.trans (by rw [hnx, hnd]), f20_4.trans (by rw [hcd, hdd, if_pos n312]; rfl), by rw [hcd, hdd, if_pos n312]; exact t_V0 (by decide)⟩)
                  ·
                    have n238 : m < e := (g_ltN (a := m) (b := e) (hx := Sx231) (hy := Sx235) (by omega) (by omega)).mp c238
                    refine G_aload_n (i := 0) C 242 dX11_next_241 rfl rfl rfl ?_
                    refine X11_22g C 245 dX11_next_242 rfl ?_
                    refine G_aload_n (i := 0) C 246 dX11_next_245 rfl rfl rfl ?_
                    refine X11_99g C 249 dX11_next_246 rfl (fun x246 ex246 => ?_)
                    have Sx246 : x246 = nI m := ex246.trans f18l230
                    refine G_iald (n := 160) C 250 (by decide) (eMk (by decide) _ _ _) (m) Sx246 (by omega) (by decide) dX11_next_249 rfl (fun x249 ex249 => ?_)
                    have Sx249 : x249 = s 5 m := ex249.trans (congrFun (fl230.1 5 (by decide)) m)
                    refine G_bipush (v := 48) C 252 dX11_next_250 rfl rfl ?_
                    refine G_bipush (v := 57) C 254 dX11_next_252 rfl rfl ?_
                    refine G_calli 257 (G_runS C Kc_X11_in KS_X11_78 (by omega) (c_X11_in 0 x249 48 57 sl230) rfl rfl (Nat.le_of_ble_eq_true rfl) rfl dX11_next_254) rfl (fun x254 s254 h254 => ?_)
                    obtain ⟨es254, h254⟩ := h254
                    have es254 := es254.symm
                    subst es254
                    refine G_if_eq C 309 260 dX11_next_257 rfl rfl (fun c257 => ?_) (fun c257 => ?_)
                    ·
                      have k257 := h254.symm.trans c257
                      have hm : t_end (s 5) e 48 57 k = m := hte.symm.trans (t_end_n (by omega) (by rw [← Sx249]; exact k257))
                      have hnd : t_nx (s 5) e k = m := by unfold t_nx; rw [if_pos (by rw [← Sx90]; exact k100), if_neg (by rw [← Sx90]; exact k225), hm]
                      have hdd : t_cd (s 5) e k = if 4 < m - k then 1 else 100000 + t_val (s 5) k (m - k) := by unfold t_cd; rw [if_pos (by rw [← Sx90]; exact k100), if_neg (by rw [← Sx90]; exact k225), hm]
                      refine G_aload_n (i := 0) C 310 dX11_next_309 rfl rfl rfl ?_
                      refine G_iload_n (i := 2) C 311 dX11_next_310 rfl rfl rfl ?_
                      refine G_iconst (v := 4) C 312 dX11_next_311 rfl rfl ?_
                      refine G_icmp_le C 319 315 dX11_next_312 rfl rfl (fun c312 => ?_) (fun c312 => ?_)
                      ·
                        have n312 : ¬ 4 < (m - k) := fun h => c312 ((g_ltN (a := 4) (b := (m - k)) (hx := rfl) (hy := Ew) (by omega) (by omega)).mpr h)
                        refine G_iconst (v := 1) C 320 dX11_next_319 rfl rfl ?_
                        refine X11_105p C 323 dX11_next_320 rfl (fun s320 es320 => ?_)
                        have f_4 : t_N s s320 := t_N.up fl230 es320 (by decide)
                        have f18_4 : s320 0 18 = nI m := by rw [es320, g_up_sj]; exact (if_neg (by decide)).trans f18l230
                        have f19_4 : s320 0 19 = nI k := by rw [es320, g_up_sj]; exact (if_neg (by decide)).trans f19l230
                        have f20_4 : s320 0 20 = nI 1 := by rw [es320, g_up_sj]; exact (if_pos rfl).trans rfl
                        have f21_4 : s320 0 21 = sl230 0 21 := by rw [es320, g_up_sj]; exact (if_neg (by decide)).trans f21l230
                        refine G_goto C 403 dX11_next_323 rfl ?_
                        have hv2 : m - k ≤ 4 → s320 0 21 = nI (t_val (s 5) k (m - k)) := fun hh => by rw [es320, g_up_sj, if_neg (by decide)]; exact hv hh
                        exact G_vret C dX11_next_403 (⟨f_4, f19_4.trans (by rw [hi]), f18_4.trans (by rw [hnx, hnd]), f20_4.trans (by rw [hcd, hdd, if_neg n312]; exact (if_pos (by omega)).symm), by
                            rw [hcd, hdd, if_neg n312, hv2 (by omega)]
                            exact ⟨fun _ => by rw [Nat.add_sub_cancel_left], fun q1 q2 => by omega, fun q1 q2 => by omega⟩⟩)
                      ·
                        have n312 : 4 < (m - k) := (g_ltN (a := 4) (b := (m - k)) (hx := rfl) (hy := Ew) (by omega) (by omega)).mp c312
                        refine G_iconst (v := (-1)) C 316 dX11_next_315 rfl rfl ?_
                        refine G_goto C 320 dX11_next_316 rfl ?_
                        refine X11_105p C 323 dX11_next_320 rfl (fun s320 es320 => ?_)
                        have f_4 : t_N s s320 := t_N.up fl230 es320 (by decide)
                        have f18_4 : s320 0 18 = nI m := by rw [es320, g_up_sj]; exact (if_neg (by decide)).trans f18l230
                        have f19_4 : s320 0 19 = nI k := by rw [es320, g_up_sj]; exact (if_neg (by decide)).trans f19l230
                        have f20_4 : s320 0 20 = (-1) := by rw [es320, g_up_sj]; exact if_pos rfl
                        have f21_4 : s320 0 21 = sl230 0 21 := by rw [es320, g_up_sj]; exact (if_neg (by decide)).trans f21l230
                        refine G_goto C 403 dX11_next_323 rfl ?_
                        exact G_vret C dX11_next_403 (⟨f_4, f19_4.trans (by rw [hi]), f18_4.trans (by rw [hnx, hnd]), f20_4.trans (by rw [hcd, hdd, if_pos n312]; rfl), by rw [hcd, hdd, if_pos n312]; exact t_V0 (by decide)⟩)
                    ·
                      have k257 := g_neT h254 c257
                      refine G_aload_n (i := 0) C 261 dX11_next_260 rfl rfl rfl ?_
                      refine G_iload_n (i := 2) C 262 dX11_next_261 rfl rfl rfl ?_
                      refine G_iconst (v := 4) C 263 dX11_next_262 rfl rfl ?_
                      refine G_icmp_ge C 289 266 dX11_next_263 rfl rfl (fun c263 => ?_) (fun c263 => ?_)
                      ·
                        have n263 : ¬ (m - k) < 4 := fun h => c263 ((g_ltN (a := (m - k)) (b := 4) (hx := Ew) (hy := rfl) (by omega) (by omega)).mpr h)
                        refine G_iconst (v := 0) C 290 dX11_next_289 rfl rfl ?_
                        refine X11_108p C 293 dX11_next_290 rfl (fun s290 es290 => ?_)
                        have f_4 : t_N s s290 := t_N.up fl230 es290 (by decide)
                        have f18_4 : s290 0 18 = nI m := by rw [es290, g_up_sj]; exact (if_neg (by decide)).trans f18l230
                        have f19_4 : s290 0 19 = nI k := by rw [es290, g_up_sj]; exact (if_neg (by decide)).trans f19l230
                        have f20_4 : s290 0 20 = nI 0 := by rw [es290, g_up_sj]; exact (if_neg (by decide)).trans f20l230
                        have f21_4 : s290 0 21 = nI 0 := by rw [es290, g_up_sj]; exact (if_pos rfl).trans rfl
                        refine G_iinc (w := 1) C 296 dX11_next_293 rfl rfl rfl rfl (fun x293 ex293 => ?_)
                        have Nx293 : x293 = nI ((m - k) + 1) := g_addN ex293 Ew rfl
                        show GW SM E _ 296 [some (.ref (e_ad E 0)), some (.int x90), some (.int x293)] [] s290
                        refine G_aload_n (i := 0) C 297 dX11_next_296 rfl rfl rfl ?_
                        refine G_dup C 298 dX11_next_297 rfl rfl ?_
                        refine X11_99g C 301 dX11_next_298 rfl (fun x298 ex298 => ?_)
                        have Sx298 : x298 = nI m := ex298.trans f18_4
                        refine G_iconst (v := 1) C 302 dX11_next_301 rfl rfl ?_
                        refine G_iadd C 303 dX11_next_302 rfl (fun x302 ex302 => ?_)
                        have Nx302 : x302 = nI (m + 1) := g_addN ex302 Sx298 rfl
                        refine X11_99p C 306 dX11_next_303 rfl (fun s303 es303 => ?_)
                        have f_5 : t_N s s303 := t_N.up f_4 es303 (by decide)
                        have f18_5 : s303 0 18 = nI (m + 1) := by rw [es303, g_up_sj]; exact (if_pos rfl).trans Nx302
                        have f19_5 : s303 0 19 = nI k := by rw [es303, g_up_sj]; exact (if_neg (by decide)).trans f19_4
                        have f20_5 : s303 0 20 = nI 0 := by rw [es303, g_up_sj]; exact (if_neg (by decide)).trans f20_4
                        have f21_5 : s303 0 21 = nI 0 := by rw [es303, g_up_sj]; exact (if_neg (by decide)).trans f21_4
                        refine G_goto C 230 dX11_next_306 rfl ?_
                        exact ih230 (m + 1) x293 s303 (g_cn (a := ((m - k) + 1)) Nx293 (by first | rfl | omega | (simp only [List.length_cons, List.length_drop]; done) | (simp only [List.length_cons, List.length_drop]; omega))) (by omega) (by omega) ((t_end_s (by omega) (by rw [← Sx249]; exact k257)).symm.trans hte) (fun hh => by omega) f_5 (f18_5) (f19_5) (f20_5) (rfl) (by omega)
                      ·
                        have n263 : (m - k) < 4 := (g_ltN (a := (m - k)) (b := 4) (hx := Ew) (hy := rfl) (by omega) (by omega)).mp c263
                        refine G_bipush (v := 10) C 268 dX11_next_266 rfl rfl ?_
                        refine G_aload_n (i := 0) C 269 dX11_next_268 rfl rfl rfl ?_
                        refine X11_108g C 272 dX11_next_269 rfl (fun x269 ex269 => ?_)
                        refine G_imul C 273 dX11_next_272 rfl (fun x272 ex272 => ?_)
                        refine G_aload_n (i := 0) C 274 dX11_next_273 rfl rfl rfl ?_
                        refine X11_22g C 277 dX11_next_274 rfl ?_
                        refine G_aload_n (i := 0) C 278 dX11_next_277 rfl rfl rfl ?_
                        refine X11_99g C 281 dX11_next_278 rfl (fun x278 ex278 => ?_)
                        have Sx278 : x278 = nI m := ex278.trans f18l230
                        refine G_iald (n := 160) C 282 (by decide) (eMk (by decide) _ _ _) (m) Sx278 (by omega) (by decide) dX11_next_281 rfl (fun x281 ex281 => ?_)
                        have Sx281 : x281 = s 5 m := ex281.trans (congrFun (fl230.1 5 (by decide)) m)
                        refine G_iadd C 283 dX11_next_282 rfl (fun x282 ex282 => ?_)
                        refine G_bipush (v := 48) C 285 dX11_next_283 rfl rfl ?_
                        refine G_isub C 286 dX11_next_285 rfl (fun x285 ex285 => ?_)
                        refine G_goto C 290 dX11_next_286 rfl ?_
                        refine X11_108p C 293 dX11_next_290 rfl (fun s290 es290 => ?_)
                        have f_4 : t_N s s290 := t_N.up fl230 es290 (by decide)
                        have f18_4 : s290 0 18 = nI m := by rw [es290, g_up_sj]; exact (if_neg (by decide)).trans f18l230
                        have f19_4 : s290 0 19 = nI k := by rw [es290, g_up_sj]; exact (if_neg (by decide)).trans f19l230
                        have f20_4 : s290 0 20 = nI 0 := by rw [es290, g_up_sj]; exact (if_neg (by decide)).trans f20l230
                        have f21_4 : s290 0 21 = x285 := by rw [es290, g_up_sj]; exact if_pos rfl
                        refine G_iinc (w := 1) C 296 dX11_next_293 rfl rfl rfl rfl (fun x293 ex293 => ?_)
                        have Nx293 : x293 = nI ((m - k) + 1) := g_addN ex293 Ew rfl
                        show GW SM E _ 296 [some (.ref (e_ad E 0)), some (.int x90), some (.int x293)] [] s290
                        refine G_aload_n (i := 0) C 297 dX11_next_296 rfl rfl rfl ?_
                        refine G_dup C 298 dX11_next_297 rfl rfl ?_
                        refine X11_99g C 301 dX11_next_298 rfl (fun x298 ex298 => ?_)
                        have Sx298 : x298 = nI m := ex298.trans f18_4
                        refine G_iconst (v := 1) C 302 dX11_next_301 rfl rfl ?_
                        refine G_iadd C 303 dX11_next_302 rfl (fun x302 ex302 => ?_)
                        have Nx302 : x302 = nI (m + 1) := g_addN ex302 Sx298 rfl
                        refine X11_99p C 306 dX11_next_303 rfl (fun s303 es303 => ?_)
                        have f_5 : t_N s s303 := t_N.up f_4 es303 (by decide)
                        have f18_5 : s303 0 18 = nI (m + 1) := by rw [es303, g_up_sj]; exact (if_pos rfl).trans Nx302
                        have f19_5 : s303 0 19 = nI k := by rw [es303, g_up_sj]; exact (if_neg (by decide)).trans f19_4
                        have f20_5 : s303 0 20 = nI 0 := by rw [es303, g_up_sj]; exact (if_neg (by decide)).trans f20_4
                        have f21_5 : s303 0 21 = x285 := by rw [es303, g_up_sj]; exact (if_neg (by decide)).trans f21_4
                        refine G_goto C 230 dX11_next_306 rfl ?_
                        exact ih230 (m + 1) x293 s303 (g_cn (a := ((m - k) + 1)) Nx293 (by first | rfl | omega | (simp only [List.length_cons, List.length_drop]; done) | (simp only [List.length_cons, List.length_drop]; omega))) (by omega) (by omega) ((t_end_s (by omega) (by rw [← Sx249]; exact k257)).symm.trans hte) (fun hh => by
                                rw [es303, g_up_sj, if_neg (by decide), es290, g_up_sj, if_pos rfl, show m + 1 - k = (m - k) + 1 by omega]
                                exact t_valS (ex269.trans (hv (by omega))) (by rw [show k + (m - k) = m by omega, ← Sx249]; exact k257) (by rw [show k + (m - k) = m by omega]; exact Sx281) ex272 ex282 ex285) f_5 (f18_5) (f19_5) (f20_5) (rfl) (by omega)
              exact L230 (e + 1) k 0 s67 (g_cn (a := 0) rfl (by first | rfl | omega)) (by omega) (by omega) (rfl) (fun _ => by rw [Nat.sub_self]; exact f21_3) f_3 (f18_3) (f19_3) (f20_3) (rfl) (by omega)
          ·
            have k100 := g_neT h97 c100
            have L103 : ∀ (f103 : Nat) (m : Nat) (sl103 : gS) (hm1 : k ≤ m) (hm2 : m ≤ e) (hte : t_end (s 5) e 97 122 m = t_end (s 5) e 97 122 k) (fl103 : t_N s sl103) (f18l103 : sl103 0 18 = nI m) (f19l103 : sl103 0 19 = nI k) (f20l103 : sl103 0 20 = nI 0) (f21l103 : sl103 0 21 = nI 0), e < m + f103 → GW SM E (gFin SM E (gQv SM (fun s' => t_N s s' ∧ s' 0 19 = nI (t_pl (s 5) e p) ∧ s' 0 18 = nI (t_n (s 5) e p) ∧ s' 0 20 = t_mt (t_c (s 5) e p) ∧ t_V (t_c (s 5) e p) (s' 0 21)))) 103 [some (.ref (e_ad E 0)), some (.int x90), none] [] sl103 := by
              intro f103
              induction f103 with
              | zero =>
                intro m sl103 hm1 hm2 hte fl103 f18l103 f19l103 f20l103 f21l103 hf103
                exact absurd hf103 (by omega)
              | succ f103 ih103 =>
                intro m sl103 hm1 hm2 hte fl103 f18l103 f19l103 f20l103 f21l103 hf103
                refine G_aload_n (i := 0) C 104 dX11_next_103 rfl rfl rfl ?_
                refine X11_99g C 107 dX11_next_104 rfl (fun x104 ex104 => ?_)
                have Sx104 : x104 = nI m := ex104.trans f18l103
                refine G_aload_n (i := 0) C 108 dX11_next_107 rfl rfl rfl ?_
                refine X11_67g C 111 dX11_next_108 rfl (fun x108 ex108 => ?_)
                have Sx108 : x108 = nI e := ex108.trans ((fl103.2 6 (by decide)).trans he)
                refine G_icmp_ge C 146 114 dX11_next_111 rfl rfl (fun c111 => ?_) (fun c111 => ?_)
                ·
                  have n111 : ¬ m < e := fun h => c111 ((g_ltN (a := m) (b := e) (hx := Sx104) (hy := Sx108) (by omega) (by omega)).mpr h)
                  have hm : t_end (s 5) e 97 122 k = m := hte.symm.trans (t_end_e (by omega))
                  have hN5 : sl103 5 = s 5 := fl103.1 5 (by decide)
                  refine G_aload_n (i := 0) C 147 dX11_next_146 rfl rfl rfl ?_
                  refine G_aload_n (i := 0) C 148 dX11_next_147 rfl rfl rfl ?_
                  refine X11_102g C 151 dX11_next_148 rfl (fun x148 ex148 => ?_)
                  have Sx148 : x148 = nI k := ex148.trans f19l103
                  refine G_aload_n (i := 0) C 152 dX11_next_151 rfl rfl rfl ?_
                  refine X11_99g C 155 dX11_next_152 rfl (fun x152 ex152 => ?_)
                  have Sx152 : x152 = nI m := ex152.trans f18l103
                  refine G_calli 158 (G_runV C Kc_X11_wordFrom KV_X11_111 (by omega) (by decide) (eM _ _ _) rfl (c_X11_wordFrom 0 sl103 x148 x152 k m Sx148 Sx152 (by omega) (by omega) (fun q hq => by rw [hN5]; exact t_end_in (e := e) (p := k) (by omega) (by rw [hm]; omega))) rfl rfl rfl (Nat.le_of_ble_eq_true rfl) rfl dX11_next_155) rfl (fun x155 s155 h155 => ?_)
                  obtain ⟨es155, h155⟩ := h155
                  have es155 := es155.symm
                  subst es155
                  obtain ⟨w, hw12, ew, hw1, hw2⟩ := h155
                  rw [hN5] at hw1 hw2
                  have hkw : t_cd (s 5) e k = t_kc w := by
                    unfold t_cd
                    rw [if_neg (by rw [← Sx90]; exact k100), hm]
                    by_cases hw : w < 12
                    · exact t_kw_yes hw (hw1 hw)
                    · have e12 : w = 12 := by omega
                      rw [e12, t_kw_no (fun q hq => hw2 q (by omega))]
                      rfl
                  have hnw : t_nx (s 5) e k = m := by unfold t_nx; rw [if_neg (by rw [← Sx90]; exact k100), hm]
                  refine G_istore_n (i := 2) (L' := [some (.ref (e_ad E 0)), some (.int x90), some (.int x155)]) C 159 dX11_next_158 rfl rfl (Nat.le_of_ble_eq_true rfl) rfl rfl ?_
                  refine G_aload_n (i := 0) C 160 dX11_next_159 rfl rfl rfl ?_
                  refine G_iload_n (i := 2) C 161 dX11_next_160 rfl rfl rfl ?_
                  refine G_iconst (v := 3) C 162 dX11_next_161 rfl rfl ?_
                  refine G_icmp_ge C 169 165 dX11_next_162 rfl rfl (fun c162 => ?_) (fun c162 => ?_)
                  ·
                    have n162 : ¬ w < 3 := fun h => c162 ((g_ltN (a := w) (b := 3) (hx := ew) (hy := rfl) (by omega) (by omega)).mpr h)
                    refine G_iload_n (i := 2) C 170 dX11_next_169 rfl rfl rfl ?_
                    refine G_bipush (v := 9) C 172 dX11_next_170 rfl rfl ?_
                    refine G_icmp_ge C 179 175 dX11_next_172 rfl rfl (fun c172 => ?_) (fun c172 => ?_)
                    ·
                      have n172 : ¬ w < 9 := fun h => c172 ((g_ltN (a := w) (b := 9) (hx := ew) (hy := rfl) (by omega) (by omega)).mpr h)
                      refine G_iload_n (i := 2) C 180 dX11_next_179 rfl rfl rfl ?_
                      refine G_bipush (v := 12) C 182 dX11_next_180 rfl rfl ?_
                      refine G_icmp_ne C 189 185 dX11_next_182 rfl rfl (fun c182 => ?_) (fun c182 => ?_)
                      ·
                        have n182 : ¬ w = 12 := fun h => c182 ((g_eqN (a := w) (b := 12) (hx := ew) (hy := rfl) (by omega) (by omega)).mpr h)
                        have k182 := g_neT ew c182
                        refine G_iconst (v := 4) C 190 dX11_next_189 rfl rfl ?_
                        refine G_iload_n (i := 2) C 191 dX11_next_190 rfl rfl rfl ?_
                        refine G_iadd C 192 dX11_next_191 rfl (fun x191 ex191 => ?_)
                        have Nx191 : x191 = nI (4 + w) := g_addN ex191 rfl ew
                        refine G_bipush (v := 9) C 194 dX11_next_192 rfl rfl ?_
                        refine G_isub C 195 dX11_next_194 rfl (fun x194 ex194 => ?_)
                        refine X11_105p C 198 dX11_next_195 rfl (fun s195 es195 => ?_)
                        have f_4 : t_N s s195 := t_N.up fl103 es195 (by decide)
                        have f18_4 : s195 0 18 = nI m := by rw [es195, g_up_sj]; exact (if_neg (by decide)).trans f18l103
                        have f19_4 : s195 0 19 = nI k := by rw [es195, g_up_sj]; exact (if_neg (by decide)).trans f19l103
                        have f20_4 : s195 0 20 = x194 := by rw [es195, g_up_sj]; exact if_pos rfl
                        have f21_4 : s195 0 21 = nI 0 := by rw [es195, g_up_sj]; exact (if_neg (by decide)).trans f21l103
                        refine G_aload_n (i := 0) C 199 dX11_next_198 rfl rfl rfl ?_
                        refine G_iload_n (i := 2) C 200 dX11_next_199 rfl rfl rfl ?_
                        refine G_iconst (v := 3) C 201 dX11_next_200 rfl rfl ?_
                        refine G_icmp_ge C 208 204 dX11_next_201 rfl rfl (fun c201 => ?_) (fun c201 => ?_)
                        ·
                          have n201 : ¬ w < 3 := fun h => c201 ((g_ltN (a := w) (b := 3) (hx := ew) (hy := rfl) (by omega) (by omega)).mpr h)
                          refine G_iload_n (i := 2) C 209 dX11_next_208 rfl rfl rfl ?_
                          refine G_iconst (v := 3) C 210 dX11_next_209 rfl rfl ?_
                          refine G_isub C 211 dX11_next_210 rfl (fun x210 ex210 => ?_)
                          refine X11_108p C 214 dX11_next_211 rfl (fun s211 es211 => ?_)
                          have f_5 : t_N s s211 := t_N.up f_4 es211 (by decide)
                          have f18_5 : s211 0 18 = nI m := by rw [es211, g_up_sj]; exact (if_neg (by decide)).trans f18_4
                          have f19_5 : s211 0 19 = nI k := by rw [es211, g_up_sj]; exact (if_neg (by decide)).trans f19_4
                          have f20_5 : s211 0 20 = x194 := by rw [es211, g_up_sj]; exact (if_neg (by decide)).trans f20_4
                          have f21_5 : s211 0 21 = x210 := by rw [es211, g_up_sj]; exact if_pos rfl
                          refine G_goto C 403 dX11_next_214 rfl ?_
                          exact G_vret C dX11_next_403 (⟨f_5, f19_5.trans (by rw [hi]), f18_5.trans (by rw [hnx, hnw]), f20_5.trans (by rw [hcd, hkw, t_wtok w (by omega), ← ew, if_neg c162, if_neg c172]; rw [← ex191, ← ex194]), by rw [hcd, hkw, f21_5]; have z := t_wval w (by omega); rw [← ew, if_neg c201, ← ex210] at z; exact z⟩)
                        ·
                          exact absurd c201 c162
                      ·
                        have n182 : w = 12 := (g_eqN (a := w) (b := 12) (hx := ew) (hy := rfl) (by omega) (by omega)).mp c182
                        have k182 := ew.symm.trans c182
                        refine G_iconst (v := (-1)) C 186 dX11_next_185 rfl rfl ?_
                        refine G_goto C 195 dX11_next_186 rfl ?_
                        refine X11_105p C 198 dX11_next_195 rfl (fun s195 es195 => ?_)
                        have f_4 : t_N s s195 := t_N.up fl103 es195 (by decide)
                        have f18_4 : s195 0 18 = nI m := by rw [es195, g_up_sj]; exact (if_neg (by decide)).trans f18l103
                        have f19_4 : s195 0 19 = nI k := by rw [es195, g_up_sj]; exact (if_neg (by decide)).trans f19l103
                        have f20_4 : s195 0 20 = (-1) := by rw [es195, g_up_sj]; exact if_pos rfl
                        have f21_4 : s195 0 21 = nI 0 := by rw [es195, g_up_sj]; exact (if_neg (by decide)).trans f21l103
                        refine G_aload_n (i := 0) C 199 dX11_next_198 rfl rfl rfl ?_
                        refine G_iload_n (i := 2) C 200 dX11_next_199 rfl rfl rfl ?_
                        refine G_iconst (v := 3) C 201 dX11_next_200 rfl rfl ?_
                        refine G_icmp_ge C 208 204 dX11_next_201 rfl rfl (fun c201 => ?_) (fun c201 => ?_)
                        ·
                          have n201 : ¬ w < 3 := fun h => c201 ((g_ltN (a := w) (b := 3) (hx := ew) (hy := rfl) (by omega) (by omega)).mpr h)
                          refine G_iload_n (i := 2) C 209 dX11_next_208 rfl rfl rfl ?_
                          refine G_iconst (v := 3) C 210 dX11_next_209 rfl rfl ?_
                          refine G_isub C 211 dX11_next_210 rfl (fun x210 ex210 => ?_)
                          refine X11_108p C 214 dX11_next_211 rfl (fun s211 es211 => ?_)
                          have f_5 : t_N s s211 := t_N.up f_4 es211 (by decide)
                          have f18_5 : s211 0 18 = nI m := by rw [es211, g_up_sj]; exact (if_neg (by decide)).trans f18_4
                          have f19_5 : s211 0 19 = nI k := by rw [es211, g_up_sj]; exact (if_neg (by decide)).trans f19_4
                          have f20_5 : s211 0 20 = (-1) := by rw [es211, g_up_sj]; exact (if_neg (by decide)).trans f20_4
                          have f21_5 : s211 0 21 = x210 := by rw [es211, g_up_sj]; exact if_pos rfl
                          refine G_goto C 403 dX11_next_214 rfl ?_
                          exact G_vret C dX11_next_403 (⟨f_5, f19_5.trans (by rw [hi]), f18_5.trans (by rw [hnx, hnw]), f20_5.trans (by rw [hcd, hkw, n182]; rfl), by rw [hcd, hkw, n182]; exact t_V0 (by decide)⟩)
                        ·
                          exact absurd c201 c162
                    ·
                      have n172 : w < 9 := (g_ltN (a := w) (b := 9) (hx := ew) (hy := rfl) (by omega) (by omega)).mp c172
                      refine G_iconst (v := 2) C 176 dX11_next_175 rfl rfl ?_
                      refine G_goto C 195 dX11_next_176 rfl ?_
                      refine X11_105p C 198 dX11_next_195 rfl (fun s195 es195 => ?_)
                      have f_4 : t_N s s195 := t_N.up fl103 es195 (by decide)
                      have f18_4 : s195 0 18 = nI m := by rw [es195, g_up_sj]; exact (if_neg (by decide)).trans f18l103
                      have f19_4 : s195 0 19 = nI k := by rw [es195, g_up_sj]; exact (if_neg (by decide)).trans f19l103
                      have f20_4 : s195 0 20 = nI 2 := by rw [es195, g_up_sj]; exact (if_pos rfl).trans rfl
                      have f21_4 : s195 0 21 = nI 0 := by rw [es195, g_up_sj]; exact (if_neg (by decide)).trans f21l103
                      refine G_aload_n (i := 0) C 199 dX11_next_198 rfl rfl rfl ?_
                      refine G_iload_n (i := 2) C 200 dX11_next_199 rfl rfl rfl ?_
                      refine G_iconst (v := 3) C 201 dX11_next_200 rfl rfl ?_
                      refine G_icmp_ge C 208 204 dX11_next_201 rfl rfl (fun c201 => ?_) (fun c201 => ?_)
                      ·
                        have n201 : ¬ w < 3 := fun h => c201 ((g_ltN (a := w) (b := 3) (hx := ew) (hy := rfl) (by omega) (by omega)).mpr h)
                        refine G_iload_n (i := 2) C 209 dX11_next_208 rfl rfl rfl ?_
                        refine G_iconst (v := 3) C 210 dX11_next_209 rfl rfl ?_
                        refine G_isub C 211 dX11_next_210 rfl (fun x210 ex210 => ?_)
                        refine X11_108p C 214 dX11_next_211 rfl (fun s211 es211 => ?_)
                        have f_5 : t_N s s211 := t_N.up f_4 es211 (by decide)
                        have f18_5 : s211 0 18 = nI m := by rw [es211, g_up_sj]; exact (if_neg (by decide)).trans f18_4
                        have f19_5 : s211 0 19 = nI k := by rw [es211, g_up_sj]; exact (if_neg (by decide)).trans f19_4
                        have f20_5 : s211 0 20 = nI 2 := by rw [es211, g_up_sj]; exact (if_neg (by decide)).trans f20_4
                        have f21_5 : s211 0 21 = x210 := by rw [es211, g_up_sj]; exact if_pos rfl
                        refine G_goto C 403 dX11_next_214 rfl ?_
                        exact G_vret C dX11_next_403 (⟨f_5, f19_5.trans (by rw [hi]), f18_5.trans (by rw [hnx, hnw]), f20_5.trans (by rw [hcd, hkw, t_wtok w (by omega), ← ew, if_neg c162, if_pos c172] <;> rfl), by rw [hcd, hkw, f21_5]; have z := t_wval w (by omega); rw [← ew, if_neg c201, ← ex210] at z; exact z⟩)
                      ·
                        exact absurd c201 c162
                  ·
                    have n162 : w < 3 := (g_ltN (a := w) (b := 3) (hx := ew) (hy := rfl) (by omega) (by omega)).mp c162
                    refine G_iconst (v := 3) C 166 dX11_next_165 rfl rfl ?_
                    refine G_goto C 195 dX11_next_166 rfl ?_
                    refine X11_105p C 198 dX11_next_195 rfl (fun s195 es195 => ?_)
                    have f_4 : t_N s s195 := t_N.up fl103 es195 (by decide)
                    have f18_4 : s195 0 18 = nI m := by rw [es195, g_up_sj]; exact (if_neg (by decide)).trans f18l103
                    have f19_4 : s195 0 19 = nI k := by rw [es195, g_up_sj]; exact (if_neg (by decide)).trans f19l103
                    have f20_4 : s195 0 20 = nI 3 := by rw [es195, g_up_sj]; exact (if_pos rfl).trans rfl
                    have f21_4 : s195 0 21 = nI 0 := by rw [es195, g_up_sj]; exact (if_neg (by decide)).trans f21l103
                    refine G_aload_n (i := 0) C 199 dX11_next_198 rfl rfl rfl ?_
                    refine G_iload_n (i := 2) C 200 dX11_next_199 rfl rfl rfl ?_
                    refine G_iconst (v := 3) C 201 dX11_next_200 rfl rfl ?_
                    refine G_icmp_ge C 208 204 dX11_next_201 rfl rfl (fun c201 => ?_) (fun c201 => ?_)
                    ·
                      exact absurd c162 c201
                    ·
                      have n201 : w < 3 := (g_ltN (a := w) (b := 3) (hx := ew) (hy := rfl) (by omega) (by omega)).mp c201
                      refine G_iload_n (i := 2) C 205 dX11_next_204 rfl rfl rfl ?_
                      refine G_goto C 211 dX11_next_205 rfl ?_
                      refine X11_108p C 214 dX11_next_211 rfl (fun s211 es211 => ?_)
                      have f_5 : t_N s s211 := t_N.up f_4 es211 (by decide)
                      have f18_5 : s211 0 18 = nI m := by rw [es211, g_up_sj]; exact (if_neg (by decide)).trans f18_4
                      have f19_5 : s211 0 19 = nI k := by rw [es211, g_up_sj]; exact (if_neg (by decide)).trans f19_4
                      have f20_5 : s211 0 20 = nI 3 := by rw [es211, g_up_sj]; exact (if_neg (by decide)).trans f20_4
                      have f21_5 : s211 0 21 = nI w := by rw [es211, g_up_sj]; exact (if_pos rfl).trans ew
                      refine G_goto C 403 dX11_next_214 rfl ?_
                      exact G_vret C dX11_next_403 (⟨f_5, f19_5.trans (by rw [hi]), f18_5.trans (by rw [hnx, hnw]), f20_5.trans (by rw [hcd, hkw, t_wtok w (by omega), ← ew, if_pos c162] <;> rfl), by rw [hcd, hkw, f21_5]; have z := t_wval w (by omega); rw [← ew, if_pos c201, ew] at z; exact z⟩)
                ·
                  have n111 : m < e := (g_ltN (a := m) (b := e) (hx := Sx104) (hy := Sx108) (by omega) (by omega)).mp c111
                  refine G_aload_n (i := 0) C 115 dX11_next_114 rfl rfl rfl ?_
                  refine X11_22g C 118 dX11_next_115 rfl ?_
                  refine G_aload_n (i := 0) C 119 dX11_next_118 rfl rfl rfl ?_
                  refine X11_99g C 122 dX11_next_119 rfl (fun x119 ex119 => ?_)
                  have Sx119 : x119 = nI m := ex119.trans f18l103
                  refine G_iald (n := 160) C 123 (by decide) (eMk (by decide) _ _ _) (m) Sx119 (by omega) (by decide) dX11_next_122 rfl (fun x122 ex122 => ?_)
                  have Sx122 : x122 = s 5 m := ex122.trans (congrFun (fl103.1 5 (by decide)) m)
                  refine G_bipush (v := 97) C 125 dX11_next_123 rfl rfl ?_
                  refine G_bipush (v := 122) C 127 dX11_next_125 rfl rfl ?_
                  refine G_calli 130 (G_runS C Kc_X11_in KS_X11_78 (by omega) (c_X11_in 0 x122 97 122 sl103) rfl rfl (Nat.le_of_ble_eq_true rfl) rfl dX11_next_127) rfl (fun x127 s127 h127 => ?_)
                  obtain ⟨es127, h127⟩ := h127
                  have es127 := es127.symm
                  subst es127
                  refine G_if_eq C 146 133 dX11_next_130 rfl rfl (fun c130 => ?_) (fun c130 => ?_)
                  ·
                    have k130 := h127.symm.trans c130
                    have hm : t_end (s 5) e 97 122 k = m := hte.symm.trans (t_end_n (by omega) (by rw [← Sx122]; exact k130))
                    have hN5 : sl103 5 = s 5 := fl103.1 5 (by decide)
                    refine G_aload_n (i := 0) C 147 dX11_next_146 rfl rfl rfl ?_
                    refine G_aload_n (i := 0) C 148 dX11_next_147 rfl rfl rfl ?_
                    refine X11_102g C 151 dX11_next_148 rfl (fun x148 ex148 => ?_)
                    have Sx148 : x148 = nI k := ex148.trans f19l103
                    refine G_aload_n (i := 0) C 152 dX11_next_151 rfl rfl rfl ?_
                    refine X11_99g C 155 dX11_next_152 rfl (fun x152 ex152 => ?_)
                    have Sx152 : x152 = nI m := ex152.trans f18l103
                    refine G_calli 158 (G_runV C Kc_X11_wordFrom KV_X11_111 (by omega) (by decide) (eM _ _ _) rfl (c_X11_wordFrom 0 sl103 x148 x152 k m Sx148 Sx152 (by omega) (by omega) (fun q hq => by rw [hN5]; exact t_end_in (e := e) (p := k) (by omega) (by rw [hm]; omega))) rfl rfl rfl (Nat.le_of_ble_eq_true rfl) rfl dX11_next_155) rfl (fun x155 s155 h155 => ?_)
                    obtain ⟨es155, h155⟩ := h155
                    have es155 := es155.symm
                    subst es155
                    obtain ⟨w, hw12, ew, hw1, hw2⟩ := h155
                    rw [hN5] at hw1 hw2
                    have hkw : t_cd (s 5) e k = t_kc w := by
                      unfold t_cd
                      rw [if_neg (by rw [← Sx90]; exact k100), hm]
                      by_cases hw : w < 12
                      · exact t_kw_yes hw (hw1 hw)
                      · have e12 : w = 12 := by omega
                        rw [e12, t_kw_no (fun q hq => hw2 q (by omega))]
                        rfl
                    have hnw : t_nx (s 5) e k = m := by unfold t_nx; rw [if_neg (by rw [← Sx90]; exact k100), hm]
                    refine G_istore_n (i := 2) (L' := [some (.ref (e_ad E 0)), some (.int x90), some (.int x155)]) C 159 dX11_next_158 rfl rfl (Nat.le_of_ble_eq_true rfl) rfl rfl ?_
                    refine G_aload_n (i := 0) C 160 dX11_next_159 rfl rfl rfl ?_
                    refine G_iload_n (i := 2) C 161 dX11_next_160 rfl rfl rfl ?_
                    refine G_iconst (v := 3) C 162 dX11_next_161 rfl rfl ?_
                    refine G_icmp_ge C 169 165 dX11_next_162 rfl rfl (fun c162 => ?_) (fun c162 => ?_)
                    ·
                      have n162 : ¬ w < 3 := fun h => c162 ((g_ltN (a := w) (b := 3) (hx := ew) (hy := rfl) (by omega) (by omega)).mpr h)
                      refine G_iload_n (i := 2) C 170 dX11_next_169 rfl rfl rfl ?_
                      refine G_bipush (v := 9) C 172 dX11_next_170 rfl rfl ?_
                      refine G_icmp_ge C 179 175 dX11_next_172 rfl rfl (fun c172 => ?_) (fun c172 => ?_)
                      ·
                        have n172 : ¬ w < 9 := fun h => c172 ((g_ltN (a := w) (b := 9) (hx := ew) (hy := rfl) (by omega) (by omega)).mpr h)
                        refine G_iload_n (i := 2) C 180 dX11_next_179 rfl rfl rfl ?_
                        refine G_bipush (v := 12) C 182 dX11_next_180 rfl rfl ?_
                        refine G_icmp_ne C 189 185 dX11_next_182 rfl rfl (fun c182 => ?_) (fun c182 => ?_)
                        ·
                          have n182 : ¬ w = 12 := fun h => c182 ((g_eqN (a := w) (b := 12) (hx := ew) (hy := rfl) (by omega) (by omega)).mpr h)
                          have k182 := g_neT ew c182
                          refine G_iconst (v := 4) C 190 dX11_next_189 rfl rfl ?_
                          refine G_iload_n (i := 2) C 191 dX11_next_190 rfl rfl rfl ?_
                          refine G_iadd C 192 dX11_next_191 rfl (fun x191 ex191 => ?_)
                          have Nx191 : x191 = nI (4 + w) := g_addN ex191 rfl ew
                          refine G_bipush (v := 9) C 194 dX11_next_192 rfl rfl ?_
                          refine G_isub C 195 dX11_next_194 rfl (fun x194 ex194 => ?_)
                          refine X11_105p C 198 dX11_next_195 rfl (fun s195 es195 => ?_)
                          have f_4 : t_N s s195 := t_N.up fl103 es195 (by decide)
                          have f18_4 : s195 0 18 = nI m := by rw [es195, g_up_sj]; exact (if_neg (by decide)).trans f18l103
                          have f19_4 : s195 0 19 = nI k := by rw [es195, g_up_sj]; exact (if_neg (by decide)).trans f19l103
                          have f20_4 : s195 0 20 = x194 := by rw [es195, g_up_sj]; exact if_pos rfl
                          have f21_4 : s195 0 21 = nI 0 := by rw [es195, g_up_sj]; exact (if_neg (by decide)).trans f21l103
                          refine G_aload_n (i := 0) C 199 dX11_next_198 rfl rfl rfl ?_
                          refine G_iload_n (i := 2) C 200 dX11_next_199 rfl rfl rfl ?_
                          refine G_iconst (v := 3) C 201 dX11_next_200 rfl rfl ?_
                          refine G_icmp_ge C 208 204 dX11_next_201 rfl rfl (fun c201 => ?_) (fun c201 => ?_)
                          ·
                            have n201 : ¬ w < 3 := fun h => c201 ((g_ltN (a := w) (b := 3) (hx := ew) (hy := rfl) (by omega) (by omega)).mpr h)
                            refine G_iload_n (i := 2) C 209 dX11_next_208 rfl rfl rfl ?_
                            refine G_iconst (v := 3) C 210 dX11_next_209 rfl rfl ?_
                            refine G_isub C 211 dX11_next_210 rfl (fun x210 ex210 => ?_)
                            refine X11_108p C 214 dX11_next_211 rfl (fun s211 es211 => ?_)
                            have f_5 : t_N s s211 := t_N.up f_4 es211 (by decide)
                            have f18_5 : s211 0 18 = nI m := by rw [es211, g_up_sj]; exact (if_neg (by decide)).trans f18_4
                            have f19_5 : s211 0 19 = nI k := by rw [es211, g_up_sj]; exact (if_neg (by decide)).trans f19_4
                            have f20_5 : s211 0 20 = x194 := by rw [es211, g_up_sj]; exact (if_neg (by decide)).trans f20_4
                            have f21_5 : s211 0 21 = x210 := by rw [es211, g_up_sj]; exact if_pos rfl
                            refine G_goto C 403 dX11_next_214 rfl ?_
                            exact G_vret C dX11_next_403 (⟨f_5, f19_5.trans (by rw [hi]), f18_5.trans (by rw [hnx, hnw]), f20_5.trans (by rw [hcd, hkw, t_wtok w (by omega), ← ew, if_neg c162, if_neg c172]; rw [← ex191, ← ex194]), by rw [hcd, hkw, f21_5]; have z := t_wval w (by omega); rw [← ew, if_neg c201, ← ex210] at z; exact z⟩)
                          ·
                            exact absurd c201 c162
                        ·
                          have n182 : w = 12 := (g_eqN (a := w) (b := 12) (hx := ew) (hy := rfl) (by omega) (by omega)).mp c182
                          have k182 := ew.symm.trans c182
                          refine G_iconst (v := (-1)) C 186 dX11_next_185 rfl rfl ?_
                          refine G_goto C 195 dX11_next_186 rfl ?_
                          refine X11_105p C 198 dX11_next_195 rfl (fun s195 es195 => ?_)
                          have f_4 : t_N s s195 := t_N.up fl103 es195 (by decide)
                          have f18_4 : s195 0 18 = nI m := by rw [es195, g_up_sj]; exact (if_neg (by decide)).trans f18l103
                          have f19_4 : s195 0 19 = nI k := by rw [es195, g_up_sj]; exact (if_neg (by decide)).trans f19l103
                          have f20_4 : s195 0 20 = (-1) := by rw [es195, g_up_sj]; exact if_pos rfl
                          have f21_4 : s195 0 21 = nI 0 := by rw [es195, g_up_sj]; exact (if_neg (by decide)).trans f21l103
                          refine G_aload_n (i := 0) C 199 dX11_next_198 rfl rfl rfl ?_
                          refine G_iload_n (i := 2) C 200 dX11_next_199 rfl rfl rfl ?_
                          refine G_iconst (v := 3) C 201 dX11_next_200 rfl rfl ?_
                          refine G_icmp_ge C 208 204 dX11_next_201 rfl rfl (fun c201 => ?_) (fun c201 => ?_)
                          ·
                            have n201 : ¬ w < 3 := fun h => c201 ((g_ltN (a := w) (b := 3) (hx := ew) (hy := rfl) (by omega) (by omega)).mpr h)
                            refine G_iload_n (i := 2) C 209 dX11_next_208 rfl rfl rfl ?_
                            refine G_iconst (v := 3) C 210 dX11_next_209 rfl rfl ?_
                            refine G_isub C 211 dX11_next_210 rfl (fun x210 ex210 => ?_)
                            refine X11_108p C 214 dX11_next_211 rfl (fun s211 es211 => ?_)
                            have f_5 : t_N s s211 := t_N.up f_4 es211 (by decide)
                            have f18_5 : s211 0 18 = nI m := by rw [es211, g_up_sj]; exact (if_neg (by decide)).trans f18_4
                            have f19_5 : s211 0 19 = nI k := by rw [es211, g_up_sj]; exact (if_neg (by decide)).trans f19_4
                            have f20_5 : s211 0 20 = (-1) := by rw [es211, g_up_sj]; exact (if_neg (by decide)).trans f20_4
                            have f21_5 : s211 0 21 = x210 := by rw [es211, g_up_sj]; exact if_pos rfl
                            refine G_goto C 403 dX11_next_214 rfl ?_
                            exact G_vret C dX11_next_403 (⟨f_5, f19_5.trans (by rw [hi]), f18_5.trans (by rw [hnx, hnw]), f20_5.trans (by rw [hcd, hkw, n182]; rfl), by rw [hcd, hkw, n182]; exact t_V0 (by decide)⟩)
                          ·
                            exact absurd c201 c162
                      ·
                        have n172 : w < 9 := (g_ltN (a := w) (b := 9) (hx := ew) (hy := rfl) (by omega) (by omega)).mp c172
                        refine G_iconst (v := 2) C 176 dX11_next_175 rfl rfl ?_
                        refine G_goto C 195 dX11_next_176 rfl ?_
                        refine X11_105p C 198 dX11_next_195 rfl (fun s195 es195 => ?_)
                        have f_4 : t_N s s195 := t_N.up fl103 es195 (by decide)
                        have f18_4 : s195 0 18 = nI m := by rw [es195, g_up_sj]; exact (if_neg (by decide)).trans f18l103
                        have f19_4 : s195 0 19 = nI k := by rw [es195, g_up_sj]; exact (if_neg (by decide)).trans f19l103
                        have f20_4 : s195 0 20 = nI 2 := by rw [es195, g_up_sj]; exact (if_pos rfl).trans rfl
                        have f21_4 : s195 0 21 = nI 0 := by rw [es195, g_up_sj]; exact (if_neg (by decide)).trans f21l103
                        refine G_aload_n (i := 0) C 199 dX11_next_198 rfl rfl rfl ?_
                        refine G_iload_n (i := 2) C 200 dX11_next_199 rfl rfl rfl ?_
                        refine G_iconst (v := 3) C 201 dX11_next_200 rfl rfl ?_
                        refine G_icmp_ge C 208 204 dX11_next_201 rfl rfl (fun c201 => ?_) (fun c201 => ?_)
                        ·
                          have n201 : ¬ w < 3 := fun h => c201 ((g_ltN (a := w) (b := 3) (hx := ew) (hy := rfl) (by omega) (by omega)).mpr h)
                          refine G_iload_n (i := 2) C 209 dX11_next_208 rfl rfl rfl ?_
                          refine G_iconst (v := 3) C 210 dX11_next_209 rfl rfl ?_
                          refine G_isub C 211 dX11_next_210 rfl (fun x210 ex210 => ?_)
                          refine X11_108p C 214 dX11_next_211 rfl (fun s211 es211 => ?_)
                          have f_5 : t_N s s211 := t_N.up f_4 es211 (by decide)
                          have f18_5 : s211 0 18 = nI m := by rw [es211, g_up_sj]; exact (if_neg (by decide)).trans f18_4
                          have f19_5 : s211 0 19 = nI k := by rw [es211, g_up_sj]; exact (if_neg (by decide)).trans f19_4
                          have f20_5 : s211 0 20 = nI 2 := by rw [es211, g_up_sj]; exact (if_neg (by decide)).trans f20_4
                          have f21_5 : s211 0 21 = x210 := by rw [es211, g_up_sj]; exact if_pos rfl
                          refine G_goto C 403 dX11_next_214 rfl ?_
                          exact G_vret C dX11_next_403 (⟨f_5, f19_5.trans (by rw [hi]), f18_5.trans (by rw [hnx, hnw]), f20_5.trans (by rw [hcd, hkw, t_wtok w (by omega), ← ew, if_neg c162, if_pos c172] <;> rfl), by rw [hcd, hkw, f21_5]; have z := t_wval w (by omega); rw [← ew, if_neg c201, ← ex210] at z; exact z⟩)
                        ·
                          exact absurd c201 c162
                    ·
                      have n162 : w < 3 := (g_ltN (a := w) (b := 3) (hx := ew) (hy := rfl) (by omega) (by omega)).mp c162
                      refine G_iconst (v := 3) C 166 dX11_next_165 rfl rfl ?_
                      refine G_goto C 195 dX11_next_166 rfl ?_
                      refine X11_105p C 198 dX11_next_195 rfl (fun s195 es195 => ?_)
                      have f_4 : t_N s s195 := t_N.up fl103 es195 (by decide)
                      have f18_4 : s195 0 18 = nI m := by rw [es195, g_up_sj]; exact (if_neg (by decide)).trans f18l103
                      have f19_4 : s195 0 19 = nI k := by rw [es195, g_up_sj]; exact (if_neg (by decide)).trans f19l103
                      have f20_4 : s195 0 20 = nI 3 := by rw [es195, g_up_sj]; exact (if_pos rfl).trans rfl
                      have f21_4 : s195 0 21 = nI 0 := by rw [es195, g_up_sj]; exact (if_neg (by decide)).trans f21l103
                      refine G_aload_n (i := 0) C 199 dX11_next_198 rfl rfl rfl ?_
                      refine G_iload_n (i := 2) C 200 dX11_next_199 rfl rfl rfl ?_
                      refine G_iconst (v := 3) C 201 dX11_next_200 rfl rfl ?_
                      refine G_icmp_ge C 208 204 dX11_next_201 rfl rfl (fun c201 => ?_) (fun c201 => ?_)
                      ·
                        exact absurd c162 c201
                      ·
                        have n201 : w < 3 := (g_ltN (a := w) (b := 3) (hx := ew) (hy := rfl) (by omega) (by omega)).mp c201
                        refine G_iload_n (i := 2) C 205 dX11_next_204 rfl rfl rfl ?_
                        refine G_goto C 211 dX11_next_205 rfl ?_
                        refine X11_108p C 214 dX11_next_211 rfl (fun s211 es211 => ?_)
                        have f_5 : t_N s s211 := t_N.up f_4 es211 (by decide)
                        have f18_5 : s211 0 18 = nI m := by rw [es211, g_up_sj]; exact (if_neg (by decide)).trans f18_4
                        have f19_5 : s211 0 19 = nI k := by rw [es211, g_up_sj]; exact (if_neg (by decide)).trans f19_4
                        have f20_5 : s211 0 20 = nI 3 := by rw [es211, g_up_sj]; exact (if_neg (by decide)).trans f20_4
                        have f21_5 : s211 0 21 = nI w := by rw [es211, g_up_sj]; exact (if_pos rfl).trans ew
                        refine G_goto C 403 dX11_next_214 rfl ?_
                        exact G_vret C dX11_next_403 (⟨f_5, f19_5.trans (by rw [hi]), f18_5.trans (by rw [hnx, hnw]), f20_5.trans (by rw [hcd, hkw, t_wtok w (by omega), ← ew, if_pos c162] <;> rfl), by rw [hcd, hkw, f21_5]; have z := t_wval w (by omega); rw [← ew, if_pos c201, ew] at z; exact z⟩)
                  ·
                    have k130 := g_neT h127 c130
                    refine G_aload_n (i := 0) C 134 dX11_next_133 rfl rfl rfl ?_
                    refine G_dup C 135 dX11_next_134 rfl rfl ?_
                    refine X11_99g C 138 dX11_next_135 rfl (fun x135 ex135 => ?_)
                    have Sx135 : x135 = nI m := ex135.trans f18l103
                    refine G_iconst (v := 1) C 139 dX11_next_138 rfl rfl ?_
                    refine G_iadd C 140 dX11_next_139 rfl (fun x139 ex139 => ?_)
                    have Nx139 : x139 = nI (m + 1) := g_addN ex139 Sx135 rfl
                    refine X11_99p C 143 dX11_next_140 rfl (fun s140 es140 => ?_)
                    have f_4 : t_N s s140 := t_N.up fl103 es140 (by decide)
                    have f18_4 : s140 0 18 = nI (m + 1) := by rw [es140, g_up_sj]; exact (if_pos rfl).trans Nx139
                    have f19_4 : s140 0 19 = nI k := by rw [es140, g_up_sj]; exact (if_neg (by decide)).trans f19l103
                    have f20_4 : s140 0 20 = nI 0 := by rw [es140, g_up_sj]; exact (if_neg (by decide)).trans f20l103
                    have f21_4 : s140 0 21 = nI 0 := by rw [es140, g_up_sj]; exact (if_neg (by decide)).trans f21l103
                    refine G_goto C 103 dX11_next_143 rfl ?_
                    exact ih103 (m + 1)  s140 (by omega) (by omega) ((t_end_s (by omega) (by rw [← Sx122]; exact k130)).symm.trans hte) f_4 (f18_4) (f19_4) (f20_4) (f21_4) (by omega)
            exact L103 (e + 1) k  s67 (by omega) (by omega) (rfl) f_3 (f18_3) (f19_3) (f20_3) (f21_3) (by omega)
        ·
          have n78 : k = e := (g_eqN (a := k) (b := e) (hx := Sx71) (hy := Sx75) (by omega) (by omega)).mp c78
          exact G_vret C dX11_next_81 (⟨f_3, f19_3.trans (by rw [hi]), f18_3.trans (by unfold t_n; rw [hi, if_neg (by omega)]), f20_3.trans (by unfold t_c; rw [hi, if_neg (by omega)]; rfl), by unfold t_c; rw [hi, if_neg (by omega)]; exact t_V0 (by decide)⟩)
      ·
        have n8 : k < e := (g_ltN (a := k) (b := e) (hx := Sx1) (hy := Sx5) (by omega) (by omega)).mp c8
        refine G_aload_n (i := 0) C 12 dX11_next_11 rfl rfl rfl ?_
        refine X11_22g C 15 dX11_next_12 rfl ?_
        refine G_aload_n (i := 0) C 16 dX11_next_15 rfl rfl rfl ?_
        refine X11_99g C 19 dX11_next_16 rfl (fun x16 ex16 => ?_)
        have Sx16 : x16 = nI k := ex16.trans f18l0
        refine G_iald (n := 160) C 20 (by decide) (eMk (by decide) _ _ _) (k) Sx16 (by omega) (by decide) dX11_next_19 rfl (fun x19 ex19 => ?_)
        have Sx19 : x19 = s 5 k := ex19.trans (congrFun (fl0.1 5 (by decide)) k)
        refine G_bipush (v := 32) C 22 dX11_next_20 rfl rfl ?_
        refine G_icmp_eq C 39 25 dX11_next_22 rfl rfl (fun c22 => ?_) (fun c22 => ?_)
        ·
          refine G_aload_n (i := 0) C 40 dX11_next_39 rfl rfl rfl ?_
          refine G_dup C 41 dX11_next_40 rfl rfl ?_
          refine X11_99g C 44 dX11_next_41 rfl (fun x41 ex41 => ?_)
          have Sx41 : x41 = nI k := ex41.trans f18l0
          refine G_iconst (v := 1) C 45 dX11_next_44 rfl rfl ?_
          refine G_iadd C 46 dX11_next_45 rfl (fun x45 ex45 => ?_)
          have Nx45 : x45 = nI (k + 1) := g_addN ex45 Sx41 rfl
          refine X11_99p C 49 dX11_next_46 rfl (fun s46 es46 => ?_)
          have f_1 : t_N s s46 := t_N.up fl0 es46 (by decide)
          have f18_1 : s46 0 18 = nI (k + 1) := by rw [es46, g_up_sj]; exact (if_pos rfl).trans Nx45
          have f19_1 : s46 0 19 = s 0 19 := by rw [es46, g_up_sj]; exact (if_neg (by decide)).trans f19l0
          have f20_1 : s46 0 20 = s 0 20 := by rw [es46, g_up_sj]; exact (if_neg (by decide)).trans f20l0
          have f21_1 : s46 0 21 = s 0 21 := by rw [es46, g_up_sj]; exact (if_neg (by decide)).trans f21l0
          refine G_goto C 0 dX11_next_49 rfl ?_
          exact ih0 (k + 1)  s46 (by omega) (by omega) ((t_pl_b (by omega) (Or.inl (Sx19.symm.trans c22))).symm.trans hpl) f_1 (f18_1) f19_1 f20_1 f21_1 (by omega)
        ·
          refine G_aload_n (i := 0) C 26 dX11_next_25 rfl rfl rfl ?_
          refine X11_22g C 29 dX11_next_26 rfl ?_
          refine G_aload_n (i := 0) C 30 dX11_next_29 rfl rfl rfl ?_
          refine X11_99g C 33 dX11_next_30 rfl (fun x30 ex30 => ?_)
          have Sx30 : x30 = nI k := ex30.trans f18l0
          refine G_iald (n := 160) C 34 (by decide) (eMk (by decide) _ _ _) (k) Sx30 (by omega) (by decide) dX11_next_33 rfl (fun x33 ex33 => ?_)
          have Sx33 : x33 = s 5 k := ex33.trans (congrFun (fl0.1 5 (by decide)) k)
          refine G_bipush (v := 10) C 36 dX11_next_34 rfl rfl ?_
          refine G_icmp_ne C 52 39 dX11_next_36 rfl rfl (fun c36 => ?_) (fun c36 => ?_)
          ·
            have hi : t_pl (s 5) e p = k := hpl.symm.trans (t_pl_n (by omega) (fun z => c22 (Sx19.trans z)) (fun z => c36 (Sx33.trans z)))
            refine G_aload_n (i := 0) C 53 dX11_next_52 rfl rfl rfl ?_
            refine G_aload_n (i := 0) C 54 dX11_next_53 rfl rfl rfl ?_
            refine X11_99g C 57 dX11_next_54 rfl (fun x54 ex54 => ?_)
            have Sx54 : x54 = nI k := ex54.trans f18l0
            refine X11_102p C 60 dX11_next_57 rfl (fun s57 es57 => ?_)
            have f_1 : t_N s s57 := t_N.up fl0 es57 (by decide)
            have f18_1 : s57 0 18 = nI k := by rw [es57, g_up_sj]; exact (if_neg (by decide)).trans f18l0
            have f19_1 : s57 0 19 = nI k := by rw [es57, g_up_sj]; exact (if_pos rfl).trans Sx54
            have f20_1 : s57 0 20 = s 0 20 := by rw [es57, g_up_sj]; exact (if_neg (by decide)).trans f20l0
            have f21_1 : s57 0 21 = s 0 21 := by rw [es57, g_up_sj]; exact (if_neg (by decide)).trans f21l0
            refine G_aload_n (i := 0) C 61 dX11_next_60 rfl rfl rfl ?_
            refine G_iconst (v := 0) C 62 dX11_next_61 rfl rfl ?_
            refine X11_105p C 65 dX11_next_62 rfl (fun s62 es62 => ?_)
            have f_2 : t_N s s62 := t_N.up f_1 es62 (by decide)
            have f18_2 : s62 0 18 = nI k := by rw [es62, g_up_sj]; exact (if_neg (by decide)).trans f18_1
            have f19_2 : s62 0 19 = nI k := by rw [es62, g_up_sj]; exact (if_neg (by decide)).trans f19_1
            have f20_2 : s62 0 20 = nI 0 := by rw [es62, g_up_sj]; exact (if_pos rfl).trans rfl
            have f21_2 : s62 0 21 = s 0 21 := by rw [es62, g_up_sj]; exact (if_neg (by decide)).trans f21_1
            refine G_aload_n (i := 0) C 66 dX11_next_65 rfl rfl rfl ?_
            refine G_iconst (v := 0) C 67 dX11_next_66 rfl rfl ?_
            refine X11_108p C 70 dX11_next_67 rfl (fun s67 es67 => ?_)
            have f_3 : t_N s s67 := t_N.up f_2 es67 (by decide)
            have f18_3 : s67 0 18 = nI k := by rw [es67, g_up_sj]; exact (if_neg (by decide)).trans f18_2
            have f19_3 : s67 0 19 = nI k := by rw [es67, g_up_sj]; exact (if_neg (by decide)).trans f19_2
            have f20_3 : s67 0 20 = nI 0 := by rw [es67, g_up_sj]; exact (if_neg (by decide)).trans f20_2
            have f21_3 : s67 0 21 = nI 0 := by rw [es67, g_up_sj]; exact (if_pos rfl).trans rfl
            refine G_aload_n (i := 0) C 71 dX11_next_70 rfl rfl rfl ?_
            refine X11_99g C 74 dX11_next_71 rfl (fun x71 ex71 => ?_)
            have Sx71 : x71 = nI k := ex71.trans f18_3
            refine G_aload_n (i := 0) C 75 dX11_next_74 rfl rfl rfl ?_
            refine X11_67g C 78 dX11_next_75 rfl (fun x75 ex75 => ?_)
            have Sx75 : x75 = nI e := ex75.trans ((f_3.2 6 (by decide)).trans he)
            refine G_icmp_ne C 82 81 dX11_next_78 rfl rfl (fun c78 => ?_) (fun c78 => ?_)
            ·
              have n78 : ¬ k = e := fun h => c78 ((g_eqN (a := k) (b := e) (hx := Sx71) (hy := Sx75) (by omega) (by omega)).mpr h)
              have hke : k < e := by omega
              have hcd : t_c (s 5) e p = t_cd (s 5) e k := by unfold t_c; rw [hi, if_pos hke]
              have hnx : t_n (s 5) e p = t_nx (s 5) e k := by unfold t_n; rw [hi, if_pos hke]
              refine G_aload_n (i := 0) C 83 dX11_next_82 rfl rfl rfl ?_
              refine X11_22g C 86 dX11_next_83 rfl ?_
              refine G_aload_n (i := 0) C 87 dX11_next_86 rfl rfl rfl ?_
              refine X11_99g C 90 dX11_next_87 rfl (fun x87 ex87 => ?_)
              have Sx87 : x87 = nI k := ex87.trans f18_3
              refine G_iald (n := 160) C 91 (by decide) (eMk (by decide) _ _ _) (k) Sx87 (by omega) (by decide) dX11_next_90 rfl (fun x90 ex90 => ?_)
              have Sx90 : x90 = s 5 k := ex90.trans (congrFun (f_3.1 5 (by decide)) k)
              refine G_istore_n (i := 1) (L' := [some (.ref (e_ad E 0)), some (.int x90), none]) C 92 dX11_next_91 rfl rfl (Nat.le_of_ble_eq_true rfl) rfl rfl ?_
              refine G_iload_n (i := 1) C 93 dX11_next_92 rfl rfl rfl ?_
              refine G_bipush (v := 97) C 95 dX11_next_93 rfl rfl ?_
              refine G_bipush (v := 122) C 97 dX11_next_95 rfl rfl ?_
              refine G_calli 100 (G_runS C Kc_X11_in KS_X11_78 (by omega) (c_X11_in 0 x90 97 122 s67) rfl rfl (Nat.le_of_ble_eq_true rfl) rfl dX11_next_97) rfl (fun x97 s97 h97 => ?_)
              obtain ⟨es97, h97⟩ := h97
              have es97 := es97.symm
              subst es97
              refine G_if_eq C 217 103 dX11_next_100 rfl rfl (fun c100 => ?_) (fun c100 => ?_)
              ·
                have k100 := h97.symm.trans c100
                refine G_iload_n (i := 1) C 218 dX11_next_217 rfl rfl rfl ?_
                refine G_bipush (v := 48) C 220 dX11_next_218 rfl rfl ?_
                refine G_bipush (v := 57) C 222 dX11_next_220 rfl rfl ?_
                refine G_calli 225 (G_runS C Kc_X11_in KS_X11_78 (by omega) (c_X11_in 0 x90 48 57 s67) rfl rfl (Nat.le_of_ble_eq_true rfl) rfl dX11_next_222) rfl (fun x222 s222 h222 => ?_)
                obtain ⟨es222, h222⟩ := h222
                have es222 := es222.symm
                subst es222
                refine G_if_eq C 326 228 dX11_next_225 rfl rfl (fun c225 => ?_) (fun c225 => ?_)
                ·
                  have k225 := h222.symm.trans c225
                  refine G_iload_n (i := 1) C 327 dX11_next_326 rfl rfl rfl ?_
                  refine G_bipush (v := 40) C 329 dX11_next_327 rfl rfl ?_
                  refine G_icmp_eq C 374 332 dX11_next_329 rfl rfl (fun c329 => ?_) (fun c329 => ?_)
                  ·
                    refine G_iconst (v := 1) C 375 dX11_next_374 rfl rfl ?_
                    refine G_goto C 379 dX11_next_375 rfl ?_
                    refine G_istore_n (i := 2) (L' := [some (.ref (e_ad E 0)), some (.int x90), some (.int 1)]) C 380 dX11_next_379 rfl rfl (Nat.le_of_ble_eq_true rfl) rfl rfl ?_
                    refine G_aload_n (i := 0) C 381 dX11_next_380 rfl rfl rfl ?_
                    refine G_iload_n (i := 2) C 382 dX11_next_381 rfl rfl rfl ?_
                    refine G_if_eq C 389 385 dX11_next_382 rfl rfl (fun c => absurd c (by decide)) (fun _ => ?_)
                    refine G_iload_n (i := 1) C 386 dX11_next_385 rfl rfl rfl ?_
                    refine G_goto C 390 dX11_next_386 rfl ?_
                    refine X11_105p C 393 dX11_next_390 rfl (fun s390 es390 => ?_)
                    have f_4 : t_N s s390 := t_N.up f_3 es390 (by decide)
                    have f18_4 : s390 0 18 = nI k := by rw [es390, g_up_sj]; exact (if_neg (by decide)).trans f18_3
                    have f19_4 : s390 0 19 = nI k := by rw [es390, g_up_sj]; exact (if_neg (by decide)).trans f19_3
                    have f20_4 : s390 0 20 = x90 := by rw [es390, g_up_sj]; exact if_pos rfl
                    have f21_4 : s390 0 21 = nI 0 := by rw [es390, g_up_sj]; exact (if_neg (by decide)).trans f21_3
                    refine G_aload_n (i := 0) C 394 dX11_next_393 rfl rfl rfl ?_
                    refine G_dup C 395 dX11_next_394 rfl rfl ?_
                    refine X11_99g C 398 dX11_next_395 rfl (fun x395 ex395 => ?_)
                    have Sx395 : x395 = nI k := ex395.trans f18_4
                    refine G_iconst (v := 1) C 399 dX11_next_398 rfl rfl ?_
                    refine G_iadd C 400 dX11_next_399 rfl (fun x399 ex399 => ?_)
                    have Nx399 : x399 = nI (k + 1) := g_addN ex399 Sx395 rfl
                    refine X11_99p C 403 dX11_next_400 rfl (fun s400 es400 => ?_)
                    have f_5 : t_N s s400 := t_N.up f_4 es400 (by decide)
                    have f18_5 : s400 0 18 = nI (k + 1) := by rw [es400, g_up_sj]; exact (if_pos rfl).trans Nx399
                    have f19_5 : s400 0 19 = nI k := by rw [es400, g_up_sj]; exact (if_neg (by decide)).trans f19_4
                    have f20_5 : s400 0 20 = x90 := by rw [es400, g_up_sj]; exact (if_neg (by decide)).trans f20_4
                    have f21_5 : s400 0 21 = nI 0 := by rw [es400, g_up_sj]; exact (if_neg (by decide)).trans f21_4
                    have hsg : t_cd (s 5) e k = t_sg x90 := by unfold t_cd; rw [if_pos (by rw [← Sx90]; exact k100), if_pos (by rw [← Sx90]; exact k225), Sx90]
                    exact G_vret C dX11_next_403 (⟨f_5, f19_5.trans (by rw [hi]), f18_5.trans (by rw [hnx]; unfold t_nx; rw [if_pos (by rw [← Sx90]; exact k100), if_pos (by rw [← Sx90]; exact k225)]), f20_5.trans (by rw [hcd, hsg, c329]; decide), by rw [hcd, hsg, c329]; exact t_V0 (by decide)⟩)
                  ·
                    refine G_iload_n (i := 1) C 333 dX11_next_332 rfl rfl rfl ?_
                    refine G_bipush (v := 41) C 335 dX11_next_333 rfl rfl ?_
                    refine G_icmp_eq C 374 338 dX11_next_335 rfl rfl (fun c335 => ?_) (fun c335 => ?_)
                    ·
                      refine G_iconst (v := 1) C 375 dX11_next_374 rfl rfl ?_
                      refine G_goto C 379 dX11_next_375 rfl ?_
                      refine G_istore_n (i := 2) (L' := [some (.ref (e_ad E 0)), some (.int x90), some (.int 1)]) C 380 dX11_next_379 rfl rfl (Nat.le_of_ble_eq_true rfl) rfl rfl ?_
                      refine G_aload_n (i := 0) C 381 dX11_next_380 rfl rfl rfl ?_
                      refine G_iload_n (i := 2) C 382 dX11_next_381 rfl rfl rfl ?_
                      refine G_if_eq C 389 385 dX11_next_382 rfl rfl (fun c => absurd c (by decide)) (fun _ => ?_)
                      refine G_iload_n (i := 1) C 386 dX11_next_385 rfl rfl rfl ?_
                      refine G_goto C 390 dX11_next_386 rfl ?_
                      refine X11_105p C 393 dX11_next_390 rfl (fun s390 es390 => ?_)
                      have f_4 : t_N s s390 := t_N.up f_3 es390 (by decide)
                      have f18_4 : s390 0 18 = nI k := by rw [es390, g_up_sj]; exact (if_neg (by decide)).trans f18_3
                      have f19_4 : s390 0 19 = nI k := by rw [es390, g_up_sj]; exact (if_neg (by decide)).trans f19_3
                      have f20_4 : s390 0 20 = x90 := by rw [es390, g_up_sj]; exact if_pos rfl
                      have f21_4 : s390 0 21 = nI 0 := by rw [es390, g_up_sj]; exact (if_neg (by decide)).trans f21_3
                      refine G_aload_n (i := 0) C 394 dX11_next_393 rfl rfl rfl ?_
                      refine G_dup C 395 dX11_next_394 rfl rfl ?_
                      refine X11_99g C 398 dX11_next_395 rfl (fun x395 ex395 => ?_)
                      have Sx395 : x395 = nI k := ex395.trans f18_4
                      refine G_iconst (v := 1) C 399 dX11_next_398 rfl rfl ?_
                      refine G_iadd C 400 dX11_next_399 rfl (fun x399 ex399 => ?_)
                      have Nx399 : x399 = nI (k + 1) := g_addN ex399 Sx395 rfl
                      refine X11_99p C 403 dX11_next_400 rfl (fun s400 es400 => ?_)
                      have f_5 : t_N s s400 := t_N.up f_4 es400 (by decide)
                      have f18_5 : s400 0 18 = nI (k + 1) := by rw [es400, g_up_sj]; exact (if_pos rfl).trans Nx399
                      have f19_5 : s400 0 19 = nI k := by rw [es400, g_up_sj]; exact (if_neg (by decide)).trans f19_4
                      have f20_5 : s400 0 20 = x90 := by rw [es400, g_up_sj]; exact (if_neg (by decide)).trans f20_4
                      have f21_5 : s400 0 21 = nI 0 := by rw [es400, g_up_sj]; exact (if_neg (by decide)).trans f21_4
                      have hsg : t_cd (s 5) e k = t_sg x90 := by unfold t_cd; rw [if_pos (by rw [← Sx90]; exact k100), if_pos (by rw [← Sx90]; exact k225), Sx90]
                      exact G_vret C dX11_next_403 (⟨f_5, f19_5.trans (by rw [hi]), f18_5.trans (by rw [hnx]; unfold t_nx; rw [if_pos (by rw [← Sx90]; exact k100), if_pos (by rw [← Sx90]; exact k225)]), f20_5.trans (by rw [hcd, hsg, c335]; decide), by rw [hcd, hsg, c335]; exact t_V0 (by decide)⟩)
                    ·
                      refine G_iload_n (i := 1) C 339 dX11_next_338 rfl rfl rfl ?_
                      refine G_bipush (v := 59) C 341 dX11_next_339 rfl rfl ?_
                      refine G_icmp_eq C 374 344 dX11_next_341 rfl rfl (fun c341 => ?_) (fun c341 => ?_)
                      ·
                        refine G_iconst (v := 1) C 375 dX11_next_374 rfl rfl ?_
                        refine G_goto C 379 dX11_next_375 rfl ?_
                        refine G_istore_n (i := 2) (L' := [some (.ref (e_ad E 0)), some (.int x90), some (.int 1)]) C 380 dX11_next_379 rfl rfl (Nat.le_of_ble_eq_true rfl) rfl rfl ?_
                        refine G_aload_n (i := 0) C 381 dX11_next_380 rfl rfl rfl ?_
                        refine G_iload_n (i := 2) C 382 dX11_next_381 rfl rfl rfl ?_
                        refine G_if_eq C 389 385 dX11_next_382 rfl rfl (fun c => absurd c (by decide)) (fun _ => ?_)
                        refine G_iload_n (i := 1) C 386 dX11_next_385 rfl rfl rfl ?_
                        refine G_goto C 390 dX11_next_386 rfl ?_
                        refine X11_105p C 393 dX11_next_390 rfl (fun s390 es390 => ?_)
                        have f_4 : t_N s s390 := t_N.up f_3 es390 (by decide)
                        have f18_4 : s390 0 18 = nI k := by rw [es390, g_up_sj]; exact (if_neg (by decide)).trans f18_3
                        have f19_4 : s390 0 19 = nI k := by rw [es390, g_up_sj]; exact (if_neg (by decide)).trans f19_3
                        have f20_4 : s390 0 20 = x90 := by rw [es390, g_up_sj]; exact if_pos rfl
                        have f21_4 : s390 0 21 = nI 0 := by rw [es390, g_up_sj]; exact (if_neg (by decide)).trans f21_3
                        refine G_aload_n (i := 0) C 394 dX11_next_393 rfl rfl rfl ?_
                        refine G_dup C 395 dX11_next_394 rfl rfl ?_
                        refine X11_99g C 398 dX11_next_395 rfl (fun x395 ex395 => ?_)
                        have Sx395 : x395 = nI k := ex395.trans f18_4
                        refine G_iconst (v := 1) C 399 dX11_next_398 rfl rfl ?_
                        refine G_iadd C 400 dX11_next_399 rfl (fun x399 ex399 => ?_)
                        have Nx399 : x399 = nI (k + 1) := g_addN ex399 Sx395 rfl
                        refine X11_99p C 403 dX11_next_400 rfl (fun s400 es400 => ?_)
                        have f_5 : t_N s s400 := t_N.up f_4 es400 (by decide)
                        have f18_5 : s400 0 18 = nI (k + 1) := by rw [es400, g_up_sj]; exact (if_pos rfl).trans Nx399
                        have f19_5 : s400 0 19 = nI k := by rw [es400, g_up_sj]; exact (if_neg (by decide)).trans f19_4
                        have f20_5 : s400 0 20 = x90 := by rw [es400, g_up_sj]; exact (if_neg (by decide)).trans f20_4
                        have f21_5 : s400 0 21 = nI 0 := by rw [es400, g_up_sj]; exact (if_neg (by decide)).trans f21_4
                        have hsg : t_cd (s 5) e k = t_sg x90 := by unfold t_cd; rw [if_pos (by rw [← Sx90]; exact k100), if_pos (by rw [← Sx90]; exact k225), Sx90]
                        exact G_vret C dX11_next_403 (⟨f_5, f19_5.trans (by rw [hi]), f18_5.trans (by rw [hnx]; unfold t_nx; rw [if_pos (by rw [← Sx90]; exact k100), if_pos (by rw [← Sx90]; exact k225)]), f20_5.trans (by rw [hcd, hsg, c341]; decide), by rw [hcd, hsg, c341]; exact t_V0 (by decide)⟩)
                      ·
                        refine G_iload_n (i := 1) C 345 dX11_next_344 rfl rfl rfl ?_
                        refine G_bipush (v := 43) C 347 dX11_next_345 rfl rfl ?_
                        refine G_icmp_eq C 374 350 dX11_next_347 rfl rfl (fun c347 => ?_) (fun c347 => ?_)
                        ·
                          refine G_iconst (v := 1) C 375 dX11_next_374 rfl rfl ?_
                          refine G_goto C 379 dX11_next_375 rfl ?_
                          refine G_istore_n (i := 2) (L' := [some (.ref (e_ad E 0)), some (.int x90), some (.int 1)]) C 380 dX11_next_379 rfl rfl (Nat.le_of_ble_eq_true rfl) rfl rfl ?_
                          refine G_aload_n (i := 0) C 381 dX11_next_380 rfl rfl rfl ?_
                          refine G_iload_n (i := 2) C 382 dX11_next_381 rfl rfl rfl ?_
                          refine G_if_eq C 389 385 dX11_next_382 rfl rfl (fun c => absurd c (by decide)) (fun _ => ?_)
                          refine G_iload_n (i := 1) C 386 dX11_next_385 rfl rfl rfl ?_
                          refine G_goto C 390 dX11_next_386 rfl ?_
                          refine X11_105p C 393 dX11_next_390 rfl (fun s390 es390 => ?_)
                          have f_4 : t_N s s390 := t_N.up f_3 es390 (by decide)
                          have f18_4 : s390 0 18 = nI k := by rw [es390, g_up_sj]; exact (if_neg (by decide)).trans f18_3
                          have f19_4 : s390 0 19 = nI k := by rw [es390, g_up_sj]; exact (if_neg (by decide)).trans f19_3
                          have f20_4 : s390 0 20 = x90 := by rw [es390, g_up_sj]; exact if_pos rfl
                          have f21_4 : s390 0 21 = nI 0 := by rw [es390, g_up_sj]; exact (if_neg (by decide)).trans f21_3
                          refine G_aload_n (i := 0) C 394 dX11_next_393 rfl rfl rfl ?_
                          refine G_dup C 395 dX11_next_394 rfl rfl ?_
                          refine X11_99g C 398 dX11_next_395 rfl (fun x395 ex395 => ?_)
                          have Sx395 : x395 = nI k := ex395.trans f18_4
                          refine G_iconst (v := 1) C 399 dX11_next_398 rfl rfl ?_
                          refine G_iadd C 400 dX11_next_399 rfl (fun x399 ex399 => ?_)
                          have Nx399 : x399 = nI (k + 1) := g_addN ex399 Sx395 rfl
                          refine X11_99p C 403 dX11_next_400 rfl (fun s400 es400 => ?_)
                          have f_5 : t_N s s400 := t_N.up f_4 es400 (by decide)
                          have f18_5 : s400 0 18 = nI (k + 1) := by rw [es400, g_up_sj]; exact (if_pos rfl).trans Nx399
                          have f19_5 : s400 0 19 = nI k := by rw [es400, g_up_sj]; exact (if_neg (by decide)).trans f19_4
                          have f20_5 : s400 0 20 = x90 := by rw [es400, g_up_sj]; exact (if_neg (by decide)).trans f20_4
                          have f21_5 : s400 0 21 = nI 0 := by rw [es400, g_up_sj]; exact (if_neg (by decide)).trans f21_4
                          have hsg : t_cd (s 5) e k = t_sg x90 := by unfold t_cd; rw [if_pos (by rw [← Sx90]; exact k100), if_pos (by rw [← Sx90]; exact k225), Sx90]
                          exact G_vret C dX11_next_403 (⟨f_5, f19_5.trans (by rw [hi]), f18_5.trans (by rw [hnx]; unfold t_nx; rw [if_pos (by rw [← Sx90]; exact k100), if_pos (by rw [← Sx90]; exact k225)]), f20_5.trans (by rw [hcd, hsg, c347]; decide), by rw [hcd, hsg, c347]; exact t_V0 (by decide)⟩)
                        ·
                          refine G_iload_n (i := 1) C 351 dX11_next_350 rfl rfl rfl ?_
                          refine G_bipush (v := 45) C 353 dX11_next_351 rfl rfl ?_
                          refine G_icmp_eq C 374 356 dX11_next_353 rfl rfl (fun c353 => ?_) (fun c353 => ?_)
                          ·
                            refine G_iconst (v := 1) C 375 dX11_next_374 rfl rfl ?_
                            refine G_goto C 379 dX11_next_375 rfl ?_
                            refine G_istore_n (i := 2) (L' := [some (.ref (e_ad E 0)), some (.int x90), some (.int 1)]) C 380 dX11_next_379 rfl rfl (Nat.le_of_ble_eq_true rfl) rfl rfl ?_
                            refine G_aload_n (i := 0) C 381 dX11_next_380 rfl rfl rfl ?_
                            refine G_iload_n (i := 2) C 382 dX11_next_381 rfl rfl rfl ?_
                            refine G_if_eq C 389 385 dX11_next_382 rfl rfl (fun c => absurd c (by decide)) (fun _ => ?_)
                            refine G_iload_n (i := 1) C 386 dX11_next_385 rfl rfl rfl ?_
                            refine G_goto C 390 dX11_next_386 rfl ?_
                            refine X11_105p C 393 dX11_next_390 rfl (fun s390 es390 => ?_)
                            have f_4 : t_N s s390 := t_N.up f_3 es390 (by decide)
                            have f18_4 : s390 0 18 = nI k := by rw [es390, g_up_sj]; exact (if_neg (by decide)).trans f18_3
                            have f19_4 : s390 0 19 = nI k := by rw [es390, g_up_sj]; exact (if_neg (by decide)).trans f19_3
                            have f20_4 : s390 0 20 = x90 := by rw [es390, g_up_sj]; exact if_pos rfl
                            have f21_4 : s390 0 21 = nI 0 := by rw [es390, g_up_sj]; exact (if_neg (by decide)).trans f21_3
                            refine G_aload_n (i := 0) C 394 dX11_next_393 rfl rfl rfl ?_
                            refine G_dup C 395 dX11_next_394 rfl rfl ?_
                            refine X11_99g C 398 dX11_next_395 rfl (fun x395 ex395 => ?_)
                            have Sx395 : x395 = nI k := ex395.trans f18_4
                            refine G_iconst (v := 1) C 399 dX11_next_398 rfl rfl ?_
                            refine G_iadd C 400 dX11_next_399 rfl (fun x399 ex399 => ?_)
                            have Nx399 : x399 = nI (k + 1) := g_addN ex399 Sx395 rfl
                            refine X11_99p C 403 dX11_next_400 rfl (fun s400 es400 => ?_)
                            have f_5 : t_N s s400 := t_N.up f_4 es400 (by decide)
                            have f18_5 : s400 0 18 = nI (k + 1) := by rw [es400, g_up_sj]; exact (if_pos rfl).trans Nx399
                            have f19_5 : s400 0 19 = nI k := by rw [es400, g_up_sj]; exact (if_neg (by decide)).trans f19_4
                            have f20_5 : s400 0 20 = x90 := by rw [es400, g_up_sj]; exact (if_neg (by decide)).trans f20_4
                            have f21_5 : s400 0 21 = nI 0 := by rw [es400, g_up_sj]; exact (if_neg (by decide)).trans f21_4
                            have hsg : t_cd (s 5) e k = t_sg x90 := by unfold t_cd; rw [if_pos (by rw [← Sx90]; exact k100), if_pos (by rw [← Sx90]; exact k225), Sx90]
                            exact G_vret C dX11_next_403 (⟨f_5, f19_5.trans (by rw [hi]), f18_5.trans (by rw [hnx]; unfold t_nx; rw [if_pos (by rw [← Sx90]; exact k100), if_pos (by rw [← Sx90]; exact k225)]), f20_5.trans (by rw [hcd, hsg, c353]; decide), by rw [hcd, hsg, c353]; exact t_V0 (by decide)⟩)
                          ·
                            refine G_iload_n (i := 1) C 357 dX11_next_356 rfl rfl rfl ?_
                            refine G_bipush (v := 42) C 359 dX11_next_357 rfl rfl ?_
                            refine G_icmp_eq C 374 362 dX11_next_359 rfl rfl (fun c359 => ?_) (fun c359 => ?_)
                            ·
                              refine G_iconst (v := 1) C 375 dX11_next_374 rfl rfl ?_
                              refine G_goto C 379 dX11_next_375 rfl ?_
                              refine G_istore_n (i := 2) (L' := [some (.ref (e_ad E 0)), some (.int x90), some (.int 1)]) C 380 dX11_next_379 rfl rfl (Nat.le_of_ble_eq_true rfl) rfl rfl ?_
                              refine G_aload_n (i := 0) C 381 dX11_next_380 rfl rfl rfl ?_
                              refine G_iload_n (i := 2) C 382 dX11_next_381 rfl rfl rfl ?_
                              refine G_if_eq C 389 385 dX11_next_382 rfl rfl (fun c => absurd c (by decide)) (fun _ => ?_)
                              refine G_iload_n (i := 1) C 386 dX11_next_385 rfl rfl rfl ?_
                              refine G_goto C 390 dX11_next_386 rfl ?_
                              refine X11_105p C 393 dX11_next_390 rfl (fun s390 es390 => ?_)
                              have f_4 : t_N s s390 := t_N.up f_3 es390 (by decide)
                              have f18_4 : s390 0 18 = nI k := by rw [es390, g_up_sj]; exact (if_neg (by decide)).trans f18_3
                              have f19_4 : s390 0 19 = nI k := by rw [es390, g_up_sj]; exact (if_neg (by decide)).trans f19_3
                              have f20_4 : s390 0 20 = x90 := by rw [es390, g_up_sj]; exact if_pos rfl
                              have f21_4 : s390 0 21 = nI 0 := by rw [es390, g_up_sj]; exact (if_neg (by decide)).trans f21_3
                              refine G_aload_n (i := 0) C 394 dX11_next_393 rfl rfl rfl ?_
                              refine G_dup C 395 dX11_next_394 rfl rfl ?_
                              refine X11_99g C 398 dX11_next_395 rfl (fun x395 ex395 => ?_)
                              have Sx395 : x395 = nI k := ex395.trans f18_4
                              refine G_iconst (v := 1) C 399 dX11_next_398 rfl rfl ?_
                              refine G_iadd C 400 dX11_next_399 rfl (fun x399 ex399 => ?_)
                              have Nx399 : x399 = nI (k + 1) := g_addN ex399 Sx395 rfl
                              refine X11_99p C 403 dX11_next_400 rfl (fun s400 es400 => ?_)
                              have f_5 : t_N s s400 := t_N.up f_4 es400 (by decide)
                              have f18_5 : s400 0 18 = nI (k + 1) := by rw [es400, g_up_sj]; exact (if_pos rfl).trans Nx399
                              have f19_5 : s400 0 19 = nI k := by rw [es400, g_up_sj]; exact (if_neg (by decide)).trans f19_4
                              have f20_5 : s400 0 20 = x90 := by rw [es400, g_up_sj]; exact (if_neg (by decide)).trans f20_4
                              have f21_5 : s400 0 21 = nI 0 := by rw [es400, g_up_sj]; exact (if_neg (by decide)).trans f21_4
                              have hsg : t_cd (s 5) e k = t_sg x90 := by unfold t_cd; rw [if_pos (by rw [← Sx90]; exact k100), if_pos (by rw [← Sx90]; exact k225), Sx90]
                              exact G_vret C dX11_next_403 (⟨f_5, f19_5.trans (by rw [hi]), f18_5.trans (by rw [hnx]; unfold t_nx; rw [if_pos (by rw [← Sx90]; exact k100), if_pos (by rw [← Sx90]; exact k225)]), f20_5.trans (by rw [hcd, hsg, c359]; decide), by rw [hcd, hsg, c359]; exact t_V0 (by decide)⟩)
                            ·
                              refine G_iload_n (i := 1) C 363 dX11_next_362 rfl rfl rfl ?_
                              refine G_bipush (v := 60) C 365 dX11_next_363 rfl rfl ?_
                              refine G_icmp_eq C 374 368 dX11_next_365 rfl rfl (fun c365 => ?_) (fun c365 => ?_)
                              ·
                                refine G_iconst (v := 1) C 375 dX11_next_374 rfl rfl ?_
                                refine G_goto C 379 dX11_next_375 rfl ?_
                                refine G_istore_n (i := 2) (L' := [some (.ref (e_ad E 0)), some (.int x90), some (.int 1)]) C 380 dX11_next_379 rfl rfl (Nat.le_of_ble_eq_true rfl) rfl rfl ?_
                                refine G_aload_n (i := 0) C 381 dX11_next_380 rfl rfl rfl ?_
                                refine G_iload_n (i := 2) C 382 dX11_next_381 rfl rfl rfl ?_
                                refine G_if_eq C 389 385 dX11_next_382 rfl rfl (fun c => absurd c (by decide)) (fun _ => ?_)
                                refine G_iload_n (i := 1) C 386 dX11_next_385 rfl rfl rfl ?_
                                refine G_goto C 390 dX11_next_386 rfl ?_
                                refine X11_105p C 393 dX11_next_390 rfl (fun s390 es390 => ?_)
                                have f_4 : t_N s s390 := t_N.up f_3 es390 (by decide)
                                have f18_4 : s390 0 18 = nI k := by rw [es390, g_up_sj]; exact (if_neg (by decide)).trans f18_3
                                have f19_4 : s390 0 19 = nI k := by rw [es390, g_up_sj]; exact (if_neg (by decide)).trans f19_3
                                have f20_4 : s390 0 20 = x90 := by rw [es390, g_up_sj]; exact if_pos rfl
                                have f21_4 : s390 0 21 = nI 0 := by rw [es390, g_up_sj]; exact (if_neg (by decide)).trans f21_3
                                refine G_aload_n (i := 0) C 394 dX11_next_393 rfl rfl rfl ?_
                                refine G_dup C 395 dX11_next_394 rfl rfl ?_
                                refine X11_99g C 398 dX11_next_395 rfl (fun x395 ex395 => ?_)
                                have Sx395 : x395 = nI k := ex395.trans f18_4
                                refine G_iconst (v := 1) C 399 dX11_next_398 rfl rfl ?_
                                refine G_iadd C 400 dX11_next_399 rfl (fun x399 ex399 => ?_)
                                have Nx399 : x399 = nI (k + 1) := g_addN ex399 Sx395 rfl
                                refine X11_99p C 403 dX11_next_400 rfl (fun s400 es400 => ?_)
                                have f_5 : t_N s s400 := t_N.up f_4 es400 (by decide)
                                have f18_5 : s400 0 18 = nI (k + 1) := by rw [es400, g_up_sj]; exact (if_pos rfl).trans Nx399
                                have f19_5 : s400 0 19 = nI k := by rw [es400, g_up_sj]; exact (if_neg (by decide)).trans f19_4
                                have f20_5 : s400 0 20 = x90 := by rw [es400, g_up_sj]; exact (if_neg (by decide)).trans f20_4
                                have f21_5 : s400 0 21 = nI 0 := by rw [es400, g_up_sj]; exact (if_neg (by decide)).trans f21_4
                                have hsg : t_cd (s 5) e k = t_sg x90 := by unfold t_cd; rw [if_pos (by rw [← Sx90]; exact k100), if_pos (by rw [← Sx90]; exact k225), Sx90]
                                exact G_vret C dX11_next_403 (⟨f_5, f19_5.trans (by rw [hi]), f18_5.trans (by rw [hnx]; unfold t_nx; rw [if_pos (by rw [← Sx90]; exact k100), if_pos (by rw [← Sx90]; exact k225)]), f20_5.trans (by rw [hcd, hsg, c365]; decide), by rw [hcd, hsg, c365]; exact t_V0 (by decide)⟩)
                              ·
                                refine G_iload_n (i := 1) C 369 dX11_next_368 rfl rfl rfl ?_
                                refine G_bipush (v := 61) C 371 dX11_next_369 rfl rfl ?_
                                refine G_icmp_ne C 378 374 dX11_next_371 rfl rfl (fun c371 => ?_) (fun c371 => ?_)
                                ·
                                  refine G_iconst (v := 0) C 379 dX11_next_378 rfl rfl ?_
                                  refine G_istore_n (i := 2) (L' := [some (.ref (e_ad E 0)), some (.int x90), some (.int 0)]) C 380 dX11_next_379 rfl rfl (Nat.le_of_ble_eq_true rfl) rfl rfl ?_
                                  refine G_aload_n (i := 0) C 381 dX11_next_380 rfl rfl rfl ?_
                                  refine G_iload_n (i := 2) C 382 dX11_next_381 rfl rfl rfl ?_
                                  refine G_if_eq C 389 385 dX11_next_382 rfl rfl (fun _ => ?_) (fun c => absurd c (by decide))
                                  refine G_iconst (v := (-1)) C 390 dX11_next_389 rfl rfl ?_
                                  refine X11_105p C 393 dX11_next_390 rfl (fun s390 es390 => ?_)
                                  have f_4 : t_N s s390 := t_N.up f_3 es390 (by decide)
                                  have f18_4 : s390 0 18 = nI k := by rw [es390, g_up_sj]; exact (if_neg (by decide)).trans f18_3
                                  have f19_4 : s390 0 19 = nI k := by rw [es390, g_up_sj]; exact (if_neg (by decide)).trans f19_3
                                  have f20_4 : s390 0 20 = (-1) := by rw [es390, g_up_sj]; exact if_pos rfl
                                  have f21_4 : s390 0 21 = nI 0 := by rw [es390, g_up_sj]; exact (if_neg (by decide)).trans f21_3
                                  refine G_aload_n (i := 0) C 394 dX11_next_393 rfl rfl rfl ?_
                                  refine G_dup C 395 dX11_next_394 rfl rfl ?_
                                  refine X11_99g C 398 dX11_next_395 rfl (fun x395 ex395 => ?_)
                                  have Sx395 : x395 = nI k := ex395.trans f18_4
                                  refine G_iconst (v := 1) C 399 dX11_next_398 rfl rfl ?_
                                  refine G_iadd C 400 dX11_next_399 rfl (fun x399 ex399 => ?_)
                                  have Nx399 : x399 = nI (k + 1) := g_addN ex399 Sx395 rfl
                                  refine X11_99p C 403 dX11_next_400 rfl (fun s400 es400 => ?_)
                                  have f_5 : t_N s s400 := t_N.up f_4 es400 (by decide)
                                  have f18_5 : s400 0 18 = nI (k + 1) := by rw [es400, g_up_sj]; exact (if_pos rfl).trans Nx399
                                  have f19_5 : s400 0 19 = nI k := by rw [es400, g_up_sj]; exact (if_neg (by decide)).trans f19_4
                                  have f20_5 : s400 0 20 = (-1) := by rw [es400, g_up_sj]; exact (if_neg (by decide)).trans f20_4
                                  have f21_5 : s400 0 21 = nI 0 := by rw [es400, g_up_sj]; exact (if_neg (by decide)).trans f21_4
                                  have hsg : t_cd (s 5) e k = t_sg x90 := by unfold t_cd; rw [if_pos (by rw [← Sx90]; exact k100), if_pos (by rw [← Sx90]; exact k225), Sx90]
                                  have hs1 : t_sg x90 = 1 := by unfold t_sg; rw [if_neg c329, if_neg c335, if_neg c341, if_neg c347, if_neg c353, if_neg c359, if_neg c365, if_neg c371]
                                  exact G_vret C dX11_next_403 (⟨f_5, f19_5.trans (by rw [hi]), f18_5.trans (by rw [hnx]; unfold t_nx; rw [if_pos (by rw [← Sx90]; exact k100), if_pos (by rw [← Sx90]; exact k225)]), f20_5.trans (by rw [hcd, hsg, hs1]; rfl), by rw [hcd, hsg, hs1]; exact t_V0 (by decide)⟩)
                                ·
                                  refine G_iconst (v := 1) C 375 dX11_next_374 rfl rfl ?_
                                  refine G_goto C 379 dX11_next_375 rfl ?_
                                  refine G_istore_n (i := 2) (L' := [some (.ref (e_ad E 0)), some (.int x90), some (.int 1)]) C 380 dX11_next_379 rfl rfl (Nat.le_of_ble_eq_true rfl) rfl rfl ?_
                                  refine G_aload_n (i := 0) C 381 dX11_next_380 rfl rfl rfl ?_
                                  refine G_iload_n (i := 2) C 382 dX11_next_381 rfl rfl rfl ?_
                                  refine G_if_eq C 389 385 dX11_next_382 rfl rfl (fun c => absurd c (by decide)) (fun _ => ?_)
                                  refine G_iload_n (i := 1) C 386 dX11_next_385 rfl rfl rfl ?_
                                  refine G_goto C 390 dX11_next_386 rfl ?_
                                  refine X11_105p C 393 dX11_next_390 rfl (fun s390 es390 => ?_)
                                  have f_4 : t_N s s390 := t_N.up f_3 es390 (by decide)
                                  have f18_4 : s390 0 18 = nI k := by rw [es390, g_up_sj]; exact (if_neg (by decide)).trans f18_3
                                  have f19_4 : s390 0 19 = nI k := by rw [es390, g_up_sj]; exact (if_neg (by decide)).trans f19_3
                                  have f20_4 : s390 0 20 = x90 := by rw [es390, g_up_sj]; exact if_pos rfl
                                  have f21_4 : s390 0 21 = nI 0 := by rw [es390, g_up_sj]; exact (if_neg (by decide)).trans f21_3
                                  refine G_aload_n (i := 0) C 394 dX11_next_393 rfl rfl rfl ?_
                                  refine G_dup C 395 dX11_next_394 rfl rfl ?_
                                  refine X11_99g C 398 dX11_next_395 rfl (fun x395 ex395 => ?_)
                                  have Sx395 : x395 = nI k := ex395.trans f18_4
                                  refine G_iconst (v := 1) C 399 dX11_next_398 rfl rfl ?_
                                  refine G_iadd C 400 dX11_next_399 rfl (fun x399 ex399 => ?_)
                                  have Nx399 : x399 = nI (k + 1) := g_addN ex399 Sx395 rfl
                                  refine X11_99p C 403 dX11_next_400 rfl (fun s400 es400 => ?_)
                                  have f_5 : t_N s s400 := t_N.up f_4 es400 (by decide)
                                  have f18_5 : s400 0 18 = nI (k + 1) := by rw [es400, g_up_sj]; exact (if_pos rfl).trans Nx399
                                  have f19_5 : s400 0 19 = nI k := by rw [es400, g_up_sj]; exact (if_neg (by decide)).trans f19_4
                                  have f20_5 : s400 0 20 = x90 := by rw [es400, g_up_sj]; exact (if_neg (by decide)).trans f20_4
                                  have f21_5 : s400 0 21 = nI 0 := by rw [es400, g_up_sj]; exact (if_neg (by decide)).trans f21_4
                                  have hsg : t_cd (s 5) e k = t_sg x90 := by unfold t_cd; rw [if_pos (by rw [← Sx90]; exact k100), if_pos (by rw [← Sx90]; exact k225), Sx90]
                                  exact G_vret C dX11_next_403 (⟨f_5, f19_5.trans (by rw [hi]), f18_5.trans (by rw [hnx]; unfold t_nx; rw [if_pos (by rw [← Sx90]; exact k100), if_pos (by rw [← Sx90]; exact k225)]), f20_5.trans (by rw [hcd, hsg, c371]; decide), by rw [hcd, hsg, c371]; exact t_V0 (by decide)⟩)
                ·
                  have k225 := g_neT h222 c225
                  refine G_iconst (v := 0) C 229 dX11_next_228 rfl rfl ?_
                  refine G_istore_n (i := 2) (L' := [some (.ref (e_ad E 0)), some (.int x90), some (.int 0)]) C 230 dX11_next_229 rfl rfl (Nat.le_of_ble_eq_true rfl) rfl rfl ?_
                  have L230 : ∀ (f230 : Nat) (m : Nat) (w : Int32) (sl230 : gS) (Ew : w = nI ((m - k))) (hm1 : k ≤ m) (hm2 : m ≤ e) (hte : t_end (s 5) e 48 57 m = t_end (s 5) e 48 57 k) (hv : m - k ≤ 4 → sl230 0 21 = nI (t_val (s 5) k (m - k))) (fl230 : t_N s sl230) (f18l230 : sl230 0 18 = nI m) (f19l230 : sl230 0 19 = nI k) (f20l230 : sl230 0 20 = nI 0) (f21l230 : sl230 0 21 = sl230 0 21), e < m + f230 → GW SM E (gFin SM E (gQv SM (fun s' => t_N s s' ∧ s' 0 19 = nI (t_pl (s 5) e p) ∧ s' 0 18 = nI (t_n (s 5) e p) ∧ s' 0 20 = t_mt (t_c (s 5) e p) ∧ t_V (t_c (s 5) e p) (s' 0 21)))) 230 [some (.ref (e_ad E 0)), some (.int x90), some (.int w)] [] sl230 := by
                    intro f230
                    induction f230 with
                    | zero =>
                      intro m w sl230 Ew hm1 hm2 hte hv fl230 f18l230 f19l230 f20l230 f21l230 hf230
                      exact absurd hf230 (by omega)
                    | succ f230 ih230 =>
                      intro m w sl230 Ew hm1 hm2 hte hv fl230 f18l230 f19l230 f20l230 f21l230 hf230
                      refine G_aload_n (i := 0) C 231 dX11_next_230 rfl rfl rfl ?_
                      refine X11_99g C 234 dX11_next_231 rfl (fun x231 ex231 => ?_)
                      have Sx231 : x231 = nI m := ex231.trans f18l230
                      refine G_aload_n (i := 0) C 235 dX11_next_234 rfl rfl rfl ?_
                      refine X11_67g C 238 dX11_next_235 rfl (fun x235 ex235 => ?_)
                      have Sx235 : x235 = nI e := ex235.trans ((fl230.2 6 (by decide)).trans he)
                      refine G_icmp_ge C 309 241 dX11_next_238 rfl rfl (fun c238 => ?_) (fun c238 => ?_)
                      ·
                        have n238 : ¬ m < e := fun h => c238 ((g_ltN (a := m) (b := e) (hx := Sx231) (hy := Sx235) (by omega) (by omega)).mpr h)
                        have hm : t_end (s 5) e 48 57 k = m := hte.symm.trans (t_end_e (by omega))
                        have hnd : t_nx (s 5) e k = m := by unfold t_nx; rw [if_pos (by rw [← Sx90]; exact k100), if_neg (by rw [← Sx90]; exact k225), hm]
                        have hdd : t_cd (s 5) e k = if 4 < m - k then 1 else 100000 + t_val (s 5) k (m - k) := by unfold t_cd; rw [if_pos (by rw [← Sx90]; exact k100), if_neg (by rw [← Sx90]; exact k225), hm]
                        refine G_aload_n (i := 0) C 310 dX11_next_309 rfl rfl rfl ?_
                        refine G_iload_n (i := 2) C 311 dX11_next_310 rfl rfl rfl ?_
                        refine G_iconst (v := 4) C 312 dX11_next_311 rfl rfl ?_
                        refine G_icmp_le C 319 315 dX11_next_312 rfl rfl (fun c312 => ?_) (fun c312 => ?_)
                        ·
                          have n312 : ¬ 4 < (m - k) := fun h => c312 ((g_ltN (a := 4) (b := (m - k)) (hx := rfl) (hy := Ew) (by omega) (by omega)).mpr h)
                          refine G_iconst (v := 1) C 320 dX11_next_319 rfl rfl ?_
                          refine X11_105p C 323 dX11_next_320 rfl (fun s320 es320 => ?_)
                          have f_4 : t_N s s320 := t_N.up fl230 es320 (by decide)
                          have f18_4 : s320 0 18 = nI m := by rw [es320, g_up_sj]; exact (if_neg (by decide)).trans f18l230
                          have f19_4 : s320 0 19 = nI k := by rw [es320, g_up_sj]; exact (if_neg (by decide)).trans f19l230
                          have f20_4 : s320 0 20 = nI 1 := by rw [es320, g_up_sj]; exact (if_pos rfl).trans rfl
                          have f21_4 : s320 0 21 = sl230 0 21 := by rw [es320, g_up_sj]; exact (if_neg (by decide)).trans f21l230
                          refine G_goto C 403 dX11_next_323 rfl ?_
                          have hv2 : m - k ≤ 4 → s320 0 21 = nI (t_val (s 5) k (m - k)) := fun hh => by rw [es320, g_up_sj, if_neg (by decide)]; exact hv hh
                          exact G_vret C dX11_next_403 (⟨f_4, f19_4.trans (by rw [hi]), f18_4.trans (by rw [hnx, hnd]), f20_4.trans (by rw [hcd, hdd, if_neg n312]; exact (if_pos (by omega)).symm), by
                              rw [hcd, hdd, if_neg n312, hv2 (by omega)]
                              exact ⟨fun _ => by rw [Nat.add_sub_cancel_left], fun q1 q2 => by omega, fun q1 q2 => by omega⟩⟩)
                        ·
                          have n312 : 4 < (m - k) := (g_ltN (a := 4) (b := (m - k)) (hx := rfl) (hy := Ew) (by omega) (by omega)).mp c312
                          refine G_iconst (v := (-1)) C 316 dX11_next_315 rfl rfl ?_
                          refine G_goto C 320 dX11_next_316 rfl ?_
                          refine X11_105p C 323 dX11_next_320 rfl (fun s320 es320 => ?_)
                          have f_4 : t_N s s320 := t_N.up fl230 es320 (by decide)
                          have f18_4 : s320 0 18 = nI m := by rw [es320, g_up_sj]; exact (if_neg (by decide)).trans f18l230
                          have f19_4 : s320 0 19 = nI k := by rw [es320, g_up_sj]; exact (if_neg (by decide)).trans f19l230
                          have f20_4 : s320 0 20 = (-1) := by rw [es320, g_up_sj]; exact if_pos rfl
                          have f21_4 : s320 0 21 = sl230 0 21 := by rw [es320, g_up_sj]; exact (if_neg (by decide)).trans f21l230
                          refine G_goto C 403 dX11_next_323 rfl ?_
                          exact G_vret C dX11_next_403 (⟨f_4, f19_4.trans (by rw [hi]), f18_4.trans (by rw [hnx, hnd]), f20_4.trans (by rw [hcd, hdd, if_pos n312]; rfl), by rw [hcd, hdd, if_pos n312]; exact t_V0 (by decide)⟩)
                      ·
                        have n238 : m < e := (g_ltN (a := m) (b := e) (hx := Sx231) (hy := Sx235) (by omega) (by omega)).mp c238
                        refine G_aload_n (i := 0) C 242 dX11_next_241 rfl rfl rfl ?_
                        refine X11_22g C 245 dX11_next_242 rfl ?_
                        refine G_aload_n (i := 0) C 246 dX11_next_245 rfl rfl rfl ?_
                        refine X11_99g C 249 dX11_next_246 rfl (fun x246 ex246 => ?_)
                        have Sx246 : x246 = nI m := ex246.trans f18l230
                        refine G_iald (n := 160) C 250 (by decide) (eMk (by decide) _ _ _) (m) Sx246 (by omega) (by decide) dX11_next_249 rfl (fun x249 ex249 => ?_)
                        have Sx249 : x249 = s 5 m := ex249.trans (congrFun (fl230.1 5 (by decide)) m)
                        refine G_bipush (v := 48) C 252 dX11_next_250 rfl rfl ?_
                        refine G_bipush (v := 57) C 254 dX11_next_252 rfl rfl ?_
                        refine G_calli 257 (G_runS C Kc_X11_in KS_X11_78 (by omega) (c_X11_in 0 x249 48 57 sl230) rfl rfl (Nat.le_of_ble_eq_true rfl) rfl dX11_next_254) rfl (fun x254 s254 h254 => ?_)
                        obtain ⟨es254, h254⟩ := h254
                        have es254 := es254.symm
                        subst es254
                        refine G_if_eq C 309 260 dX11_next_257 rfl rfl (fun c257 => ?_) (fun c257 => ?_)
                        ·
                          have k257 := h254.symm.trans c257
                          have hm : t_end (s 5) e 48 57 k = m := hte.symm.trans (t_end_n (by omega) (by rw [← Sx249]; exact k257))
                          have hnd : t_nx (s 5) e k = m := by unfold t_nx; rw [if_pos (by rw [← Sx90]; exact k100), if_neg (by rw [← Sx90]; exact k225), hm]
                          have hdd : t_cd (s 5) e k = if 4 < m - k then 1 else 100000 + t_val (s 5) k (m - k) := by unfold t_cd; rw [if_pos (by rw [← Sx90]; exact k100), if_neg (by rw [← Sx90]; exact k225), hm]
                          refine G_aload_n (i := 0) C 310 dX11_next_309 rfl rfl rfl ?_
                          refine G_iload_n (i := 2) C 311 dX11_next_310 rfl rfl rfl ?_
                          refine G_iconst (v := 4) C 312 dX11_next_311 rfl rfl ?_
                          refine G_icmp_le C 319 315 dX11_next_312 rfl rfl (fun c312 => ?_) (fun c312 => ?_)
                          ·
                            have n312 : ¬ 4 < (m - k) := fun h => c312 ((g_ltN (a := 4) (b := (m - k)) (hx := rfl) (hy := Ew) (by omega) (by omega)).mpr h)
                            refine G_iconst (v := 1) C 320 dX11_next_319 rfl rfl ?_
                            refine X11_105p C 323 dX11_next_320 rfl (fun s320 es320 => ?_)
                            have f_4 : t_N s s320 := t_N.up fl230 es320 (by decide)
                            have f18_4 : s320 0 18 = nI m := by rw [es320, g_up_sj]; exact (if_neg (by decide)).trans f18l230
                            have f19_4 : s320 0 19 = nI k := by rw [es320, g_up_sj]; exact (if_neg (by decide)).trans f19l230
                            have f20_4 : s320 0 20 = nI 1 := by rw [es320, g_up_sj]; exact (if_pos rfl).trans rfl
                            have f21_4 : s320 0 21 = sl230 0 21 := by rw [es320, g_up_sj]; exact (if_neg (by decide)).trans f21l230
                            refine G_goto C 403 dX11_next_323 rfl ?_
                            have hv2 : m - k ≤ 4 → s320 0 21 = nI (t_val (s 5) k (m - k)) := fun hh => by rw [es320, g_up_sj, if_neg (by decide)]; exact hv hh
                            exact G_vret C dX11_next_403 (⟨f_4, f19_4.trans (by rw [hi]), f18_4.trans (by rw [hnx, hnd]), f20_4.trans (by rw [hcd, hdd, if_neg n312]; exact (if_pos (by omega)).symm), by
                                rw [hcd, hdd, if_neg n312, hv2 (by omega)]
                                exact ⟨fun _ => by rw [Nat.add_sub_cancel_left], fun q1 q2 => by omega, fun q1 q2 => by omega⟩⟩)
                          ·
                            have n312 : 4 < (m - k) := (g_ltN (a := 4) (b := (m - k)) (hx := rfl) (hy := Ew) (by omega) (by omega)).mp c312
                            refine G_iconst (v := (-1)) C 316 dX11_next_315 rfl rfl ?_
                            refine G_goto C 320 dX11_next_316 rfl ?_
                            refine X11_105p C 323 dX11_next_320 rfl (fun s320 es320 => ?_)
                            have f_4 : t_N s s320 := t_N.up fl230 es320 (by decide)
                            have f18_4 : s320 0 18 = nI m := by rw [es320, g_up_sj]; exact (if_neg (by decide)).trans f18l230
                            have f19_4 : s320 0 19 = nI k := by rw [es320, g_up_sj]; exact (if_neg (by decide)).trans f19l230
                            have f20_4 : s320 0 20 = (-1) := by rw [es320, g_up_sj]; exact if_pos rfl
                            have f21_4 : s320 0 21 = sl230 0 21 := by rw [es320, g_up_sj]; exact (if_neg (by decide)).trans f21l230
                            refine G_goto C 403 dX11_next_323 rfl ?_
                            exact G_vret C dX11_next_403 (⟨f_4, f19_4.trans (by rw [hi]), f18_4.trans (by rw [hnx, hnd]), f20_4.trans (by rw [hcd, hdd, if_pos n312]; rfl), by rw [hcd, hdd, if_pos n312]; exact t_V0 (by decide)⟩)
                        ·
                          have k257 := g_neT h254 c257
                          refine G_aload_n (i := 0) C 261 dX11_next_260 rfl rfl rfl ?_
                          refine G_iload_n (i := 2) C 262 dX11_next_261 rfl rfl rfl ?_
                          refine G_iconst (v := 4) C 263 dX11_next_262 rfl rfl ?_
                          refine G_icmp_ge C 289 266 dX11_next_263 rfl rfl (fun c263 => ?_) (fun c263 => ?_)
                          ·
                            have n263 : ¬ (m - k) < 4 := fun h => c263 ((g_ltN (a := (m - k)) (b := 4) (hx := Ew) (hy := rfl) (by omega) (by omega)).mpr h)
                            refine G_iconst (v := 0) C 290 dX11_next_289 rfl rfl ?_
                            refine X11_108p C 293 dX11_next_290 rfl (fun s290 es290 => ?_)
                            have f_4 : t_N s s290 := t_N.up fl230 es290 (by decide)
                            have f18_4 : s290 0 18 = nI m := by rw [es290, g_up_sj]; exact (if_neg (by decide)).trans f18l230
                            have f19_4 : s290 0 19 = nI k := by rw [es290, g_up_sj]; exact (if_neg (by decide)).trans f19l230
                            have f20_4 : s290 0 20 = nI 0 := by rw [es290, g_up_sj]; exact (if_neg (by decide)).trans f20l230
                            have f21_4 : s290 0 21 = nI 0 := by rw [es290, g_up_sj]; exact (if_pos rfl).trans rfl
                            refine G_iinc (w := 1) C 296 dX11_next_293 rfl rfl rfl rfl (fun x293 ex293 => ?_)
                            have Nx293 : x293 = nI ((m - k) + 1) := g_addN ex293 Ew rfl
                            show GW SM E _ 296 [some (.ref (e_ad E 0)), some (.int x90), some (.int x293)] [] s290
                            refine G_aload_n (i := 0) C 297 dX11_next_296 rfl rfl rfl ?_
                            refine G_dup C 298 dX11_next_297 rfl rfl ?_
                            refine X11_99g C 301 dX11_next_298 rfl (fun x298 ex298 => ?_)
                            have Sx298 : x298 = nI m := ex298.trans f18_4
                            refine G_iconst (v := 1) C 302 dX11_next_301 rfl rfl ?_
                            refine G_iadd C 303 dX11_next_302 rfl (fun x302 ex302 => ?_)
                            have Nx302 : x302 = nI (m + 1) := g_addN ex302 Sx298 rfl
                            refine X11_99p C 306 dX11_next_303 rfl (fun s303 es303 => ?_)
                            have f_5 : t_N s s303 := t_N.up f_4 es303 (by decide)
                            have f18_5 : s303 0 18 = nI (m + 1) := by rw [es303, g_up_sj]; exact (if_pos rfl).trans Nx302
                            have f19_5 : s303 0 19 = nI k := by rw [es303, g_up_sj]; exact (if_neg (by decide)).trans f19_4
                            have f20_5 : s303 0 20 = nI 0 := by rw [es303, g_up_sj]; exact (if_neg (by decide)).trans f20_4
                            have f21_5 : s303 0 21 = nI 0 := by rw [es303, g_up_sj]; exact (if_neg (by decide)).trans f21_4
                            refine G_goto C 230 dX11_next_306 rfl ?_
                            exact ih230 (m + 1) x293 s303 (g_cn (a := ((m - k) + 1)) Nx293 (by first | rfl | omega | (simp only [List.length_cons, List.length_drop]; done) | (simp only [List.length_cons, List.length_drop]; omega))) (by omega) (by omega) ((t_end_s (by omega) (by rw [← Sx249]; exact k257)).symm.trans hte) (fun hh => by omega) f_5 (f18_5) (f19_5) (f20_5) (rfl) (by omega)
                          ·
                            have n263 : (m - k) < 4 := (g_ltN (a := (m - k)) (b := 4) (hx := Ew) (hy := rfl) (by omega) (by omega)).mp c263
                            refine G_bipush (v := 10) C 268 dX11_next_266 rfl rfl ?_
                            refine G_aload_n (i := 0) C 269 dX11_next_268 rfl rfl rfl ?_
                            refine X11_108g C 272 dX11_next_269 rfl (fun x269 ex269 => ?_)
                            refine G_imul C 273 dX11_next_272 rfl (fun x272 ex272 => ?_)
                            refine G_aload_n (i := 0) C 274 dX11_next_273 rfl rfl rfl ?_
                            refine X11_22g C 277 dX11_next_274 rfl ?_
                            refine G_aload_n (i := 0) C 278 dX11_next_277 rfl rfl rfl ?_
                            refine X11_99g C 281 dX11_next_278 rfl (fun x278 ex278 => ?_)
                            have Sx278 : x278 = nI m := ex278.trans f18l230
                            refine G_iald (n := 160) C 282 (by decide) (eMk (by decide) _ _ _) (m) Sx278 (by omega) (by decide) dX11_next_281 rfl (fun x281 ex281 => ?_)
                            have Sx281 : x281 = s 5 m := ex281.trans (congrFun (fl230.1 5 (by decide)) m)
                            refine G_iadd C 283 dX11_next_282 rfl (fun x282 ex282 => ?_)
                            refine G_bipush (v := 48) C 285 dX11_next_283 rfl rfl ?_
                            refine G_isub C 286 dX11_next_285 rfl (fun x285 ex285 => ?_)
                            refine G_goto C 290 dX11_next_286 rfl ?_
                            refine X11_108p C 293 dX11_next_290 rfl (fun s290 es290 => ?_)
                            have f_4 : t_N s s290 := t_N.up fl230 es290 (by decide)
                            have f18_4 : s290 0 18 = nI m := by rw [es290, g_up_sj]; exact (if_neg (by decide)).trans f18l230
                            have f19_4 : s290 0 19 = nI k := by rw [es290, g_up_sj]; exact (if_neg (by decide)).trans f19l230
                            have f20_4 : s290 0 20 = nI 0 := by rw [es290, g_up_sj]; exact (if_neg (by decide)).trans f20l230
                            have f21_4 : s290 0 21 = x285 := by rw [es290, g_up_sj]; exact if_pos rfl
                            refine G_iinc (w := 1) C 296 dX11_next_293 rfl rfl rfl rfl (fun x293 ex293 => ?_)
                            have Nx293 : x293 = nI ((m - k) + 1) := g_addN ex293 Ew rfl
                            show GW SM E _ 296 [some (.ref (e_ad E 0)), some (.int x90), some (.int x293)] [] s290
                            refine G_aload_n (i := 0) C 297 dX11_next_296 rfl rfl rfl ?_
                            refine G_dup C 298 dX11_next_297 rfl rfl ?_
                            refine X11_99g C 301 dX11_next_298 rfl (fun x298 ex298 => ?_)
                            have Sx298 : x298 = nI m := ex298.trans f18_4
                            refine G_iconst (v := 1) C 302 dX11_next_301 rfl rfl ?_
                            refine G_iadd C 303 dX11_next_302 rfl (fun x302 ex302 => ?_)
                            have Nx302 : x302 = nI (m + 1) := g_addN ex302 Sx298 rfl
                            refine X11_99p C 306 dX11_next_303 rfl (fun s303 es303 => ?_)
                            have f_5 : t_N s s303 := t_N.up f_4 es303 (by decide)
                            have f18_5 : s303 0 18 = nI (m + 1) := by rw [es303, g_up_sj]; exact (if_pos rfl).trans Nx302
                            have f19_5 : s303 0 19 = nI k := by rw [es303, g_up_sj]; exact (if_neg (by decide)).trans f19_4
                            have f20_5 : s303 0 20 = nI 0 := by rw [es303, g_up_sj]; exact (if_neg (by decide)).trans f20_4
                            have f21_5 : s303 0 21 = x285 := by rw [es303, g_up_sj]; exact (if_neg (by decide)).trans f21_4
                            refine G_goto C 230 dX11_next_306 rfl ?_
                            exact ih230 (m + 1) x293 s303 (g_cn (a := ((m - k) + 1)) Nx293 (by first | rfl | omega | (simp only [List.length_cons, List.length_drop]; done) | (simp only [List.length_cons, List.length_drop]; omega))) (by omega) (by omega) ((t_end_s (by omega) (by rw [← Sx249]; exact k257)).symm.trans hte) (fun hh => by
                                    rw [es303, g_up_sj, if_neg (by decide), es290, g_up_sj, if_pos rfl, show m + 1 - k = (m - k) + 1 by omega]
                                    exact t_valS (ex269.trans (hv (by omega))) (by rw [show k + (m - k) = m by omega, ← Sx249]; exact k257) (by rw [show k + (m - k) = m by omega]; exact Sx281) ex272 ex282 ex285) f_5 (f18_5) (f19_5) (f20_5) (rfl) (by omega)
                  exact L230 (e + 1) k 0 s67 (g_cn (a := 0) rfl (by first | rfl | omega)) (by omega) (by omega) (rfl) (fun _ => by rw [Nat.sub_self]; exact f21_3) f_3 (f18_3) (f19_3) (f20_3) (rfl) (by omega)
              ·
                have k100 := g_neT h97 c100
                have L103 : ∀ (f103 : Nat) (m : Nat) (sl103 : gS) (hm1 : k ≤ m) (hm2 : m ≤ e) (hte : t_end (s 5) e 97 122 m = t_end (s 5) e 97 122 k) (fl103 : t_N s sl103) (f18l103 : sl103 0 18 = nI m) (f19l103 : sl103 0 19 = nI k) (f20l103 : sl103 0 20 = nI 0) (f21l103 : sl103 0 21 = nI 0), e < m + f103 → GW SM E (gFin SM E (gQv SM (fun s' => t_N s s' ∧ s' 0 19 = nI (t_pl (s 5) e p) ∧ s' 0 18 = nI (t_n (s 5) e p) ∧ s' 0 20 = t_mt (t_c (s 5) e p) ∧ t_V (t_c (s 5) e p) (s' 0 21)))) 103 [some (.ref (e_ad E 0)), some (.int x90), none] [] sl103 := by
                  intro f103
                  induction f103 with
                  | zero =>
                    intro m sl103 hm1 hm2 hte fl103 f18l103 f19l103 f20l103 f21l103 hf103
                    exact absurd hf103 (by omega)
                  | succ f103 ih103 =>
                    intro m sl103 hm1 hm2 hte fl103 f18l103 f19l103 f20l103 f21l103 hf103
                    refine G_aload_n (i := 0) C 104 dX11_next_103 rfl rfl rfl ?_
                    refine X11_99g C 107 dX11_next_104 rfl (fun x104 ex104 => ?_)
                    have Sx104 : x104 = nI m := ex104.trans f18l103
                    refine G_aload_n (i := 0) C 108 dX11_next_107 rfl rfl rfl ?_
                    refine X11_67g C 111 dX11_next_108 rfl (fun x108 ex108 => ?_)
                    have Sx108 : x108 = nI e := ex108.trans ((fl103.2 6 (by decide)).trans he)
                    refine G_icmp_ge C 146 114 dX11_next_111 rfl rfl (fun c111 => ?_) (fun c111 => ?_)
                    ·
                      have n111 : ¬ m < e := fun h => c111 ((g_ltN (a := m) (b := e) (hx := Sx104) (hy := Sx108) (by omega) (by omega)).mpr h)
                      have hm : t_end (s 5) e 97 122 k = m := hte.symm.trans (t_end_e (by omega))
                      have hN5 : sl103 5 = s 5 := fl103.1 5 (by decide)
                      refine G_aload_n (i := 0) C 147 dX11_next_146 rfl rfl rfl ?_
                      refine G_aload_n (i := 0) C 148 dX11_next_147 rfl rfl rfl ?_
                      refine X11_102g C 151 dX11_next_148 rfl (fun x148 ex148 => ?_)
                      have Sx148 : x148 = nI k := ex148.trans f19l103
                      refine G_aload_n (i := 0) C 152 dX11_next_151 rfl rfl rfl ?_
                      refine X11_99g C 155 dX11_next_152 rfl (fun x152 ex152 => ?_)
                      have Sx152 : x152 = nI m := ex152.trans f18l103
                      refine G_calli 158 (G_runV C Kc_X11_wordFrom KV_X11_111 (by omega) (by decide) (eM _ _ _) rfl (c_X11_wordFrom 0 sl103 x148 x152 k m Sx148 Sx152 (by omega) (by omega) (fun q hq => by rw [hN5]; exact t_end_in (e := e) (p := k) (by omega) (by rw [hm]; omega))) rfl rfl rfl (Nat.le_of_ble_eq_true rfl) rfl dX11_next_155) rfl (fun x155 s155 h155 => ?_)
                      obtain ⟨es155, h155⟩ := h155
                      have es155 := es155.symm
                      subst es155
                      obtain ⟨w, hw12, ew, hw1, hw2⟩ := h155
                      rw [hN5] at hw1 hw2
                      have hkw : t_cd (s 5) e k = t_kc w := by
                        unfold t_cd
                        rw [if_neg (by rw [← Sx90]; exact k100), hm]
                        by_cases hw : w < 12
                        · exact t_kw_yes hw (hw1 hw)
                        · have e12 : w = 12 := by omega
                          rw [e12, t_kw_no (fun q hq => hw2 q (by omega))]
                          rfl
                      have hnw : t_nx (s 5) e k = m := by unfold t_nx; rw [if_neg (by rw [← Sx90]; exact k100), hm]
                      refine G_istore_n (i := 2) (L' := [some (.ref (e_ad E 0)), some (.int x90), some (.int x155)]) C 159 dX11_next_158 rfl rfl (Nat.le_of_ble_eq_true rfl) rfl rfl ?_
                      refine G_aload_n (i := 0) C 160 dX11_next_159 rfl rfl rfl ?_
                      refine G_iload_n (i := 2) C 161 dX11_next_160 rfl rfl rfl ?_
                      refine G_iconst (v := 3) C 162 dX11_next_161 rfl rfl ?_
                      refine G_icmp_ge C 169 165 dX11_next_162 rfl rfl (fun c162 => ?_) (fun c162 => ?_)
                      ·
                        have n162 : ¬ w < 3 := fun h => c162 ((g_ltN (a := w) (b := 3) (hx := ew) (hy := rfl) (by omega) (by omega)).mpr h)
                        refine G_iload_n (i := 2) C 170 dX11_next_169 rfl rfl rfl ?_
                        refine G_bipush (v := 9) C 172 dX11_next_170 rfl rfl ?_
                        refine G_icmp_ge C 179 175 dX11_next_172 rfl rfl (fun c172 => ?_) (fun c172 => ?_)
                        ·
                          have n172 : ¬ w < 9 := fun h => c172 ((g_ltN (a := w) (b := 9) (hx := ew) (hy := rfl) (by omega) (by omega)).mpr h)
                          refine G_iload_n (i := 2) C 180 dX11_next_179 rfl rfl rfl ?_
                          refine G_bipush (v := 12) C 182 dX11_next_180 rfl rfl ?_
                          refine G_icmp_ne C 189 185 dX11_next_182 rfl rfl (fun c182 => ?_) (fun c182 => ?_)
                          ·
                            have n182 : ¬ w = 12 := fun h => c182 ((g_eqN (a := w) (b := 12) (hx := ew) (hy := rfl) (by omega) (by omega)).mpr h)
                            have k182 := g_neT ew c182
                            refine G_iconst (v := 4) C 190 dX11_next_189 rfl rfl ?_
                            refine G_iload_n (i := 2) C 191 dX11_next_190 rfl rfl rfl ?_
                            refine G_iadd C 192 dX11_next_191 rfl (fun x191 ex191 => ?_)
                            have Nx191 : x191 = nI (4 + w) := g_addN ex191 rfl ew
                            refine G_bipush (v := 9) C 194 dX11_next_192 rfl rfl ?_
                            refine G_isub C 195 dX11_next_194 rfl (fun x194 ex194 => ?_)
                            refine X11_105p C 198 dX11_next_195 rfl (fun s195 es195 => ?_)
                            have f_4 : t_N s s195 := t_N.up fl103 es195 (by decide)
                            have f18_4 : s195 0 18 = nI m := by rw [es195, g_up_sj]; exact (if_neg (by decide)).trans f18l103
                            have f19_4 : s195 0 19 = nI k := by rw [es195, g_up_sj]; exact (if_neg (by decide)).trans f19l103
                            have f20_4 : s195 0 20 = x194 := by rw [es195, g_up_sj]; exact if_pos rfl
                            have f21_4 : s195 0 21 = nI 0 := by rw [es195, g_up_sj]; exact (if_neg (by decide)).trans f21l103
                            refine G_aload_n (i := 0) C 199 dX11_next_198 rfl rfl rfl ?_
                            refine G_iload_n (i := 2) C 200 dX11_next_199 rfl rfl rfl ?_
                            refine G_iconst (v := 3) C 201 dX11_next_200 rfl rfl ?_
                            refine G_icmp_ge C 208 204 dX11_next_201 rfl rfl (fun c201 => ?_) (fun c201 => ?_)
                            ·
                              have n201 : ¬ w < 3 := fun h => c201 ((g_ltN (a := w) (b := 3) (hx := ew) (hy := rfl) (by omega) (by omega)).mpr h)
                              refine G_iload_n (i := 2) C 209 dX11_next_208 rfl rfl rfl ?_
                              refine G_iconst (v := 3) C 210 dX11_next_209 rfl rfl ?_
                              refine G_isub C 211 dX11_next_210 rfl (fun x210 ex210 => ?_)
                              refine X11_108p C 214 dX11_next_211 rfl (fun s211 es211 => ?_)
                              have f_5 : t_N s s211 := t_N.up f_4 es211 (by decide)
                              have f18_5 : s211 0 18 = nI m := by rw [es211, g_up_sj]; exact (if_neg (by decide)).trans f18_4
                              have f19_5 : s211 0 19 = nI k := by rw [es211, g_up_sj]; exact (if_neg (by decide)).trans f19_4
                              have f20_5 : s211 0 20 = x194 := by rw [es211, g_up_sj]; exact (if_neg (by decide)).trans f20_4
                              have f21_5 : s211 0 21 = x210 := by rw [es211, g_up_sj]; exact if_pos rfl
                              refine G_goto C 403 dX11_next_214 rfl ?_
                              exact G_vret C dX11_next_403 (⟨f_5, f19_5.trans (by rw [hi]), f18_5.trans (by rw [hnx, hnw]), f20_5.trans (by rw [hcd, hkw, t_wtok w (by omega), ← ew, if_neg c162, if_neg c172]; rw [← ex191, ← ex194]), by rw [hcd, hkw, f21_5]; have z := t_wval w (by omega); rw [← ew, if_neg c201, ← ex210] at z; exact z⟩)
                            ·
                              exact absurd c201 c162
                          ·
                            have n182 : w = 12 := (g_eqN (a := w) (b := 12) (hx := ew) (hy := rfl) (by omega) (by omega)).mp c182
                            have k182 := ew.symm.trans c182
                            refine G_iconst (v := (-1)) C 186 dX11_next_185 rfl rfl ?_
                            refine G_goto C 195 dX11_next_186 rfl ?_
                            refine X11_105p C 198 dX11_next_195 rfl (fun s195 es195 => ?_)
                            have f_4 : t_N s s195 := t_N.up fl103 es195 (by decide)
                            have f18_4 : s195 0 18 = nI m := by rw [es195, g_up_sj]; exact (if_neg (by decide)).trans f18l103
                            have f19_4 : s195 0 19 = nI k := by rw [es195, g_up_sj]; exact (if_neg (by decide)).trans f19l103
                            have f20_4 : s195 0 20 = (-1) := by rw [es195, g_up_sj]; exact if_pos rfl
                            have f21_4 : s195 0 21 = nI 0 := by rw [es195, g_up_sj]; exact (if_neg (by decide)).trans f21l103
                            refine G_aload_n (i := 0) C 199 dX11_next_198 rfl rfl rfl ?_
                            refine G_iload_n (i := 2) C 200 dX11_next_199 rfl rfl rfl ?_
                            refine G_iconst (v := 3) C 201 dX11_next_200 rfl rfl ?_
                            refine G_icmp_ge C 208 204 dX11_next_201 rfl rfl (fun c201 => ?_) (fun c201 => ?_)
                            ·
                              have n201 : ¬ w < 3 := fun h => c201 ((g_ltN (a := w) (b := 3) (hx := ew) (hy := rfl) (by omega) (by omega)).mpr h)
                              refine G_iload_n (i := 2) C 209 dX11_next_208 rfl rfl rfl ?_
                              refine G_iconst (v := 3) C 210 dX11_next_209 rfl rfl ?_
                              refine G_isub C 211 dX11_next_210 rfl (fun x210 ex210 => ?_)
                              refine X11_108p C 214 dX11_next_211 rfl (fun s211 es211 => ?_)
                              have f_5 : t_N s s211 := t_N.up f_4 es211 (by decide)
                              have f18_5 : s211 0 18 = nI m := by rw [es211, g_up_sj]; exact (if_neg (by decide)).trans f18_4
                              have f19_5 : s211 0 19 = nI k := by rw [es211, g_up_sj]; exact (if_neg (by decide)).trans f19_4
                              have f20_5 : s211 0 20 = (-1) := by rw [es211, g_up_sj]; exact (if_neg (by decide)).trans f20_4
                              have f21_5 : s211 0 21 = x210 := by rw [es211, g_up_sj]; exact if_pos rfl
                              refine G_goto C 403 dX11_next_214 rfl ?_
                              exact G_vret C dX11_next_403 (⟨f_5, f19_5.trans (by rw [hi]), f18_5.trans (by rw [hnx, hnw]), f20_5.trans (by rw [hcd, hkw, n182]; rfl), by rw [hcd, hkw, n182]; exact t_V0 (by decide)⟩)
                            ·
                              exact absurd c201 c162
                        ·
                          have n172 : w < 9 := (g_ltN (a := w) (b := 9) (hx := ew) (hy := rfl) (by omega) (by omega)).mp c172
                          refine G_iconst (v := 2) C 176 dX11_next_175 rfl rfl ?_
                          refine G_goto C 195 dX11_next_176 rfl ?_
                          refine X11_105p C 198 dX11_next_195 rfl (fun s195 es195 => ?_)
                          have f_4 : t_N s s195 := t_N.up fl103 es195 (by decide)
                          have f18_4 : s195 0 18 = nI m := by rw [es195, g_up_sj]; exact (if_neg (by decide)).trans f18l103
                          have f19_4 : s195 0 19 = nI k := by rw [es195, g_up_sj]; exact (if_neg (by decide)).trans f19l103
                          have f20_4 : s195 0 20 = nI 2 := by rw [es195, g_up_sj]; exact (if_pos rfl).trans rfl
                          have f21_4 : s195 0 21 = nI 0 := by rw [es195, g_up_sj]; exact (if_neg (by decide)).trans f21l103
                          refine G_aload_n (i := 0) C 199 dX11_next_198 rfl rfl rfl ?_
                          refine G_iload_n (i := 2) C 200 dX11_next_199 rfl rfl rfl ?_
                          refine G_iconst (v := 3) C 201 dX11_next_200 rfl rfl ?_
                          refine G_icmp_ge C 208 204 dX11_next_201 rfl rfl (fun c201 => ?_) (fun c201 => ?_)
                          ·
                            have n201 : ¬ w < 3 := fun h => c201 ((g_ltN (a := w) (b := 3) (hx := ew) (hy := rfl) (by omega) (by omega)).mpr h)
                            refine G_iload_n (i := 2) C 209 dX11_next_208 rfl rfl rfl ?_
                            refine G_iconst (v := 3) C 210 dX11_next_209 rfl rfl ?_
                            refine G_isub C 211 dX11_next_210 rfl (fun x210 ex210 => ?_)
                            refine X11_108p C 214 dX11_next_211 rfl (fun s211 es211 => ?_)
                            have f_5 : t_N s s211 := t_N.up f_4 es211 (by decide)
                            have f18_5 : s211 0 18 = nI m := by rw [es211, g_up_sj]; exact (if_neg (by decide)).trans f18_4
                            have f19_5 : s211 0 19 = nI k := by rw [es211, g_up_sj]; exact (if_neg (by decide)).trans f19_4
                            have f20_5 : s211 0 20 = nI 2 := by rw [es211, g_up_sj]; exact (if_neg (by decide)).trans f20_4
                            have f21_5 : s211 0 21 = x210 := by rw [es211, g_up_sj]; exact if_pos rfl
                            refine G_goto C 403 dX11_next_214 rfl ?_
                            exact G_vret C dX11_next_403 (⟨f_5, f19_5.trans (by rw [hi]), f18_5.trans (by rw [hnx, hnw]), f20_5.trans (by rw [hcd, hkw, t_wtok w (by omega), ← ew, if_neg c162, if_pos c172] <;> rfl), by rw [hcd, hkw, f21_5]; have z := t_wval w (by omega); rw [← ew, if_neg c201, ← ex210] at z; exact z⟩)
                          ·
                            exact absurd c201 c162
                      ·
                        have n162 : w < 3 := (g_ltN (a := w) (b := 3) (hx := ew) (hy := rfl) (by omega) (by omega)).mp c162
                        refine G_iconst (v := 3) C 166 dX11_next_165 rfl rfl ?_
                        refine G_goto C 195 dX11_next_166 rfl ?_
                        refine X11_105p C 198 dX11_next_195 rfl (fun s195 es195 => ?_)
                        have f_4 : t_N s s195 := t_N.up fl103 es195 (by decide)
                        have f18_4 : s195 0 18 = nI m := by rw [es195, g_up_sj]; exact (if_neg (by decide)).trans f18l103
                        have f19_4 : s195 0 19 = nI k := by rw [es195, g_up_sj]; exact (if_neg (by decide)).trans f19l103
                        have f20_4 : s195 0 20 = nI 3 := by rw [es195, g_up_sj]; exact (if_pos rfl).trans rfl
                        have f21_4 : s195 0 21 = nI 0 := by rw [es195, g_up_sj]; exact (if_neg (by decide)).trans f21l103
                        refine G_aload_n (i := 0) C 199 dX11_next_198 rfl rfl rfl ?_
                        refine G_iload_n (i := 2) C 200 dX11_next_199 rfl rfl rfl ?_
                        refine G_iconst (v := 3) C 201 dX11_next_200 rfl rfl ?_
                        refine G_icmp_ge C 208 204 dX11_next_201 rfl rfl (fun c201 => ?_) (fun c201 => ?_)
                        ·
                          exact absurd c162 c201
                        ·
                          have n201 : w < 3 := (g_ltN (a := w) (b := 3) (hx := ew) (hy := rfl) (by omega) (by omega)).mp c201
                          refine G_iload_n (i := 2) C 205 dX11_next_204 rfl rfl rfl ?_
                          refine G_goto C 211 dX11_next_205 rfl ?_
                          refine X11_108p C 214 dX11_next_211 rfl (fun s211 es211 => ?_)
                          have f_5 : t_N s s211 := t_N.up f_4 es211 (by decide)
                          have f18_5 : s211 0 18 = nI m := by rw [es211, g_up_sj]; exact (if_neg (by decide)).trans f18_4
                          have f19_5 : s211 0 19 = nI k := by rw [es211, g_up_sj]; exact (if_neg (by decide)).trans f19_4
                          have f20_5 : s211 0 20 = nI 3 := by rw [es211, g_up_sj]; exact (if_neg (by decide)).trans f20_4
                          have f21_5 : s211 0 21 = nI w := by rw [es211, g_up_sj]; exact (if_pos rfl).trans ew
                          refine G_goto C 403 dX11_next_214 rfl ?_
                          exact G_vret C dX11_next_403 (⟨f_5, f19_5.trans (by rw [hi]), f18_5.trans (by rw [hnx, hnw]), f20_5.trans (by rw [hcd, hkw, t_wtok w (by omega), ← ew, if_pos c162] <;> rfl), by rw [hcd, hkw, f21_5]; have z := t_wval w (by omega); rw [← ew, if_pos c201, ew] at z; exact z⟩)
                    ·
                      have n111 : m < e := (g_ltN (a := m) (b := e) (hx := Sx104) (hy := Sx108) (by omega) (by omega)).mp c111
                      refine G_aload_n (i := 0) C 115 dX11_next_114 rfl rfl rfl ?_
                      refine X11_22g C 118 dX11_next_115 rfl ?_
                      refine G_aload_n (i := 0) C 119 dX11_next_118 rfl rfl rfl ?_
                      refine X11_99g C 122 dX11_next_119 rfl (fun x119 ex119 => ?_)
                      have Sx119 : x119 = nI m := ex119.trans f18l103
                      refine G_iald (n := 160) C 123 (by decide) (eMk (by decide) _ _ _) (m) Sx119 (by omega) (by decide) dX11_next_122 rfl (fun x122 ex122 => ?_)
                      have Sx122 : x122 = s 5 m := ex122.trans (congrFun (fl103.1 5 (by decide)) m)
                      refine G_bipush (v := 97) C 125 dX11_next_123 rfl rfl ?_
                      refine G_bipush (v := 122) C 127 dX11_next_125 rfl rfl ?_
                      refine G_calli 130 (G_runS C Kc_X11_in KS_X11_78 (by omega) (c_X11_in 0 x122 97 122 sl103) rfl rfl (Nat.le_of_ble_eq_true rfl) rfl dX11_next_127) rfl (fun x127 s127 h127 => ?_)
                      obtain ⟨es127, h127⟩ := h127
                      have es127 := es127.symm
                      subst es127
                      refine G_if_eq C 146 133 dX11_next_130 rfl rfl (fun c130 => ?_) (fun c130 => ?_)
                      ·
                        have k130 := h127.symm.trans c130
                        have hm : t_end (s 5) e 97 122 k = m := hte.symm.trans (t_end_n (by omega) (by rw [← Sx122]; exact k130))
                        have hN5 : sl103 5 = s 5 := fl103.1 5 (by decide)
                        refine G_aload_n (i := 0) C 147 dX11_next_146 rfl rfl rfl ?_
                        refine G_aload_n (i := 0) C 148 dX11_next_147 rfl rfl rfl ?_
                        refine X11_102g C 151 dX11_next_148 rfl (fun x148 ex148 => ?_)
                        have Sx148 : x148 = nI k := ex148.trans f19l103
                        refine G_aload_n (i := 0) C 152 dX11_next_151 rfl rfl rfl ?_
                        refine X11_99g C 155 dX11_next_152 rfl (fun x152 ex152 => ?_)
                        have Sx152 : x152 = nI m := ex152.trans f18l103
                        refine G_calli 158 (G_runV C Kc_X11_wordFrom KV_X11_111 (by omega) (by decide) (eM _ _ _) rfl (c_X11_wordFrom 0 sl103 x148 x152 k m Sx148 Sx152 (by omega) (by omega) (fun q hq => by rw [hN5]; exact t_end_in (e := e) (p := k) (by omega) (by rw [hm]; omega))) rfl rfl rfl (Nat.le_of_ble_eq_true rfl) rfl dX11_next_155) rfl (fun x155 s155 h155 => ?_)
                        obtain ⟨es155, h155⟩ := h155
                        have es155 := es155.symm
                        subst es155
                        obtain ⟨w, hw12, ew, hw1, hw2⟩ := h155
                        rw [hN5] at hw1 hw2
                        have hkw : t_cd (s 5) e k = t_kc w := by
                          unfold t_cd
                          rw [if_neg (by rw [← Sx90]; exact k100), hm]
                          by_cases hw : w < 12
                          · exact t_kw_yes hw (hw1 hw)
                          · have e12 : w = 12 := by omega
                            rw [e12, t_kw_no (fun q hq => hw2 q (by omega))]
                            rfl
                        have hnw : t_nx (s 5) e k = m := by unfold t_nx; rw [if_neg (by rw [← Sx90]; exact k100), hm]
                        refine G_istore_n (i := 2) (L' := [some (.ref (e_ad E 0)), some (.int x90), some (.int x155)]) C 159 dX11_next_158 rfl rfl (Nat.le_of_ble_eq_true rfl) rfl rfl ?_
                        refine G_aload_n (i := 0) C 160 dX11_next_159 rfl rfl rfl ?_
                        refine G_iload_n (i := 2) C 161 dX11_next_160 rfl rfl rfl ?_
                        refine G_iconst (v := 3) C 162 dX11_next_161 rfl rfl ?_
                        refine G_icmp_ge C 169 165 dX11_next_162 rfl rfl (fun c162 => ?_) (fun c162 => ?_)
                        ·
                          have n162 : ¬ w < 3 := fun h => c162 ((g_ltN (a := w) (b := 3) (hx := ew) (hy := rfl) (by omega) (by omega)).mpr h)
                          refine G_iload_n (i := 2) C 170 dX11_next_169 rfl rfl rfl ?_
                          refine G_bipush (v := 9) C 172 dX11_next_170 rfl rfl ?_
                          refine G_icmp_ge C 179 175 dX11_next_172 rfl rfl (fun c172 => ?_) (fun c172 => ?_)
                          ·
                            have n172 : ¬ w < 9 := fun h => c172 ((g_ltN (a := w) (b := 9) (hx := ew) (hy := rfl) (by omega) (by omega)).mpr h)
                            refine G_iload_n (i := 2) C 180 dX11_next_179 rfl rfl rfl ?_
                            refine G_bipush (v := 12) C 182 dX11_next_180 rfl rfl ?_
                            refine G_icmp_ne C 189 185 dX11_next_182 rfl rfl (fun c182 => ?_) (fun c182 => ?_)
                            ·
                              have n182 : ¬ w = 12 := fun h => c182 ((g_eqN (a := w) (b := 12) (hx := ew) (hy := rfl) (by omega) (by omega)).mpr h)
                              have k182 := g_neT ew c182
                              refine G_iconst (v := 4) C 190 dX11_next_189 rfl rfl ?_
                              refine G_iload_n (i := 2) C 191 dX11_next_190 rfl rfl rfl ?_
                              refine G_iadd C 192 dX11_next_191 rfl (fun x191 ex191 => ?_)
                              have Nx191 : x191 = nI (4 + w) := g_addN ex191 rfl ew
                              refine G_bipush (v := 9) C 194 dX11_next_192 rfl rfl ?_
                              refine G_isub C 195 dX11_next_194 rfl (fun x194 ex194 => ?_)
                              refine X11_105p C 198 dX11_next_195 rfl (fun s195 es195 => ?_)
                              have f_4 : t_N s s195 := t_N.up fl103 es195 (by decide)
                              have f18_4 : s195 0 18 = nI m := by rw [es195, g_up_sj]; exact (if_neg (by decide)).trans f18l103
                              have f19_4 : s195 0 19 = nI k := by rw [es195, g_up_sj]; exact (if_neg (by decide)).trans f19l103
                              have f20_4 : s195 0 20 = x194 := by rw [es195, g_up_sj]; exact if_pos rfl
                              have f21_4 : s195 0 21 = nI 0 := by rw [es195, g_up_sj]; exact (if_neg (by decide)).trans f21l103
                              refine G_aload_n (i := 0) C 199 dX11_next_198 rfl rfl rfl ?_
                              refine G_iload_n (i := 2) C 200 dX11_next_199 rfl rfl rfl ?_
                              refine G_iconst (v := 3) C 201 dX11_next_200 rfl rfl ?_
                              refine G_icmp_ge C 208 204 dX11_next_201 rfl rfl (fun c201 => ?_) (fun c201 => ?_)
                              ·
                                have n201 : ¬ w < 3 := fun h => c201 ((g_ltN (a := w) (b := 3) (hx := ew) (hy := rfl) (by omega) (by omega)).mpr h)
                                refine G_iload_n (i := 2) C 209 dX11_next_208 rfl rfl rfl ?_
                                refine G_iconst (v := 3) C 210 dX11_next_209 rfl rfl ?_
                                refine G_isub C 211 dX11_next_210 rfl (fun x210 ex210 => ?_)
                                refine X11_108p C 214 dX11_next_211 rfl (fun s211 es211 => ?_)
                                have f_5 : t_N s s211 := t_N.up f_4 es211 (by decide)
                                have f18_5 : s211 0 18 = nI m := by rw [es211, g_up_sj]; exact (if_neg (by decide)).trans f18_4
                                have f19_5 : s211 0 19 = nI k := by rw [es211, g_up_sj]; exact (if_neg (by decide)).trans f19_4
                                have f20_5 : s211 0 20 = x194 := by rw [es211, g_up_sj]; exact (if_neg (by decide)).trans f20_4
                                have f21_5 : s211 0 21 = x210 := by rw [es211, g_up_sj]; exact if_pos rfl
                                refine G_goto C 403 dX11_next_214 rfl ?_
                                exact G_vret C dX11_next_403 (⟨f_5, f19_5.trans (by rw [hi]), f18_5.trans (by rw [hnx, hnw]), f20_5.trans (by rw [hcd, hkw, t_wtok w (by omega), ← ew, if_neg c162, if_neg c172]; rw [← ex191, ← ex194]), by rw [hcd, hkw, f21_5]; have z := t_wval w (by omega); rw [← ew, if_neg c201, ← ex210] at z; exact z⟩)
                              ·
                                exact absurd c201 c162
                            ·
                              have n182 : w = 12 := (g_eqN (a := w) (b := 12) (hx := ew) (hy := rfl) (by omega) (by omega)).mp c182
                              have k182 := ew.symm.trans c182
                              refine G_iconst (v := (-1)) C 186 dX11_next_185 rfl rfl ?_
                              refine G_goto C 195 dX11_next_186 rfl ?_
                              refine X11_105p C 198 dX11_next_195 rfl (fun s195 es195 => ?_)
                              have f_4 : t_N s s195 := t_N.up fl103 es195 (by decide)
                              have f18_4 : s195 0 18 = nI m := by rw [es195, g_up_sj]; exact (if_neg (by decide)).trans f18l103
                              have f19_4 : s195 0 19 = nI k := by rw [es195, g_up_sj]; exact (if_neg (by decide)).trans f19l103
                              have f20_4 : s195 0 20 = (-1) := by rw [es195, g_up_sj]; exact if_pos rfl
                              have f21_4 : s195 0 21 = nI 0 := by rw [es195, g_up_sj]; exact (if_neg (by decide)).trans f21l103
                              refine G_aload_n (i := 0) C 199 dX11_next_198 rfl rfl rfl ?_
                              refine G_iload_n (i := 2) C 200 dX11_next_199 rfl rfl rfl ?_
                              refine G_iconst (v := 3) C 201 dX11_next_200 rfl rfl ?_
                              refine G_icmp_ge C 208 204 dX11_next_201 rfl rfl (fun c201 => ?_) (fun c201 => ?_)
                              ·
                                have n201 : ¬ w < 3 := fun h => c201 ((g_ltN (a := w) (b := 3) (hx := ew) (hy := rfl) (by omega) (by omega)).mpr h)
                                refine G_iload_n (i := 2) C 209 dX11_next_208 rfl rfl rfl ?_
                                refine G_iconst (v := 3) C 210 dX11_next_209 rfl rfl ?_
                                refine G_isub C 211 dX11_next_210 rfl (fun x210 ex210 => ?_)
                                refine X11_108p C 214 dX11_next_211 rfl (fun s211 es211 => ?_)
                                have f_5 : t_N s s211 := t_N.up f_4 es211 (by decide)
                                have f18_5 : s211 0 18 = nI m := by rw [es211, g_up_sj]; exact (if_neg (by decide)).trans f18_4
                                have f19_5 : s211 0 19 = nI k := by rw [es211, g_up_sj]; exact (if_neg (by decide)).trans f19_4
                                have f20_5 : s211 0 20 = (-1) := by rw [es211, g_up_sj]; exact (if_neg (by decide)).trans f20_4
                                have f21_5 : s211 0 21 = x210 := by rw [es211, g_up_sj]; exact if_pos rfl
                                refine G_goto C 403 dX11_next_214 rfl ?_
                                exact G_vret C dX11_next_403 (⟨f_5, f19_5.trans (by rw [hi]), f18_5.trans (by rw [hnx, hnw]), f20_5.trans (by rw [hcd, hkw, n182]; rfl), by rw [hcd, hkw, n182]; exact t_V0 (by decide)⟩)
                              ·
                                exact absurd c201 c162
                          ·
                            have n172 : w < 9 := (g_ltN (a := w) (b := 9) (hx := ew) (hy := rfl) (by omega) (by omega)).mp c172
                            refine G_iconst (v := 2) C 176 dX11_next_175 rfl rfl ?_
                            refine G_goto C 195 dX11_next_176 rfl ?_
                            refine X11_105p C 198 dX11_next_195 rfl (fun s195 es195 => ?_)
                            have f_4 : t_N s s195 := t_N.up fl103 es195 (by decide)
                            have f18_4 : s195 0 18 = nI m := by rw [es195, g_up_sj]; exact (if_neg (by decide)).trans f18l103
                            have f19_4 : s195 0 19 = nI k := by rw [es195, g_up_sj]; exact (if_neg (by decide)).trans f19l103
                            have f20_4 : s195 0 20 = nI 2 := by rw [es195, g_up_sj]; exact (if_pos rfl).trans rfl
                            have f21_4 : s195 0 21 = nI 0 := by rw [es195, g_up_sj]; exact (if_neg (by decide)).trans f21l103
                            refine G_aload_n (i := 0) C 199 dX11_next_198 rfl rfl rfl ?_
                            refine G_iload_n (i := 2) C 200 dX11_next_199 rfl rfl rfl ?_
                            refine G_iconst (v := 3) C 201 dX11_next_200 rfl rfl ?_
                            refine G_icmp_ge C 208 204 dX11_next_201 rfl rfl (fun c201 => ?_) (fun c201 => ?_)
                            ·
                              have n201 : ¬ w < 3 := fun h => c201 ((g_ltN (a := w) (b := 3) (hx := ew) (hy := rfl) (by omega) (by omega)).mpr h)
                              refine G_iload_n (i := 2) C 209 dX11_next_208 rfl rfl rfl ?_
                              refine G_iconst (v := 3) C 210 dX11_next_209 rfl rfl ?_
                              refine G_isub C 211 dX11_next_210 rfl (fun x210 ex210 => ?_)
                              refine X11_108p C 214 dX11_next_211 rfl (fun s211 es211 => ?_)
                              have f_5 : t_N s s211 := t_N.up f_4 es211 (by decide)
                              have f18_5 : s211 0 18 = nI m := by rw [es211, g_up_sj]; exact (if_neg (by decide)).trans f18_4
                              have f19_5 : s211 0 19 = nI k := by rw [es211, g_up_sj]; exact (if_neg (by decide)).trans f19_4
                              have f20_5 : s211 0 20 = nI 2 := by rw [es211, g_up_sj]; exact (if_neg (by decide)).trans f20_4
                              have f21_5 : s211 0 21 = x210 := by rw [es211, g_up_sj]; exact if_pos rfl
                              refine G_goto C 403 dX11_next_214 rfl ?_
                              exact G_vret C dX11_next_403 (⟨f_5, f19_5.trans (by rw [hi]), f18_5.trans (by rw [hnx, hnw]), f20_5.trans (by rw [hcd, hkw, t_wtok w (by omega), ← ew, if_neg c162, if_pos c172] <;> rfl), by rw [hcd, hkw, f21_5]; have z := t_wval w (by omega); rw [← ew, if_neg c201, ← ex210] at z; exact z⟩)
                            ·
                              exact absurd c201 c162
                        ·
                          have n162 : w < 3 := (g_ltN (a := w) (b := 3) (hx := ew) (hy := rfl) (by omega) (by omega)).mp c162
                          refine G_iconst (v := 3) C 166 dX11_next_165 rfl rfl ?_
                          refine G_goto C 195 dX11_next_166 rfl ?_
                          refine X11_105p C 198 dX11_next_195 rfl (fun s195 es195 => ?_)
                          have f_4 : t_N s s195 := t_N.up fl103 es195 (by decide)
                          have f18_4 : s195 0 18 = nI m := by rw [es195, g_up_sj]; exact (if_neg (by decide)).trans f18l103
                          have f19_4 : s195 0 19 = nI k := by rw [es195, g_up_sj]; exact (if_neg (by decide)).trans f19l103
                          have f20_4 : s195 0 20 = nI 3 := by rw [es195, g_up_sj]; exact (if_pos rfl).trans rfl
                          have f21_4 : s195 0 21 = nI 0 := by rw [es195, g_up_sj]; exact (if_neg (by decide)).trans f21l103
                          refine G_aload_n (i := 0) C 199 dX11_next_198 rfl rfl rfl ?_
                          refine G_iload_n (i := 2) C 200 dX11_next_199 rfl rfl rfl ?_
                          refine G_iconst (v := 3) C 201 dX11_next_200 rfl rfl ?_
                          refine G_icmp_ge C 208 204 dX11_next_201 rfl rfl (fun c201 => ?_) (fun c201 => ?_)
                          ·
                            exact absurd c162 c201
                          ·
                            have n201 : w < 3 := (g_ltN (a := w) (b := 3) (hx := ew) (hy := rfl) (by omega) (by omega)).mp c201
                            refine G_iload_n (i := 2) C 205 dX11_next_204 rfl rfl rfl ?_
                            refine G_goto C 211 dX11_next_205 rfl ?_
                            refine X11_108p C 214 dX11_next_211 rfl (fun s211 es211 => ?_)
                            have f_5 : t_N s s211 := t_N.up f_4 es211 (by decide)
                            have f18_5 : s211 0 18 = nI m := by rw [es211, g_up_sj]; exact (if_neg (by decide)).trans f18_4
                            have f19_5 : s211 0 19 = nI k := by rw [es211, g_up_sj]; exact (if_neg (by decide)).trans f19_4
                            have f20_5 : s211 0 20 = nI 3 := by rw [es211, g_up_sj]; exact (if_neg (by decide)).trans f20_4
                            have f21_5 : s211 0 21 = nI w := by rw [es211, g_up_sj]; exact (if_pos rfl).trans ew
                            refine G_goto C 403 dX11_next_214 rfl ?_
                            exact G_vret C dX11_next_403 (⟨f_5, f19_5.trans (by rw [hi]), f18_5.trans (by rw [hnx, hnw]), f20_5.trans (by rw [hcd, hkw, t_wtok w (by omega), ← ew, if_pos c162] <;> rfl), by rw [hcd, hkw, f21_5]; have z := t_wval w (by omega); rw [← ew, if_pos c201, ew] at z; exact z⟩)
                      ·
                        have k130 := g_neT h127 c130
                        refine G_aload_n (i := 0) C 134 dX11_next_133 rfl rfl rfl ?_
                        refine G_dup C 135 dX11_next_134 rfl rfl ?_
                        refine X11_99g C 138 dX11_next_135 rfl (fun x135 ex135 => ?_)
                        have Sx135 : x135 = nI m := ex135.trans f18l103
                        refine G_iconst (v := 1) C 139 dX11_next_138 rfl rfl ?_
                        refine G_iadd C 140 dX11_next_139 rfl (fun x139 ex139 => ?_)
                        have Nx139 : x139 = nI (m + 1) := g_addN ex139 Sx135 rfl
                        refine X11_99p C 143 dX11_next_140 rfl (fun s140 es140 => ?_)
                        have f_4 : t_N s s140 := t_N.up fl103 es140 (by decide)
                        have f18_4 : s140 0 18 = nI (m + 1) := by rw [es140, g_up_sj]; exact (if_pos rfl).trans Nx139
                        have f19_4 : s140 0 19 = nI k := by rw [es140, g_up_sj]; exact (if_neg (by decide)).trans f19l103
                        have f20_4 : s140 0 20 = nI 0 := by rw [es140, g_up_sj]; exact (if_neg (by decide)).trans f20l103
                        have f21_4 : s140 0 21 = nI 0 := by rw [es140, g_up_sj]; exact (if_neg (by decide)).trans f21l103
                        refine G_goto C 103 dX11_next_143 rfl ?_
                        exact ih103 (m + 1)  s140 (by omega) (by omega) ((t_end_s (by omega) (by rw [← Sx122]; exact k130)).symm.trans hte) f_4 (f18_4) (f19_4) (f20_4) (f21_4) (by omega)
                exact L103 (e + 1) k  s67 (by omega) (by omega) (rfl) f_3 (f18_3) (f19_3) (f20_3) (f21_3) (by omega)
            ·
              have n78 : k = e := (g_eqN (a := k) (b := e) (hx := Sx71) (hy := Sx75) (by omega) (by omega)).mp c78
              exact G_vret C dX11_next_81 (⟨f_3, f19_3.trans (by rw [hi]), f18_3.trans (by unfold t_n; rw [hi, if_neg (by omega)]), f20_3.trans (by unfold t_c; rw [hi, if_neg (by omega)]; rfl), by unfold t_c; rw [hi, if_neg (by omega)]; exact t_V0 (by decide)⟩)
          ·
            refine G_aload_n (i := 0) C 40 dX11_next_39 rfl rfl rfl ?_
            refine G_dup C 41 dX11_next_40 rfl rfl ?_
            refine X11_99g C 44 dX11_next_41 rfl (fun x41 ex41 => ?_)
            have Sx41 : x41 = nI k := ex41.trans f18l0
            refine G_iconst (v := 1) C 45 dX11_next_44 rfl rfl ?_
            refine G_iadd C 46 dX11_next_45 rfl (fun x45 ex45 => ?_)
            have Nx45 : x45 = nI (k + 1) := g_addN ex45 Sx41 rfl
            refine X11_99p C 49 dX11_next_46 rfl (fun s46 es46 => ?_)
            have f_1 : t_N s s46 := t_N.up fl0 es46 (by decide)
            have f18_1 : s46 0 18 = nI (k + 1) := by rw [es46, g_up_sj]; exact (if_pos rfl).trans Nx45
            have f19_1 : s46 0 19 = s 0 19 := by rw [es46, g_up_sj]; exact (if_neg (by decide)).trans f19l0
            have f20_1 : s46 0 20 = s 0 20 := by rw [es46, g_up_sj]; exact (if_neg (by decide)).trans f20l0
            have f21_1 : s46 0 21 = s 0 21 := by rw [es46, g_up_sj]; exact (if_neg (by decide)).trans f21l0
            refine G_goto C 0 dX11_next_49 rfl ?_
            exact ih0 (k + 1)  s46 (by omega) (by omega) ((t_pl_b (by omega) (Or.inr (Sx33.symm.trans c36))).symm.trans hpl) f_1 (f18_1) f19_1 f20_1 f21_1 (by omega)
  exact L0 (e + 1) p  s (by omega) (by omega) (rfl) f (f18) f19 f20 f21 (by omega)
