theorem dX9_takesE_0 : decode cX9_takesE 0 = .ok (.iconst 0, 1) := by decide +kernel
theorem dX9_takesE_1 : decode cX9_takesE 1 = .ok (.istore_n 1, 1) := by decide +kernel
theorem dX9_takesE_2 : decode cX9_takesE 2 = .ok (.iconst 0, 1) := by decide +kernel
theorem dX9_takesE_3 : decode cX9_takesE 3 = .ok (.istore_n 2, 1) := by decide +kernel
theorem dX9_takesE_4 : decode cX9_takesE 4 = .ok (.iconst 1, 1) := by decide +kernel
theorem dX9_takesE_5 : decode cX9_takesE 5 = .ok (.istore_n 3, 1) := by decide +kernel
theorem dX9_takesE_6 : decode cX9_takesE 6 = .ok (.aload_n 0, 1) := by decide +kernel
theorem dX9_takesE_7 : decode cX9_takesE 7 = .ok (.iconst 0, 1) := by decide +kernel
theorem dX9_takesE_8 : decode cX9_takesE 8 = .ok (.putfield 228, 3) := by decide +kernel
theorem dX9_takesE_11 : decode cX9_takesE 11 = .ok (.aload_n 0, 1) := by decide +kernel
theorem dX9_takesE_12 : decode cX9_takesE 12 = .ok (.iconst 0, 1) := by decide +kernel
theorem dX9_takesE_13 : decode cX9_takesE 13 = .ok (.putfield 234, 3) := by decide +kernel
theorem dX9_takesE_16 : decode cX9_takesE 16 = .ok (.aload_n 0, 1) := by decide +kernel
theorem dX9_takesE_17 : decode cX9_takesE 17 = .ok (.iconst 0, 1) := by decide +kernel
theorem dX9_takesE_18 : decode cX9_takesE 18 = .ok (.putfield 222, 3) := by decide +kernel
theorem dX9_takesE_21 : decode cX9_takesE 21 = .ok (.aload_n 0, 1) := by decide +kernel
theorem dX9_takesE_22 : decode cX9_takesE 22 = .ok (.getfield 42, 3) := by decide +kernel
theorem dX9_takesE_25 : decode cX9_takesE 25 = .ok (.iconst 0, 1) := by decide +kernel
theorem dX9_takesE_26 : decode cX9_takesE 26 = .ok (.iconst 0, 1) := by decide +kernel
theorem dX9_takesE_27 : decode cX9_takesE 27 = .ok (.bastore, 1) := by decide +kernel
theorem dX9_takesE_28 : decode cX9_takesE 28 = .ok (.iload_n 3, 1) := by decide +kernel
theorem dX9_takesE_29 : decode cX9_takesE 29 = .ok (.ifCond .ne 10, 3) := by decide +kernel
theorem dX9_takesE_32 : decode cX9_takesE 32 = .ok (.aload_n 0, 1) := by decide +kernel
theorem dX9_takesE_33 : decode cX9_takesE 33 = .ok (.getfield 204, 3) := by decide +kernel
theorem dX9_takesE_36 : decode cX9_takesE 36 = .ok (.ifCond .eq 309, 3) := by decide +kernel
theorem dX9_takesE_39 : decode cX9_takesE 39 = .ok (.iload_n 3, 1) := by decide +kernel
theorem dX9_takesE_40 : decode cX9_takesE 40 = .ok (.ifCond .eq 140, 3) := by decide +kernel
theorem dX9_takesE_43 : decode cX9_takesE 43 = .ok (.aload_n 0, 1) := by decide +kernel
theorem dX9_takesE_44 : decode cX9_takesE 44 = .ok (.getfield 204, 3) := by decide +kernel
theorem dX9_takesE_47 : decode cX9_takesE 47 = .ok (.iconst 3, 1) := by decide +kernel
theorem dX9_takesE_48 : decode cX9_takesE 48 = .ok (.if_icmp .ne 49, 3) := by decide +kernel
theorem dX9_takesE_51 : decode cX9_takesE 51 = .ok (.aload_n 0, 1) := by decide +kernel
theorem dX9_takesE_52 : decode cX9_takesE 52 = .ok (.getfield 210, 3) := by decide +kernel
theorem dX9_takesE_55 : decode cX9_takesE 55 = .ok (.bipush 33, 2) := by decide +kernel
theorem dX9_takesE_57 : decode cX9_takesE 57 = .ok (.if_icmp .ne 40, 3) := by decide +kernel
theorem dX9_takesE_60 : decode cX9_takesE 60 = .ok (.iload_n 2, 1) := by decide +kernel
theorem dX9_takesE_61 : decode cX9_takesE 61 = .ok (.bipush 8, 2) := by decide +kernel
theorem dX9_takesE_63 : decode cX9_takesE 63 = .ok (.if_icmp .ge 34, 3) := by decide +kernel
theorem dX9_takesE_66 : decode cX9_takesE 66 = .ok (.aload_n 0, 1) := by decide +kernel
theorem dX9_takesE_67 : decode cX9_takesE 67 = .ok (.getfield 39, 3) := by decide +kernel
theorem dX9_takesE_70 : decode cX9_takesE 70 = .ok (.aload_n 0, 1) := by decide +kernel
theorem dX9_takesE_71 : decode cX9_takesE 71 = .ok (.getfield 222, 3) := by decide +kernel
theorem dX9_takesE_74 : decode cX9_takesE 74 = .ok (.bipush (-10), 2) := by decide +kernel
theorem dX9_takesE_76 : decode cX9_takesE 76 = .ok (.iastore, 1) := by decide +kernel
theorem dX9_takesE_77 : decode cX9_takesE 77 = .ok (.aload_n 0, 1) := by decide +kernel
theorem dX9_takesE_78 : decode cX9_takesE 78 = .ok (.dup, 1) := by decide +kernel
theorem dX9_takesE_79 : decode cX9_takesE 79 = .ok (.getfield 222, 3) := by decide +kernel
theorem dX9_takesE_82 : decode cX9_takesE 82 = .ok (.iconst 1, 1) := by decide +kernel
theorem dX9_takesE_83 : decode cX9_takesE 83 = .ok (.iadd, 1) := by decide +kernel
theorem dX9_takesE_84 : decode cX9_takesE 84 = .ok (.putfield 222, 3) := by decide +kernel
theorem dX9_takesE_87 : decode cX9_takesE 87 = .ok (.iinc 2 1, 3) := by decide +kernel
theorem dX9_takesE_90 : decode cX9_takesE 90 = .ok (.aload_n 0, 1) := by decide +kernel
theorem dX9_takesE_91 : decode cX9_takesE 91 = .ok (.invokevirtual 219, 3) := by decide +kernel
theorem dX9_takesE_94 : decode cX9_takesE 94 = .ok (.goto 78, 3) := by decide +kernel
theorem dX9_takesE_97 : decode cX9_takesE 97 = .ok (.aload_n 0, 1) := by decide +kernel
theorem dX9_takesE_98 : decode cX9_takesE 98 = .ok (.getfield 204, 3) := by decide +kernel
theorem dX9_takesE_101 : decode cX9_takesE 101 = .ok (.iconst 3, 1) := by decide +kernel
theorem dX9_takesE_102 : decode cX9_takesE 102 = .ok (.if_icmp .ne 56, 3) := by decide +kernel
theorem dX9_takesE_105 : decode cX9_takesE 105 = .ok (.aload_n 0, 1) := by decide +kernel
theorem dX9_takesE_106 : decode cX9_takesE 106 = .ok (.getfield 210, 3) := by decide +kernel
theorem dX9_takesE_109 : decode cX9_takesE 109 = .ok (.bipush 40, 2) := by decide +kernel
theorem dX9_takesE_111 : decode cX9_takesE 111 = .ok (.if_icmp .ne 47, 3) := by decide +kernel
theorem dX9_takesE_114 : decode cX9_takesE 114 = .ok (.iload_n 1, 1) := by decide +kernel
theorem dX9_takesE_115 : decode cX9_takesE 115 = .ok (.bipush 8, 2) := by decide +kernel
theorem dX9_takesE_117 : decode cX9_takesE 117 = .ok (.if_icmp .ge 41, 3) := by decide +kernel
theorem dX9_takesE_120 : decode cX9_takesE 120 = .ok (.aload_n 0, 1) := by decide +kernel
theorem dX9_takesE_121 : decode cX9_takesE 121 = .ok (.getfield 39, 3) := by decide +kernel
theorem dX9_takesE_124 : decode cX9_takesE 124 = .ok (.aload_n 0, 1) := by decide +kernel
theorem dX9_takesE_125 : decode cX9_takesE 125 = .ok (.getfield 222, 3) := by decide +kernel
theorem dX9_takesE_128 : decode cX9_takesE 128 = .ok (.bipush (-11), 2) := by decide +kernel
theorem dX9_takesE_130 : decode cX9_takesE 130 = .ok (.iastore, 1) := by decide +kernel
theorem dX9_takesE_131 : decode cX9_takesE 131 = .ok (.aload_n 0, 1) := by decide +kernel
theorem dX9_takesE_132 : decode cX9_takesE 132 = .ok (.dup, 1) := by decide +kernel
theorem dX9_takesE_133 : decode cX9_takesE 133 = .ok (.getfield 222, 3) := by decide +kernel
theorem dX9_takesE_136 : decode cX9_takesE 136 = .ok (.iconst 1, 1) := by decide +kernel
theorem dX9_takesE_137 : decode cX9_takesE 137 = .ok (.iadd, 1) := by decide +kernel
theorem dX9_takesE_138 : decode cX9_takesE 138 = .ok (.putfield 222, 3) := by decide +kernel
theorem dX9_takesE_141 : decode cX9_takesE 141 = .ok (.iinc 1 1, 3) := by decide +kernel
theorem dX9_takesE_144 : decode cX9_takesE 144 = .ok (.aload_n 0, 1) := by decide +kernel
theorem dX9_takesE_145 : decode cX9_takesE 145 = .ok (.getfield 42, 3) := by decide +kernel
theorem dX9_takesE_148 : decode cX9_takesE 148 = .ok (.iload_n 1, 1) := by decide +kernel
theorem dX9_takesE_149 : decode cX9_takesE 149 = .ok (.iconst 0, 1) := by decide +kernel
theorem dX9_takesE_150 : decode cX9_takesE 150 = .ok (.bastore, 1) := by decide +kernel
theorem dX9_takesE_151 : decode cX9_takesE 151 = .ok (.aload_n 0, 1) := by decide +kernel
theorem dX9_takesE_152 : decode cX9_takesE 152 = .ok (.invokevirtual 219, 3) := by decide +kernel
theorem dX9_takesE_155 : decode cX9_takesE 155 = .ok (.goto 17, 3) := by decide +kernel
theorem dX9_takesE_158 : decode cX9_takesE 158 = .ok (.aload_n 0, 1) := by decide +kernel
theorem dX9_takesE_159 : decode cX9_takesE 159 = .ok (.invokevirtual 240, 3) := by decide +kernel
theorem dX9_takesE_162 : decode cX9_takesE 162 = .ok (.ifCond .eq 8, 3) := by decide +kernel
theorem dX9_takesE_165 : decode cX9_takesE 165 = .ok (.iconst 0, 1) := by decide +kernel
theorem dX9_takesE_166 : decode cX9_takesE 166 = .ok (.istore_n 3, 1) := by decide +kernel
theorem dX9_takesE_167 : decode cX9_takesE 167 = .ok (.goto 5, 3) := by decide +kernel
theorem dX9_takesE_170 : decode cX9_takesE 170 = .ok (.iconst 0, 1) := by decide +kernel
theorem dX9_takesE_171 : decode cX9_takesE 171 = .ok (.ireturn, 1) := by decide +kernel
theorem dX9_takesE_172 : decode cX9_takesE 172 = .ok (.aload_n 0, 1) := by decide +kernel
theorem dX9_takesE_173 : decode cX9_takesE 173 = .ok (.invokevirtual 244, 3) := by decide +kernel
theorem dX9_takesE_176 : decode cX9_takesE 176 = .ok (.istore_n 2, 1) := by decide +kernel
theorem dX9_takesE_177 : decode cX9_takesE 177 = .ok (.goto (-149), 3) := by decide +kernel
theorem dX9_takesE_180 : decode cX9_takesE 180 = .ok (.aload_n 0, 1) := by decide +kernel
theorem dX9_takesE_181 : decode cX9_takesE 181 = .ok (.getfield 204, 3) := by decide +kernel
theorem dX9_takesE_184 : decode cX9_takesE 184 = .ok (.iconst 3, 1) := by decide +kernel
theorem dX9_takesE_185 : decode cX9_takesE 185 = .ok (.if_icmp .ne 52, 3) := by decide +kernel
theorem dX9_takesE_188 : decode cX9_takesE 188 = .ok (.aload_n 0, 1) := by decide +kernel
theorem dX9_takesE_189 : decode cX9_takesE 189 = .ok (.getfield 210, 3) := by decide +kernel
theorem dX9_takesE_192 : decode cX9_takesE 192 = .ok (.bipush 41, 2) := by decide +kernel
theorem dX9_takesE_194 : decode cX9_takesE 194 = .ok (.if_icmp .ne 43, 3) := by decide +kernel
theorem dX9_takesE_197 : decode cX9_takesE 197 = .ok (.iload_n 1, 1) := by decide +kernel
theorem dX9_takesE_198 : decode cX9_takesE 198 = .ok (.ifCond .le 39, 3) := by decide +kernel
theorem dX9_takesE_201 : decode cX9_takesE 201 = .ok (.aload_n 0, 1) := by decide +kernel
theorem dX9_takesE_202 : decode cX9_takesE 202 = .ok (.iconst 0, 1) := by decide +kernel
theorem dX9_takesE_203 : decode cX9_takesE 203 = .ok (.invokevirtual 237, 3) := by decide +kernel
theorem dX9_takesE_206 : decode cX9_takesE 206 = .ok (.aload_n 0, 1) := by decide +kernel
theorem dX9_takesE_207 : decode cX9_takesE 207 = .ok (.dup, 1) := by decide +kernel
theorem dX9_takesE_208 : decode cX9_takesE 208 = .ok (.getfield 222, 3) := by decide +kernel
theorem dX9_takesE_211 : decode cX9_takesE 211 = .ok (.iconst 1, 1) := by decide +kernel
theorem dX9_takesE_212 : decode cX9_takesE 212 = .ok (.isub, 1) := by decide +kernel
theorem dX9_takesE_213 : decode cX9_takesE 213 = .ok (.putfield 222, 3) := by decide +kernel
theorem dX9_takesE_216 : decode cX9_takesE 216 = .ok (.iinc 1 (-1), 3) := by decide +kernel
theorem dX9_takesE_219 : decode cX9_takesE 219 = .ok (.aload_n 0, 1) := by decide +kernel
theorem dX9_takesE_220 : decode cX9_takesE 220 = .ok (.bipush 6, 2) := by decide +kernel
theorem dX9_takesE_222 : decode cX9_takesE 222 = .ok (.invokevirtual 237, 3) := by decide +kernel
theorem dX9_takesE_225 : decode cX9_takesE 225 = .ok (.aload_n 0, 1) := by decide +kernel
theorem dX9_takesE_226 : decode cX9_takesE 226 = .ok (.invokevirtual 244, 3) := by decide +kernel
theorem dX9_takesE_229 : decode cX9_takesE 229 = .ok (.istore_n 2, 1) := by decide +kernel
theorem dX9_takesE_230 : decode cX9_takesE 230 = .ok (.aload_n 0, 1) := by decide +kernel
theorem dX9_takesE_231 : decode cX9_takesE 231 = .ok (.invokevirtual 219, 3) := by decide +kernel
theorem dX9_takesE_234 : decode cX9_takesE 234 = .ok (.goto (-206), 3) := by decide +kernel
theorem dX9_takesE_237 : decode cX9_takesE 237 = .ok (.aload_n 0, 1) := by decide +kernel
theorem dX9_takesE_238 : decode cX9_takesE 238 = .ok (.invokevirtual 247, 3) := by decide +kernel
theorem dX9_takesE_241 : decode cX9_takesE 241 = .ok (.istore 4, 2) := by decide +kernel
theorem dX9_takesE_243 : decode cX9_takesE 243 = .ok (.iload 4, 2) := by decide +kernel
theorem dX9_takesE_245 : decode cX9_takesE 245 = .ok (.ifCond .eq 21, 3) := by decide +kernel
theorem dX9_takesE_248 : decode cX9_takesE 248 = .ok (.iload 4, 2) := by decide +kernel
theorem dX9_takesE_250 : decode cX9_takesE 250 = .ok (.invokestatic 225, 3) := by decide +kernel
theorem dX9_takesE_253 : decode cX9_takesE 253 = .ok (.iconst 3, 1) := by decide +kernel
theorem dX9_takesE_254 : decode cX9_takesE 254 = .ok (.if_icmp .ne 14, 3) := by decide +kernel
theorem dX9_takesE_257 : decode cX9_takesE 257 = .ok (.aload_n 0, 1) := by decide +kernel
theorem dX9_takesE_258 : decode cX9_takesE 258 = .ok (.getfield 42, 3) := by decide +kernel
theorem dX9_takesE_261 : decode cX9_takesE 261 = .ok (.iload_n 1, 1) := by decide +kernel
theorem dX9_takesE_262 : decode cX9_takesE 262 = .ok (.baload, 1) := by decide +kernel
theorem dX9_takesE_263 : decode cX9_takesE 263 = .ok (.ifCond .eq 5, 3) := by decide +kernel
theorem dX9_takesE_266 : decode cX9_takesE 266 = .ok (.iconst 0, 1) := by decide +kernel
theorem dX9_takesE_267 : decode cX9_takesE 267 = .ok (.ireturn, 1) := by decide +kernel
theorem dX9_takesE_268 : decode cX9_takesE 268 = .ok (.aload_n 0, 1) := by decide +kernel
theorem dX9_takesE_269 : decode cX9_takesE 269 = .ok (.getfield 42, 3) := by decide +kernel
theorem dX9_takesE_272 : decode cX9_takesE 272 = .ok (.iload_n 1, 1) := by decide +kernel
theorem dX9_takesE_273 : decode cX9_takesE 273 = .ok (.iload 4, 2) := by decide +kernel
theorem dX9_takesE_275 : decode cX9_takesE 275 = .ok (.invokestatic 225, 3) := by decide +kernel
theorem dX9_takesE_278 : decode cX9_takesE 278 = .ok (.iconst 3, 1) := by decide +kernel
theorem dX9_takesE_279 : decode cX9_takesE 279 = .ok (.if_icmp .eq 21, 3) := by decide +kernel
theorem dX9_takesE_282 : decode cX9_takesE 282 = .ok (.iload 4, 2) := by decide +kernel
theorem dX9_takesE_284 : decode cX9_takesE 284 = .ok (.invokestatic 225, 3) := by decide +kernel
theorem dX9_takesE_287 : decode cX9_takesE 287 = .ok (.iconst 3, 1) := by decide +kernel
theorem dX9_takesE_288 : decode cX9_takesE 288 = .ok (.if_icmp .le 16, 3) := by decide +kernel
theorem dX9_takesE_291 : decode cX9_takesE 291 = .ok (.aload_n 0, 1) := by decide +kernel
theorem dX9_takesE_292 : decode cX9_takesE 292 = .ok (.getfield 42, 3) := by decide +kernel
theorem dX9_takesE_295 : decode cX9_takesE 295 = .ok (.iload_n 1, 1) := by decide +kernel
theorem dX9_takesE_296 : decode cX9_takesE 296 = .ok (.baload, 1) := by decide +kernel
theorem dX9_takesE_297 : decode cX9_takesE 297 = .ok (.ifCond .eq 7, 3) := by decide +kernel
theorem dX9_takesE_300 : decode cX9_takesE 300 = .ok (.iconst 1, 1) := by decide +kernel
theorem dX9_takesE_301 : decode cX9_takesE 301 = .ok (.goto 4, 3) := by decide +kernel
theorem dX9_takesE_304 : decode cX9_takesE 304 = .ok (.iconst 0, 1) := by decide +kernel
theorem dX9_takesE_305 : decode cX9_takesE 305 = .ok (.bastore, 1) := by decide +kernel
theorem dX9_takesE_306 : decode cX9_takesE 306 = .ok (.aload_n 0, 1) := by decide +kernel
theorem dX9_takesE_307 : decode cX9_takesE 307 = .ok (.iload 4, 2) := by decide +kernel
theorem dX9_takesE_309 : decode cX9_takesE 309 = .ok (.invokestatic 225, 3) := by decide +kernel
theorem dX9_takesE_312 : decode cX9_takesE 312 = .ok (.invokevirtual 237, 3) := by decide +kernel
theorem dX9_takesE_315 : decode cX9_takesE 315 = .ok (.aload_n 0, 1) := by decide +kernel
theorem dX9_takesE_316 : decode cX9_takesE 316 = .ok (.getfield 39, 3) := by decide +kernel
theorem dX9_takesE_319 : decode cX9_takesE 319 = .ok (.aload_n 0, 1) := by decide +kernel
theorem dX9_takesE_320 : decode cX9_takesE 320 = .ok (.getfield 222, 3) := by decide +kernel
theorem dX9_takesE_323 : decode cX9_takesE 323 = .ok (.iload 4, 2) := by decide +kernel
theorem dX9_takesE_325 : decode cX9_takesE 325 = .ok (.iastore, 1) := by decide +kernel
theorem dX9_takesE_326 : decode cX9_takesE 326 = .ok (.aload_n 0, 1) := by decide +kernel
theorem dX9_takesE_327 : decode cX9_takesE 327 = .ok (.dup, 1) := by decide +kernel
theorem dX9_takesE_328 : decode cX9_takesE 328 = .ok (.getfield 222, 3) := by decide +kernel
theorem dX9_takesE_331 : decode cX9_takesE 331 = .ok (.iconst 1, 1) := by decide +kernel
theorem dX9_takesE_332 : decode cX9_takesE 332 = .ok (.iadd, 1) := by decide +kernel
theorem dX9_takesE_333 : decode cX9_takesE 333 = .ok (.putfield 222, 3) := by decide +kernel
theorem dX9_takesE_336 : decode cX9_takesE 336 = .ok (.iconst 1, 1) := by decide +kernel
theorem dX9_takesE_337 : decode cX9_takesE 337 = .ok (.istore_n 3, 1) := by decide +kernel
theorem dX9_takesE_338 : decode cX9_takesE 338 = .ok (.aload_n 0, 1) := by decide +kernel
theorem dX9_takesE_339 : decode cX9_takesE 339 = .ok (.invokevirtual 219, 3) := by decide +kernel
theorem dX9_takesE_342 : decode cX9_takesE 342 = .ok (.goto (-314), 3) := by decide +kernel
theorem dX9_takesE_345 : decode cX9_takesE 345 = .ok (.aload_n 0, 1) := by decide +kernel
theorem dX9_takesE_346 : decode cX9_takesE 346 = .ok (.iconst 0, 1) := by decide +kernel
theorem dX9_takesE_347 : decode cX9_takesE 347 = .ok (.invokevirtual 237, 3) := by decide +kernel
theorem dX9_takesE_350 : decode cX9_takesE 350 = .ok (.iload_n 1, 1) := by decide +kernel
theorem dX9_takesE_351 : decode cX9_takesE 351 = .ok (.ifCond .ne 7, 3) := by decide +kernel
theorem dX9_takesE_354 : decode cX9_takesE 354 = .ok (.iconst 1, 1) := by decide +kernel
theorem dX9_takesE_355 : decode cX9_takesE 355 = .ok (.goto 4, 3) := by decide +kernel
theorem dX9_takesE_358 : decode cX9_takesE 358 = .ok (.iconst 0, 1) := by decide +kernel
theorem dX9_takesE_359 : decode cX9_takesE 359 = .ok (.ireturn, 1) := by decide +kernel
def f_X9_takesE_172 (fu : Nat) (k_28 : Int32 → Int32 → Int32 → Mem → Option (Int32 × Mem)) (x1 : Int32) (x3 : Int32) (m : Mem) : Option (Int32 × Mem) := doI (f_X9_notsOpen fu  m) (fun r_3 m_2 => k_28 x1 r_3 x3 m_2)
set_option maxHeartbeats 4000000 in
set_option maxRecDepth 100000 in
theorem w_X9_takesE_172 {X : TX} {p : Program} {l : Launch} {e : Env} {s : State} {mi : MethodId} {args : Array Value} {below : List Frame} {meth : Method} {c : Code} {Q : State → Prop} {r : Int32} {mE : Mem} (C : Cx X p s mi args c RX9 cX9_takesE 5) (hq : RetI X p l e (rmD 3) s mi args below meth c cX9_takesE .boolean Q r mE) {fu : Nat} {k_28 : Int32 → Int32 → Int32 → Mem → Option (Int32 × Mem)} (hk_28 : ∀ {x1 : Int32} {x2 : Int32} {x3 : Int32} {m : Mem} {H : Heap} {locs : List Loc} {ls : Array Slot}, k_28 x1 x2 x3 m = some (r, mE) → Wd X s m H locs → lv_has ls 5 [(0, .ref (ad X 20 0)), (1, .int x1), (2, .int x2), (3, .int x3)] → W p l e (rmD 3) s mi args below meth c H locs 0 0 Q (F0 mi 28 ls [])) {x1 : Int32} {x3 : Int32} {m : Mem} {H : Heap} {locs : List Loc} {ls : Array Slot} (h : f_X9_takesE_172 fu k_28 x1 x3 m = some (r, mE))  (hW : Wd X s m H locs) (hl : lv_has ls 5 [(0, .ref (ad X 20 0)), (1, .int x1), (3, .int x3)]) : W p l e (rmD 3) s mi args below meth c H locs 0 0 Q (F0 mi 172 ls []) := by
  unfold f_X9_takesE_172 at h
  refine lv_aload_n C.1 C.2.1 dX9_takesE_172 rfl (lv_at hl 0 rfl) ?_
  obtain ⟨r_3, m_2, hc_1, h⟩ := doI_E h
  refine zr_cVI C hW (c_X9_notsOpen  hc_1 ) k_X9_notsOpen (zr_recv C hW id_20 zco_20 rfl) w_1379 ⟨Nat.le_of_ble_eq_true rfl, Nat.le_of_ble_eq_true rfl⟩ ⟨Nat.le_refl 0, Nat.le_refl 0⟩ rfl hl.1 rfl (Nat.le_of_ble_eq_true rfl) dX9_takesE_173 (fun H locs hW => ?_)
  refine lv_istore_n (lv' := [(2, .int r_3), (0, .ref (ad X 20 0)), (1, .int x1), (3, .int x3)]) C.1 C.2.1 dX9_takesE_176 rfl hl (by decide) rfl (fun ls hl => ?_)
  refine lv_goto (tgt := 28) C.1 C.2.1 dX9_takesE_177 (by decide) ?_
  exact hk_28 h  hW (lv_sub hl [1, 2, 0, 3] rfl)
def f_X9_takesE_158 (fu : Nat) (k_28 : Int32 → Int32 → Int32 → Mem → Option (Int32 × Mem)) (x1 : Int32) (m : Mem) : Option (Int32 × Mem) := doI (f_X9_takesPart fu  m) (fun r_3 m_2 => if r_3 = 0 then (some (0, m_2)) else (f_X9_takesE_172 fu k_28 x1 0 m_2))
set_option maxHeartbeats 4000000 in
set_option maxRecDepth 100000 in
theorem w_X9_takesE_158 {X : TX} {p : Program} {l : Launch} {e : Env} {s : State} {mi : MethodId} {args : Array Value} {below : List Frame} {meth : Method} {c : Code} {Q : State → Prop} {r : Int32} {mE : Mem} (C : Cx X p s mi args c RX9 cX9_takesE 5) (hq : RetI X p l e (rmD 3) s mi args below meth c cX9_takesE .boolean Q r mE) {fu : Nat} {k_28 : Int32 → Int32 → Int32 → Mem → Option (Int32 × Mem)} (hk_28 : ∀ {x1 : Int32} {x2 : Int32} {x3 : Int32} {m : Mem} {H : Heap} {locs : List Loc} {ls : Array Slot}, k_28 x1 x2 x3 m = some (r, mE) → Wd X s m H locs → lv_has ls 5 [(0, .ref (ad X 20 0)), (1, .int x1), (2, .int x2), (3, .int x3)] → W p l e (rmD 3) s mi args below meth c H locs 0 0 Q (F0 mi 28 ls [])) {x1 : Int32} {m : Mem} {H : Heap} {locs : List Loc} {ls : Array Slot} (h : f_X9_takesE_158 fu k_28 x1 m = some (r, mE))  (hW : Wd X s m H locs) (hl : lv_has ls 5 [(0, .ref (ad X 20 0)), (1, .int x1)]) : W p l e (rmD 3) s mi args below meth c H locs 0 0 Q (F0 mi 158 ls []) := by
  unfold f_X9_takesE_158 at h
  refine lv_aload_n C.1 C.2.1 dX9_takesE_158 rfl (lv_at hl 0 rfl) ?_
  obtain ⟨r_3, m_2, hc_1, h⟩ := doI_E h
  refine zr_cVI C hW (c_X9_takesPart  hc_1 ) k_X9_takesPart (zr_recv C hW id_20 zco_20 rfl) w_1364 ⟨Nat.le_of_ble_eq_true rfl, Nat.le_of_ble_eq_true rfl⟩ ⟨Nat.le_refl 0, Nat.le_refl 0⟩ rfl hl.1 rfl (Nat.le_of_ble_eq_true rfl) dX9_takesE_159 (fun H locs hW => ?_)
  refine lv_if_eq (tgt := 170) C.1 C.2.1 dX9_takesE_162 (by decide) (fun hc_4 => ?_) (fun hc_4 => ?_)
  · have h := ite_t hc_4 h
    refine lv_iconst (v := 0) C.1 C.2.1 dX9_takesE_170 rfl ?_
    exact ret_i h hq rfl hW dX9_takesE_171
  · have h := ite_f hc_4 h
    refine lv_iconst (v := 0) C.1 C.2.1 dX9_takesE_165 rfl ?_
    refine lv_istore_n (lv' := [(3, .int 0), (0, .ref (ad X 20 0)), (1, .int x1)]) C.1 C.2.1 dX9_takesE_166 rfl hl (by decide) rfl (fun ls hl => ?_)
    refine lv_goto (tgt := 172) C.1 C.2.1 dX9_takesE_167 (by decide) ?_
    exact w_X9_takesE_172 C hq hk_28 h  hW (lv_sub hl [1, 2, 0] rfl)
def f_X9_takesE_97 (fu : Nat) (k_28 : Int32 → Int32 → Int32 → Mem → Option (Int32 × Mem)) (x1 : Int32) (x3 : Int32) (m : Mem) : Option (Int32 × Mem) := if (m 3005) = 3 then (if (m 3006) = 40 then (if 8 ≤ x1 then (f_X9_takesE_158 fu k_28 x1 m) else (chk (inb (m 3011) 96) (seqM (upd m (3500 + (m 3011).toNatClampNeg) (-11)) (fun m_2 : Mem => seqM (upd m_2 3011 ((m_2 3011) + 1)) (fun m_4 : Mem => seqM (x1 + 1) (fun x_6 : Int32 => chk (inb x_6 10) (seqM (upd m_4 (3600 + x_6.toNatClampNeg) (vp_nar .boolean 0)) (fun m_9 : Mem => doV (f_X9_go fu  m_9) (fun m_12 => f_X9_takesE_172 fu k_28 x_6 x3 m_12))))))))) else (f_X9_takesE_158 fu k_28 x1 m)) else (f_X9_takesE_158 fu k_28 x1 m)
set_option maxHeartbeats 4000000 in
set_option maxRecDepth 100000 in
theorem w_X9_takesE_97 {X : TX} {p : Program} {l : Launch} {e : Env} {s : State} {mi : MethodId} {args : Array Value} {below : List Frame} {meth : Method} {c : Code} {Q : State → Prop} {r : Int32} {mE : Mem} (C : Cx X p s mi args c RX9 cX9_takesE 5) (hq : RetI X p l e (rmD 3) s mi args below meth c cX9_takesE .boolean Q r mE) {fu : Nat} {k_28 : Int32 → Int32 → Int32 → Mem → Option (Int32 × Mem)} (hk_28 : ∀ {x1 : Int32} {x2 : Int32} {x3 : Int32} {m : Mem} {H : Heap} {locs : List Loc} {ls : Array Slot}, k_28 x1 x2 x3 m = some (r, mE) → Wd X s m H locs → lv_has ls 5 [(0, .ref (ad X 20 0)), (1, .int x1), (2, .int x2), (3, .int x3)] → W p l e (rmD 3) s mi args below meth c H locs 0 0 Q (F0 mi 28 ls [])) {x1 : Int32} {x3 : Int32} {m : Mem} {H : Heap} {locs : List Loc} {ls : Array Slot} (h : f_X9_takesE_97 fu k_28 x1 x3 m = some (r, mE))  (hW : Wd X s m H locs) (hl : lv_has ls 5 [(0, .ref (ad X 20 0)), (1, .int x1), (3, .int x3)]) : W p l e (rmD 3) s mi args below meth c H locs 0 0 Q (F0 mi 97 ls []) := by
  unfold f_X9_takesE_97 at h
  refine lv_aload_n C.1 C.2.1 dX9_takesE_97 rfl (lv_at hl 0 rfl) ?_
  refine zg_X9_token C hW id_20 w_1015 dX9_takesE_98 ?_
  refine lv_iconst (v := 3) C.1 C.2.1 dX9_takesE_101 rfl ?_
  refine lv_icmp_ne (tgt := 158) C.1 C.2.1 dX9_takesE_102 (by decide) (fun hc_15 => ?_) (fun hc_15 => ?_)
  · have h := ite_f hc_15 h
    exact w_X9_takesE_158 C hq hk_28 h  hW (lv_sub hl [0, 1] rfl)
  · have h := ite_t hc_15 h
    refine lv_aload_n C.1 C.2.1 dX9_takesE_105 rfl (lv_at hl 0 rfl) ?_
    refine zg_X9_value C hW id_20 w_1016 dX9_takesE_106 ?_
    refine lv_bipush (v := 40) C.1 C.2.1 dX9_takesE_109 rfl ?_
    refine lv_icmp_ne (tgt := 158) C.1 C.2.1 dX9_takesE_111 (by decide) (fun hc_14 => ?_) (fun hc_14 => ?_)
    · have h := ite_f hc_14 h
      exact w_X9_takesE_158 C hq hk_28 h  hW (lv_sub hl [0, 1] rfl)
    · have h := ite_t hc_14 h
      refine lv_iload_n C.1 C.2.1 dX9_takesE_114 rfl (lv_at hl 1 rfl) ?_
      refine lv_bipush (v := 8) C.1 C.2.1 dX9_takesE_115 rfl ?_
      refine lv_icmp_ge (tgt := 158) C.1 C.2.1 dX9_takesE_117 (by decide) (fun hc_13 => ?_) (fun hc_13 => ?_)
      · have h := ite_t hc_13 h
        exact w_X9_takesE_158 C hq hk_28 h  hW (lv_sub hl [0, 1] rfl)
      · have h := ite_f hc_13 h
        refine lv_aload_n C.1 C.2.1 dX9_takesE_120 rfl (lv_at hl 0 rfl) ?_
        refine zg_X9_waits C hW id_20 w_1024 dX9_takesE_121 ?_
        refine lv_aload_n C.1 C.2.1 dX9_takesE_124 rfl (lv_at hl 0 rfl) ?_
        refine zg_X9_held C hW id_20 w_1025 dX9_takesE_125 ?_
        refine lv_bipush (v := (-11)) C.1 C.2.1 dX9_takesE_128 rfl ?_
        obtain ⟨hb_1, h⟩ := chk_E h
        obtain ⟨m_2, e_3, h⟩ := seqM_E h
        refine zas_28 C hW id_28 (inb_E hb_1) e_3 dX9_takesE_130 (fun H locs hW => ?_)
        refine lv_aload_n C.1 C.2.1 dX9_takesE_131 rfl (lv_at hl 0 rfl) ?_
        refine lv_dup C.1 C.2.1 dX9_takesE_132 rfl ?_
        refine zg_X9_held C hW id_20 w_1025 dX9_takesE_133 ?_
        refine lv_iconst (v := 1) C.1 C.2.1 dX9_takesE_136 rfl ?_
        refine lv_iadd C.1 C.2.1 dX9_takesE_137 ?_
        obtain ⟨m_4, e_5, h⟩ := seqM_E h
        refine zp_X9_held C hW id_20 w_1025 e_5 dX9_takesE_138 (fun H locs hW => ?_)
        obtain ⟨x_6, e_7, h⟩ := seqM_E h
        refine lv_iinc (v := x_6) (lv' := [(1, .int x_6), (0, .ref (ad X 20 0)), (3, .int x3)]) C.1 C.2.1 dX9_takesE_141 hl (k := 1) rfl (by rw [e_7]; rfl) (by decide) rfl (fun ls hl => ?_)
        refine lv_aload_n C.1 C.2.1 dX9_takesE_144 rfl (lv_at hl 1 rfl) ?_
        refine zg_X9_tested C hW id_20 w_1026 dX9_takesE_145 ?_
        refine lv_iload_n C.1 C.2.1 dX9_takesE_148 rfl (lv_at hl 0 rfl) ?_
        refine lv_iconst (v := 0) C.1 C.2.1 dX9_takesE_149 rfl ?_
        obtain ⟨hb_8, h⟩ := chk_E h
        obtain ⟨m_9, e_10, h⟩ := seqM_E h
        refine zas_29 C hW id_29 (inb_E hb_8) e_10 dX9_takesE_150 (fun H locs hW => ?_)
        refine lv_aload_n C.1 C.2.1 dX9_takesE_151 rfl (lv_at hl 1 rfl) ?_
        obtain ⟨m_12, hc_11, h⟩ := doV_E h
        refine zr_cVV C hW (c_X9_go  hc_11 ) k_X9_go (zr_recv C hW id_20 zco_20 rfl) w_1344 ⟨Nat.le_of_ble_eq_true rfl, Nat.le_of_ble_eq_true rfl⟩ ⟨Nat.le_refl 0, Nat.le_refl 0⟩ rfl hl.1 rfl (Nat.le_of_ble_eq_true rfl) dX9_takesE_152 (fun H locs hW => ?_)
        refine lv_goto (tgt := 172) C.1 C.2.1 dX9_takesE_155 (by decide) ?_
        exact w_X9_takesE_172 C hq hk_28 h  hW (lv_sub hl [1, 0, 2] rfl)
def f_X9_takesE_305 (fu : Nat) (k_28 : Int32 → Int32 → Int32 → Mem → Option (Int32 × Mem)) (x1 : Int32) (x2 : Int32) (x4 : Int32) (y1 : Int32) (y2 : Int32) (m : Mem) : Option (Int32 × Mem) := chk (inb y1 10) (seqM (upd m (3600 + y1.toNatClampNeg) (vp_nar .boolean y2)) (fun m_2 : Mem => doI (f_X9_rank fu x4 m_2) (fun r_6 m_5 => doV (f_X9_settle fu r_6 m_5) (fun m_8 => chk (inb (m_8 3011) 96) (seqM (upd m_8 (3500 + (m_8 3011).toNatClampNeg) x4) (fun m_10 : Mem => seqM (upd m_10 3011 ((m_10 3011) + 1)) (fun m_12 : Mem => doV (f_X9_go fu  m_12) (fun m_15 => k_28 x1 x2 1 m_15))))))))
set_option maxHeartbeats 4000000 in
set_option maxRecDepth 100000 in
theorem w_X9_takesE_305 {X : TX} {p : Program} {l : Launch} {e : Env} {s : State} {mi : MethodId} {args : Array Value} {below : List Frame} {meth : Method} {c : Code} {Q : State → Prop} {r : Int32} {mE : Mem} (C : Cx X p s mi args c RX9 cX9_takesE 5) (hq : RetI X p l e (rmD 3) s mi args below meth c cX9_takesE .boolean Q r mE) {fu : Nat} {k_28 : Int32 → Int32 → Int32 → Mem → Option (Int32 × Mem)} (hk_28 : ∀ {x1 : Int32} {x2 : Int32} {x3 : Int32} {m : Mem} {H : Heap} {locs : List Loc} {ls : Array Slot}, k_28 x1 x2 x3 m = some (r, mE) → Wd X s m H locs → lv_has ls 5 [(0, .ref (ad X 20 0)), (1, .int x1), (2, .int x2), (3, .int x3)] → W p l e (rmD 3) s mi args below meth c H locs 0 0 Q (F0 mi 28 ls [])) {x1 : Int32} {x2 : Int32} {x4 : Int32} {y1 : Int32} {y2 : Int32} {m : Mem} {H : Heap} {locs : List Loc} {ls : Array Slot} (h : f_X9_takesE_305 fu k_28 x1 x2 x4 y1 y2 m = some (r, mE))  (hW : Wd X s m H locs) (hl : lv_has ls 5 [(0, .ref (ad X 20 0)), (1, .int x1), (2, .int x2), (4, .int x4)]) : W p l e (rmD 3) s mi args below meth c H locs 0 0 Q (F0 mi 305 ls [.int y2, .int y1, .ref (ad X 29 0)]) := by
  unfold f_X9_takesE_305 at h
  obtain ⟨hb_1, h⟩ := chk_E h
  obtain ⟨m_2, e_3, h⟩ := seqM_E h
  refine zas_29 C hW id_29 (inb_E hb_1) e_3 dX9_takesE_305 (fun H locs hW => ?_)
  refine lv_aload_n C.1 C.2.1 dX9_takesE_306 rfl (lv_at hl 0 rfl) ?_
  refine lv_iload C.1 C.2.1 dX9_takesE_307 (lv_at hl 3 rfl) ?_
  obtain ⟨r_6, m_5, hc_4, h⟩ := doI_E h
  refine zr_cSI C hW (c_X9_rank (x0 := x4) hc_4 ) k_X9_rank w_1376 ⟨Nat.le_of_ble_eq_true rfl, Nat.le_of_ble_eq_true rfl⟩ ⟨Nat.le_refl 0, Nat.le_refl 0⟩ rfl hl.1 rfl (Nat.le_of_ble_eq_true rfl) dX9_takesE_309 (fun H locs hW => ?_)
  obtain ⟨m_8, hc_7, h⟩ := doV_E h
  refine zr_cVV C hW (c_X9_settle (x1 := r_6) hc_7 ) k_X9_settle (zr_recv C hW id_20 zco_20 rfl) w_1372 ⟨Nat.le_of_ble_eq_true rfl, Nat.le_of_ble_eq_true rfl⟩ ⟨Nat.le_refl 0, Nat.le_refl 0⟩ rfl hl.1 rfl (Nat.le_of_ble_eq_true rfl) dX9_takesE_312 (fun H locs hW => ?_)
  refine lv_aload_n C.1 C.2.1 dX9_takesE_315 rfl (lv_at hl 0 rfl) ?_
  refine zg_X9_waits C hW id_20 w_1024 dX9_takesE_316 ?_
  refine lv_aload_n C.1 C.2.1 dX9_takesE_319 rfl (lv_at hl 0 rfl) ?_
  refine zg_X9_held C hW id_20 w_1025 dX9_takesE_320 ?_
  refine lv_iload C.1 C.2.1 dX9_takesE_323 (lv_at hl 3 rfl) ?_
  obtain ⟨hb_9, h⟩ := chk_E h
  obtain ⟨m_10, e_11, h⟩ := seqM_E h
  refine zas_28 C hW id_28 (inb_E hb_9) e_11 dX9_takesE_325 (fun H locs hW => ?_)
  refine lv_aload_n C.1 C.2.1 dX9_takesE_326 rfl (lv_at hl 0 rfl) ?_
  refine lv_dup C.1 C.2.1 dX9_takesE_327 rfl ?_
  refine zg_X9_held C hW id_20 w_1025 dX9_takesE_328 ?_
  refine lv_iconst (v := 1) C.1 C.2.1 dX9_takesE_331 rfl ?_
  refine lv_iadd C.1 C.2.1 dX9_takesE_332 ?_
  obtain ⟨m_12, e_13, h⟩ := seqM_E h
  refine zp_X9_held C hW id_20 w_1025 e_13 dX9_takesE_333 (fun H locs hW => ?_)
  refine lv_iconst (v := 1) C.1 C.2.1 dX9_takesE_336 rfl ?_
  refine lv_istore_n (lv' := [(3, .int 1), (0, .ref (ad X 20 0)), (1, .int x1), (2, .int x2), (4, .int x4)]) C.1 C.2.1 dX9_takesE_337 rfl hl (by decide) rfl (fun ls hl => ?_)
  refine lv_aload_n C.1 C.2.1 dX9_takesE_338 rfl (lv_at hl 1 rfl) ?_
  obtain ⟨m_15, hc_14, h⟩ := doV_E h
  refine zr_cVV C hW (c_X9_go  hc_14 ) k_X9_go (zr_recv C hW id_20 zco_20 rfl) w_1344 ⟨Nat.le_of_ble_eq_true rfl, Nat.le_of_ble_eq_true rfl⟩ ⟨Nat.le_refl 0, Nat.le_refl 0⟩ rfl hl.1 rfl (Nat.le_of_ble_eq_true rfl) dX9_takesE_339 (fun H locs hW => ?_)
  refine lv_goto (tgt := 28) C.1 C.2.1 dX9_takesE_342 (by decide) ?_
  exact hk_28 h  hW (lv_sub hl [1, 2, 3, 0] rfl)
def f_X9_takesE_300 (fu : Nat) (k_28 : Int32 → Int32 → Int32 → Mem → Option (Int32 × Mem)) (x1 : Int32) (x2 : Int32) (x4 : Int32) (y1 : Int32) (m : Mem) : Option (Int32 × Mem) := f_X9_takesE_305 fu k_28 x1 x2 x4 y1 1 m
set_option maxHeartbeats 4000000 in
set_option maxRecDepth 100000 in
theorem w_X9_takesE_300 {X : TX} {p : Program} {l : Launch} {e : Env} {s : State} {mi : MethodId} {args : Array Value} {below : List Frame} {meth : Method} {c : Code} {Q : State → Prop} {r : Int32} {mE : Mem} (C : Cx X p s mi args c RX9 cX9_takesE 5) (hq : RetI X p l e (rmD 3) s mi args below meth c cX9_takesE .boolean Q r mE) {fu : Nat} {k_28 : Int32 → Int32 → Int32 → Mem → Option (Int32 × Mem)} (hk_28 : ∀ {x1 : Int32} {x2 : Int32} {x3 : Int32} {m : Mem} {H : Heap} {locs : List Loc} {ls : Array Slot}, k_28 x1 x2 x3 m = some (r, mE) → Wd X s m H locs → lv_has ls 5 [(0, .ref (ad X 20 0)), (1, .int x1), (2, .int x2), (3, .int x3)] → W p l e (rmD 3) s mi args below meth c H locs 0 0 Q (F0 mi 28 ls [])) {x1 : Int32} {x2 : Int32} {x4 : Int32} {y1 : Int32} {m : Mem} {H : Heap} {locs : List Loc} {ls : Array Slot} (h : f_X9_takesE_300 fu k_28 x1 x2 x4 y1 m = some (r, mE))  (hW : Wd X s m H locs) (hl : lv_has ls 5 [(0, .ref (ad X 20 0)), (1, .int x1), (2, .int x2), (4, .int x4)]) : W p l e (rmD 3) s mi args below meth c H locs 0 0 Q (F0 mi 300 ls [.int y1, .ref (ad X 29 0)]) := by
  unfold f_X9_takesE_300 at h
  refine lv_iconst (v := 1) C.1 C.2.1 dX9_takesE_300 rfl ?_
  refine lv_goto (tgt := 305) C.1 C.2.1 dX9_takesE_301 (by decide) ?_
  exact w_X9_takesE_305 C hq hk_28 h  hW (lv_sub hl [0, 1, 2, 3] rfl)
def f_X9_takesE_304 (fu : Nat) (k_28 : Int32 → Int32 → Int32 → Mem → Option (Int32 × Mem)) (x1 : Int32) (x2 : Int32) (x4 : Int32) (y1 : Int32) (m : Mem) : Option (Int32 × Mem) := f_X9_takesE_305 fu k_28 x1 x2 x4 y1 0 m
set_option maxHeartbeats 4000000 in
set_option maxRecDepth 100000 in
theorem w_X9_takesE_304 {X : TX} {p : Program} {l : Launch} {e : Env} {s : State} {mi : MethodId} {args : Array Value} {below : List Frame} {meth : Method} {c : Code} {Q : State → Prop} {r : Int32} {mE : Mem} (C : Cx X p s mi args c RX9 cX9_takesE 5) (hq : RetI X p l e (rmD 3) s mi args below meth c cX9_takesE .boolean Q r mE) {fu : Nat} {k_28 : Int32 → Int32 → Int32 → Mem → Option (Int32 × Mem)} (hk_28 : ∀ {x1 : Int32} {x2 : Int32} {x3 : Int32} {m : Mem} {H : Heap} {locs : List Loc} {ls : Array Slot}, k_28 x1 x2 x3 m = some (r, mE) → Wd X s m H locs → lv_has ls 5 [(0, .ref (ad X 20 0)), (1, .int x1), (2, .int x2), (3, .int x3)] → W p l e (rmD 3) s mi args below meth c H locs 0 0 Q (F0 mi 28 ls [])) {x1 : Int32} {x2 : Int32} {x4 : Int32} {y1 : Int32} {m : Mem} {H : Heap} {locs : List Loc} {ls : Array Slot} (h : f_X9_takesE_304 fu k_28 x1 x2 x4 y1 m = some (r, mE))  (hW : Wd X s m H locs) (hl : lv_has ls 5 [(0, .ref (ad X 20 0)), (1, .int x1), (2, .int x2), (4, .int x4)]) : W p l e (rmD 3) s mi args below meth c H locs 0 0 Q (F0 mi 304 ls [.int y1, .ref (ad X 29 0)]) := by
  unfold f_X9_takesE_304 at h
  refine lv_iconst (v := 0) C.1 C.2.1 dX9_takesE_304 rfl ?_
  exact w_X9_takesE_305 C hq hk_28 h  hW (lv_sub hl [0, 1, 2, 3] rfl)
def f_X9_takesE_268 (fu : Nat) (k_28 : Int32 → Int32 → Int32 → Mem → Option (Int32 × Mem)) (x1 : Int32) (x2 : Int32) (x4 : Int32) (m : Mem) : Option (Int32 × Mem) := doI (f_X9_rank fu x4 m) (fun r_3 m_2 => if r_3 = 3 then (f_X9_takesE_300 fu k_28 x1 x2 x4 x1 m_2) else (doI (f_X9_rank fu x4 m_2) (fun r_6 m_5 => if r_6 ≤ 3 then (f_X9_takesE_304 fu k_28 x1 x2 x4 x1 m_5) else (chk (inb x1 10) (if (m_5 (3600 + x1.toNatClampNeg)) = 0 then (f_X9_takesE_304 fu k_28 x1 x2 x4 x1 m_5) else (f_X9_takesE_300 fu k_28 x1 x2 x4 x1 m_5))))))
set_option maxHeartbeats 4000000 in
set_option maxRecDepth 100000 in
theorem w_X9_takesE_268 {X : TX} {p : Program} {l : Launch} {e : Env} {s : State} {mi : MethodId} {args : Array Value} {below : List Frame} {meth : Method} {c : Code} {Q : State → Prop} {r : Int32} {mE : Mem} (C : Cx X p s mi args c RX9 cX9_takesE 5) (hq : RetI X p l e (rmD 3) s mi args below meth c cX9_takesE .boolean Q r mE) {fu : Nat} {k_28 : Int32 → Int32 → Int32 → Mem → Option (Int32 × Mem)} (hk_28 : ∀ {x1 : Int32} {x2 : Int32} {x3 : Int32} {m : Mem} {H : Heap} {locs : List Loc} {ls : Array Slot}, k_28 x1 x2 x3 m = some (r, mE) → Wd X s m H locs → lv_has ls 5 [(0, .ref (ad X 20 0)), (1, .int x1), (2, .int x2), (3, .int x3)] → W p l e (rmD 3) s mi args below meth c H locs 0 0 Q (F0 mi 28 ls [])) {x1 : Int32} {x2 : Int32} {x4 : Int32} {m : Mem} {H : Heap} {locs : List Loc} {ls : Array Slot} (h : f_X9_takesE_268 fu k_28 x1 x2 x4 m = some (r, mE))  (hW : Wd X s m H locs) (hl : lv_has ls 5 [(0, .ref (ad X 20 0)), (1, .int x1), (2, .int x2), (4, .int x4)]) : W p l e (rmD 3) s mi args below meth c H locs 0 0 Q (F0 mi 268 ls []) := by
  unfold f_X9_takesE_268 at h
  refine lv_aload_n C.1 C.2.1 dX9_takesE_268 rfl (lv_at hl 0 rfl) ?_
  refine zg_X9_tested C hW id_20 w_1026 dX9_takesE_269 ?_
  refine lv_iload_n C.1 C.2.1 dX9_takesE_272 rfl (lv_at hl 1 rfl) ?_
  refine lv_iload C.1 C.2.1 dX9_takesE_273 (lv_at hl 3 rfl) ?_
  obtain ⟨r_3, m_2, hc_1, h⟩ := doI_E h
  refine zr_cSI C hW (c_X9_rank (x0 := x4) hc_1 ) k_X9_rank w_1376 ⟨Nat.le_of_ble_eq_true rfl, Nat.le_of_ble_eq_true rfl⟩ ⟨Nat.le_refl 0, Nat.le_refl 0⟩ rfl hl.1 rfl (Nat.le_of_ble_eq_true rfl) dX9_takesE_275 (fun H locs hW => ?_)
  refine lv_iconst (v := 3) C.1 C.2.1 dX9_takesE_278 rfl ?_
  refine lv_icmp_eq (tgt := 300) C.1 C.2.1 dX9_takesE_279 (by decide) (fun hc_10 => ?_) (fun hc_10 => ?_)
  · have h := ite_t hc_10 h
    exact w_X9_takesE_300 C hq hk_28 h  hW (lv_sub hl [0, 1, 2, 3] rfl)
  · have h := ite_f hc_10 h
    refine lv_iload C.1 C.2.1 dX9_takesE_282 (lv_at hl 3 rfl) ?_
    obtain ⟨r_6, m_5, hc_4, h⟩ := doI_E h
    refine zr_cSI C hW (c_X9_rank (x0 := x4) hc_4 ) k_X9_rank w_1376 ⟨Nat.le_of_ble_eq_true rfl, Nat.le_of_ble_eq_true rfl⟩ ⟨Nat.le_refl 0, Nat.le_refl 0⟩ rfl hl.1 rfl (Nat.le_of_ble_eq_true rfl) dX9_takesE_284 (fun H locs hW => ?_)
    refine lv_iconst (v := 3) C.1 C.2.1 dX9_takesE_287 rfl ?_
    refine lv_icmp_le (tgt := 304) C.1 C.2.1 dX9_takesE_288 (by decide) (fun hc_9 => ?_) (fun hc_9 => ?_)
    · have h := ite_t hc_9 h
      exact w_X9_takesE_304 C hq hk_28 h  hW (lv_sub hl [0, 1, 2, 3] rfl)
    · have h := ite_f hc_9 h
      refine lv_aload_n C.1 C.2.1 dX9_takesE_291 rfl (lv_at hl 0 rfl) ?_
      refine zg_X9_tested C hW id_20 w_1026 dX9_takesE_292 ?_
      refine lv_iload_n C.1 C.2.1 dX9_takesE_295 rfl (lv_at hl 1 rfl) ?_
      obtain ⟨hb_7, h⟩ := chk_E h
      refine zal_29 C hW id_29 (inb_E hb_7) dX9_takesE_296 ?_
      refine lv_if_eq (tgt := 304) C.1 C.2.1 dX9_takesE_297 (by decide) (fun hc_8 => ?_) (fun hc_8 => ?_)
      · have h := ite_t hc_8 h
        exact w_X9_takesE_304 C hq hk_28 h  hW (lv_sub hl [0, 1, 2, 3] rfl)
      · have h := ite_f hc_8 h
        exact w_X9_takesE_300 C hq hk_28 h  hW (lv_sub hl [0, 1, 2, 3] rfl)
def f_X9_takesE_237 (fu : Nat) (k_28 : Int32 → Int32 → Int32 → Mem → Option (Int32 × Mem)) (x1 : Int32) (x2 : Int32) (m : Mem) : Option (Int32 × Mem) := doI (f_X9_signHere fu  m) (fun r_3 m_2 => if r_3 = 0 then (some (0, m_2)) else (doI (f_X9_rank fu r_3 m_2) (fun r_6 m_5 => if r_6 = 3 then (chk (inb x1 10) (if (m_5 (3600 + x1.toNatClampNeg)) = 0 then (f_X9_takesE_268 fu k_28 x1 x2 r_3 m_5) else (some (0, m_5)))) else (f_X9_takesE_268 fu k_28 x1 x2 r_3 m_5))))
set_option maxHeartbeats 4000000 in
set_option maxRecDepth 100000 in
theorem w_X9_takesE_237 {X : TX} {p : Program} {l : Launch} {e : Env} {s : State} {mi : MethodId} {args : Array Value} {below : List Frame} {meth : Method} {c : Code} {Q : State → Prop} {r : Int32} {mE : Mem} (C : Cx X p s mi args c RX9 cX9_takesE 5) (hq : RetI X p l e (rmD 3) s mi args below meth c cX9_takesE .boolean Q r mE) {fu : Nat} {k_28 : Int32 → Int32 → Int32 → Mem → Option (Int32 × Mem)} (hk_28 : ∀ {x1 : Int32} {x2 : Int32} {x3 : Int32} {m : Mem} {H : Heap} {locs : List Loc} {ls : Array Slot}, k_28 x1 x2 x3 m = some (r, mE) → Wd X s m H locs → lv_has ls 5 [(0, .ref (ad X 20 0)), (1, .int x1), (2, .int x2), (3, .int x3)] → W p l e (rmD 3) s mi args below meth c H locs 0 0 Q (F0 mi 28 ls [])) {x1 : Int32} {x2 : Int32} {m : Mem} {H : Heap} {locs : List Loc} {ls : Array Slot} (h : f_X9_takesE_237 fu k_28 x1 x2 m = some (r, mE))  (hW : Wd X s m H locs) (hl : lv_has ls 5 [(0, .ref (ad X 20 0)), (1, .int x1), (2, .int x2)]) : W p l e (rmD 3) s mi args below meth c H locs 0 0 Q (F0 mi 237 ls []) := by
  unfold f_X9_takesE_237 at h
  refine lv_aload_n C.1 C.2.1 dX9_takesE_237 rfl (lv_at hl 0 rfl) ?_
  obtain ⟨r_3, m_2, hc_1, h⟩ := doI_E h
  refine zr_cVI C hW (c_X9_signHere  hc_1 ) k_X9_signHere (zr_recv C hW id_20 zco_20 rfl) w_1383 ⟨Nat.le_of_ble_eq_true rfl, Nat.le_of_ble_eq_true rfl⟩ ⟨Nat.le_refl 0, Nat.le_refl 0⟩ rfl hl.1 rfl (Nat.le_of_ble_eq_true rfl) dX9_takesE_238 (fun H locs hW => ?_)
  refine lv_istore (lv' := [(4, .int r_3), (0, .ref (ad X 20 0)), (1, .int x1), (2, .int x2)]) C.1 C.2.1 dX9_takesE_241 hl (by decide) rfl (fun ls hl => ?_)
  refine lv_iload C.1 C.2.1 dX9_takesE_243 (lv_at hl 0 rfl) ?_
  refine lv_if_eq (tgt := 266) C.1 C.2.1 dX9_takesE_245 (by decide) (fun hc_10 => ?_) (fun hc_10 => ?_)
  · have h := ite_t hc_10 h
    refine lv_iconst (v := 0) C.1 C.2.1 dX9_takesE_266 rfl ?_
    exact ret_i h hq rfl hW dX9_takesE_267
  · have h := ite_f hc_10 h
    refine lv_iload C.1 C.2.1 dX9_takesE_248 (lv_at hl 0 rfl) ?_
    obtain ⟨r_6, m_5, hc_4, h⟩ := doI_E h
    refine zr_cSI C hW (c_X9_rank (x0 := r_3) hc_4 ) k_X9_rank w_1376 ⟨Nat.le_of_ble_eq_true rfl, Nat.le_of_ble_eq_true rfl⟩ ⟨Nat.le_refl 0, Nat.le_refl 0⟩ rfl hl.1 rfl (Nat.le_of_ble_eq_true rfl) dX9_takesE_250 (fun H locs hW => ?_)
    refine lv_iconst (v := 3) C.1 C.2.1 dX9_takesE_253 rfl ?_
    refine lv_icmp_ne (tgt := 268) C.1 C.2.1 dX9_takesE_254 (by decide) (fun hc_9 => ?_) (fun hc_9 => ?_)
    · have h := ite_f hc_9 h
      exact w_X9_takesE_268 C hq hk_28 h  hW (lv_sub hl [1, 2, 3, 0] rfl)
    · have h := ite_t hc_9 h
      refine lv_aload_n C.1 C.2.1 dX9_takesE_257 rfl (lv_at hl 1 rfl) ?_
      refine zg_X9_tested C hW id_20 w_1026 dX9_takesE_258 ?_
      refine lv_iload_n C.1 C.2.1 dX9_takesE_261 rfl (lv_at hl 2 rfl) ?_
      obtain ⟨hb_7, h⟩ := chk_E h
      refine zal_29 C hW id_29 (inb_E hb_7) dX9_takesE_262 ?_
      refine lv_if_eq (tgt := 268) C.1 C.2.1 dX9_takesE_263 (by decide) (fun hc_8 => ?_) (fun hc_8 => ?_)
      · have h := ite_t hc_8 h
        exact w_X9_takesE_268 C hq hk_28 h  hW (lv_sub hl [1, 2, 3, 0] rfl)
      · have h := ite_f hc_8 h
        refine lv_iconst (v := 0) C.1 C.2.1 dX9_takesE_266 rfl ?_
        exact ret_i h hq rfl hW dX9_takesE_267
def f_X9_takesE_39 (fu : Nat) (k_28 : Int32 → Int32 → Int32 → Mem → Option (Int32 × Mem)) (x1 : Int32) (x2 : Int32) (x3 : Int32) (m : Mem) : Option (Int32 × Mem) := if x3 = 0 then (if (m 3005) = 3 then (if (m 3006) = 41 then (if x1 ≤ 0 then (f_X9_takesE_237 fu k_28 x1 x2 m) else (doV (f_X9_settle fu 0 m) (fun m_2 => seqM (upd m_2 3011 ((m_2 3011) - 1)) (fun m_3 : Mem => seqM (x1 + (-1)) (fun x_5 : Int32 => doV (f_X9_settle fu 6 m_3) (fun m_8 => doI (f_X9_notsOpen fu  m_8) (fun r_11 m_10 => doV (f_X9_go fu  m_10) (fun m_13 => k_28 x_5 r_11 x3 m_13)))))))) else (f_X9_takesE_237 fu k_28 x1 x2 m)) else (f_X9_takesE_237 fu k_28 x1 x2 m)) else (if (m 3005) = 3 then (if (m 3006) = 33 then (if 8 ≤ x2 then (f_X9_takesE_97 fu k_28 x1 x3 m) else (chk (inb (m 3011) 96) (seqM (upd m (3500 + (m 3011).toNatClampNeg) (-10)) (fun m_18 : Mem => seqM (upd m_18 3011 ((m_18 3011) + 1)) (fun m_20 : Mem => seqM (x2 + 1) (fun x_22 : Int32 => doV (f_X9_go fu  m_20) (fun m_25 => f_X9_takesE_172 fu k_28 x1 x3 m_25))))))) else (f_X9_takesE_97 fu k_28 x1 x3 m)) else (f_X9_takesE_97 fu k_28 x1 x3 m))
set_option maxHeartbeats 4000000 in
set_option maxRecDepth 100000 in
theorem w_X9_takesE_39 {X : TX} {p : Program} {l : Launch} {e : Env} {s : State} {mi : MethodId} {args : Array Value} {below : List Frame} {meth : Method} {c : Code} {Q : State → Prop} {r : Int32} {mE : Mem} (C : Cx X p s mi args c RX9 cX9_takesE 5) (hq : RetI X p l e (rmD 3) s mi args below meth c cX9_takesE .boolean Q r mE) {fu : Nat} {k_28 : Int32 → Int32 → Int32 → Mem → Option (Int32 × Mem)} (hk_28 : ∀ {x1 : Int32} {x2 : Int32} {x3 : Int32} {m : Mem} {H : Heap} {locs : List Loc} {ls : Array Slot}, k_28 x1 x2 x3 m = some (r, mE) → Wd X s m H locs → lv_has ls 5 [(0, .ref (ad X 20 0)), (1, .int x1), (2, .int x2), (3, .int x3)] → W p l e (rmD 3) s mi args below meth c H locs 0 0 Q (F0 mi 28 ls [])) {x1 : Int32} {x2 : Int32} {x3 : Int32} {m : Mem} {H : Heap} {locs : List Loc} {ls : Array Slot} (h : f_X9_takesE_39 fu k_28 x1 x2 x3 m = some (r, mE))  (hW : Wd X s m H locs) (hl : lv_has ls 5 [(0, .ref (ad X 20 0)), (1, .int x1), (2, .int x2), (3, .int x3)]) : W p l e (rmD 3) s mi args below meth c H locs 0 0 Q (F0 mi 39 ls []) := by
  unfold f_X9_takesE_39 at h
  refine lv_iload_n C.1 C.2.1 dX9_takesE_39 rfl (lv_at hl 3 rfl) ?_
  refine lv_if_eq (tgt := 180) C.1 C.2.1 dX9_takesE_40 (by decide) (fun hc_29 => ?_) (fun hc_29 => ?_)
  · have h := ite_t hc_29 h
    refine lv_aload_n C.1 C.2.1 dX9_takesE_180 rfl (lv_at hl 0 rfl) ?_
    refine zg_X9_token C hW id_20 w_1015 dX9_takesE_181 ?_
    refine lv_iconst (v := 3) C.1 C.2.1 dX9_takesE_184 rfl ?_
    refine lv_icmp_ne (tgt := 237) C.1 C.2.1 dX9_takesE_185 (by decide) (fun hc_16 => ?_) (fun hc_16 => ?_)
    · have h := ite_f hc_16 h
      exact w_X9_takesE_237 C hq hk_28 h  hW (lv_sub hl [0, 1, 2] rfl)
    · have h := ite_t hc_16 h
      refine lv_aload_n C.1 C.2.1 dX9_takesE_188 rfl (lv_at hl 0 rfl) ?_
      refine zg_X9_value C hW id_20 w_1016 dX9_takesE_189 ?_
      refine lv_bipush (v := 41) C.1 C.2.1 dX9_takesE_192 rfl ?_
      refine lv_icmp_ne (tgt := 237) C.1 C.2.1 dX9_takesE_194 (by decide) (fun hc_15 => ?_) (fun hc_15 => ?_)
      · have h := ite_f hc_15 h
        exact w_X9_takesE_237 C hq hk_28 h  hW (lv_sub hl [0, 1, 2] rfl)
      · have h := ite_t hc_15 h
        refine lv_iload_n C.1 C.2.1 dX9_takesE_197 rfl (lv_at hl 1 rfl) ?_
        refine lv_if_le (tgt := 237) C.1 C.2.1 dX9_takesE_198 (by decide) (fun hc_14 => ?_) (fun hc_14 => ?_)
        · have h := ite_t hc_14 h
          exact w_X9_takesE_237 C hq hk_28 h  hW (lv_sub hl [0, 1, 2] rfl)
        · have h := ite_f hc_14 h
          refine lv_aload_n C.1 C.2.1 dX9_takesE_201 rfl (lv_at hl 0 rfl) ?_
          refine lv_iconst (v := 0) C.1 C.2.1 dX9_takesE_202 rfl ?_
          obtain ⟨m_2, hc_1, h⟩ := doV_E h
          refine zr_cVV C hW (c_X9_settle (x1 := 0) hc_1 ) k_X9_settle (zr_recv C hW id_20 zco_20 rfl) w_1372 ⟨Nat.le_of_ble_eq_true rfl, Nat.le_of_ble_eq_true rfl⟩ ⟨Nat.le_refl 0, Nat.le_refl 0⟩ rfl hl.1 rfl (Nat.le_of_ble_eq_true rfl) dX9_takesE_203 (fun H locs hW => ?_)
          refine lv_aload_n C.1 C.2.1 dX9_takesE_206 rfl (lv_at hl 0 rfl) ?_
          refine lv_dup C.1 C.2.1 dX9_takesE_207 rfl ?_
          refine zg_X9_held C hW id_20 w_1025 dX9_takesE_208 ?_
          refine lv_iconst (v := 1) C.1 C.2.1 dX9_takesE_211 rfl ?_
          refine lv_isub C.1 C.2.1 dX9_takesE_212 ?_
          obtain ⟨m_3, e_4, h⟩ := seqM_E h
          refine zp_X9_held C hW id_20 w_1025 e_4 dX9_takesE_213 (fun H locs hW => ?_)
          obtain ⟨x_5, e_6, h⟩ := seqM_E h
          refine lv_iinc (v := x_5) (lv' := [(1, .int x_5), (0, .ref (ad X 20 0)), (2, .int x2), (3, .int x3)]) C.1 C.2.1 dX9_takesE_216 hl (k := 1) rfl (by rw [e_6]; rfl) (by decide) rfl (fun ls hl => ?_)
          refine lv_aload_n C.1 C.2.1 dX9_takesE_219 rfl (lv_at hl 1 rfl) ?_
          refine lv_bipush (v := 6) C.1 C.2.1 dX9_takesE_220 rfl ?_
          obtain ⟨m_8, hc_7, h⟩ := doV_E h
          refine zr_cVV C hW (c_X9_settle (x1 := 6) hc_7 ) k_X9_settle (zr_recv C hW id_20 zco_20 rfl) w_1372 ⟨Nat.le_of_ble_eq_true rfl, Nat.le_of_ble_eq_true rfl⟩ ⟨Nat.le_refl 0, Nat.le_refl 0⟩ rfl hl.1 rfl (Nat.le_of_ble_eq_true rfl) dX9_takesE_222 (fun H locs hW => ?_)
          refine lv_aload_n C.1 C.2.1 dX9_takesE_225 rfl (lv_at hl 1 rfl) ?_
          obtain ⟨r_11, m_10, hc_9, h⟩ := doI_E h
          refine zr_cVI C hW (c_X9_notsOpen  hc_9 ) k_X9_notsOpen (zr_recv C hW id_20 zco_20 rfl) w_1379 ⟨Nat.le_of_ble_eq_true rfl, Nat.le_of_ble_eq_true rfl⟩ ⟨Nat.le_refl 0, Nat.le_refl 0⟩ rfl hl.1 rfl (Nat.le_of_ble_eq_true rfl) dX9_takesE_226 (fun H locs hW => ?_)
          refine lv_istore_n (lv' := [(2, .int r_11), (1, .int x_5), (0, .ref (ad X 20 0)), (3, .int x3)]) C.1 C.2.1 dX9_takesE_229 rfl hl (by decide) rfl (fun ls hl => ?_)
          refine lv_aload_n C.1 C.2.1 dX9_takesE_230 rfl (lv_at hl 2 rfl) ?_
          obtain ⟨m_13, hc_12, h⟩ := doV_E h
          refine zr_cVV C hW (c_X9_go  hc_12 ) k_X9_go (zr_recv C hW id_20 zco_20 rfl) w_1344 ⟨Nat.le_of_ble_eq_true rfl, Nat.le_of_ble_eq_true rfl⟩ ⟨Nat.le_refl 0, Nat.le_refl 0⟩ rfl hl.1 rfl (Nat.le_of_ble_eq_true rfl) dX9_takesE_231 (fun H locs hW => ?_)
          refine lv_goto (tgt := 28) C.1 C.2.1 dX9_takesE_234 (by decide) ?_
          exact hk_28 h  hW (lv_sub hl [2, 1, 0, 3] rfl)
  · have h := ite_f hc_29 h
    refine lv_aload_n C.1 C.2.1 dX9_takesE_43 rfl (lv_at hl 0 rfl) ?_
    refine zg_X9_token C hW id_20 w_1015 dX9_takesE_44 ?_
    refine lv_iconst (v := 3) C.1 C.2.1 dX9_takesE_47 rfl ?_
    refine lv_icmp_ne (tgt := 97) C.1 C.2.1 dX9_takesE_48 (by decide) (fun hc_28 => ?_) (fun hc_28 => ?_)
    · have h := ite_f hc_28 h
      exact w_X9_takesE_97 C hq hk_28 h  hW (lv_sub hl [0, 1, 3] rfl)
    · have h := ite_t hc_28 h
      refine lv_aload_n C.1 C.2.1 dX9_takesE_51 rfl (lv_at hl 0 rfl) ?_
      refine zg_X9_value C hW id_20 w_1016 dX9_takesE_52 ?_
      refine lv_bipush (v := 33) C.1 C.2.1 dX9_takesE_55 rfl ?_
      refine lv_icmp_ne (tgt := 97) C.1 C.2.1 dX9_takesE_57 (by decide) (fun hc_27 => ?_) (fun hc_27 => ?_)
      · have h := ite_f hc_27 h
        exact w_X9_takesE_97 C hq hk_28 h  hW (lv_sub hl [0, 1, 3] rfl)
      · have h := ite_t hc_27 h
        refine lv_iload_n C.1 C.2.1 dX9_takesE_60 rfl (lv_at hl 2 rfl) ?_
        refine lv_bipush (v := 8) C.1 C.2.1 dX9_takesE_61 rfl ?_
        refine lv_icmp_ge (tgt := 97) C.1 C.2.1 dX9_takesE_63 (by decide) (fun hc_26 => ?_) (fun hc_26 => ?_)
        · have h := ite_t hc_26 h
          exact w_X9_takesE_97 C hq hk_28 h  hW (lv_sub hl [0, 1, 3] rfl)
        · have h := ite_f hc_26 h
          refine lv_aload_n C.1 C.2.1 dX9_takesE_66 rfl (lv_at hl 0 rfl) ?_
          refine zg_X9_waits C hW id_20 w_1024 dX9_takesE_67 ?_
          refine lv_aload_n C.1 C.2.1 dX9_takesE_70 rfl (lv_at hl 0 rfl) ?_
          refine zg_X9_held C hW id_20 w_1025 dX9_takesE_71 ?_
          refine lv_bipush (v := (-10)) C.1 C.2.1 dX9_takesE_74 rfl ?_
          obtain ⟨hb_17, h⟩ := chk_E h
          obtain ⟨m_18, e_19, h⟩ := seqM_E h
          refine zas_28 C hW id_28 (inb_E hb_17) e_19 dX9_takesE_76 (fun H locs hW => ?_)
          refine lv_aload_n C.1 C.2.1 dX9_takesE_77 rfl (lv_at hl 0 rfl) ?_
          refine lv_dup C.1 C.2.1 dX9_takesE_78 rfl ?_
          refine zg_X9_held C hW id_20 w_1025 dX9_takesE_79 ?_
          refine lv_iconst (v := 1) C.1 C.2.1 dX9_takesE_82 rfl ?_
          refine lv_iadd C.1 C.2.1 dX9_takesE_83 ?_
          obtain ⟨m_20, e_21, h⟩ := seqM_E h
          refine zp_X9_held C hW id_20 w_1025 e_21 dX9_takesE_84 (fun H locs hW => ?_)
          obtain ⟨x_22, e_23, h⟩ := seqM_E h
          refine lv_iinc (v := x_22) (lv' := [(2, .int x_22), (0, .ref (ad X 20 0)), (1, .int x1), (3, .int x3)]) C.1 C.2.1 dX9_takesE_87 hl (k := 2) rfl (by rw [e_23]; rfl) (by decide) rfl (fun ls hl => ?_)
          refine lv_aload_n C.1 C.2.1 dX9_takesE_90 rfl (lv_at hl 1 rfl) ?_
          obtain ⟨m_25, hc_24, h⟩ := doV_E h
          refine zr_cVV C hW (c_X9_go  hc_24 ) k_X9_go (zr_recv C hW id_20 zco_20 rfl) w_1344 ⟨Nat.le_of_ble_eq_true rfl, Nat.le_of_ble_eq_true rfl⟩ ⟨Nat.le_refl 0, Nat.le_refl 0⟩ rfl hl.1 rfl (Nat.le_of_ble_eq_true rfl) dX9_takesE_91 (fun H locs hW => ?_)
          refine lv_goto (tgt := 172) C.1 C.2.1 dX9_takesE_94 (by decide) ?_
          exact w_X9_takesE_172 C hq hk_28 h  hW (lv_sub hl [1, 2, 3] rfl)
def f_X9_takesE_28 (fu : Nat)  : Nat → Int32 → Int32 → Int32 → Mem → Option (Int32 × Mem)
  | 0, _, _, _, _ => none
  | n + 1, x1, x2, x3, m => if x3 = 0 then (if (m 3005) = 0 then (doV (f_X9_settle fu 0 m) (fun m_2 => if x1 = 0 then (some (1, m_2)) else (some (0, m_2)))) else (f_X9_takesE_39 fu (f_X9_takesE_28 fu n) x1 x2 x3 m)) else (f_X9_takesE_39 fu (f_X9_takesE_28 fu n) x1 x2 x3 m)
set_option maxHeartbeats 4000000 in
set_option maxRecDepth 100000 in
theorem w_X9_takesE_28 {X : TX} {p : Program} {l : Launch} {e : Env} {s : State} {mi : MethodId} {args : Array Value} {below : List Frame} {meth : Method} {c : Code} {Q : State → Prop} {r : Int32} {mE : Mem} (C : Cx X p s mi args c RX9 cX9_takesE 5) (hq : RetI X p l e (rmD 3) s mi args below meth c cX9_takesE .boolean Q r mE) {fu : Nat} : ∀ (n : Nat) {x1 : Int32} {x2 : Int32} {x3 : Int32} {m : Mem} {H : Heap} {locs : List Loc} {ls : Array Slot}, f_X9_takesE_28 fu n x1 x2 x3 m = some (r, mE) → Wd X s m H locs → lv_has ls 5 [(0, .ref (ad X 20 0)), (1, .int x1), (2, .int x2), (3, .int x3)] → W p l e (rmD 3) s mi args below meth c H locs 0 0 Q (F0 mi 28 ls []) := by
  intro n
  induction n with
  | zero =>
    intro x1 x2 x3 m H locs ls h hW hl
    rw [f_X9_takesE_28] at h
    cases h
  | succ n ih =>
    intro x1 x2 x3 m H locs ls h hW hl
    rw [f_X9_takesE_28] at h
    refine lv_iload_n C.1 C.2.1 dX9_takesE_28 rfl (lv_at hl 3 rfl) ?_
    refine lv_if_ne (tgt := 39) C.1 C.2.1 dX9_takesE_29 (by decide) (fun hc_5 => ?_) (fun hc_5 => ?_)
    · have h := ite_f hc_5 h
      exact w_X9_takesE_39 C hq ih h  hW (lv_sub hl [0, 1, 2, 3] rfl)
    · have h := ite_t hc_5 h
      refine lv_aload_n C.1 C.2.1 dX9_takesE_32 rfl (lv_at hl 0 rfl) ?_
      refine zg_X9_token C hW id_20 w_1015 dX9_takesE_33 ?_
      refine lv_if_eq (tgt := 345) C.1 C.2.1 dX9_takesE_36 (by decide) (fun hc_4 => ?_) (fun hc_4 => ?_)
      · have h := ite_t hc_4 h
        refine lv_aload_n C.1 C.2.1 dX9_takesE_345 rfl (lv_at hl 0 rfl) ?_
        refine lv_iconst (v := 0) C.1 C.2.1 dX9_takesE_346 rfl ?_
        obtain ⟨m_2, hc_1, h⟩ := doV_E h
        refine zr_cVV C hW (c_X9_settle (x1 := 0) hc_1 ) k_X9_settle (zr_recv C hW id_20 zco_20 rfl) w_1372 ⟨Nat.le_of_ble_eq_true rfl, Nat.le_of_ble_eq_true rfl⟩ ⟨Nat.le_refl 0, Nat.le_refl 0⟩ rfl hl.1 rfl (Nat.le_of_ble_eq_true rfl) dX9_takesE_347 (fun H locs hW => ?_)
        refine lv_iload_n C.1 C.2.1 dX9_takesE_350 rfl (lv_at hl 1 rfl) ?_
        refine lv_if_ne (tgt := 358) C.1 C.2.1 dX9_takesE_351 (by decide) (fun hc_3 => ?_) (fun hc_3 => ?_)
        · have h := ite_f hc_3 h
          refine lv_iconst (v := 0) C.1 C.2.1 dX9_takesE_358 rfl ?_
          exact ret_i h hq rfl hW dX9_takesE_359
        · have h := ite_t hc_3 h
          refine lv_iconst (v := 1) C.1 C.2.1 dX9_takesE_354 rfl ?_
          refine lv_goto (tgt := 359) C.1 C.2.1 dX9_takesE_355 (by decide) ?_
          exact ret_i h hq rfl hW dX9_takesE_359
      · have h := ite_f hc_4 h
        exact w_X9_takesE_39 C hq ih h  hW (lv_sub hl [0, 1, 2, 3] rfl)
def f_X9_takesE (fu : Nat)   (m : Mem) : Option (Int32 × Mem) := seqM (upd m 3009 0) (fun m_1 : Mem => seqM (upd m_1 3010 0) (fun m_3 : Mem => seqM (upd m_3 3011 0) (fun m_5 : Mem => seqM (upd m_5 (3600 + (0 : Int32).toNatClampNeg) (vp_nar .boolean 0)) (fun m_7 : Mem => f_X9_takesE_28 fu fu 0 0 1 m_7))))
set_option maxHeartbeats 4000000 in
set_option maxRecDepth 100000 in
theorem w_X9_takesE {X : TX} {p : Program} {l : Launch} {e : Env} {s : State} {mi : MethodId} {args : Array Value} {below : List Frame} {meth : Method} {c : Code} {Q : State → Prop} {r : Int32} {mE : Mem} (C : Cx X p s mi args c RX9 cX9_takesE 5) (hq : RetI X p l e (rmD 3) s mi args below meth c cX9_takesE .boolean Q r mE) {fu : Nat}  {m : Mem} {H : Heap} {locs : List Loc} {ls : Array Slot} (h : f_X9_takesE fu  m = some (r, mE))  (hW : Wd X s m H locs) (hl : lv_has ls 5 [(0, .ref (ad X 20 0))]) : W p l e (rmD 3) s mi args below meth c H locs 0 0 Q (F0 mi 0 ls []) := by
  unfold f_X9_takesE at h
  refine lv_iconst (v := 0) C.1 C.2.1 dX9_takesE_0 rfl ?_
  refine lv_istore_n (lv' := [(1, .int 0), (0, .ref (ad X 20 0))]) C.1 C.2.1 dX9_takesE_1 rfl hl (by decide) rfl (fun ls hl => ?_)
  refine lv_iconst (v := 0) C.1 C.2.1 dX9_takesE_2 rfl ?_
  refine lv_istore_n (lv' := [(2, .int 0), (1, .int 0), (0, .ref (ad X 20 0))]) C.1 C.2.1 dX9_takesE_3 rfl hl (by decide) rfl (fun ls hl => ?_)
  refine lv_iconst (v := 1) C.1 C.2.1 dX9_takesE_4 rfl ?_
  refine lv_istore_n (lv' := [(3, .int 1), (2, .int 0), (1, .int 0), (0, .ref (ad X 20 0))]) C.1 C.2.1 dX9_takesE_5 rfl hl (by decide) rfl (fun ls hl => ?_)
  refine lv_aload_n C.1 C.2.1 dX9_takesE_6 rfl (lv_at hl 3 rfl) ?_
  refine lv_iconst (v := 0) C.1 C.2.1 dX9_takesE_7 rfl ?_
  obtain ⟨m_1, e_2, h⟩ := seqM_E h
  refine zp_X9_codes C hW id_20 w_1022 e_2 dX9_takesE_8 (fun H locs hW => ?_)
  refine lv_aload_n C.1 C.2.1 dX9_takesE_11 rfl (lv_at hl 3 rfl) ?_
  refine lv_iconst (v := 0) C.1 C.2.1 dX9_takesE_12 rfl ?_
  obtain ⟨m_3, e_4, h⟩ := seqM_E h
  refine zp_X9_atoms C hW id_20 w_1023 e_4 dX9_takesE_13 (fun H locs hW => ?_)
  refine lv_aload_n C.1 C.2.1 dX9_takesE_16 rfl (lv_at hl 3 rfl) ?_
  refine lv_iconst (v := 0) C.1 C.2.1 dX9_takesE_17 rfl ?_
  obtain ⟨m_5, e_6, h⟩ := seqM_E h
  refine zp_X9_held C hW id_20 w_1025 e_6 dX9_takesE_18 (fun H locs hW => ?_)
  refine lv_aload_n C.1 C.2.1 dX9_takesE_21 rfl (lv_at hl 3 rfl) ?_
  refine zg_X9_tested C hW id_20 w_1026 dX9_takesE_22 ?_
  refine lv_iconst (v := 0) C.1 C.2.1 dX9_takesE_25 rfl ?_
  refine lv_iconst (v := 0) C.1 C.2.1 dX9_takesE_26 rfl ?_
  obtain ⟨m_7, e_8, h⟩ := seqM_E h
  refine zas_29 C hW id_29 (inb_E (by decide)) e_8 dX9_takesE_27 (fun H locs hW => ?_)
  exact w_X9_takesE_28 C hq  fu h  hW (lv_sub hl [3, 2, 1, 0] rfl)
theorem c_X9_takesE {X : TX} {l : Launch} {fu : Nat}  {m mE : Mem} {r : Int32} (h : f_X9_takesE fu  m = some (r, mE))  : MetI X l yX9_takesE cX9_takesE 5 .boolean 3 [.ref (ad X 20 0)] m r mE :=
  met_I (by decide) (Nat.le_of_ble_eq_true rfl) (fun p e s mi args below meth c ls Q C hq hW hl => w_X9_takesE C hq h  hW (lv_sub hl [0] rfl))
theorem k_X9_takesE : CalV yX9_takesE cX9_takesE 5 (some .boolean) RX9 0 := ⟨w_1362, w_54, w_70, w_1363, by decide +kernel⟩
theorem dX9_text_0 : decode cX9_text 0 = .ok (.aload_n 0, 1) := by decide +kernel
theorem dX9_text_1 : decode cX9_text 1 = .ok (.iconst 0, 1) := by decide +kernel
theorem dX9_text_2 : decode cX9_text 2 = .ok (.putfield 195, 3) := by decide +kernel
theorem dX9_text_5 : decode cX9_text 5 = .ok (.aload_n 0, 1) := by decide +kernel
theorem dX9_text_6 : decode cX9_text 6 = .ok (.iconst (-1), 1) := by decide +kernel
theorem dX9_text_7 : decode cX9_text 7 = .ok (.putfield 201, 3) := by decide +kernel
theorem dX9_text_10 : decode cX9_text 10 = .ok (.aload_n 0, 1) := by decide +kernel
theorem dX9_text_11 : decode cX9_text 11 = .ok (.invokevirtual 219, 3) := by decide +kernel
theorem dX9_text_14 : decode cX9_text 14 = .ok (.aload_n 0, 1) := by decide +kernel
theorem dX9_text_15 : decode cX9_text 15 = .ok (.invokevirtual 250, 3) := by decide +kernel
theorem dX9_text_18 : decode cX9_text 18 = .ok (.ifCond .eq 14, 3) := by decide +kernel
theorem dX9_text_21 : decode cX9_text 21 = .ok (.aload_n 0, 1) := by decide +kernel
theorem dX9_text_22 : decode cX9_text 22 = .ok (.invokevirtual 253, 3) := by decide +kernel
theorem dX9_text_25 : decode cX9_text 25 = .ok (.ifCond .eq 7, 3) := by decide +kernel
theorem dX9_text_28 : decode cX9_text 28 = .ok (.iconst 1, 1) := by decide +kernel
theorem dX9_text_29 : decode cX9_text 29 = .ok (.goto 4, 3) := by decide +kernel
theorem dX9_text_32 : decode cX9_text 32 = .ok (.iconst 0, 1) := by decide +kernel
theorem dX9_text_33 : decode cX9_text 33 = .ok (.istore_n 1, 1) := by decide +kernel
theorem dX9_text_34 : decode cX9_text 34 = .ok (.aload_n 0, 1) := by decide +kernel
theorem dX9_text_35 : decode cX9_text 35 = .ok (.iconst 0, 1) := by decide +kernel
theorem dX9_text_36 : decode cX9_text 36 = .ok (.putfield 192, 3) := by decide +kernel
theorem dX9_text_39 : decode cX9_text 39 = .ok (.iload_n 1, 1) := by decide +kernel
theorem dX9_text_40 : decode cX9_text 40 = .ok (.ifCond .ne 11, 3) := by decide +kernel
theorem dX9_text_43 : decode cX9_text 43 = .ok (.bipush (-100), 2) := by decide +kernel
theorem dX9_text_45 : decode cX9_text 45 = .ok (.aload_n 0, 1) := by decide +kernel
theorem dX9_text_46 : decode cX9_text 46 = .ok (.getfield 198, 3) := by decide +kernel
theorem dX9_text_49 : decode cX9_text 49 = .ok (.isub, 1) := by decide +kernel
theorem dX9_text_50 : decode cX9_text 50 = .ok (.ireturn, 1) := by decide +kernel
theorem dX9_text_51 : decode cX9_text 51 = .ok (.aload_n 0, 1) := by decide +kernel
theorem dX9_text_52 : decode cX9_text 52 = .ok (.getfield 9, 3) := by decide +kernel
theorem dX9_text_55 : decode cX9_text 55 = .ok (.bipush 15, 2) := by decide +kernel
theorem dX9_text_57 : decode cX9_text 57 = .ok (.iaload, 1) := by decide +kernel
theorem dX9_text_58 : decode cX9_text 58 = .ok (.bipush 14, 2) := by decide +kernel
theorem dX9_text_60 : decode cX9_text 60 = .ok (.if_icmp .ne 6, 3) := by decide +kernel
theorem dX9_text_63 : decode cX9_text 63 = .ok (.ldc 92, 2) := by decide +kernel
theorem dX9_text_65 : decode cX9_text 65 = .ok (.ireturn, 1) := by decide +kernel
theorem dX9_text_66 : decode cX9_text 66 = .ok (.aload_n 0, 1) := by decide +kernel
theorem dX9_text_67 : decode cX9_text 67 = .ok (.getfield 9, 3) := by decide +kernel
theorem dX9_text_70 : decode cX9_text 70 = .ok (.bipush 15, 2) := by decide +kernel
theorem dX9_text_72 : decode cX9_text 72 = .ok (.iaload, 1) := by decide +kernel
theorem dX9_text_73 : decode cX9_text 73 = .ok (.istore_n 2, 1) := by decide +kernel
theorem dX9_text_74 : decode cX9_text 74 = .ok (.aload_n 0, 1) := by decide +kernel
theorem dX9_text_75 : decode cX9_text 75 = .ok (.getfield 9, 3) := by decide +kernel
theorem dX9_text_78 : decode cX9_text 78 = .ok (.bipush 51, 2) := by decide +kernel
theorem dX9_text_80 : decode cX9_text 80 = .ok (.iconst 2, 1) := by decide +kernel
theorem dX9_text_81 : decode cX9_text 81 = .ok (.iload_n 2, 1) := by decide +kernel
theorem dX9_text_82 : decode cX9_text 82 = .ok (.imul, 1) := by decide +kernel
theorem dX9_text_83 : decode cX9_text 83 = .ok (.iadd, 1) := by decide +kernel
theorem dX9_text_84 : decode cX9_text 84 = .ok (.sipush 1000, 3) := by decide +kernel
theorem dX9_text_87 : decode cX9_text 87 = .ok (.aload_n 0, 1) := by decide +kernel
theorem dX9_text_88 : decode cX9_text 88 = .ok (.getfield 216, 3) := by decide +kernel
theorem dX9_text_91 : decode cX9_text 91 = .ok (.imul, 1) := by decide +kernel
theorem dX9_text_92 : decode cX9_text 92 = .ok (.aload_n 0, 1) := by decide +kernel
theorem dX9_text_93 : decode cX9_text 93 = .ok (.getfield 228, 3) := by decide +kernel
theorem dX9_text_96 : decode cX9_text 96 = .ok (.iadd, 1) := by decide +kernel
theorem dX9_text_97 : decode cX9_text 97 = .ok (.iastore, 1) := by decide +kernel
theorem dX9_text_98 : decode cX9_text 98 = .ok (.aload_n 0, 1) := by decide +kernel
theorem dX9_text_99 : decode cX9_text 99 = .ok (.getfield 9, 3) := by decide +kernel
theorem dX9_text_102 : decode cX9_text 102 = .ok (.bipush 51, 2) := by decide +kernel
theorem dX9_text_104 : decode cX9_text 104 = .ok (.iconst 2, 1) := by decide +kernel
theorem dX9_text_105 : decode cX9_text 105 = .ok (.iload_n 2, 1) := by decide +kernel
theorem dX9_text_106 : decode cX9_text 106 = .ok (.imul, 1) := by decide +kernel
theorem dX9_text_107 : decode cX9_text 107 = .ok (.iadd, 1) := by decide +kernel
theorem dX9_text_108 : decode cX9_text 108 = .ok (.iconst 1, 1) := by decide +kernel
theorem dX9_text_109 : decode cX9_text 109 = .ok (.iadd, 1) := by decide +kernel
theorem dX9_text_110 : decode cX9_text 110 = .ok (.aload_n 0, 1) := by decide +kernel
theorem dX9_text_111 : decode cX9_text 111 = .ok (.getfield 234, 3) := by decide +kernel
theorem dX9_text_114 : decode cX9_text 114 = .ok (.iastore, 1) := by decide +kernel
theorem dX9_text_115 : decode cX9_text 115 = .ok (.iconst 0, 1) := by decide +kernel
theorem dX9_text_116 : decode cX9_text 116 = .ok (.istore_n 3, 1) := by decide +kernel
theorem dX9_text_117 : decode cX9_text 117 = .ok (.iload_n 3, 1) := by decide +kernel
theorem dX9_text_118 : decode cX9_text 118 = .ok (.aload_n 0, 1) := by decide +kernel
theorem dX9_text_119 : decode cX9_text 119 = .ok (.getfield 228, 3) := by decide +kernel
theorem dX9_text_122 : decode cX9_text 122 = .ok (.if_icmp .ge 29, 3) := by decide +kernel
theorem dX9_text_125 : decode cX9_text 125 = .ok (.aload_n 0, 1) := by decide +kernel
theorem dX9_text_126 : decode cX9_text 126 = .ok (.getfield 9, 3) := by decide +kernel
theorem dX9_text_129 : decode cX9_text 129 = .ok (.bipush 79, 2) := by decide +kernel
theorem dX9_text_131 : decode cX9_text 131 = .ok (.bipush 96, 2) := by decide +kernel
theorem dX9_text_133 : decode cX9_text 133 = .ok (.iload_n 2, 1) := by decide +kernel
theorem dX9_text_134 : decode cX9_text 134 = .ok (.imul, 1) := by decide +kernel
theorem dX9_text_135 : decode cX9_text 135 = .ok (.iadd, 1) := by decide +kernel
theorem dX9_text_136 : decode cX9_text 136 = .ok (.iload_n 3, 1) := by decide +kernel
theorem dX9_text_137 : decode cX9_text 137 = .ok (.iadd, 1) := by decide +kernel
theorem dX9_text_138 : decode cX9_text 138 = .ok (.aload_n 0, 1) := by decide +kernel
theorem dX9_text_139 : decode cX9_text 139 = .ok (.getfield 36, 3) := by decide +kernel
theorem dX9_text_142 : decode cX9_text 142 = .ok (.iload_n 3, 1) := by decide +kernel
theorem dX9_text_143 : decode cX9_text 143 = .ok (.iaload, 1) := by decide +kernel
theorem dX9_text_144 : decode cX9_text 144 = .ok (.iastore, 1) := by decide +kernel
theorem dX9_text_145 : decode cX9_text 145 = .ok (.iinc 3 1, 3) := by decide +kernel
theorem dX9_text_148 : decode cX9_text 148 = .ok (.goto (-31), 3) := by decide +kernel
theorem dX9_text_151 : decode cX9_text 151 = .ok (.aload_n 0, 1) := by decide +kernel
theorem dX9_text_152 : decode cX9_text 152 = .ok (.getfield 9, 3) := by decide +kernel
theorem dX9_text_155 : decode cX9_text 155 = .ok (.bipush 15, 2) := by decide +kernel
theorem dX9_text_157 : decode cX9_text 157 = .ok (.dup2, 1) := by decide +kernel
theorem dX9_text_158 : decode cX9_text 158 = .ok (.iaload, 1) := by decide +kernel
theorem dX9_text_159 : decode cX9_text 159 = .ok (.iconst 1, 1) := by decide +kernel
theorem dX9_text_160 : decode cX9_text 160 = .ok (.iadd, 1) := by decide +kernel
theorem dX9_text_161 : decode cX9_text 161 = .ok (.iastore, 1) := by decide +kernel
theorem dX9_text_162 : decode cX9_text 162 = .ok (.iload_n 2, 1) := by decide +kernel
theorem dX9_text_163 : decode cX9_text 163 = .ok (.ireturn, 1) := by decide +kernel
def f_X9_text_117 (fu : Nat)  : Nat → Int32 → Int32 → Mem → Option (Int32 × Mem)
  | 0, _, _, _ => none
  | n + 1, x2, x3, m => if (m 3009) ≤ x3 then (seqM (upd m ((4000 + 1500 * 0) + (15 : Int32).toNatClampNeg) ((m ((4000 + 1500 * 0) + (15 : Int32).toNatClampNeg)) + 1)) (fun m_1 : Mem => some (x2, m_1))) else (chk (inb x3 96) (chk (inb ((79 + (96 * x2)) + x3) 1423) (seqM (upd m ((4000 + 1500 * 0) + ((79 + (96 * x2)) + x3).toNatClampNeg) (m (3400 + x3.toNatClampNeg))) (fun m_5 : Mem => seqM (x3 + 1) (fun x_7 : Int32 => f_X9_text_117 fu n x2 x_7 m_5)))))
set_option maxHeartbeats 4000000 in
set_option maxRecDepth 100000 in
theorem w_X9_text_117 {X : TX} {p : Program} {l : Launch} {e : Env} {s : State} {mi : MethodId} {args : Array Value} {below : List Frame} {meth : Method} {c : Code} {Q : State → Prop} {r : Int32} {mE : Mem} (C : Cx X p s mi args c RX9 cX9_text 4) (hq : RetI X p l e (rmD 4) s mi args below meth c cX9_text .int Q r mE) {fu : Nat} : ∀ (n : Nat) {x2 : Int32} {x3 : Int32} {m : Mem} {H : Heap} {locs : List Loc} {ls : Array Slot}, f_X9_text_117 fu n x2 x3 m = some (r, mE) → Wd X s m H locs → lv_has ls 4 [(0, .ref (ad X 20 0)), (2, .int x2), (3, .int x3)] → W p l e (rmD 4) s mi args below meth c H locs 0 0 Q (F0 mi 117 ls []) := by
  intro n
  induction n with
  | zero =>
    intro x2 x3 m H locs ls h hW hl
    rw [f_X9_text_117] at h
    cases h
  | succ n ih =>
    intro x2 x3 m H locs ls h hW hl
    rw [f_X9_text_117] at h
    refine lv_iload_n C.1 C.2.1 dX9_text_117 rfl (lv_at hl 2 rfl) ?_
    refine lv_aload_n C.1 C.2.1 dX9_text_118 rfl (lv_at hl 0 rfl) ?_
    refine zg_X9_codes C hW id_20 w_1022 dX9_text_119 ?_
    refine lv_icmp_ge (tgt := 151) C.1 C.2.1 dX9_text_122 (by decide) (fun hc_9 => ?_) (fun hc_9 => ?_)
    · have h := ite_t hc_9 h
      refine lv_aload_n C.1 C.2.1 dX9_text_151 rfl (lv_at hl 0 rfl) ?_
      refine zg_X9_now C hW id_20 w_1004 dX9_text_152 ?_
      refine lv_bipush (v := 15) C.1 C.2.1 dX9_text_155 rfl ?_
      refine lv_dup2_11 C.1 C.2.1 dX9_text_157 rfl rfl ?_
      refine zal_21 C hW id_21_0 (inb_E (by decide)) dX9_text_158 ?_
      refine lv_iconst (v := 1) C.1 C.2.1 dX9_text_159 rfl ?_
      refine lv_iadd C.1 C.2.1 dX9_text_160 ?_
      obtain ⟨m_1, e_2, h⟩ := seqM_E h
      refine zas_21 C hW id_21_0 (inb_E (by decide)) e_2 dX9_text_161 (fun H locs hW => ?_)
      refine lv_iload_n C.1 C.2.1 dX9_text_162 rfl (lv_at hl 1 rfl) ?_
      exact ret_i h hq rfl hW dX9_text_163
    · have h := ite_f hc_9 h
      refine lv_aload_n C.1 C.2.1 dX9_text_125 rfl (lv_at hl 0 rfl) ?_
      refine zg_X9_now C hW id_20 w_1004 dX9_text_126 ?_
      refine lv_bipush (v := 79) C.1 C.2.1 dX9_text_129 rfl ?_
      refine lv_bipush (v := 96) C.1 C.2.1 dX9_text_131 rfl ?_
      refine lv_iload_n C.1 C.2.1 dX9_text_133 rfl (lv_at hl 1 rfl) ?_
      refine lv_imul C.1 C.2.1 dX9_text_134 ?_
      refine lv_iadd C.1 C.2.1 dX9_text_135 ?_
      refine lv_iload_n C.1 C.2.1 dX9_text_136 rfl (lv_at hl 2 rfl) ?_
      refine lv_iadd C.1 C.2.1 dX9_text_137 ?_
      refine lv_aload_n C.1 C.2.1 dX9_text_138 rfl (lv_at hl 0 rfl) ?_
      refine zg_X9_code C hW id_20 w_1021 dX9_text_139 ?_
      refine lv_iload_n C.1 C.2.1 dX9_text_142 rfl (lv_at hl 2 rfl) ?_
      obtain ⟨hb_3, h⟩ := chk_E h
      refine zal_27 C hW id_27 (inb_E hb_3) dX9_text_143 ?_
      obtain ⟨hb_4, h⟩ := chk_E h
      obtain ⟨m_5, e_6, h⟩ := seqM_E h
      refine zas_21 C hW id_21_0 (inb_E hb_4) e_6 dX9_text_144 (fun H locs hW => ?_)
      obtain ⟨x_7, e_8, h⟩ := seqM_E h
      refine lv_iinc (v := x_7) (lv' := [(3, .int x_7), (0, .ref (ad X 20 0)), (2, .int x2)]) C.1 C.2.1 dX9_text_145 hl (k := 2) rfl (by rw [e_8]; rfl) (by decide) rfl (fun ls hl => ?_)
      refine lv_goto (tgt := 117) C.1 C.2.1 dX9_text_148 (by decide) ?_
      exact ih h  hW (lv_sub hl [1, 2, 0] rfl)
def f_X9_text_33 (fu : Nat)  (y0 : Int32) (m : Mem) : Option (Int32 × Mem) := seqM (upd m 3002 0) (fun m_1 : Mem => if y0 = 0 then (some (((-100) - (m_1 3004)), m_1)) else (if (m_1 ((4000 + 1500 * 0) + (15 : Int32).toNatClampNeg)) = 14 then (some ((-1000000003), m_1)) else (seqM (m_1 ((4000 + 1500 * 0) + (15 : Int32).toNatClampNeg)) (fun x_3 : Int32 => chk (inb (51 + (2 * x_3)) 1423) (seqM (upd m_1 ((4000 + 1500 * 0) + (51 + (2 * x_3)).toNatClampNeg) ((1000 * (m_1 3008)) + (m_1 3009))) (fun m_6 : Mem => chk (inb ((51 + (2 * x_3)) + 1) 1423) (seqM (upd m_6 ((4000 + 1500 * 0) + ((51 + (2 * x_3)) + 1).toNatClampNeg) (m_6 3010)) (fun m_9 : Mem => f_X9_text_117 fu fu x_3 0 m_9))))))))
set_option maxHeartbeats 4000000 in
set_option maxRecDepth 100000 in
theorem w_X9_text_33 {X : TX} {p : Program} {l : Launch} {e : Env} {s : State} {mi : MethodId} {args : Array Value} {below : List Frame} {meth : Method} {c : Code} {Q : State → Prop} {r : Int32} {mE : Mem} (C : Cx X p s mi args c RX9 cX9_text 4) (hq : RetI X p l e (rmD 4) s mi args below meth c cX9_text .int Q r mE) {fu : Nat} {y0 : Int32} {m : Mem} {H : Heap} {locs : List Loc} {ls : Array Slot} (h : f_X9_text_33 fu y0 m = some (r, mE))  (hW : Wd X s m H locs) (hl : lv_has ls 4 [(0, .ref (ad X 20 0))]) : W p l e (rmD 4) s mi args below meth c H locs 0 0 Q (F0 mi 33 ls [.int y0]) := by
  unfold f_X9_text_33 at h
  refine lv_istore_n (lv' := [(1, .int y0), (0, .ref (ad X 20 0))]) C.1 C.2.1 dX9_text_33 rfl hl (by decide) rfl (fun ls hl => ?_)
  refine lv_aload_n C.1 C.2.1 dX9_text_34 rfl (lv_at hl 1 rfl) ?_
  refine lv_iconst (v := 0) C.1 C.2.1 dX9_text_35 rfl ?_
  obtain ⟨m_1, e_2, h⟩ := seqM_E h
  refine zp_X9_taped C hW id_20 w_1012 e_2 dX9_text_36 (fun H locs hW => ?_)
  refine lv_iload_n C.1 C.2.1 dX9_text_39 rfl (lv_at hl 0 rfl) ?_
  refine lv_if_ne (tgt := 51) C.1 C.2.1 dX9_text_40 (by decide) (fun hc_12 => ?_) (fun hc_12 => ?_)
  · have h := ite_f hc_12 h
    refine lv_aload_n C.1 C.2.1 dX9_text_51 rfl (lv_at hl 1 rfl) ?_
    refine zg_X9_now C hW id_20 w_1004 dX9_text_52 ?_
    refine lv_bipush (v := 15) C.1 C.2.1 dX9_text_55 rfl ?_
    refine zal_21 C hW id_21_0 (inb_E (by decide)) dX9_text_57 ?_
    refine lv_bipush (v := 14) C.1 C.2.1 dX9_text_58 rfl ?_
    refine lv_icmp_ne (tgt := 66) C.1 C.2.1 dX9_text_60 (by decide) (fun hc_11 => ?_) (fun hc_11 => ?_)
    · have h := ite_f hc_11 h
      refine lv_aload_n C.1 C.2.1 dX9_text_66 rfl (lv_at hl 1 rfl) ?_
      refine zg_X9_now C hW id_20 w_1004 dX9_text_67 ?_
      refine lv_bipush (v := 15) C.1 C.2.1 dX9_text_70 rfl ?_
      refine zal_21 C hW id_21_0 (inb_E (by decide)) dX9_text_72 ?_
      obtain ⟨x_3, e_4, h⟩ := seqM_E h
      refine lv_name e_4 ?_
      refine lv_istore_n (lv' := [(2, .int x_3), (1, .int y0), (0, .ref (ad X 20 0))]) C.1 C.2.1 dX9_text_73 rfl hl (by decide) rfl (fun ls hl => ?_)
      refine lv_aload_n C.1 C.2.1 dX9_text_74 rfl (lv_at hl 2 rfl) ?_
      refine zg_X9_now C hW id_20 w_1004 dX9_text_75 ?_
      refine lv_bipush (v := 51) C.1 C.2.1 dX9_text_78 rfl ?_
      refine lv_iconst (v := 2) C.1 C.2.1 dX9_text_80 rfl ?_
      refine lv_iload_n C.1 C.2.1 dX9_text_81 rfl (lv_at hl 0 rfl) ?_
      refine lv_imul C.1 C.2.1 dX9_text_82 ?_
      refine lv_iadd C.1 C.2.1 dX9_text_83 ?_
      refine lv_sipush (v := 1000) C.1 C.2.1 dX9_text_84 rfl ?_
      refine lv_aload_n C.1 C.2.1 dX9_text_87 rfl (lv_at hl 2 rfl) ?_
      refine zg_X9_key C hW id_20 w_1018 dX9_text_88 ?_
      refine lv_imul C.1 C.2.1 dX9_text_91 ?_
      refine lv_aload_n C.1 C.2.1 dX9_text_92 rfl (lv_at hl 2 rfl) ?_
      refine zg_X9_codes C hW id_20 w_1022 dX9_text_93 ?_
      refine lv_iadd C.1 C.2.1 dX9_text_96 ?_
      obtain ⟨hb_5, h⟩ := chk_E h
      obtain ⟨m_6, e_7, h⟩ := seqM_E h
      refine zas_21 C hW id_21_0 (inb_E hb_5) e_7 dX9_text_97 (fun H locs hW => ?_)
      refine lv_aload_n C.1 C.2.1 dX9_text_98 rfl (lv_at hl 2 rfl) ?_
      refine zg_X9_now C hW id_20 w_1004 dX9_text_99 ?_
      refine lv_bipush (v := 51) C.1 C.2.1 dX9_text_102 rfl ?_
      refine lv_iconst (v := 2) C.1 C.2.1 dX9_text_104 rfl ?_
      refine lv_iload_n C.1 C.2.1 dX9_text_105 rfl (lv_at hl 0 rfl) ?_
      refine lv_imul C.1 C.2.1 dX9_text_106 ?_
      refine lv_iadd C.1 C.2.1 dX9_text_107 ?_
      refine lv_iconst (v := 1) C.1 C.2.1 dX9_text_108 rfl ?_
      refine lv_iadd C.1 C.2.1 dX9_text_109 ?_
      refine lv_aload_n C.1 C.2.1 dX9_text_110 rfl (lv_at hl 2 rfl) ?_
      refine zg_X9_atoms C hW id_20 w_1023 dX9_text_111 ?_
      obtain ⟨hb_8, h⟩ := chk_E h
      obtain ⟨m_9, e_10, h⟩ := seqM_E h
      refine zas_21 C hW id_21_0 (inb_E hb_8) e_10 dX9_text_114 (fun H locs hW => ?_)
      refine lv_iconst (v := 0) C.1 C.2.1 dX9_text_115 rfl ?_
      refine lv_istore_n (lv' := [(3, .int 0), (2, .int x_3), (1, .int y0), (0, .ref (ad X 20 0))]) C.1 C.2.1 dX9_text_116 rfl hl (by decide) rfl (fun ls hl => ?_)
      exact w_X9_text_117 C hq  fu h  hW (lv_sub hl [3, 1, 0] rfl)
    · have h := ite_t hc_11 h
      refine lv_ldc C.1 C.2.1 C.2.2.2.1 (C.2.2.2.2.1 _ w_1124) dX9_text_63 ?_
      exact ret_i h hq rfl hW dX9_text_65
  · have h := ite_t hc_12 h
    refine lv_bipush (v := (-100)) C.1 C.2.1 dX9_text_43 rfl ?_
    refine lv_aload_n C.1 C.2.1 dX9_text_45 rfl (lv_at hl 1 rfl) ?_
    refine zg_X9_from C hW id_20 w_1014 dX9_text_46 ?_
    refine lv_isub C.1 C.2.1 dX9_text_49 ?_
    exact ret_i h hq rfl hW dX9_text_50
def f_X9_text_32 (fu : Nat)   (m : Mem) : Option (Int32 × Mem) := f_X9_text_33 fu 0 m
set_option maxHeartbeats 4000000 in
set_option maxRecDepth 100000 in
theorem w_X9_text_32 {X : TX} {p : Program} {l : Launch} {e : Env} {s : State} {mi : MethodId} {args : Array Value} {below : List Frame} {meth : Method} {c : Code} {Q : State → Prop} {r : Int32} {mE : Mem} (C : Cx X p s mi args c RX9 cX9_text 4) (hq : RetI X p l e (rmD 4) s mi args below meth c cX9_text .int Q r mE) {fu : Nat}  {m : Mem} {H : Heap} {locs : List Loc} {ls : Array Slot} (h : f_X9_text_32 fu  m = some (r, mE))  (hW : Wd X s m H locs) (hl : lv_has ls 4 [(0, .ref (ad X 20 0))]) : W p l e (rmD 4) s mi args below meth c H locs 0 0 Q (F0 mi 32 ls []) := by
  unfold f_X9_text_32 at h
  refine lv_iconst (v := 0) C.1 C.2.1 dX9_text_32 rfl ?_
  exact w_X9_text_33 C hq  h  hW (lv_sub hl [0] rfl)
def f_X9_text (fu : Nat)   (m : Mem) : Option (Int32 × Mem) := seqM (upd m 3003 0) (fun m_1 : Mem => seqM (upd m_1 3007 (-1)) (fun m_3 : Mem => doV (f_X9_go fu  m_3) (fun m_6 => doI (f_X9_takesKey fu  m_6) (fun r_9 m_8 => if r_9 = 0 then (f_X9_text_32 fu m_8) else (doI (f_X9_takesE fu  m_8) (fun r_12 m_11 => if r_12 = 0 then (f_X9_text_32 fu m_11) else (f_X9_text_33 fu 1 m_11)))))))
set_option maxHeartbeats 4000000 in
set_option maxRecDepth 100000 in
theorem w_X9_text {X : TX} {p : Program} {l : Launch} {e : Env} {s : State} {mi : MethodId} {args : Array Value} {below : List Frame} {meth : Method} {c : Code} {Q : State → Prop} {r : Int32} {mE : Mem} (C : Cx X p s mi args c RX9 cX9_text 4) (hq : RetI X p l e (rmD 4) s mi args below meth c cX9_text .int Q r mE) {fu : Nat}  {m : Mem} {H : Heap} {locs : List Loc} {ls : Array Slot} (h : f_X9_text fu  m = some (r, mE))  (hW : Wd X s m H locs) (hl : lv_has ls 4 [(0, .ref (ad X 20 0))]) : W p l e (rmD 4) s mi args below meth c H locs 0 0 Q (F0 mi 0 ls []) := by
  unfold f_X9_text at h
  refine lv_aload_n C.1 C.2.1 dX9_text_0 rfl (lv_at hl 0 rfl) ?_
  refine lv_iconst (v := 0) C.1 C.2.1 dX9_text_1 rfl ?_
  obtain ⟨m_1, e_2, h⟩ := seqM_E h
  refine zp_X9_next C hW id_20 w_1013 e_2 dX9_text_2 (fun H locs hW => ?_)
  refine lv_aload_n C.1 C.2.1 dX9_text_5 rfl (lv_at hl 0 rfl) ?_
  refine lv_iconst (v := (-1)) C.1 C.2.1 dX9_text_6 rfl ?_
  obtain ⟨m_3, e_4, h⟩ := seqM_E h
  refine zp_X9_ended C hW id_20 w_1017 e_4 dX9_text_7 (fun H locs hW => ?_)
  refine lv_aload_n C.1 C.2.1 dX9_text_10 rfl (lv_at hl 0 rfl) ?_
  obtain ⟨m_6, hc_5, h⟩ := doV_E h
  refine zr_cVV C hW (c_X9_go  hc_5 ) k_X9_go (zr_recv C hW id_20 zco_20 rfl) w_1344 ⟨Nat.le_of_ble_eq_true rfl, Nat.le_of_ble_eq_true rfl⟩ ⟨Nat.le_refl 0, Nat.le_refl 0⟩ rfl hl.1 rfl (Nat.le_of_ble_eq_true rfl) dX9_text_11 (fun H locs hW => ?_)
  refine lv_aload_n C.1 C.2.1 dX9_text_14 rfl (lv_at hl 0 rfl) ?_
  obtain ⟨r_9, m_8, hc_7, h⟩ := doI_E h
  refine zr_cVI C hW (c_X9_takesKey  hc_7 ) k_X9_takesKey (zr_recv C hW id_20 zco_20 rfl) w_1356 ⟨Nat.le_of_ble_eq_true rfl, Nat.le_of_ble_eq_true rfl⟩ ⟨Nat.le_refl 0, Nat.le_refl 0⟩ rfl hl.1 rfl (Nat.le_of_ble_eq_true rfl) dX9_text_15 (fun H locs hW => ?_)
  refine lv_if_eq (tgt := 32) C.1 C.2.1 dX9_text_18 (by decide) (fun hc_14 => ?_) (fun hc_14 => ?_)
  · have h := ite_t hc_14 h
    exact w_X9_text_32 C hq  h  hW (lv_sub hl [0] rfl)
  · have h := ite_f hc_14 h
    refine lv_aload_n C.1 C.2.1 dX9_text_21 rfl (lv_at hl 0 rfl) ?_
    obtain ⟨r_12, m_11, hc_10, h⟩ := doI_E h
    refine zr_cVI C hW (c_X9_takesE  hc_10 ) k_X9_takesE (zr_recv C hW id_20 zco_20 rfl) w_1360 ⟨Nat.le_of_ble_eq_true rfl, Nat.le_of_ble_eq_true rfl⟩ ⟨Nat.le_refl 0, Nat.le_refl 0⟩ rfl hl.1 rfl (Nat.le_of_ble_eq_true rfl) dX9_text_22 (fun H locs hW => ?_)
    refine lv_if_eq (tgt := 32) C.1 C.2.1 dX9_text_25 (by decide) (fun hc_13 => ?_) (fun hc_13 => ?_)
    · have h := ite_t hc_13 h
      exact w_X9_text_32 C hq  h  hW (lv_sub hl [0] rfl)
    · have h := ite_f hc_13 h
      refine lv_iconst (v := 1) C.1 C.2.1 dX9_text_28 rfl ?_
      refine lv_goto (tgt := 33) C.1 C.2.1 dX9_text_29 (by decide) ?_
      exact w_X9_text_33 C hq  h  hW (lv_sub hl [0] rfl)
theorem c_X9_text {X : TX} {l : Launch} {fu : Nat}  {m mE : Mem} {r : Int32} (h : f_X9_text fu  m = some (r, mE))  : MetI X l yX9_text cX9_text 4 .int 4 [.ref (ad X 20 0)] m r mE :=
  met_I (by decide) (Nat.le_of_ble_eq_true rfl) (fun p e s mi args below meth c ls Q C hq hW hl => w_X9_text C hq h  hW (lv_sub hl [0] rfl))
theorem k_X9_text : CalV yX9_text cX9_text 4 (some .int) RX9 0 := ⟨w_1341, w_1342, w_70, w_1343, by decide +kernel⟩
theorem dX9_textTold_0 : decode cX9_textTold 0 = .ok (.iload_n 1, 1) := by decide +kernel
theorem dX9_textTold_1 : decode cX9_textTold 1 = .ok (.iconst 0, 1) := by decide +kernel
theorem dX9_textTold_2 : decode cX9_textTold 2 = .ok (.aload_n 0, 1) := by decide +kernel
theorem dX9_textTold_3 : decode cX9_textTold 3 = .ok (.getfield 9, 3) := by decide +kernel
theorem dX9_textTold_6 : decode cX9_textTold 6 = .ok (.bipush 15, 2) := by decide +kernel
theorem dX9_textTold_8 : decode cX9_textTold 8 = .ok (.iaload, 1) := by decide +kernel
theorem dX9_textTold_9 : decode cX9_textTold 9 = .ok (.iconst 1, 1) := by decide +kernel
theorem dX9_textTold_10 : decode cX9_textTold 10 = .ok (.isub, 1) := by decide +kernel
theorem dX9_textTold_11 : decode cX9_textTold 11 = .ok (.invokestatic 79, 3) := by decide +kernel
theorem dX9_textTold_14 : decode cX9_textTold 14 = .ok (.ifCond .eq 12, 3) := by decide +kernel
theorem dX9_textTold_17 : decode cX9_textTold 17 = .ok (.iload_n 2, 1) := by decide +kernel
theorem dX9_textTold_18 : decode cX9_textTold 18 = .ok (.iconst 0, 1) := by decide +kernel
theorem dX9_textTold_19 : decode cX9_textTold 19 = .ok (.iconst 1, 1) := by decide +kernel
theorem dX9_textTold_20 : decode cX9_textTold 20 = .ok (.invokestatic 79, 3) := by decide +kernel
theorem dX9_textTold_23 : decode cX9_textTold 23 = .ok (.ifCond .ne 6, 3) := by decide +kernel
theorem dX9_textTold_26 : decode cX9_textTold 26 = .ok (.ldc 91, 2) := by decide +kernel
theorem dX9_textTold_28 : decode cX9_textTold 28 = .ok (.ireturn, 1) := by decide +kernel
theorem dX9_textTold_29 : decode cX9_textTold 29 = .ok (.iload_n 2, 1) := by decide +kernel
theorem dX9_textTold_30 : decode cX9_textTold 30 = .ok (.ifCond .ne 21, 3) := by decide +kernel
theorem dX9_textTold_33 : decode cX9_textTold 33 = .ok (.aload_n 0, 1) := by decide +kernel
theorem dX9_textTold_34 : decode cX9_textTold 34 = .ok (.getfield 9, 3) := by decide +kernel
theorem dX9_textTold_37 : decode cX9_textTold 37 = .ok (.bipush 51, 2) := by decide +kernel
theorem dX9_textTold_39 : decode cX9_textTold 39 = .ok (.iconst 2, 1) := by decide +kernel
theorem dX9_textTold_40 : decode cX9_textTold 40 = .ok (.iload_n 1, 1) := by decide +kernel
theorem dX9_textTold_41 : decode cX9_textTold 41 = .ok (.imul, 1) := by decide +kernel
theorem dX9_textTold_42 : decode cX9_textTold 42 = .ok (.iadd, 1) := by decide +kernel
theorem dX9_textTold_43 : decode cX9_textTold 43 = .ok (.iaload, 1) := by decide +kernel
theorem dX9_textTold_44 : decode cX9_textTold 44 = .ok (.sipush 1000, 3) := by decide +kernel
theorem dX9_textTold_47 : decode cX9_textTold 47 = .ok (.idiv, 1) := by decide +kernel
theorem dX9_textTold_48 : decode cX9_textTold 48 = .ok (.goto 16, 3) := by decide +kernel
theorem dX9_textTold_51 : decode cX9_textTold 51 = .ok (.aload_n 0, 1) := by decide +kernel
theorem dX9_textTold_52 : decode cX9_textTold 52 = .ok (.getfield 9, 3) := by decide +kernel
theorem dX9_textTold_55 : decode cX9_textTold 55 = .ok (.bipush 51, 2) := by decide +kernel
theorem dX9_textTold_57 : decode cX9_textTold 57 = .ok (.iconst 2, 1) := by decide +kernel
theorem dX9_textTold_58 : decode cX9_textTold 58 = .ok (.iload_n 1, 1) := by decide +kernel
theorem dX9_textTold_59 : decode cX9_textTold 59 = .ok (.imul, 1) := by decide +kernel
theorem dX9_textTold_60 : decode cX9_textTold 60 = .ok (.iadd, 1) := by decide +kernel
theorem dX9_textTold_61 : decode cX9_textTold 61 = .ok (.iconst 1, 1) := by decide +kernel
theorem dX9_textTold_62 : decode cX9_textTold 62 = .ok (.iadd, 1) := by decide +kernel
theorem dX9_textTold_63 : decode cX9_textTold 63 = .ok (.iaload, 1) := by decide +kernel
theorem dX9_textTold_64 : decode cX9_textTold 64 = .ok (.ireturn, 1) := by decide +kernel
def f_X9_textTold (fu : Nat)  (x1 : Int32) (x2 : Int32) (m : Mem) : Option (Int32 × Mem) := doI (f_X9_in fu x1 0 ((m ((4000 + 1500 * 0) + (15 : Int32).toNatClampNeg)) - 1) m) (fun r_3 m_2 => if r_3 = 0 then (some ((-1000000001), m_2)) else (doI (f_X9_in fu x2 0 1 m_2) (fun r_6 m_5 => if r_6 = 0 then (some ((-1000000001), m_5)) else (if x2 = 0 then (chk (inb (51 + (2 * x1)) 1423) (some (((m_5 ((4000 + 1500 * 0) + (51 + (2 * x1)).toNatClampNeg)) / 1000), m_5))) else (chk (inb ((51 + (2 * x1)) + 1) 1423) (some ((m_5 ((4000 + 1500 * 0) + ((51 + (2 * x1)) + 1).toNatClampNeg)), m_5)))))))
set_option maxHeartbeats 4000000 in
set_option maxRecDepth 100000 in
theorem w_X9_textTold {X : TX} {p : Program} {l : Launch} {e : Env} {s : State} {mi : MethodId} {args : Array Value} {below : List Frame} {meth : Method} {c : Code} {Q : State → Prop} {r : Int32} {mE : Mem} (C : Cx X p s mi args c RX9 cX9_textTold 3) (hq : RetI X p l e (rmD 1) s mi args below meth c cX9_textTold .int Q r mE) {fu : Nat} {x1 : Int32} {x2 : Int32} {m : Mem} {H : Heap} {locs : List Loc} {ls : Array Slot} (h : f_X9_textTold fu x1 x2 m = some (r, mE))  (hW : Wd X s m H locs) (hl : lv_has ls 3 [(0, .ref (ad X 20 0)), (1, .int x1), (2, .int x2)]) : W p l e (rmD 1) s mi args below meth c H locs 0 0 Q (F0 mi 0 ls []) := by
  unfold f_X9_textTold at h
  refine lv_iload_n C.1 C.2.1 dX9_textTold_0 rfl (lv_at hl 1 rfl) ?_
  refine lv_iconst (v := 0) C.1 C.2.1 dX9_textTold_1 rfl ?_
  refine lv_aload_n C.1 C.2.1 dX9_textTold_2 rfl (lv_at hl 0 rfl) ?_
  refine zg_X9_now C hW id_20 w_1004 dX9_textTold_3 ?_
  refine lv_bipush (v := 15) C.1 C.2.1 dX9_textTold_6 rfl ?_
  refine zal_21 C hW id_21_0 (inb_E (by decide)) dX9_textTold_8 ?_
  refine lv_iconst (v := 1) C.1 C.2.1 dX9_textTold_9 rfl ?_
  refine lv_isub C.1 C.2.1 dX9_textTold_10 ?_
  obtain ⟨r_3, m_2, hc_1, h⟩ := doI_E h
  refine zr_cSI C hW (c_X9_in (x0 := x1) (x1 := 0) (x2 := ((m ((4000 + 1500 * 0) + (15 : Int32).toNatClampNeg)) - 1)) hc_1 ) k_X9_in w_1117 ⟨Nat.le_of_ble_eq_true rfl, Nat.le_of_ble_eq_true rfl⟩ ⟨Nat.le_refl 0, Nat.le_refl 0⟩ rfl hl.1 rfl (Nat.le_of_ble_eq_true rfl) dX9_textTold_11 (fun H locs hW => ?_)
  refine lv_if_eq (tgt := 26) C.1 C.2.1 dX9_textTold_14 (by decide) (fun hc_11 => ?_) (fun hc_11 => ?_)
  · have h := ite_t hc_11 h
    refine lv_ldc C.1 C.2.1 C.2.2.2.1 (C.2.2.2.2.1 _ w_1123) dX9_textTold_26 ?_
    exact ret_i h hq rfl hW dX9_textTold_28
  · have h := ite_f hc_11 h
    refine lv_iload_n C.1 C.2.1 dX9_textTold_17 rfl (lv_at hl 2 rfl) ?_
    refine lv_iconst (v := 0) C.1 C.2.1 dX9_textTold_18 rfl ?_
    refine lv_iconst (v := 1) C.1 C.2.1 dX9_textTold_19 rfl ?_
    obtain ⟨r_6, m_5, hc_4, h⟩ := doI_E h
    refine zr_cSI C hW (c_X9_in (x0 := x2) (x1 := 0) (x2 := 1) hc_4 ) k_X9_in w_1117 ⟨Nat.le_of_ble_eq_true rfl, Nat.le_of_ble_eq_true rfl⟩ ⟨Nat.le_refl 0, Nat.le_refl 0⟩ rfl hl.1 rfl (Nat.le_of_ble_eq_true rfl) dX9_textTold_20 (fun H locs hW => ?_)
    refine lv_if_ne (tgt := 29) C.1 C.2.1 dX9_textTold_23 (by decide) (fun hc_10 => ?_) (fun hc_10 => ?_)
    · have h := ite_f hc_10 h
      refine lv_iload_n C.1 C.2.1 dX9_textTold_29 rfl (lv_at hl 2 rfl) ?_
      refine lv_if_ne (tgt := 51) C.1 C.2.1 dX9_textTold_30 (by decide) (fun hc_9 => ?_) (fun hc_9 => ?_)
      · have h := ite_f hc_9 h
        refine lv_aload_n C.1 C.2.1 dX9_textTold_51 rfl (lv_at hl 0 rfl) ?_
        refine zg_X9_now C hW id_20 w_1004 dX9_textTold_52 ?_
        refine lv_bipush (v := 51) C.1 C.2.1 dX9_textTold_55 rfl ?_
        refine lv_iconst (v := 2) C.1 C.2.1 dX9_textTold_57 rfl ?_
        refine lv_iload_n C.1 C.2.1 dX9_textTold_58 rfl (lv_at hl 1 rfl) ?_
        refine lv_imul C.1 C.2.1 dX9_textTold_59 ?_
        refine lv_iadd C.1 C.2.1 dX9_textTold_60 ?_
        refine lv_iconst (v := 1) C.1 C.2.1 dX9_textTold_61 rfl ?_
        refine lv_iadd C.1 C.2.1 dX9_textTold_62 ?_
        obtain ⟨hb_7, h⟩ := chk_E h
        refine zal_21 C hW id_21_0 (inb_E hb_7) dX9_textTold_63 ?_
        exact ret_i h hq rfl hW dX9_textTold_64
      · have h := ite_t hc_9 h
        refine lv_aload_n C.1 C.2.1 dX9_textTold_33 rfl (lv_at hl 0 rfl) ?_
        refine zg_X9_now C hW id_20 w_1004 dX9_textTold_34 ?_
        refine lv_bipush (v := 51) C.1 C.2.1 dX9_textTold_37 rfl ?_
        refine lv_iconst (v := 2) C.1 C.2.1 dX9_textTold_39 rfl ?_
        refine lv_iload_n C.1 C.2.1 dX9_textTold_40 rfl (lv_at hl 1 rfl) ?_
        refine lv_imul C.1 C.2.1 dX9_textTold_41 ?_
        refine lv_iadd C.1 C.2.1 dX9_textTold_42 ?_
        obtain ⟨hb_8, h⟩ := chk_E h
        refine zal_21 C hW id_21_0 (inb_E hb_8) dX9_textTold_43 ?_
        refine lv_sipush (v := 1000) C.1 C.2.1 dX9_textTold_44 rfl ?_
        refine lv_idiv C.1 C.2.1 dX9_textTold_47 (by decide) ?_
        refine lv_goto (tgt := 64) C.1 C.2.1 dX9_textTold_48 (by decide) ?_
        exact ret_i h hq rfl hW dX9_textTold_64
    · have h := ite_t hc_10 h
      refine lv_ldc C.1 C.2.1 C.2.2.2.1 (C.2.2.2.2.1 _ w_1123) dX9_textTold_26 ?_
      exact ret_i h hq rfl hW dX9_textTold_28
theorem c_X9_textTold {X : TX} {l : Launch} {fu : Nat} {x1 : Int32} {x2 : Int32} {m mE : Mem} {r : Int32} (h : f_X9_textTold fu x1 x2 m = some (r, mE))  : MetI X l yX9_textTold cX9_textTold 3 .int 1 [.ref (ad X 20 0), .int x1, .int x2] m r mE :=
  met_I (by decide) (Nat.le_of_ble_eq_true rfl) (fun p e s mi args below meth c ls Q C hq hW hl => w_X9_textTold C hq h  hW (lv_sub hl [0, 1, 2] rfl))
theorem k_X9_textTold : CalV yX9_textTold cX9_textTold 3 (some .int) RX9 2 := ⟨w_1388, w_1389, w_70, w_1390, by decide +kernel⟩
theorem dX9_why_0 : decode cX9_why 0 = .ok (.iload_n 1, 1) := by decide +kernel
theorem dX9_why_1 : decode cX9_why 1 = .ok (.iconst 0, 1) := by decide +kernel
theorem dX9_why_2 : decode cX9_why 2 = .ok (.iconst 2, 1) := by decide +kernel
theorem dX9_why_3 : decode cX9_why 3 = .ok (.invokestatic 79, 3) := by decide +kernel
theorem dX9_why_6 : decode cX9_why 6 = .ok (.ifCond .ne 6, 3) := by decide +kernel
theorem dX9_why_9 : decode cX9_why 9 = .ok (.ldc 91, 2) := by decide +kernel
theorem dX9_why_11 : decode cX9_why 11 = .ok (.ireturn, 1) := by decide +kernel
theorem dX9_why_12 : decode cX9_why 12 = .ok (.aload_n 0, 1) := by decide +kernel
theorem dX9_why_13 : decode cX9_why 13 = .ok (.iload_n 1, 1) := by decide +kernel
theorem dX9_why_14 : decode cX9_why 14 = .ok (.invokevirtual 137, 3) := by decide +kernel
theorem dX9_why_17 : decode cX9_why 17 = .ok (.istore_n 2, 1) := by decide +kernel
theorem dX9_why_18 : decode cX9_why 18 = .ok (.iload_n 2, 1) := by decide +kernel
theorem dX9_why_19 : decode cX9_why 19 = .ok (.ifCond .ge 8, 3) := by decide +kernel
theorem dX9_why_22 : decode cX9_why 22 = .ok (.ldc 180, 2) := by decide +kernel
theorem dX9_why_24 : decode cX9_why 24 = .ok (.goto 4, 3) := by decide +kernel
theorem dX9_why_27 : decode cX9_why 27 = .ok (.iload_n 2, 1) := by decide +kernel
theorem dX9_why_28 : decode cX9_why 28 = .ok (.ireturn, 1) := by decide +kernel
def f_X9_why (fu : Nat)  (x1 : Int32) (m : Mem) : Option (Int32 × Mem) := doI (f_X9_in fu x1 0 2 m) (fun r_3 m_2 => if r_3 = 0 then (some ((-1000000001), m_2)) else (doI (f_X9_counts fu x1 m_2) (fun r_6 m_5 => if 0 ≤ r_6 then (some (r_6, m_5)) else (some ((-1000000005), m_5)))))
set_option maxHeartbeats 4000000 in
set_option maxRecDepth 100000 in
theorem w_X9_why {X : TX} {p : Program} {l : Launch} {e : Env} {s : State} {mi : MethodId} {args : Array Value} {below : List Frame} {meth : Method} {c : Code} {Q : State → Prop} {r : Int32} {mE : Mem} (C : Cx X p s mi args c RX9 cX9_why 3) (hq : RetI X p l e (rmD 1) s mi args below meth c cX9_why .int Q r mE) {fu : Nat} {x1 : Int32} {m : Mem} {H : Heap} {locs : List Loc} {ls : Array Slot} (h : f_X9_why fu x1 m = some (r, mE))  (hW : Wd X s m H locs) (hl : lv_has ls 3 [(0, .ref (ad X 20 0)), (1, .int x1)]) : W p l e (rmD 1) s mi args below meth c H locs 0 0 Q (F0 mi 0 ls []) := by
  unfold f_X9_why at h
  refine lv_iload_n C.1 C.2.1 dX9_why_0 rfl (lv_at hl 1 rfl) ?_
  refine lv_iconst (v := 0) C.1 C.2.1 dX9_why_1 rfl ?_
  refine lv_iconst (v := 2) C.1 C.2.1 dX9_why_2 rfl ?_
  obtain ⟨r_3, m_2, hc_1, h⟩ := doI_E h
  refine zr_cSI C hW (c_X9_in (x0 := x1) (x1 := 0) (x2 := 2) hc_1 ) k_X9_in w_1117 ⟨Nat.le_of_ble_eq_true rfl, Nat.le_of_ble_eq_true rfl⟩ ⟨Nat.le_refl 0, Nat.le_refl 0⟩ rfl hl.1 rfl (Nat.le_of_ble_eq_true rfl) dX9_why_3 (fun H locs hW => ?_)
  refine lv_if_ne (tgt := 12) C.1 C.2.1 dX9_why_6 (by decide) (fun hc_8 => ?_) (fun hc_8 => ?_)
  · have h := ite_f hc_8 h
    refine lv_aload_n C.1 C.2.1 dX9_why_12 rfl (lv_at hl 0 rfl) ?_
    refine lv_iload_n C.1 C.2.1 dX9_why_13 rfl (lv_at hl 1 rfl) ?_
    obtain ⟨r_6, m_5, hc_4, h⟩ := doI_E h
    refine zr_cVI C hW (c_X9_counts (x1 := x1) hc_4 ) k_X9_counts (zr_recv C hW id_20 zco_20 rfl) w_1249 ⟨Nat.le_of_ble_eq_true rfl, Nat.le_of_ble_eq_true rfl⟩ ⟨Nat.le_refl 0, Nat.le_refl 0⟩ rfl hl.1 rfl (Nat.le_of_ble_eq_true rfl) dX9_why_14 (fun H locs hW => ?_)
    refine lv_istore_n (lv' := [(2, .int r_6), (0, .ref (ad X 20 0)), (1, .int x1)]) C.1 C.2.1 dX9_why_17 rfl hl (by decide) rfl (fun ls hl => ?_)
    refine lv_iload_n C.1 C.2.1 dX9_why_18 rfl (lv_at hl 0 rfl) ?_
    refine lv_if_ge (tgt := 27) C.1 C.2.1 dX9_why_19 (by decide) (fun hc_7 => ?_) (fun hc_7 => ?_)
    · have h := ite_t hc_7 h
      refine lv_iload_n C.1 C.2.1 dX9_why_27 rfl (lv_at hl 0 rfl) ?_
      exact ret_i h hq rfl hW dX9_why_28
    · have h := ite_f hc_7 h
      refine lv_ldc C.1 C.2.1 C.2.2.2.1 (C.2.2.2.2.1 _ w_1284) dX9_why_22 ?_
      refine lv_goto (tgt := 28) C.1 C.2.1 dX9_why_24 (by decide) ?_
      exact ret_i h hq rfl hW dX9_why_28
  · have h := ite_t hc_8 h
    refine lv_ldc C.1 C.2.1 C.2.2.2.1 (C.2.2.2.2.1 _ w_1123) dX9_why_9 ?_
    exact ret_i h hq rfl hW dX9_why_11
theorem c_X9_why {X : TX} {l : Launch} {fu : Nat} {x1 : Int32} {m mE : Mem} {r : Int32} (h : f_X9_why fu x1 m = some (r, mE))  : MetI X l yX9_why cX9_why 3 .int 1 [.ref (ad X 20 0), .int x1] m r mE :=
  met_I (by decide) (Nat.le_of_ble_eq_true rfl) (fun p e s mi args below meth c ls Q C hq hW hl => w_X9_why C hq h  hW (lv_sub hl [0, 1] rfl))
theorem k_X9_why : CalV yX9_why cX9_why 3 (some .int) RX9 1 := ⟨w_1392, w_1393, w_70, w_1394, by decide +kernel⟩
theorem dX9_isSlot_0 : decode cX9_isSlot 0 = .ok (.iload_n 0, 1) := by decide +kernel
theorem dX9_isSlot_1 : decode cX9_isSlot 1 = .ok (.iconst 0, 1) := by decide +kernel
theorem dX9_isSlot_2 : decode cX9_isSlot 2 = .ok (.iconst 4, 1) := by decide +kernel
theorem dX9_isSlot_3 : decode cX9_isSlot 3 = .ok (.invokestatic 79, 3) := by decide +kernel
theorem dX9_isSlot_6 : decode cX9_isSlot 6 = .ok (.ireturn, 1) := by decide +kernel
def f_X9_isSlot (fu : Nat)  (x0 : Int32) (m : Mem) : Option (Int32 × Mem) := doI (f_X9_in fu x0 0 4 m) (fun r_3 m_2 => chk (isB r_3) (some (r_3, m_2)))
set_option maxHeartbeats 4000000 in
set_option maxRecDepth 100000 in
theorem w_X9_isSlot {X : TX} {p : Program} {l : Launch} {e : Env} {s : State} {mi : MethodId} {args : Array Value} {below : List Frame} {meth : Method} {c : Code} {Q : State → Prop} {r : Int32} {mE : Mem} (C : Cx X p s mi args c RX9 cX9_isSlot 1) (hq : RetI X p l e (rmD 1) s mi args below meth c cX9_isSlot .boolean Q r mE) {fu : Nat} {x0 : Int32} {m : Mem} {H : Heap} {locs : List Loc} {ls : Array Slot} (h : f_X9_isSlot fu x0 m = some (r, mE))  (hW : Wd X s m H locs) (hl : lv_has ls 1 [(0, .int x0)]) : W p l e (rmD 1) s mi args below meth c H locs 0 0 Q (F0 mi 0 ls []) := by
  unfold f_X9_isSlot at h
  refine lv_iload_n C.1 C.2.1 dX9_isSlot_0 rfl (lv_at hl 0 rfl) ?_
  refine lv_iconst (v := 0) C.1 C.2.1 dX9_isSlot_1 rfl ?_
  refine lv_iconst (v := 4) C.1 C.2.1 dX9_isSlot_2 rfl ?_
  obtain ⟨r_3, m_2, hc_1, h⟩ := doI_E h
  refine zr_cSI C hW (c_X9_in (x0 := x0) (x1 := 0) (x2 := 4) hc_1 ) k_X9_in w_1117 ⟨Nat.le_of_ble_eq_true rfl, Nat.le_of_ble_eq_true rfl⟩ ⟨Nat.le_refl 0, Nat.le_refl 0⟩ rfl hl.1 rfl (Nat.le_of_ble_eq_true rfl) dX9_isSlot_3 (fun H locs hW => ?_)
  obtain ⟨hb_4, h⟩ := chk_E h
  exact ret_i h hq (nar_B (isB_E hb_4)) hW dX9_isSlot_6
theorem c_X9_isSlot {X : TX} {l : Launch} {fu : Nat} {x0 : Int32} {m mE : Mem} {r : Int32} (h : f_X9_isSlot fu x0 m = some (r, mE))  : MetI X l yX9_isSlot cX9_isSlot 1 .boolean 1 [.int x0] m r mE :=
  met_I (by decide) (Nat.le_of_ble_eq_true rfl) (fun p e s mi args below meth c ls Q C hq hW hl => w_X9_isSlot C hq h  hW (lv_sub hl [0] rfl))
theorem k_X9_isSlot : CalS yX9_isSlot cX9_isSlot 1 (some .boolean) 1 := ⟨w_1424, w_70, w_1425, by decide +kernel⟩
theorem dX9_sheet_0 : decode cX9_sheet 0 = .ok (.iload_n 1, 1) := by decide +kernel
theorem dX9_sheet_1 : decode cX9_sheet 1 = .ok (.invokestatic 188, 3) := by decide +kernel
theorem dX9_sheet_4 : decode cX9_sheet 4 = .ok (.ifCond .eq 22, 3) := by decide +kernel
theorem dX9_sheet_7 : decode cX9_sheet 7 = .ok (.iload_n 2, 1) := by decide +kernel
theorem dX9_sheet_8 : decode cX9_sheet 8 = .ok (.iconst (-1), 1) := by decide +kernel
theorem dX9_sheet_9 : decode cX9_sheet 9 = .ok (.iconst 1, 1) := by decide +kernel
theorem dX9_sheet_10 : decode cX9_sheet 10 = .ok (.invokestatic 79, 3) := by decide +kernel
theorem dX9_sheet_13 : decode cX9_sheet 13 = .ok (.ifCond .eq 13, 3) := by decide +kernel
theorem dX9_sheet_16 : decode cX9_sheet 16 = .ok (.iload_n 2, 1) := by decide +kernel
theorem dX9_sheet_17 : decode cX9_sheet 17 = .ok (.ifCond .lt 12, 3) := by decide +kernel
theorem dX9_sheet_20 : decode cX9_sheet 20 = .ok (.iload_n 3, 1) := by decide +kernel
theorem dX9_sheet_21 : decode cX9_sheet 21 = .ok (.bipush 24, 2) := by decide +kernel
theorem dX9_sheet_23 : decode cX9_sheet 23 = .ok (.if_icmp .le 6, 3) := by decide +kernel
theorem dX9_sheet_26 : decode cX9_sheet 26 = .ok (.ldc 91, 2) := by decide +kernel
theorem dX9_sheet_28 : decode cX9_sheet 28 = .ok (.ireturn, 1) := by decide +kernel
theorem dX9_sheet_29 : decode cX9_sheet 29 = .ok (.iload_n 2, 1) := by decide +kernel
theorem dX9_sheet_30 : decode cX9_sheet 30 = .ok (.ifCond .lt 11, 3) := by decide +kernel
theorem dX9_sheet_33 : decode cX9_sheet 33 = .ok (.iload_n 3, 1) := by decide +kernel
theorem dX9_sheet_34 : decode cX9_sheet 34 = .ok (.ifCond .ge 7, 3) := by decide +kernel
theorem dX9_sheet_37 : decode cX9_sheet 37 = .ok (.ldc_w 259, 3) := by decide +kernel
theorem dX9_sheet_40 : decode cX9_sheet 40 = .ok (.ireturn, 1) := by decide +kernel
theorem dX9_sheet_41 : decode cX9_sheet 41 = .ok (.aload_n 0, 1) := by decide +kernel
theorem dX9_sheet_42 : decode cX9_sheet 42 = .ok (.getfield 52, 3) := by decide +kernel
theorem dX9_sheet_45 : decode cX9_sheet 45 = .ok (.iload_n 1, 1) := by decide +kernel
theorem dX9_sheet_46 : decode cX9_sheet 46 = .ok (.iload_n 2, 1) := by decide +kernel
theorem dX9_sheet_47 : decode cX9_sheet 47 = .ok (.iastore, 1) := by decide +kernel
theorem dX9_sheet_48 : decode cX9_sheet 48 = .ok (.aload_n 0, 1) := by decide +kernel
theorem dX9_sheet_49 : decode cX9_sheet 49 = .ok (.getfield 55, 3) := by decide +kernel
theorem dX9_sheet_52 : decode cX9_sheet 52 = .ok (.iload_n 1, 1) := by decide +kernel
theorem dX9_sheet_53 : decode cX9_sheet 53 = .ok (.iload_n 2, 1) := by decide +kernel
theorem dX9_sheet_54 : decode cX9_sheet 54 = .ok (.ifCond .ge 7, 3) := by decide +kernel
theorem dX9_sheet_57 : decode cX9_sheet 57 = .ok (.iconst 0, 1) := by decide +kernel
theorem dX9_sheet_58 : decode cX9_sheet 58 = .ok (.goto 4, 3) := by decide +kernel
theorem dX9_sheet_61 : decode cX9_sheet 61 = .ok (.iload_n 3, 1) := by decide +kernel
theorem dX9_sheet_62 : decode cX9_sheet 62 = .ok (.iastore, 1) := by decide +kernel
theorem dX9_sheet_63 : decode cX9_sheet 63 = .ok (.iconst 0, 1) := by decide +kernel
theorem dX9_sheet_64 : decode cX9_sheet 64 = .ok (.istore 4, 2) := by decide +kernel
theorem dX9_sheet_66 : decode cX9_sheet 66 = .ok (.iload 4, 2) := by decide +kernel
theorem dX9_sheet_68 : decode cX9_sheet 68 = .ok (.bipush 24, 2) := by decide +kernel
theorem dX9_sheet_70 : decode cX9_sheet 70 = .ok (.if_icmp .ge 22, 3) := by decide +kernel
theorem dX9_sheet_73 : decode cX9_sheet 73 = .ok (.aload_n 0, 1) := by decide +kernel
theorem dX9_sheet_74 : decode cX9_sheet 74 = .ok (.getfield 58, 3) := by decide +kernel
theorem dX9_sheet_77 : decode cX9_sheet 77 = .ok (.bipush 24, 2) := by decide +kernel
theorem dX9_sheet_79 : decode cX9_sheet 79 = .ok (.iload_n 1, 1) := by decide +kernel
theorem dX9_sheet_80 : decode cX9_sheet 80 = .ok (.imul, 1) := by decide +kernel
theorem dX9_sheet_81 : decode cX9_sheet 81 = .ok (.iload 4, 2) := by decide +kernel
theorem dX9_sheet_83 : decode cX9_sheet 83 = .ok (.iadd, 1) := by decide +kernel
theorem dX9_sheet_84 : decode cX9_sheet 84 = .ok (.iconst 0, 1) := by decide +kernel
theorem dX9_sheet_85 : decode cX9_sheet 85 = .ok (.iastore, 1) := by decide +kernel
theorem dX9_sheet_86 : decode cX9_sheet 86 = .ok (.iinc 4 1, 3) := by decide +kernel
theorem dX9_sheet_89 : decode cX9_sheet 89 = .ok (.goto (-23), 3) := by decide +kernel
theorem dX9_sheet_92 : decode cX9_sheet 92 = .ok (.aload_n 0, 1) := by decide +kernel
theorem dX9_sheet_93 : decode cX9_sheet 93 = .ok (.getfield 55, 3) := by decide +kernel
theorem dX9_sheet_96 : decode cX9_sheet 96 = .ok (.iload_n 1, 1) := by decide +kernel
theorem dX9_sheet_97 : decode cX9_sheet 97 = .ok (.iaload, 1) := by decide +kernel
theorem dX9_sheet_98 : decode cX9_sheet 98 = .ok (.ireturn, 1) := by decide +kernel
def f_X9_sheet_66 (fu : Nat)  : Nat → Int32 → Int32 → Mem → Option (Int32 × Mem)
  | 0, _, _, _ => none
  | n + 1, x1, x4, m => if 24 ≤ x4 then (chk (inb x1 4) (some ((m (3820 + x1.toNatClampNeg)), m))) else (chk (inb ((24 * x1) + x4) 96) (seqM (upd m (3830 + ((24 * x1) + x4).toNatClampNeg) 0) (fun m_3 : Mem => seqM (x4 + 1) (fun x_5 : Int32 => f_X9_sheet_66 fu n x1 x_5 m_3))))
set_option maxHeartbeats 4000000 in
set_option maxRecDepth 100000 in
theorem w_X9_sheet_66 {X : TX} {p : Program} {l : Launch} {e : Env} {s : State} {mi : MethodId} {args : Array Value} {below : List Frame} {meth : Method} {c : Code} {Q : State → Prop} {r : Int32} {mE : Mem} (C : Cx X p s mi args c RX9 cX9_sheet 5) (hq : RetI X p l e (rmD 2) s mi args below meth c cX9_sheet .int Q r mE) {fu : Nat} : ∀ (n : Nat) {x1 : Int32} {x4 : Int32} {m : Mem} {H : Heap} {locs : List Loc} {ls : Array Slot}, f_X9_sheet_66 fu n x1 x4 m = some (r, mE) → Wd X s m H locs → lv_has ls 5 [(0, .ref (ad X 20 0)), (1, .int x1), (4, .int x4)] → W p l e (rmD 2) s mi args below meth c H locs 0 0 Q (F0 mi 66 ls []) := by
  intro n
  induction n with
  | zero =>
    intro x1 x4 m H locs ls h hW hl
    rw [f_X9_sheet_66] at h
    cases h
  | succ n ih =>
    intro x1 x4 m H locs ls h hW hl
    rw [f_X9_sheet_66] at h
    refine lv_iload C.1 C.2.1 dX9_sheet_66 (lv_at hl 2 rfl) ?_
    refine lv_bipush (v := 24) C.1 C.2.1 dX9_sheet_68 rfl ?_
    refine lv_icmp_ge (tgt := 92) C.1 C.2.1 dX9_sheet_70 (by decide) (fun hc_7 => ?_) (fun hc_7 => ?_)
    · have h := ite_t hc_7 h
      refine lv_aload_n C.1 C.2.1 dX9_sheet_92 rfl (lv_at hl 0 rfl) ?_
      refine zg_X9_sizes C hW id_20 w_1030 dX9_sheet_93 ?_
      refine lv_iload_n C.1 C.2.1 dX9_sheet_96 rfl (lv_at hl 1 rfl) ?_
      obtain ⟨hb_1, h⟩ := chk_E h
      refine zal_33 C hW id_33 (inb_E hb_1) dX9_sheet_97 ?_
      exact ret_i h hq rfl hW dX9_sheet_98
    · have h := ite_f hc_7 h
      refine lv_aload_n C.1 C.2.1 dX9_sheet_73 rfl (lv_at hl 0 rfl) ?_
      refine zg_X9_cells C hW id_20 w_1031 dX9_sheet_74 ?_
      refine lv_bipush (v := 24) C.1 C.2.1 dX9_sheet_77 rfl ?_
      refine lv_iload_n C.1 C.2.1 dX9_sheet_79 rfl (lv_at hl 1 rfl) ?_
      refine lv_imul C.1 C.2.1 dX9_sheet_80 ?_
      refine lv_iload C.1 C.2.1 dX9_sheet_81 (lv_at hl 2 rfl) ?_
      refine lv_iadd C.1 C.2.1 dX9_sheet_83 ?_
      refine lv_iconst (v := 0) C.1 C.2.1 dX9_sheet_84 rfl ?_
      obtain ⟨hb_2, h⟩ := chk_E h
      obtain ⟨m_3, e_4, h⟩ := seqM_E h
      refine zas_34 C hW id_34 (inb_E hb_2) e_4 dX9_sheet_85 (fun H locs hW => ?_)
      obtain ⟨x_5, e_6, h⟩ := seqM_E h
      refine lv_iinc (v := x_5) (lv' := [(4, .int x_5), (0, .ref (ad X 20 0)), (1, .int x1)]) C.1 C.2.1 dX9_sheet_86 hl (k := 2) rfl (by rw [e_6]; rfl) (by decide) rfl (fun ls hl => ?_)
      refine lv_goto (tgt := 66) C.1 C.2.1 dX9_sheet_89 (by decide) ?_
      exact ih h  hW (lv_sub hl [1, 2, 0] rfl)
def f_X9_sheet_62 (fu : Nat)  (x1 : Int32) (y1 : Int32) (y2 : Int32) (m : Mem) : Option (Int32 × Mem) := chk (inb y1 4) (seqM (upd m (3820 + y1.toNatClampNeg) y2) (fun m_2 : Mem => f_X9_sheet_66 fu fu x1 0 m_2))
set_option maxHeartbeats 4000000 in
set_option maxRecDepth 100000 in
theorem w_X9_sheet_62 {X : TX} {p : Program} {l : Launch} {e : Env} {s : State} {mi : MethodId} {args : Array Value} {below : List Frame} {meth : Method} {c : Code} {Q : State → Prop} {r : Int32} {mE : Mem} (C : Cx X p s mi args c RX9 cX9_sheet 5) (hq : RetI X p l e (rmD 2) s mi args below meth c cX9_sheet .int Q r mE) {fu : Nat} {x1 : Int32} {y1 : Int32} {y2 : Int32} {m : Mem} {H : Heap} {locs : List Loc} {ls : Array Slot} (h : f_X9_sheet_62 fu x1 y1 y2 m = some (r, mE))  (hW : Wd X s m H locs) (hl : lv_has ls 5 [(0, .ref (ad X 20 0)), (1, .int x1)]) : W p l e (rmD 2) s mi args below meth c H locs 0 0 Q (F0 mi 62 ls [.int y2, .int y1, .ref (ad X 33 0)]) := by
  unfold f_X9_sheet_62 at h
  obtain ⟨hb_1, h⟩ := chk_E h
  obtain ⟨m_2, e_3, h⟩ := seqM_E h
  refine zas_33 C hW id_33 (inb_E hb_1) e_3 dX9_sheet_62 (fun H locs hW => ?_)
  refine lv_iconst (v := 0) C.1 C.2.1 dX9_sheet_63 rfl ?_
  refine lv_istore (lv' := [(4, .int 0), (0, .ref (ad X 20 0)), (1, .int x1)]) C.1 C.2.1 dX9_sheet_64 hl (by decide) rfl (fun ls hl => ?_)
  exact w_X9_sheet_66 C hq  fu h  hW (lv_sub hl [1, 2, 0] rfl)
def f_X9_sheet_41 (fu : Nat)  (x1 : Int32) (x2 : Int32) (x3 : Int32) (m : Mem) : Option (Int32 × Mem) := chk (inb x1 4) (seqM (upd m (3810 + x1.toNatClampNeg) x2) (fun m_2 : Mem => if 0 ≤ x2 then (f_X9_sheet_62 fu x1 x1 x3 m_2) else (f_X9_sheet_62 fu x1 x1 0 m_2)))
set_option maxHeartbeats 4000000 in
set_option maxRecDepth 100000 in
theorem w_X9_sheet_41 {X : TX} {p : Program} {l : Launch} {e : Env} {s : State} {mi : MethodId} {args : Array Value} {below : List Frame} {meth : Method} {c : Code} {Q : State → Prop} {r : Int32} {mE : Mem} (C : Cx X p s mi args c RX9 cX9_sheet 5) (hq : RetI X p l e (rmD 2) s mi args below meth c cX9_sheet .int Q r mE) {fu : Nat} {x1 : Int32} {x2 : Int32} {x3 : Int32} {m : Mem} {H : Heap} {locs : List Loc} {ls : Array Slot} (h : f_X9_sheet_41 fu x1 x2 x3 m = some (r, mE))  (hW : Wd X s m H locs) (hl : lv_has ls 5 [(0, .ref (ad X 20 0)), (1, .int x1), (2, .int x2), (3, .int x3)]) : W p l e (rmD 2) s mi args below meth c H locs 0 0 Q (F0 mi 41 ls []) := by
  unfold f_X9_sheet_41 at h
  refine lv_aload_n C.1 C.2.1 dX9_sheet_41 rfl (lv_at hl 0 rfl) ?_
  refine zg_X9_sorts C hW id_20 w_1029 dX9_sheet_42 ?_
  refine lv_iload_n C.1 C.2.1 dX9_sheet_45 rfl (lv_at hl 1 rfl) ?_
  refine lv_iload_n C.1 C.2.1 dX9_sheet_46 rfl (lv_at hl 2 rfl) ?_
  obtain ⟨hb_1, h⟩ := chk_E h
  obtain ⟨m_2, e_3, h⟩ := seqM_E h
  refine zas_32 C hW id_32 (inb_E hb_1) e_3 dX9_sheet_47 (fun H locs hW => ?_)
  refine lv_aload_n C.1 C.2.1 dX9_sheet_48 rfl (lv_at hl 0 rfl) ?_
  refine zg_X9_sizes C hW id_20 w_1030 dX9_sheet_49 ?_
  refine lv_iload_n C.1 C.2.1 dX9_sheet_52 rfl (lv_at hl 1 rfl) ?_
  refine lv_iload_n C.1 C.2.1 dX9_sheet_53 rfl (lv_at hl 2 rfl) ?_
  refine lv_if_ge (tgt := 61) C.1 C.2.1 dX9_sheet_54 (by decide) (fun hc_4 => ?_) (fun hc_4 => ?_)
  · have h := ite_t hc_4 h
    refine lv_iload_n C.1 C.2.1 dX9_sheet_61 rfl (lv_at hl 3 rfl) ?_
    exact w_X9_sheet_62 C hq  h  hW (lv_sub hl [0, 1] rfl)
  · have h := ite_f hc_4 h
    refine lv_iconst (v := 0) C.1 C.2.1 dX9_sheet_57 rfl ?_
    refine lv_goto (tgt := 62) C.1 C.2.1 dX9_sheet_58 (by decide) ?_
    exact w_X9_sheet_62 C hq  h  hW (lv_sub hl [0, 1] rfl)
def f_X9_sheet_29 (fu : Nat)  (x1 : Int32) (x2 : Int32) (x3 : Int32) (m : Mem) : Option (Int32 × Mem) := if x2 < 0 then (f_X9_sheet_41 fu x1 x2 x3 m) else (if 0 ≤ x3 then (f_X9_sheet_41 fu x1 x2 x3 m) else (some ((-1000000014), m)))
set_option maxHeartbeats 4000000 in
set_option maxRecDepth 100000 in
theorem w_X9_sheet_29 {X : TX} {p : Program} {l : Launch} {e : Env} {s : State} {mi : MethodId} {args : Array Value} {below : List Frame} {meth : Method} {c : Code} {Q : State → Prop} {r : Int32} {mE : Mem} (C : Cx X p s mi args c RX9 cX9_sheet 5) (hq : RetI X p l e (rmD 2) s mi args below meth c cX9_sheet .int Q r mE) {fu : Nat} {x1 : Int32} {x2 : Int32} {x3 : Int32} {m : Mem} {H : Heap} {locs : List Loc} {ls : Array Slot} (h : f_X9_sheet_29 fu x1 x2 x3 m = some (r, mE))  (hW : Wd X s m H locs) (hl : lv_has ls 5 [(0, .ref (ad X 20 0)), (1, .int x1), (2, .int x2), (3, .int x3)]) : W p l e (rmD 2) s mi args below meth c H locs 0 0 Q (F0 mi 29 ls []) := by
  unfold f_X9_sheet_29 at h
  refine lv_iload_n C.1 C.2.1 dX9_sheet_29 rfl (lv_at hl 2 rfl) ?_
  refine lv_if_lt (tgt := 41) C.1 C.2.1 dX9_sheet_30 (by decide) (fun hc_2 => ?_) (fun hc_2 => ?_)
  · have h := ite_t hc_2 h
    exact w_X9_sheet_41 C hq  h  hW (lv_sub hl [0, 1, 2, 3] rfl)
  · have h := ite_f hc_2 h
    refine lv_iload_n C.1 C.2.1 dX9_sheet_33 rfl (lv_at hl 3 rfl) ?_
    refine lv_if_ge (tgt := 41) C.1 C.2.1 dX9_sheet_34 (by decide) (fun hc_1 => ?_) (fun hc_1 => ?_)
    · have h := ite_t hc_1 h
      exact w_X9_sheet_41 C hq  h  hW (lv_sub hl [0, 1, 2, 3] rfl)
    · have h := ite_f hc_1 h
      refine lv_ldcw C.1 C.2.1 C.2.2.2.1 (C.2.2.2.2.1 _ w_1399) dX9_sheet_37 ?_
      exact ret_i h hq rfl hW dX9_sheet_40
def f_X9_sheet (fu : Nat)  (x1 : Int32) (x2 : Int32) (x3 : Int32) (m : Mem) : Option (Int32 × Mem) := doI (f_X9_isSheet fu x1 m) (fun r_3 m_2 => if r_3 = 0 then (some ((-1000000001), m_2)) else (doI (f_X9_in fu x2 (-1) 1 m_2) (fun r_6 m_5 => if r_6 = 0 then (some ((-1000000001), m_5)) else (if x2 < 0 then (f_X9_sheet_29 fu x1 x2 x3 m_5) else (if x3 ≤ 24 then (f_X9_sheet_29 fu x1 x2 x3 m_5) else (some ((-1000000001), m_5)))))))
set_option maxHeartbeats 4000000 in
set_option maxRecDepth 100000 in
theorem w_X9_sheet {X : TX} {p : Program} {l : Launch} {e : Env} {s : State} {mi : MethodId} {args : Array Value} {below : List Frame} {meth : Method} {c : Code} {Q : State → Prop} {r : Int32} {mE : Mem} (C : Cx X p s mi args c RX9 cX9_sheet 5) (hq : RetI X p l e (rmD 2) s mi args below meth c cX9_sheet .int Q r mE) {fu : Nat} {x1 : Int32} {x2 : Int32} {x3 : Int32} {m : Mem} {H : Heap} {locs : List Loc} {ls : Array Slot} (h : f_X9_sheet fu x1 x2 x3 m = some (r, mE))  (hW : Wd X s m H locs) (hl : lv_has ls 5 [(0, .ref (ad X 20 0)), (1, .int x1), (2, .int x2), (3, .int x3)]) : W p l e (rmD 2) s mi args below meth c H locs 0 0 Q (F0 mi 0 ls []) := by
  unfold f_X9_sheet at h
  refine lv_iload_n C.1 C.2.1 dX9_sheet_0 rfl (lv_at hl 1 rfl) ?_
  obtain ⟨r_3, m_2, hc_1, h⟩ := doI_E h
  refine zr_cSI C hW (c_X9_isSheet (x0 := x1) hc_1 ) k_X9_isSheet w_1320 ⟨Nat.le_of_ble_eq_true rfl, Nat.le_of_ble_eq_true rfl⟩ ⟨Nat.le_refl 0, Nat.le_refl 0⟩ rfl hl.1 rfl (Nat.le_of_ble_eq_true rfl) dX9_sheet_1 (fun H locs hW => ?_)
  refine lv_if_eq (tgt := 26) C.1 C.2.1 dX9_sheet_4 (by decide) (fun hc_10 => ?_) (fun hc_10 => ?_)
  · have h := ite_t hc_10 h
    refine lv_ldc C.1 C.2.1 C.2.2.2.1 (C.2.2.2.2.1 _ w_1123) dX9_sheet_26 ?_
    exact ret_i h hq rfl hW dX9_sheet_28
  · have h := ite_f hc_10 h
    refine lv_iload_n C.1 C.2.1 dX9_sheet_7 rfl (lv_at hl 2 rfl) ?_
    refine lv_iconst (v := (-1)) C.1 C.2.1 dX9_sheet_8 rfl ?_
    refine lv_iconst (v := 1) C.1 C.2.1 dX9_sheet_9 rfl ?_
    obtain ⟨r_6, m_5, hc_4, h⟩ := doI_E h
    refine zr_cSI C hW (c_X9_in (x0 := x2) (x1 := (-1)) (x2 := 1) hc_4 ) k_X9_in w_1117 ⟨Nat.le_of_ble_eq_true rfl, Nat.le_of_ble_eq_true rfl⟩ ⟨Nat.le_refl 0, Nat.le_refl 0⟩ rfl hl.1 rfl (Nat.le_of_ble_eq_true rfl) dX9_sheet_10 (fun H locs hW => ?_)
    refine lv_if_eq (tgt := 26) C.1 C.2.1 dX9_sheet_13 (by decide) (fun hc_9 => ?_) (fun hc_9 => ?_)
    · have h := ite_t hc_9 h
      refine lv_ldc C.1 C.2.1 C.2.2.2.1 (C.2.2.2.2.1 _ w_1123) dX9_sheet_26 ?_
      exact ret_i h hq rfl hW dX9_sheet_28
    · have h := ite_f hc_9 h
      refine lv_iload_n C.1 C.2.1 dX9_sheet_16 rfl (lv_at hl 2 rfl) ?_
      refine lv_if_lt (tgt := 29) C.1 C.2.1 dX9_sheet_17 (by decide) (fun hc_8 => ?_) (fun hc_8 => ?_)
      · have h := ite_t hc_8 h
        exact w_X9_sheet_29 C hq  h  hW (lv_sub hl [0, 1, 2, 3] rfl)
      · have h := ite_f hc_8 h
        refine lv_iload_n C.1 C.2.1 dX9_sheet_20 rfl (lv_at hl 3 rfl) ?_
        refine lv_bipush (v := 24) C.1 C.2.1 dX9_sheet_21 rfl ?_
        refine lv_icmp_le (tgt := 29) C.1 C.2.1 dX9_sheet_23 (by decide) (fun hc_7 => ?_) (fun hc_7 => ?_)
        · have h := ite_t hc_7 h
          exact w_X9_sheet_29 C hq  h  hW (lv_sub hl [0, 1, 2, 3] rfl)
        · have h := ite_f hc_7 h
          refine lv_ldc C.1 C.2.1 C.2.2.2.1 (C.2.2.2.2.1 _ w_1123) dX9_sheet_26 ?_
          exact ret_i h hq rfl hW dX9_sheet_28
theorem c_X9_sheet {X : TX} {l : Launch} {fu : Nat} {x1 : Int32} {x2 : Int32} {x3 : Int32} {m mE : Mem} {r : Int32} (h : f_X9_sheet fu x1 x2 x3 m = some (r, mE))  : MetI X l yX9_sheet cX9_sheet 5 .int 2 [.ref (ad X 20 0), .int x1, .int x2, .int x3] m r mE :=
  met_I (by decide) (Nat.le_of_ble_eq_true rfl) (fun p e s mi args below meth c ls Q C hq hW hl => w_X9_sheet C hq h  hW (lv_sub hl [0, 1, 2, 3] rfl))
theorem k_X9_sheet : CalV yX9_sheet cX9_sheet 5 (some .int) RX9 3 := ⟨w_1396, w_1397, w_70, w_1398, by decide +kernel⟩
theorem dX9_mark_0 : decode cX9_mark 0 = .ok (.iload_n 1, 1) := by decide +kernel
theorem dX9_mark_1 : decode cX9_mark 1 = .ok (.invokestatic 188, 3) := by decide +kernel
theorem dX9_mark_4 : decode cX9_mark 4 = .ok (.ifCond .ne 6, 3) := by decide +kernel
theorem dX9_mark_7 : decode cX9_mark 7 = .ok (.ldc 91, 2) := by decide +kernel
theorem dX9_mark_9 : decode cX9_mark 9 = .ok (.ireturn, 1) := by decide +kernel
theorem dX9_mark_10 : decode cX9_mark 10 = .ok (.aload_n 0, 1) := by decide +kernel
theorem dX9_mark_11 : decode cX9_mark 11 = .ok (.getfield 52, 3) := by decide +kernel
theorem dX9_mark_14 : decode cX9_mark 14 = .ok (.iload_n 1, 1) := by decide +kernel
theorem dX9_mark_15 : decode cX9_mark 15 = .ok (.iaload, 1) := by decide +kernel
theorem dX9_mark_16 : decode cX9_mark 16 = .ok (.ifCond .ge 6, 3) := by decide +kernel
theorem dX9_mark_19 : decode cX9_mark 19 = .ok (.ldc 191, 2) := by decide +kernel
theorem dX9_mark_21 : decode cX9_mark 21 = .ok (.ireturn, 1) := by decide +kernel
theorem dX9_mark_22 : decode cX9_mark 22 = .ok (.iload_n 2, 1) := by decide +kernel
theorem dX9_mark_23 : decode cX9_mark 23 = .ok (.iconst 0, 1) := by decide +kernel
theorem dX9_mark_24 : decode cX9_mark 24 = .ok (.aload_n 0, 1) := by decide +kernel
theorem dX9_mark_25 : decode cX9_mark 25 = .ok (.getfield 55, 3) := by decide +kernel
theorem dX9_mark_28 : decode cX9_mark 28 = .ok (.iload_n 1, 1) := by decide +kernel
theorem dX9_mark_29 : decode cX9_mark 29 = .ok (.iaload, 1) := by decide +kernel
theorem dX9_mark_30 : decode cX9_mark 30 = .ok (.iconst 1, 1) := by decide +kernel
theorem dX9_mark_31 : decode cX9_mark 31 = .ok (.isub, 1) := by decide +kernel
theorem dX9_mark_32 : decode cX9_mark 32 = .ok (.invokestatic 79, 3) := by decide +kernel
theorem dX9_mark_35 : decode cX9_mark 35 = .ok (.ifCond .ne 7, 3) := by decide +kernel
theorem dX9_mark_38 : decode cX9_mark 38 = .ok (.ldc_w 260, 3) := by decide +kernel
theorem dX9_mark_41 : decode cX9_mark 41 = .ok (.ireturn, 1) := by decide +kernel
theorem dX9_mark_42 : decode cX9_mark 42 = .ok (.aload_n 0, 1) := by decide +kernel
theorem dX9_mark_43 : decode cX9_mark 43 = .ok (.getfield 52, 3) := by decide +kernel
theorem dX9_mark_46 : decode cX9_mark 46 = .ok (.iload_n 1, 1) := by decide +kernel
theorem dX9_mark_47 : decode cX9_mark 47 = .ok (.iaload, 1) := by decide +kernel
theorem dX9_mark_48 : decode cX9_mark 48 = .ok (.ifCond .ne 12, 3) := by decide +kernel
theorem dX9_mark_51 : decode cX9_mark 51 = .ok (.iload_n 3, 1) := by decide +kernel
theorem dX9_mark_52 : decode cX9_mark 52 = .ok (.ldc 180, 2) := by decide +kernel
theorem dX9_mark_54 : decode cX9_mark 54 = .ok (.if_icmp .ne 6, 3) := by decide +kernel
theorem dX9_mark_57 : decode cX9_mark 57 = .ok (.ldc 121, 2) := by decide +kernel
theorem dX9_mark_59 : decode cX9_mark 59 = .ok (.ireturn, 1) := by decide +kernel
theorem dX9_mark_60 : decode cX9_mark 60 = .ok (.aload_n 0, 1) := by decide +kernel
theorem dX9_mark_61 : decode cX9_mark 61 = .ok (.getfield 52, 3) := by decide +kernel
theorem dX9_mark_64 : decode cX9_mark 64 = .ok (.iload_n 1, 1) := by decide +kernel
theorem dX9_mark_65 : decode cX9_mark 65 = .ok (.iaload, 1) := by decide +kernel
theorem dX9_mark_66 : decode cX9_mark 66 = .ok (.iconst 1, 1) := by decide +kernel
theorem dX9_mark_67 : decode cX9_mark 67 = .ok (.if_icmp .ne 25, 3) := by decide +kernel
theorem dX9_mark_70 : decode cX9_mark 70 = .ok (.iload_n 3, 1) := by decide +kernel
theorem dX9_mark_71 : decode cX9_mark 71 = .ok (.ldc 180, 2) := by decide +kernel
theorem dX9_mark_73 : decode cX9_mark 73 = .ok (.if_icmp .eq 19, 3) := by decide +kernel
theorem dX9_mark_76 : decode cX9_mark 76 = .ok (.iload_n 3, 1) := by decide +kernel
theorem dX9_mark_77 : decode cX9_mark 77 = .ok (.ldc_w 261, 3) := by decide +kernel
theorem dX9_mark_80 : decode cX9_mark 80 = .ok (.ldc_w 262, 3) := by decide +kernel
theorem dX9_mark_83 : decode cX9_mark 83 = .ok (.invokestatic 79, 3) := by decide +kernel
theorem dX9_mark_86 : decode cX9_mark 86 = .ok (.ifCond .ne 6, 3) := by decide +kernel
theorem dX9_mark_89 : decode cX9_mark 89 = .ok (.ldc 91, 2) := by decide +kernel
theorem dX9_mark_91 : decode cX9_mark 91 = .ok (.ireturn, 1) := by decide +kernel
theorem dX9_mark_92 : decode cX9_mark 92 = .ok (.aload_n 0, 1) := by decide +kernel
theorem dX9_mark_93 : decode cX9_mark 93 = .ok (.getfield 58, 3) := by decide +kernel
theorem dX9_mark_96 : decode cX9_mark 96 = .ok (.bipush 24, 2) := by decide +kernel
theorem dX9_mark_98 : decode cX9_mark 98 = .ok (.iload_n 1, 1) := by decide +kernel
theorem dX9_mark_99 : decode cX9_mark 99 = .ok (.imul, 1) := by decide +kernel
theorem dX9_mark_100 : decode cX9_mark 100 = .ok (.iload_n 2, 1) := by decide +kernel
theorem dX9_mark_101 : decode cX9_mark 101 = .ok (.iadd, 1) := by decide +kernel
theorem dX9_mark_102 : decode cX9_mark 102 = .ok (.aload_n 0, 1) := by decide +kernel
theorem dX9_mark_103 : decode cX9_mark 103 = .ok (.getfield 52, 3) := by decide +kernel
theorem dX9_mark_106 : decode cX9_mark 106 = .ok (.iload_n 1, 1) := by decide +kernel
theorem dX9_mark_107 : decode cX9_mark 107 = .ok (.iaload, 1) := by decide +kernel
theorem dX9_mark_108 : decode cX9_mark 108 = .ok (.ifCond .ne 8, 3) := by decide +kernel
theorem dX9_mark_111 : decode cX9_mark 111 = .ok (.iload_n 3, 1) := by decide +kernel
theorem dX9_mark_112 : decode cX9_mark 112 = .ok (.i2s, 1) := by decide +kernel
theorem dX9_mark_113 : decode cX9_mark 113 = .ok (.goto 4, 3) := by decide +kernel
theorem dX9_mark_116 : decode cX9_mark 116 = .ok (.iload_n 3, 1) := by decide +kernel
theorem dX9_mark_117 : decode cX9_mark 117 = .ok (.iastore, 1) := by decide +kernel
theorem dX9_mark_118 : decode cX9_mark 118 = .ok (.iconst 1, 1) := by decide +kernel
theorem dX9_mark_119 : decode cX9_mark 119 = .ok (.ireturn, 1) := by decide +kernel
def f_X9_mark_117 (fu : Nat)  (y1 : Int32) (y2 : Int32) (m : Mem) : Option (Int32 × Mem) := chk (inb y1 96) (seqM (upd m (3830 + y1.toNatClampNeg) y2) (fun m_2 : Mem => some (1, m_2)))
set_option maxHeartbeats 4000000 in
set_option maxRecDepth 100000 in
theorem w_X9_mark_117 {X : TX} {p : Program} {l : Launch} {e : Env} {s : State} {mi : MethodId} {args : Array Value} {below : List Frame} {meth : Method} {c : Code} {Q : State → Prop} {r : Int32} {mE : Mem} (C : Cx X p s mi args c RX9 cX9_mark 4) (hq : RetI X p l e (rmD 2) s mi args below meth c cX9_mark .int Q r mE) {fu : Nat} {y1 : Int32} {y2 : Int32} {m : Mem} {H : Heap} {locs : List Loc} {ls : Array Slot} (h : f_X9_mark_117 fu y1 y2 m = some (r, mE))  (hW : Wd X s m H locs) (hl : lv_has ls 4 []) : W p l e (rmD 2) s mi args below meth c H locs 0 0 Q (F0 mi 117 ls [.int y2, .int y1, .ref (ad X 34 0)]) := by
  unfold f_X9_mark_117 at h
  obtain ⟨hb_1, h⟩ := chk_E h
  obtain ⟨m_2, e_3, h⟩ := seqM_E h
  refine zas_34 C hW id_34 (inb_E hb_1) e_3 dX9_mark_117 (fun H locs hW => ?_)
  refine lv_iconst (v := 1) C.1 C.2.1 dX9_mark_118 rfl ?_
  exact ret_i h hq rfl hW dX9_mark_119
def f_X9_mark_92 (fu : Nat)  (x1 : Int32) (x2 : Int32) (x3 : Int32) (m : Mem) : Option (Int32 × Mem) := chk (inb x1 4) (if (m (3810 + x1.toNatClampNeg)) = 0 then (f_X9_mark_117 fu ((24 * x1) + x2) (x3.toInt16.toInt32) m) else (f_X9_mark_117 fu ((24 * x1) + x2) x3 m))
set_option maxHeartbeats 4000000 in
set_option maxRecDepth 100000 in
theorem w_X9_mark_92 {X : TX} {p : Program} {l : Launch} {e : Env} {s : State} {mi : MethodId} {args : Array Value} {below : List Frame} {meth : Method} {c : Code} {Q : State → Prop} {r : Int32} {mE : Mem} (C : Cx X p s mi args c RX9 cX9_mark 4) (hq : RetI X p l e (rmD 2) s mi args below meth c cX9_mark .int Q r mE) {fu : Nat} {x1 : Int32} {x2 : Int32} {x3 : Int32} {m : Mem} {H : Heap} {locs : List Loc} {ls : Array Slot} (h : f_X9_mark_92 fu x1 x2 x3 m = some (r, mE))  (hW : Wd X s m H locs) (hl : lv_has ls 4 [(0, .ref (ad X 20 0)), (1, .int x1), (2, .int x2), (3, .int x3)]) : W p l e (rmD 2) s mi args below meth c H locs 0 0 Q (F0 mi 92 ls []) := by
  unfold f_X9_mark_92 at h
  refine lv_aload_n C.1 C.2.1 dX9_mark_92 rfl (lv_at hl 0 rfl) ?_
  refine zg_X9_cells C hW id_20 w_1031 dX9_mark_93 ?_
  refine lv_bipush (v := 24) C.1 C.2.1 dX9_mark_96 rfl ?_
  refine lv_iload_n C.1 C.2.1 dX9_mark_98 rfl (lv_at hl 1 rfl) ?_
  refine lv_imul C.1 C.2.1 dX9_mark_99 ?_
  refine lv_iload_n C.1 C.2.1 dX9_mark_100 rfl (lv_at hl 2 rfl) ?_
  refine lv_iadd C.1 C.2.1 dX9_mark_101 ?_
  refine lv_aload_n C.1 C.2.1 dX9_mark_102 rfl (lv_at hl 0 rfl) ?_
  refine zg_X9_sorts C hW id_20 w_1029 dX9_mark_103 ?_
  refine lv_iload_n C.1 C.2.1 dX9_mark_106 rfl (lv_at hl 1 rfl) ?_
  obtain ⟨hb_1, h⟩ := chk_E h
  refine zal_32 C hW id_32 (inb_E hb_1) dX9_mark_107 ?_
  refine lv_if_ne (tgt := 116) C.1 C.2.1 dX9_mark_108 (by decide) (fun hc_2 => ?_) (fun hc_2 => ?_)
  · have h := ite_f hc_2 h
    refine lv_iload_n C.1 C.2.1 dX9_mark_116 rfl (lv_at hl 3 rfl) ?_
    exact w_X9_mark_117 C hq  h  hW (lv_sub hl [] rfl)
  · have h := ite_t hc_2 h
    refine lv_iload_n C.1 C.2.1 dX9_mark_111 rfl (lv_at hl 3 rfl) ?_
    refine lv_i2s (v := (x3.toInt16.toInt32)) C.1 C.2.1 dX9_mark_112 rfl ?_
    refine lv_goto (tgt := 117) C.1 C.2.1 dX9_mark_113 (by decide) ?_
    exact w_X9_mark_117 C hq  h  hW (lv_sub hl [] rfl)
def f_X9_mark_60 (fu : Nat)  (x1 : Int32) (x2 : Int32) (x3 : Int32) (m : Mem) : Option (Int32 × Mem) := chk (inb x1 4) (if (m (3810 + x1.toNatClampNeg)) = 1 then (if x3 = (-1000000005) then (f_X9_mark_92 fu x1 x2 x3 m) else (doI (f_X9_in fu x3 (-99999) 99999 m) (fun r_4 m_3 => if r_4 = 0 then (some ((-1000000001), m_3)) else (f_X9_mark_92 fu x1 x2 x3 m_3)))) else (f_X9_mark_92 fu x1 x2 x3 m))
set_option maxHeartbeats 4000000 in
set_option maxRecDepth 100000 in
theorem w_X9_mark_60 {X : TX} {p : Program} {l : Launch} {e : Env} {s : State} {mi : MethodId} {args : Array Value} {below : List Frame} {meth : Method} {c : Code} {Q : State → Prop} {r : Int32} {mE : Mem} (C : Cx X p s mi args c RX9 cX9_mark 4) (hq : RetI X p l e (rmD 2) s mi args below meth c cX9_mark .int Q r mE) {fu : Nat} {x1 : Int32} {x2 : Int32} {x3 : Int32} {m : Mem} {H : Heap} {locs : List Loc} {ls : Array Slot} (h : f_X9_mark_60 fu x1 x2 x3 m = some (r, mE))  (hW : Wd X s m H locs) (hl : lv_has ls 4 [(0, .ref (ad X 20 0)), (1, .int x1), (2, .int x2), (3, .int x3)]) : W p l e (rmD 2) s mi args below meth c H locs 0 0 Q (F0 mi 60 ls []) := by
  unfold f_X9_mark_60 at h
  refine lv_aload_n C.1 C.2.1 dX9_mark_60 rfl (lv_at hl 0 rfl) ?_
  refine zg_X9_sorts C hW id_20 w_1029 dX9_mark_61 ?_
  refine lv_iload_n C.1 C.2.1 dX9_mark_64 rfl (lv_at hl 1 rfl) ?_
  obtain ⟨hb_1, h⟩ := chk_E h
  refine zal_32 C hW id_32 (inb_E hb_1) dX9_mark_65 ?_
  refine lv_iconst (v := 1) C.1 C.2.1 dX9_mark_66 rfl ?_
  refine lv_icmp_ne (tgt := 92) C.1 C.2.1 dX9_mark_67 (by decide) (fun hc_7 => ?_) (fun hc_7 => ?_)
  · have h := ite_f hc_7 h
    exact w_X9_mark_92 C hq  h  hW (lv_sub hl [0, 1, 2, 3] rfl)
  · have h := ite_t hc_7 h
    refine lv_iload_n C.1 C.2.1 dX9_mark_70 rfl (lv_at hl 3 rfl) ?_
    refine lv_ldc C.1 C.2.1 C.2.2.2.1 (C.2.2.2.2.1 _ w_1284) dX9_mark_71 ?_
    refine lv_icmp_eq (tgt := 92) C.1 C.2.1 dX9_mark_73 (by decide) (fun hc_6 => ?_) (fun hc_6 => ?_)
    · have h := ite_t hc_6 h
      exact w_X9_mark_92 C hq  h  hW (lv_sub hl [0, 1, 2, 3] rfl)
    · have h := ite_f hc_6 h
      refine lv_iload_n C.1 C.2.1 dX9_mark_76 rfl (lv_at hl 3 rfl) ?_
      refine lv_ldcw C.1 C.2.1 C.2.2.2.1 (C.2.2.2.2.1 _ w_1405) dX9_mark_77 ?_
      refine lv_ldcw C.1 C.2.1 C.2.2.2.1 (C.2.2.2.2.1 _ w_1406) dX9_mark_80 ?_
      obtain ⟨r_4, m_3, hc_2, h⟩ := doI_E h
      refine zr_cSI C hW (c_X9_in (x0 := x3) (x1 := (-99999)) (x2 := 99999) hc_2 ) k_X9_in w_1117 ⟨Nat.le_of_ble_eq_true rfl, Nat.le_of_ble_eq_true rfl⟩ ⟨Nat.le_refl 0, Nat.le_refl 0⟩ rfl hl.1 rfl (Nat.le_of_ble_eq_true rfl) dX9_mark_83 (fun H locs hW => ?_)
      refine lv_if_ne (tgt := 92) C.1 C.2.1 dX9_mark_86 (by decide) (fun hc_5 => ?_) (fun hc_5 => ?_)
      · have h := ite_f hc_5 h
        exact w_X9_mark_92 C hq  h  hW (lv_sub hl [0, 1, 2, 3] rfl)
      · have h := ite_t hc_5 h
        refine lv_ldc C.1 C.2.1 C.2.2.2.1 (C.2.2.2.2.1 _ w_1123) dX9_mark_89 ?_
        exact ret_i h hq rfl hW dX9_mark_91
def f_X9_mark (fu : Nat)  (x1 : Int32) (x2 : Int32) (x3 : Int32) (m : Mem) : Option (Int32 × Mem) := doI (f_X9_isSheet fu x1 m) (fun r_3 m_2 => if r_3 = 0 then (some ((-1000000001), m_2)) else (chk (inb x1 4) (if 0 ≤ (m_2 (3810 + x1.toNatClampNeg)) then (chk (inb x1 4) (doI (f_X9_in fu x2 0 ((m_2 (3820 + x1.toNatClampNeg)) - 1) m_2) (fun r_8 m_7 => if r_8 = 0 then (some ((-1000000013), m_7)) else (chk (inb x1 4) (if (m_7 (3810 + x1.toNatClampNeg)) = 0 then (if x3 = (-1000000005) then (some ((-1000000012), m_7)) else (f_X9_mark_60 fu x1 x2 x3 m_7)) else (f_X9_mark_60 fu x1 x2 x3 m_7)))))) else (some ((-1000000011), m_2)))))
set_option maxHeartbeats 4000000 in
set_option maxRecDepth 100000 in
theorem w_X9_mark {X : TX} {p : Program} {l : Launch} {e : Env} {s : State} {mi : MethodId} {args : Array Value} {below : List Frame} {meth : Method} {c : Code} {Q : State → Prop} {r : Int32} {mE : Mem} (C : Cx X p s mi args c RX9 cX9_mark 4) (hq : RetI X p l e (rmD 2) s mi args below meth c cX9_mark .int Q r mE) {fu : Nat} {x1 : Int32} {x2 : Int32} {x3 : Int32} {m : Mem} {H : Heap} {locs : List Loc} {ls : Array Slot} (h : f_X9_mark fu x1 x2 x3 m = some (r, mE))  (hW : Wd X s m H locs) (hl : lv_has ls 4 [(0, .ref (ad X 20 0)), (1, .int x1), (2, .int x2), (3, .int x3)]) : W p l e (rmD 2) s mi args below meth c H locs 0 0 Q (F0 mi 0 ls []) := by
  unfold f_X9_mark at h
  refine lv_iload_n C.1 C.2.1 dX9_mark_0 rfl (lv_at hl 1 rfl) ?_
  obtain ⟨r_3, m_2, hc_1, h⟩ := doI_E h
  refine zr_cSI C hW (c_X9_isSheet (x0 := x1) hc_1 ) k_X9_isSheet w_1320 ⟨Nat.le_of_ble_eq_true rfl, Nat.le_of_ble_eq_true rfl⟩ ⟨Nat.le_refl 0, Nat.le_refl 0⟩ rfl hl.1 rfl (Nat.le_of_ble_eq_true rfl) dX9_mark_1 (fun H locs hW => ?_)
  refine lv_if_ne (tgt := 10) C.1 C.2.1 dX9_mark_4 (by decide) (fun hc_14 => ?_) (fun hc_14 => ?_)
  · have h := ite_f hc_14 h
    refine lv_aload_n C.1 C.2.1 dX9_mark_10 rfl (lv_at hl 0 rfl) ?_
    refine zg_X9_sorts C hW id_20 w_1029 dX9_mark_11 ?_
    refine lv_iload_n C.1 C.2.1 dX9_mark_14 rfl (lv_at hl 1 rfl) ?_
    obtain ⟨hb_4, h⟩ := chk_E h
    refine zal_32 C hW id_32 (inb_E hb_4) dX9_mark_15 ?_
    refine lv_if_ge (tgt := 22) C.1 C.2.1 dX9_mark_16 (by decide) (fun hc_13 => ?_) (fun hc_13 => ?_)
    · have h := ite_t hc_13 h
      refine lv_iload_n C.1 C.2.1 dX9_mark_22 rfl (lv_at hl 2 rfl) ?_
      refine lv_iconst (v := 0) C.1 C.2.1 dX9_mark_23 rfl ?_
      refine lv_aload_n C.1 C.2.1 dX9_mark_24 rfl (lv_at hl 0 rfl) ?_
      refine zg_X9_sizes C hW id_20 w_1030 dX9_mark_25 ?_
      refine lv_iload_n C.1 C.2.1 dX9_mark_28 rfl (lv_at hl 1 rfl) ?_
      obtain ⟨hb_5, h⟩ := chk_E h
      refine zal_33 C hW id_33 (inb_E hb_5) dX9_mark_29 ?_
      refine lv_iconst (v := 1) C.1 C.2.1 dX9_mark_30 rfl ?_
      refine lv_isub C.1 C.2.1 dX9_mark_31 ?_
      obtain ⟨r_8, m_7, hc_6, h⟩ := doI_E h
      refine zr_cSI C hW (c_X9_in (x0 := x2) (x1 := 0) (x2 := ((m_2 (3820 + x1.toNatClampNeg)) - 1)) hc_6 ) k_X9_in w_1117 ⟨Nat.le_of_ble_eq_true rfl, Nat.le_of_ble_eq_true rfl⟩ ⟨Nat.le_refl 0, Nat.le_refl 0⟩ rfl hl.1 rfl (Nat.le_of_ble_eq_true rfl) dX9_mark_32 (fun H locs hW => ?_)
      refine lv_if_ne (tgt := 42) C.1 C.2.1 dX9_mark_35 (by decide) (fun hc_12 => ?_) (fun hc_12 => ?_)
      · have h := ite_f hc_12 h
        refine lv_aload_n C.1 C.2.1 dX9_mark_42 rfl (lv_at hl 0 rfl) ?_
        refine zg_X9_sorts C hW id_20 w_1029 dX9_mark_43 ?_
        refine lv_iload_n C.1 C.2.1 dX9_mark_46 rfl (lv_at hl 1 rfl) ?_
        obtain ⟨hb_9, h⟩ := chk_E h
        refine zal_32 C hW id_32 (inb_E hb_9) dX9_mark_47 ?_
        refine lv_if_ne (tgt := 60) C.1 C.2.1 dX9_mark_48 (by decide) (fun hc_11 => ?_) (fun hc_11 => ?_)
        · have h := ite_f hc_11 h
          exact w_X9_mark_60 C hq  h  hW (lv_sub hl [0, 1, 2, 3] rfl)
        · have h := ite_t hc_11 h
          refine lv_iload_n C.1 C.2.1 dX9_mark_51 rfl (lv_at hl 3 rfl) ?_
          refine lv_ldc C.1 C.2.1 C.2.2.2.1 (C.2.2.2.2.1 _ w_1284) dX9_mark_52 ?_
          refine lv_icmp_ne (tgt := 60) C.1 C.2.1 dX9_mark_54 (by decide) (fun hc_10 => ?_) (fun hc_10 => ?_)
          · have h := ite_f hc_10 h
            exact w_X9_mark_60 C hq  h  hW (lv_sub hl [0, 1, 2, 3] rfl)
          · have h := ite_t hc_10 h
            refine lv_ldc C.1 C.2.1 C.2.2.2.1 (C.2.2.2.2.1 _ w_1168) dX9_mark_57 ?_
            exact ret_i h hq rfl hW dX9_mark_59
      · have h := ite_t hc_12 h
        refine lv_ldcw C.1 C.2.1 C.2.2.2.1 (C.2.2.2.2.1 _ w_1404) dX9_mark_38 ?_
        exact ret_i h hq rfl hW dX9_mark_41
    · have h := ite_f hc_13 h
      refine lv_ldc C.1 C.2.1 C.2.2.2.1 (C.2.2.2.2.1 _ w_1323) dX9_mark_19 ?_
      exact ret_i h hq rfl hW dX9_mark_21
  · have h := ite_t hc_14 h
    refine lv_ldc C.1 C.2.1 C.2.2.2.1 (C.2.2.2.2.1 _ w_1123) dX9_mark_7 ?_
    exact ret_i h hq rfl hW dX9_mark_9
theorem c_X9_mark {X : TX} {l : Launch} {fu : Nat} {x1 : Int32} {x2 : Int32} {x3 : Int32} {m mE : Mem} {r : Int32} (h : f_X9_mark fu x1 x2 x3 m = some (r, mE))  : MetI X l yX9_mark cX9_mark 4 .int 2 [.ref (ad X 20 0), .int x1, .int x2, .int x3] m r mE :=
  met_I (by decide) (Nat.le_of_ble_eq_true rfl) (fun p e s mi args below meth c ls Q C hq hW hl => w_X9_mark C hq h  hW (lv_sub hl [0, 1, 2, 3] rfl))
theorem k_X9_mark : CalV yX9_mark cX9_mark 4 (some .int) RX9 3 := ⟨w_1401, w_1402, w_70, w_1403, by decide +kernel⟩
theorem dX9_pour_0 : decode cX9_pour 0 = .ok (.iload_n 1, 1) := by decide +kernel
theorem dX9_pour_1 : decode cX9_pour 1 = .ok (.invokestatic 188, 3) := by decide +kernel
theorem dX9_pour_4 : decode cX9_pour 4 = .ok (.ifCond .ne 6, 3) := by decide +kernel
theorem dX9_pour_7 : decode cX9_pour 7 = .ok (.ldc 91, 2) := by decide +kernel
theorem dX9_pour_9 : decode cX9_pour 9 = .ok (.ireturn, 1) := by decide +kernel
theorem dX9_pour_10 : decode cX9_pour 10 = .ok (.aload_n 0, 1) := by decide +kernel
theorem dX9_pour_11 : decode cX9_pour 11 = .ok (.getfield 52, 3) := by decide +kernel
theorem dX9_pour_14 : decode cX9_pour 14 = .ok (.iload_n 1, 1) := by decide +kernel
theorem dX9_pour_15 : decode cX9_pour 15 = .ok (.iaload, 1) := by decide +kernel
theorem dX9_pour_16 : decode cX9_pour 16 = .ok (.ifCond .ge 6, 3) := by decide +kernel
theorem dX9_pour_19 : decode cX9_pour 19 = .ok (.ldc 191, 2) := by decide +kernel
theorem dX9_pour_21 : decode cX9_pour 21 = .ok (.ireturn, 1) := by decide +kernel
theorem dX9_pour_22 : decode cX9_pour 22 = .ok (.iconst 0, 1) := by decide +kernel
theorem dX9_pour_23 : decode cX9_pour 23 = .ok (.istore_n 2, 1) := by decide +kernel
theorem dX9_pour_24 : decode cX9_pour 24 = .ok (.iconst 0, 1) := by decide +kernel
theorem dX9_pour_25 : decode cX9_pour 25 = .ok (.istore_n 3, 1) := by decide +kernel
theorem dX9_pour_26 : decode cX9_pour 26 = .ok (.iload_n 3, 1) := by decide +kernel
theorem dX9_pour_27 : decode cX9_pour 27 = .ok (.aload_n 0, 1) := by decide +kernel
theorem dX9_pour_28 : decode cX9_pour 28 = .ok (.getfield 55, 3) := by decide +kernel
theorem dX9_pour_31 : decode cX9_pour 31 = .ok (.iload_n 1, 1) := by decide +kernel
theorem dX9_pour_32 : decode cX9_pour 32 = .ok (.iaload, 1) := by decide +kernel
theorem dX9_pour_33 : decode cX9_pour 33 = .ok (.if_icmp .ge 86, 3) := by decide +kernel
theorem dX9_pour_36 : decode cX9_pour 36 = .ok (.iload_n 3, 1) := by decide +kernel
theorem dX9_pour_37 : decode cX9_pour 37 = .ok (.aload_n 0, 1) := by decide +kernel
theorem dX9_pour_38 : decode cX9_pour 38 = .ok (.getfield 9, 3) := by decide +kernel
theorem dX9_pour_41 : decode cX9_pour 41 = .ok (.iconst 1, 1) := by decide +kernel
theorem dX9_pour_42 : decode cX9_pour 42 = .ok (.iaload, 1) := by decide +kernel
theorem dX9_pour_43 : decode cX9_pour 43 = .ok (.if_icmp .ge 76, 3) := by decide +kernel
theorem dX9_pour_46 : decode cX9_pour 46 = .ok (.aload_n 0, 1) := by decide +kernel
theorem dX9_pour_47 : decode cX9_pour 47 = .ok (.getfield 58, 3) := by decide +kernel
theorem dX9_pour_50 : decode cX9_pour 50 = .ok (.bipush 24, 2) := by decide +kernel
theorem dX9_pour_52 : decode cX9_pour 52 = .ok (.iload_n 1, 1) := by decide +kernel
theorem dX9_pour_53 : decode cX9_pour 53 = .ok (.imul, 1) := by decide +kernel
theorem dX9_pour_54 : decode cX9_pour 54 = .ok (.iload_n 3, 1) := by decide +kernel
theorem dX9_pour_55 : decode cX9_pour 55 = .ok (.iadd, 1) := by decide +kernel
theorem dX9_pour_56 : decode cX9_pour 56 = .ok (.iaload, 1) := by decide +kernel
theorem dX9_pour_57 : decode cX9_pour 57 = .ok (.istore 4, 2) := by decide +kernel
theorem dX9_pour_59 : decode cX9_pour 59 = .ok (.iload 4, 2) := by decide +kernel
theorem dX9_pour_61 : decode cX9_pour 61 = .ok (.ldc 180, 2) := by decide +kernel
theorem dX9_pour_63 : decode cX9_pour 63 = .ok (.if_icmp .ne 12, 3) := by decide +kernel
theorem dX9_pour_66 : decode cX9_pour 66 = .ok (.aload_n 0, 1) := by decide +kernel
theorem dX9_pour_67 : decode cX9_pour 67 = .ok (.iload_n 3, 1) := by decide +kernel
theorem dX9_pour_68 : decode cX9_pour 68 = .ok (.iconst 1, 1) := by decide +kernel
theorem dX9_pour_69 : decode cX9_pour 69 = .ok (.invokevirtual 97, 3) := by decide +kernel
theorem dX9_pour_72 : decode cX9_pour 72 = .ok (.goto 11, 3) := by decide +kernel
theorem dX9_pour_75 : decode cX9_pour 75 = .ok (.iload 4, 2) := by decide +kernel
theorem dX9_pour_77 : decode cX9_pour 77 = .ok (.iconst 1, 1) := by decide +kernel
theorem dX9_pour_78 : decode cX9_pour 78 = .ok (.bipush 60, 2) := by decide +kernel
theorem dX9_pour_80 : decode cX9_pour 80 = .ok (.invokestatic 143, 3) := by decide +kernel
theorem dX9_pour_83 : decode cX9_pour 83 = .ok (.istore 5, 2) := by decide +kernel
theorem dX9_pour_85 : decode cX9_pour 85 = .ok (.iload_n 2, 1) := by decide +kernel
theorem dX9_pour_86 : decode cX9_pour 86 = .ok (.aload_n 0, 1) := by decide +kernel
theorem dX9_pour_87 : decode cX9_pour 87 = .ok (.bipush 16, 2) := by decide +kernel
theorem dX9_pour_89 : decode cX9_pour 89 = .ok (.bipush 7, 2) := by decide +kernel
theorem dX9_pour_91 : decode cX9_pour 91 = .ok (.iload_n 3, 1) := by decide +kernel
theorem dX9_pour_92 : decode cX9_pour 92 = .ok (.imul, 1) := by decide +kernel
theorem dX9_pour_93 : decode cX9_pour 93 = .ok (.iadd, 1) := by decide +kernel
theorem dX9_pour_94 : decode cX9_pour 94 = .ok (.iconst 1, 1) := by decide +kernel
theorem dX9_pour_95 : decode cX9_pour 95 = .ok (.iadd, 1) := by decide +kernel
theorem dX9_pour_96 : decode cX9_pour 96 = .ok (.iload 5, 2) := by decide +kernel
theorem dX9_pour_98 : decode cX9_pour 98 = .ok (.invokevirtual 122, 3) := by decide +kernel
theorem dX9_pour_101 : decode cX9_pour 101 = .ok (.iload 5, 2) := by decide +kernel
theorem dX9_pour_103 : decode cX9_pour 103 = .ok (.if_icmp .ne 7, 3) := by decide +kernel
theorem dX9_pour_106 : decode cX9_pour 106 = .ok (.iconst 0, 1) := by decide +kernel
theorem dX9_pour_107 : decode cX9_pour 107 = .ok (.goto 4, 3) := by decide +kernel
theorem dX9_pour_110 : decode cX9_pour 110 = .ok (.iconst 1, 1) := by decide +kernel
theorem dX9_pour_111 : decode cX9_pour 111 = .ok (.iadd, 1) := by decide +kernel
theorem dX9_pour_112 : decode cX9_pour 112 = .ok (.istore_n 2, 1) := by decide +kernel
theorem dX9_pour_113 : decode cX9_pour 113 = .ok (.iinc 3 1, 3) := by decide +kernel
theorem dX9_pour_116 : decode cX9_pour 116 = .ok (.goto (-90), 3) := by decide +kernel
theorem dX9_pour_119 : decode cX9_pour 119 = .ok (.iload_n 2, 1) := by decide +kernel
theorem dX9_pour_120 : decode cX9_pour 120 = .ok (.ireturn, 1) := by decide +kernel
def f_X9_pour_111 (fu : Nat) (k_26 : Int32 → Int32 → Int32 → Mem → Option (Int32 × Mem)) (x1 : Int32) (x3 : Int32) (y0 : Int32) (y1 : Int32) (m : Mem) : Option (Int32 × Mem) := seqM (y0 + y1) (fun x_1 : Int32 => seqM (x3 + 1) (fun x_3 : Int32 => k_26 x1 x_1 x_3 m))
set_option maxHeartbeats 4000000 in
set_option maxRecDepth 100000 in
theorem w_X9_pour_111 {X : TX} {p : Program} {l : Launch} {e : Env} {s : State} {mi : MethodId} {args : Array Value} {below : List Frame} {meth : Method} {c : Code} {Q : State → Prop} {r : Int32} {mE : Mem} (C : Cx X p s mi args c RX9 cX9_pour 6) (hq : RetI X p l e (rmD 2) s mi args below meth c cX9_pour .int Q r mE) {fu : Nat} {k_26 : Int32 → Int32 → Int32 → Mem → Option (Int32 × Mem)} (hk_26 : ∀ {x1 : Int32} {x2 : Int32} {x3 : Int32} {m : Mem} {H : Heap} {locs : List Loc} {ls : Array Slot}, k_26 x1 x2 x3 m = some (r, mE) → Wd X s m H locs → lv_has ls 6 [(0, .ref (ad X 20 0)), (1, .int x1), (2, .int x2), (3, .int x3)] → W p l e (rmD 2) s mi args below meth c H locs 0 0 Q (F0 mi 26 ls [])) {x1 : Int32} {x3 : Int32} {y0 : Int32} {y1 : Int32} {m : Mem} {H : Heap} {locs : List Loc} {ls : Array Slot} (h : f_X9_pour_111 fu k_26 x1 x3 y0 y1 m = some (r, mE))  (hW : Wd X s m H locs) (hl : lv_has ls 6 [(0, .ref (ad X 20 0)), (1, .int x1), (3, .int x3)]) : W p l e (rmD 2) s mi args below meth c H locs 0 0 Q (F0 mi 111 ls [.int y1, .int y0]) := by
  unfold f_X9_pour_111 at h
  refine lv_iadd C.1 C.2.1 dX9_pour_111 ?_
  obtain ⟨x_1, e_2, h⟩ := seqM_E h
  refine lv_name e_2 ?_
  refine lv_istore_n (lv' := [(2, .int x_1), (0, .ref (ad X 20 0)), (1, .int x1), (3, .int x3)]) C.1 C.2.1 dX9_pour_112 rfl hl (by decide) rfl (fun ls hl => ?_)
  obtain ⟨x_3, e_4, h⟩ := seqM_E h
  refine lv_iinc (v := x_3) (lv' := [(3, .int x_3), (2, .int x_1), (0, .ref (ad X 20 0)), (1, .int x1)]) C.1 C.2.1 dX9_pour_113 hl (k := 3) rfl (by rw [e_4]; rfl) (by decide) rfl (fun ls hl => ?_)
  refine lv_goto (tgt := 26) C.1 C.2.1 dX9_pour_116 (by decide) ?_
  exact hk_26 h  hW (lv_sub hl [2, 3, 1, 0] rfl)
def f_X9_pour_83 (fu : Nat) (k_26 : Int32 → Int32 → Int32 → Mem → Option (Int32 × Mem)) (x1 : Int32) (x2 : Int32) (x3 : Int32) (y0 : Int32) (m : Mem) : Option (Int32 × Mem) := doI (f_X9_swaps fu ((16 + (7 * x3)) + 1) y0 m) (fun r_3 m_2 => if r_3 = y0 then (f_X9_pour_111 fu k_26 x1 x3 x2 0 m_2) else (f_X9_pour_111 fu k_26 x1 x3 x2 1 m_2))
set_option maxHeartbeats 4000000 in
set_option maxRecDepth 100000 in
theorem w_X9_pour_83 {X : TX} {p : Program} {l : Launch} {e : Env} {s : State} {mi : MethodId} {args : Array Value} {below : List Frame} {meth : Method} {c : Code} {Q : State → Prop} {r : Int32} {mE : Mem} (C : Cx X p s mi args c RX9 cX9_pour 6) (hq : RetI X p l e (rmD 2) s mi args below meth c cX9_pour .int Q r mE) {fu : Nat} {k_26 : Int32 → Int32 → Int32 → Mem → Option (Int32 × Mem)} (hk_26 : ∀ {x1 : Int32} {x2 : Int32} {x3 : Int32} {m : Mem} {H : Heap} {locs : List Loc} {ls : Array Slot}, k_26 x1 x2 x3 m = some (r, mE) → Wd X s m H locs → lv_has ls 6 [(0, .ref (ad X 20 0)), (1, .int x1), (2, .int x2), (3, .int x3)] → W p l e (rmD 2) s mi args below meth c H locs 0 0 Q (F0 mi 26 ls [])) {x1 : Int32} {x2 : Int32} {x3 : Int32} {y0 : Int32} {m : Mem} {H : Heap} {locs : List Loc} {ls : Array Slot} (h : f_X9_pour_83 fu k_26 x1 x2 x3 y0 m = some (r, mE))  (hW : Wd X s m H locs) (hl : lv_has ls 6 [(0, .ref (ad X 20 0)), (1, .int x1), (2, .int x2), (3, .int x3)]) : W p l e (rmD 2) s mi args below meth c H locs 0 0 Q (F0 mi 83 ls [.int y0]) := by
  unfold f_X9_pour_83 at h
  refine lv_istore (lv' := [(5, .int y0), (0, .ref (ad X 20 0)), (1, .int x1), (2, .int x2), (3, .int x3)]) C.1 C.2.1 dX9_pour_83 hl (by decide) rfl (fun ls hl => ?_)
  refine lv_iload_n C.1 C.2.1 dX9_pour_85 rfl (lv_at hl 3 rfl) ?_
  refine lv_aload_n C.1 C.2.1 dX9_pour_86 rfl (lv_at hl 1 rfl) ?_
  refine lv_bipush (v := 16) C.1 C.2.1 dX9_pour_87 rfl ?_
  refine lv_bipush (v := 7) C.1 C.2.1 dX9_pour_89 rfl ?_
  refine lv_iload_n C.1 C.2.1 dX9_pour_91 rfl (lv_at hl 4 rfl) ?_
  refine lv_imul C.1 C.2.1 dX9_pour_92 ?_
  refine lv_iadd C.1 C.2.1 dX9_pour_93 ?_
  refine lv_iconst (v := 1) C.1 C.2.1 dX9_pour_94 rfl ?_
  refine lv_iadd C.1 C.2.1 dX9_pour_95 ?_
  refine lv_iload C.1 C.2.1 dX9_pour_96 (lv_at hl 0 rfl) ?_
  obtain ⟨r_3, m_2, hc_1, h⟩ := doI_E h
  refine zr_cVI C hW (c_X9_swaps (x1 := ((16 + (7 * x3)) + 1)) (x2 := y0) hc_1 ) k_X9_swaps (zr_recv C hW id_20 zco_20 rfl) w_1173 ⟨Nat.le_of_ble_eq_true rfl, Nat.le_of_ble_eq_true rfl⟩ ⟨Nat.le_refl 0, Nat.le_refl 0⟩ rfl hl.1 rfl (Nat.le_of_ble_eq_true rfl) dX9_pour_98 (fun H locs hW => ?_)
  refine lv_iload C.1 C.2.1 dX9_pour_101 (lv_at hl 0 rfl) ?_
  refine lv_icmp_ne (tgt := 110) C.1 C.2.1 dX9_pour_103 (by decide) (fun hc_4 => ?_) (fun hc_4 => ?_)
  · have h := ite_f hc_4 h
    refine lv_iconst (v := 1) C.1 C.2.1 dX9_pour_110 rfl ?_
    exact w_X9_pour_111 C hq hk_26 h  hW (lv_sub hl [1, 2, 4] rfl)
  · have h := ite_t hc_4 h
    refine lv_iconst (v := 0) C.1 C.2.1 dX9_pour_106 rfl ?_
    refine lv_goto (tgt := 111) C.1 C.2.1 dX9_pour_107 (by decide) ?_
    exact w_X9_pour_111 C hq hk_26 h  hW (lv_sub hl [1, 2, 4] rfl)
def f_X9_pour_26 (fu : Nat)  : Nat → Int32 → Int32 → Int32 → Mem → Option (Int32 × Mem)
  | 0, _, _, _, _ => none
  | n + 1, x1, x2, x3, m => chk (inb x1 4) (if (m (3820 + x1.toNatClampNeg)) ≤ x3 then (some (x2, m)) else (if (m ((4000 + 1500 * 0) + (1 : Int32).toNatClampNeg)) ≤ x3 then (some (x2, m)) else (chk (inb ((24 * x1) + x3) 96) (seqM (m (3830 + ((24 * x1) + x3).toNatClampNeg)) (fun x_3 : Int32 => if x_3 = (-1000000005) then (doI (f_X9_of fu x3 1 m) (fun r_10 m_9 => f_X9_pour_83 fu (f_X9_pour_26 fu n) x1 x2 x3 r_10 m_9)) else (doI (f_X9_within fu x_3 1 60 m) (fun r_7 m_6 => f_X9_pour_83 fu (f_X9_pour_26 fu n) x1 x2 x3 r_7 m_6)))))))
set_option maxHeartbeats 4000000 in
set_option maxRecDepth 100000 in
theorem w_X9_pour_26 {X : TX} {p : Program} {l : Launch} {e : Env} {s : State} {mi : MethodId} {args : Array Value} {below : List Frame} {meth : Method} {c : Code} {Q : State → Prop} {r : Int32} {mE : Mem} (C : Cx X p s mi args c RX9 cX9_pour 6) (hq : RetI X p l e (rmD 2) s mi args below meth c cX9_pour .int Q r mE) {fu : Nat} : ∀ (n : Nat) {x1 : Int32} {x2 : Int32} {x3 : Int32} {m : Mem} {H : Heap} {locs : List Loc} {ls : Array Slot}, f_X9_pour_26 fu n x1 x2 x3 m = some (r, mE) → Wd X s m H locs → lv_has ls 6 [(0, .ref (ad X 20 0)), (1, .int x1), (2, .int x2), (3, .int x3)] → W p l e (rmD 2) s mi args below meth c H locs 0 0 Q (F0 mi 26 ls []) := by
  intro n
  induction n with
  | zero =>
    intro x1 x2 x3 m H locs ls h hW hl
    rw [f_X9_pour_26] at h
    cases h
  | succ n ih =>
    intro x1 x2 x3 m H locs ls h hW hl
    rw [f_X9_pour_26] at h
    refine lv_iload_n C.1 C.2.1 dX9_pour_26 rfl (lv_at hl 3 rfl) ?_
    refine lv_aload_n C.1 C.2.1 dX9_pour_27 rfl (lv_at hl 0 rfl) ?_
    refine zg_X9_sizes C hW id_20 w_1030 dX9_pour_28 ?_
    refine lv_iload_n C.1 C.2.1 dX9_pour_31 rfl (lv_at hl 1 rfl) ?_
    obtain ⟨hb_1, h⟩ := chk_E h
    refine zal_33 C hW id_33 (inb_E hb_1) dX9_pour_32 ?_
    refine lv_icmp_ge (tgt := 119) C.1 C.2.1 dX9_pour_33 (by decide) (fun hc_13 => ?_) (fun hc_13 => ?_)
    · have h := ite_t hc_13 h
      refine lv_iload_n C.1 C.2.1 dX9_pour_119 rfl (lv_at hl 2 rfl) ?_
      exact ret_i h hq rfl hW dX9_pour_120
    · have h := ite_f hc_13 h
      refine lv_iload_n C.1 C.2.1 dX9_pour_36 rfl (lv_at hl 3 rfl) ?_
      refine lv_aload_n C.1 C.2.1 dX9_pour_37 rfl (lv_at hl 0 rfl) ?_
      refine zg_X9_now C hW id_20 w_1004 dX9_pour_38 ?_
      refine lv_iconst (v := 1) C.1 C.2.1 dX9_pour_41 rfl ?_
      refine zal_21 C hW id_21_0 (inb_E (by decide)) dX9_pour_42 ?_
      refine lv_icmp_ge (tgt := 119) C.1 C.2.1 dX9_pour_43 (by decide) (fun hc_12 => ?_) (fun hc_12 => ?_)
      · have h := ite_t hc_12 h
        refine lv_iload_n C.1 C.2.1 dX9_pour_119 rfl (lv_at hl 2 rfl) ?_
        exact ret_i h hq rfl hW dX9_pour_120
      · have h := ite_f hc_12 h
        refine lv_aload_n C.1 C.2.1 dX9_pour_46 rfl (lv_at hl 0 rfl) ?_
        refine zg_X9_cells C hW id_20 w_1031 dX9_pour_47 ?_
        refine lv_bipush (v := 24) C.1 C.2.1 dX9_pour_50 rfl ?_
        refine lv_iload_n C.1 C.2.1 dX9_pour_52 rfl (lv_at hl 1 rfl) ?_
        refine lv_imul C.1 C.2.1 dX9_pour_53 ?_
        refine lv_iload_n C.1 C.2.1 dX9_pour_54 rfl (lv_at hl 3 rfl) ?_
        refine lv_iadd C.1 C.2.1 dX9_pour_55 ?_
        obtain ⟨hb_2, h⟩ := chk_E h
        refine zal_34 C hW id_34 (inb_E hb_2) dX9_pour_56 ?_
        obtain ⟨x_3, e_4, h⟩ := seqM_E h
        refine lv_name e_4 ?_
        refine lv_istore (lv' := [(4, .int x_3), (0, .ref (ad X 20 0)), (1, .int x1), (2, .int x2), (3, .int x3)]) C.1 C.2.1 dX9_pour_57 hl (by decide) rfl (fun ls hl => ?_)
        refine lv_iload C.1 C.2.1 dX9_pour_59 (lv_at hl 0 rfl) ?_
        refine lv_ldc C.1 C.2.1 C.2.2.2.1 (C.2.2.2.2.1 _ w_1284) dX9_pour_61 ?_
        refine lv_icmp_ne (tgt := 75) C.1 C.2.1 dX9_pour_63 (by decide) (fun hc_11 => ?_) (fun hc_11 => ?_)
        · have h := ite_f hc_11 h
          refine lv_iload C.1 C.2.1 dX9_pour_75 (lv_at hl 0 rfl) ?_
          refine lv_iconst (v := 1) C.1 C.2.1 dX9_pour_77 rfl ?_
          refine lv_bipush (v := 60) C.1 C.2.1 dX9_pour_78 rfl ?_
          obtain ⟨r_7, m_6, hc_5, h⟩ := doI_E h
          refine zr_cSI C hW (c_X9_within (x0 := x_3) (x1 := 1) (x2 := 60) hc_5 ) k_X9_within w_1210 ⟨Nat.le_of_ble_eq_true rfl, Nat.le_of_ble_eq_true rfl⟩ ⟨Nat.le_refl 0, Nat.le_refl 0⟩ rfl hl.1 rfl (Nat.le_of_ble_eq_true rfl) dX9_pour_80 (fun H locs hW => ?_)
          exact w_X9_pour_83 C hq ih h  hW (lv_sub hl [1, 2, 3, 4] rfl)
        · have h := ite_t hc_11 h
          refine lv_aload_n C.1 C.2.1 dX9_pour_66 rfl (lv_at hl 1 rfl) ?_
          refine lv_iload_n C.1 C.2.1 dX9_pour_67 rfl (lv_at hl 4 rfl) ?_
          refine lv_iconst (v := 1) C.1 C.2.1 dX9_pour_68 rfl ?_
          obtain ⟨r_10, m_9, hc_8, h⟩ := doI_E h
          refine zr_cVI C hW (c_X9_of (x1 := x3) (x2 := 1) hc_8 ) k_X9_of (zr_recv C hW id_20 zco_20 rfl) w_1141 ⟨Nat.le_of_ble_eq_true rfl, Nat.le_of_ble_eq_true rfl⟩ ⟨Nat.le_refl 0, Nat.le_refl 0⟩ rfl hl.1 rfl (Nat.le_of_ble_eq_true rfl) dX9_pour_69 (fun H locs hW => ?_)
          refine lv_goto (tgt := 83) C.1 C.2.1 dX9_pour_72 (by decide) ?_
          exact w_X9_pour_83 C hq ih h  hW (lv_sub hl [1, 2, 3, 4] rfl)
def f_X9_pour (fu : Nat)  (x1 : Int32) (m : Mem) : Option (Int32 × Mem) := doI (f_X9_isSheet fu x1 m) (fun r_3 m_2 => if r_3 = 0 then (some ((-1000000001), m_2)) else (chk (inb x1 4) (if 0 ≤ (m_2 (3810 + x1.toNatClampNeg)) then (f_X9_pour_26 fu fu x1 0 0 m_2) else (some ((-1000000011), m_2)))))
set_option maxHeartbeats 4000000 in
set_option maxRecDepth 100000 in
theorem w_X9_pour {X : TX} {p : Program} {l : Launch} {e : Env} {s : State} {mi : MethodId} {args : Array Value} {below : List Frame} {meth : Method} {c : Code} {Q : State → Prop} {r : Int32} {mE : Mem} (C : Cx X p s mi args c RX9 cX9_pour 6) (hq : RetI X p l e (rmD 2) s mi args below meth c cX9_pour .int Q r mE) {fu : Nat} {x1 : Int32} {m : Mem} {H : Heap} {locs : List Loc} {ls : Array Slot} (h : f_X9_pour fu x1 m = some (r, mE))  (hW : Wd X s m H locs) (hl : lv_has ls 6 [(0, .ref (ad X 20 0)), (1, .int x1)]) : W p l e (rmD 2) s mi args below meth c H locs 0 0 Q (F0 mi 0 ls []) := by
  unfold f_X9_pour at h
  refine lv_iload_n C.1 C.2.1 dX9_pour_0 rfl (lv_at hl 1 rfl) ?_
  obtain ⟨r_3, m_2, hc_1, h⟩ := doI_E h
  refine zr_cSI C hW (c_X9_isSheet (x0 := x1) hc_1 ) k_X9_isSheet w_1320 ⟨Nat.le_of_ble_eq_true rfl, Nat.le_of_ble_eq_true rfl⟩ ⟨Nat.le_refl 0, Nat.le_refl 0⟩ rfl hl.1 rfl (Nat.le_of_ble_eq_true rfl) dX9_pour_1 (fun H locs hW => ?_)
  refine lv_if_ne (tgt := 10) C.1 C.2.1 dX9_pour_4 (by decide) (fun hc_6 => ?_) (fun hc_6 => ?_)
  · have h := ite_f hc_6 h
    refine lv_aload_n C.1 C.2.1 dX9_pour_10 rfl (lv_at hl 0 rfl) ?_
    refine zg_X9_sorts C hW id_20 w_1029 dX9_pour_11 ?_
    refine lv_iload_n C.1 C.2.1 dX9_pour_14 rfl (lv_at hl 1 rfl) ?_
    obtain ⟨hb_4, h⟩ := chk_E h
    refine zal_32 C hW id_32 (inb_E hb_4) dX9_pour_15 ?_
    refine lv_if_ge (tgt := 22) C.1 C.2.1 dX9_pour_16 (by decide) (fun hc_5 => ?_) (fun hc_5 => ?_)
    · have h := ite_t hc_5 h
      refine lv_iconst (v := 0) C.1 C.2.1 dX9_pour_22 rfl ?_
      refine lv_istore_n (lv' := [(2, .int 0), (0, .ref (ad X 20 0)), (1, .int x1)]) C.1 C.2.1 dX9_pour_23 rfl hl (by decide) rfl (fun ls hl => ?_)
      refine lv_iconst (v := 0) C.1 C.2.1 dX9_pour_24 rfl ?_
      refine lv_istore_n (lv' := [(3, .int 0), (2, .int 0), (0, .ref (ad X 20 0)), (1, .int x1)]) C.1 C.2.1 dX9_pour_25 rfl hl (by decide) rfl (fun ls hl => ?_)
      exact w_X9_pour_26 C hq  fu h  hW (lv_sub hl [2, 3, 1, 0] rfl)
    · have h := ite_f hc_5 h
      refine lv_ldc C.1 C.2.1 C.2.2.2.1 (C.2.2.2.2.1 _ w_1323) dX9_pour_19 ?_
      exact ret_i h hq rfl hW dX9_pour_21
  · have h := ite_t hc_6 h
    refine lv_ldc C.1 C.2.1 C.2.2.2.1 (C.2.2.2.2.1 _ w_1123) dX9_pour_7 ?_
    exact ret_i h hq rfl hW dX9_pour_9
theorem c_X9_pour {X : TX} {l : Launch} {fu : Nat} {x1 : Int32} {m mE : Mem} {r : Int32} (h : f_X9_pour fu x1 m = some (r, mE))  : MetI X l yX9_pour cX9_pour 6 .int 2 [.ref (ad X 20 0), .int x1] m r mE :=
  met_I (by decide) (Nat.le_of_ble_eq_true rfl) (fun p e s mi args below meth c ls Q C hq hW hl => w_X9_pour C hq h  hW (lv_sub hl [0, 1] rfl))
theorem k_X9_pour : CalV yX9_pour cX9_pour 6 (some .int) RX9 1 := ⟨w_1408, w_1409, w_70, w_1410, by decide +kernel⟩
theorem dX9_reads_0 : decode cX9_reads 0 = .ok (.iload_n 1, 1) := by decide +kernel
theorem dX9_reads_1 : decode cX9_reads 1 = .ok (.invokestatic 188, 3) := by decide +kernel
theorem dX9_reads_4 : decode cX9_reads 4 = .ok (.ifCond .ne 6, 3) := by decide +kernel
theorem dX9_reads_7 : decode cX9_reads 7 = .ok (.ldc 91, 2) := by decide +kernel
theorem dX9_reads_9 : decode cX9_reads 9 = .ok (.ireturn, 1) := by decide +kernel
theorem dX9_reads_10 : decode cX9_reads 10 = .ok (.aload_n 0, 1) := by decide +kernel
theorem dX9_reads_11 : decode cX9_reads 11 = .ok (.getfield 52, 3) := by decide +kernel
theorem dX9_reads_14 : decode cX9_reads 14 = .ok (.iload_n 1, 1) := by decide +kernel
theorem dX9_reads_15 : decode cX9_reads 15 = .ok (.iaload, 1) := by decide +kernel
theorem dX9_reads_16 : decode cX9_reads 16 = .ok (.ifCond .ge 6, 3) := by decide +kernel
theorem dX9_reads_19 : decode cX9_reads 19 = .ok (.ldc 191, 2) := by decide +kernel
theorem dX9_reads_21 : decode cX9_reads 21 = .ok (.ireturn, 1) := by decide +kernel
theorem dX9_reads_22 : decode cX9_reads 22 = .ok (.iconst 0, 1) := by decide +kernel
theorem dX9_reads_23 : decode cX9_reads 23 = .ok (.istore_n 2, 1) := by decide +kernel
theorem dX9_reads_24 : decode cX9_reads 24 = .ok (.iload_n 2, 1) := by decide +kernel
theorem dX9_reads_25 : decode cX9_reads 25 = .ok (.aload_n 0, 1) := by decide +kernel
theorem dX9_reads_26 : decode cX9_reads 26 = .ok (.getfield 55, 3) := by decide +kernel
theorem dX9_reads_29 : decode cX9_reads 29 = .ok (.iload_n 1, 1) := by decide +kernel
theorem dX9_reads_30 : decode cX9_reads 30 = .ok (.iaload, 1) := by decide +kernel
theorem dX9_reads_31 : decode cX9_reads 31 = .ok (.if_icmp .ge 48, 3) := by decide +kernel
theorem dX9_reads_34 : decode cX9_reads 34 = .ok (.aload_n 0, 1) := by decide +kernel
theorem dX9_reads_35 : decode cX9_reads 35 = .ok (.getfield 58, 3) := by decide +kernel
theorem dX9_reads_38 : decode cX9_reads 38 = .ok (.bipush 24, 2) := by decide +kernel
theorem dX9_reads_40 : decode cX9_reads 40 = .ok (.iload_n 1, 1) := by decide +kernel
theorem dX9_reads_41 : decode cX9_reads 41 = .ok (.imul, 1) := by decide +kernel
theorem dX9_reads_42 : decode cX9_reads 42 = .ok (.iload_n 2, 1) := by decide +kernel
theorem dX9_reads_43 : decode cX9_reads 43 = .ok (.iadd, 1) := by decide +kernel
theorem dX9_reads_44 : decode cX9_reads 44 = .ok (.iaload, 1) := by decide +kernel
theorem dX9_reads_45 : decode cX9_reads 45 = .ok (.istore_n 3, 1) := by decide +kernel
theorem dX9_reads_46 : decode cX9_reads 46 = .ok (.iload_n 3, 1) := by decide +kernel
theorem dX9_reads_47 : decode cX9_reads 47 = .ok (.ldc 180, 2) := by decide +kernel
theorem dX9_reads_49 : decode cX9_reads 49 = .ok (.if_icmp .eq 24, 3) := by decide +kernel
theorem dX9_reads_52 : decode cX9_reads 52 = .ok (.aload_n 0, 1) := by decide +kernel
theorem dX9_reads_53 : decode cX9_reads 53 = .ok (.iload_n 2, 1) := by decide +kernel
theorem dX9_reads_54 : decode cX9_reads 54 = .ok (.invokevirtual 101, 3) := by decide +kernel
theorem dX9_reads_57 : decode cX9_reads 57 = .ok (.ifCond .eq 14, 3) := by decide +kernel
theorem dX9_reads_60 : decode cX9_reads 60 = .ok (.iload_n 3, 1) := by decide +kernel
theorem dX9_reads_61 : decode cX9_reads 61 = .ok (.aload_n 0, 1) := by decide +kernel
theorem dX9_reads_62 : decode cX9_reads 62 = .ok (.iload_n 2, 1) := by decide +kernel
theorem dX9_reads_63 : decode cX9_reads 63 = .ok (.bipush 6, 2) := by decide +kernel
theorem dX9_reads_65 : decode cX9_reads 65 = .ok (.invokevirtual 97, 3) := by decide +kernel
theorem dX9_reads_68 : decode cX9_reads 68 = .ok (.if_icmp .eq 5, 3) := by decide +kernel
theorem dX9_reads_71 : decode cX9_reads 71 = .ok (.iload_n 2, 1) := by decide +kernel
theorem dX9_reads_72 : decode cX9_reads 72 = .ok (.ireturn, 1) := by decide +kernel
theorem dX9_reads_73 : decode cX9_reads 73 = .ok (.iinc 2 1, 3) := by decide +kernel
theorem dX9_reads_76 : decode cX9_reads 76 = .ok (.goto (-52), 3) := by decide +kernel
theorem dX9_reads_79 : decode cX9_reads 79 = .ok (.ldc 180, 2) := by decide +kernel
theorem dX9_reads_81 : decode cX9_reads 81 = .ok (.ireturn, 1) := by decide +kernel
def f_X9_reads_73 (fu : Nat) (k_24 : Int32 → Int32 → Mem → Option (Int32 × Mem)) (x1 : Int32) (x2 : Int32) (m : Mem) : Option (Int32 × Mem) := seqM (x2 + 1) (fun x_1 : Int32 => k_24 x1 x_1 m)
set_option maxHeartbeats 4000000 in
set_option maxRecDepth 100000 in
theorem w_X9_reads_73 {X : TX} {p : Program} {l : Launch} {e : Env} {s : State} {mi : MethodId} {args : Array Value} {below : List Frame} {meth : Method} {c : Code} {Q : State → Prop} {r : Int32} {mE : Mem} (C : Cx X p s mi args c RX9 cX9_reads 4) (hq : RetI X p l e (rmD 2) s mi args below meth c cX9_reads .int Q r mE) {fu : Nat} {k_24 : Int32 → Int32 → Mem → Option (Int32 × Mem)} (hk_24 : ∀ {x1 : Int32} {x2 : Int32} {m : Mem} {H : Heap} {locs : List Loc} {ls : Array Slot}, k_24 x1 x2 m = some (r, mE) → Wd X s m H locs → lv_has ls 4 [(0, .ref (ad X 20 0)), (1, .int x1), (2, .int x2)] → W p l e (rmD 2) s mi args below meth c H locs 0 0 Q (F0 mi 24 ls [])) {x1 : Int32} {x2 : Int32} {m : Mem} {H : Heap} {locs : List Loc} {ls : Array Slot} (h : f_X9_reads_73 fu k_24 x1 x2 m = some (r, mE))  (hW : Wd X s m H locs) (hl : lv_has ls 4 [(0, .ref (ad X 20 0)), (1, .int x1), (2, .int x2)]) : W p l e (rmD 2) s mi args below meth c H locs 0 0 Q (F0 mi 73 ls []) := by
  unfold f_X9_reads_73 at h
  obtain ⟨x_1, e_2, h⟩ := seqM_E h
  refine lv_iinc (v := x_1) (lv' := [(2, .int x_1), (0, .ref (ad X 20 0)), (1, .int x1)]) C.1 C.2.1 dX9_reads_73 hl (k := 2) rfl (by rw [e_2]; rfl) (by decide) rfl (fun ls hl => ?_)
  refine lv_goto (tgt := 24) C.1 C.2.1 dX9_reads_76 (by decide) ?_
  exact hk_24 h  hW (lv_sub hl [1, 2, 0] rfl)
def f_X9_reads_24 (fu : Nat)  : Nat → Int32 → Int32 → Mem → Option (Int32 × Mem)
  | 0, _, _, _ => none
  | n + 1, x1, x2, m => chk (inb x1 4) (if (m (3820 + x1.toNatClampNeg)) ≤ x2 then (some ((-1000000005), m)) else (chk (inb ((24 * x1) + x2) 96) (seqM (m (3830 + ((24 * x1) + x2).toNatClampNeg)) (fun x_3 : Int32 => if x_3 = (-1000000005) then (f_X9_reads_73 fu (f_X9_reads_24 fu n) x1 x2 m) else (doI (f_X9_isVoice fu x2 m) (fun r_7 m_6 => if r_7 = 0 then (some (x2, m_6)) else (doI (f_X9_of fu x2 6 m_6) (fun r_10 m_9 => if x_3 = r_10 then (f_X9_reads_73 fu (f_X9_reads_24 fu n) x1 x2 m_9) else (some (x2, m_9))))))))))
set_option maxHeartbeats 4000000 in
set_option maxRecDepth 100000 in
theorem w_X9_reads_24 {X : TX} {p : Program} {l : Launch} {e : Env} {s : State} {mi : MethodId} {args : Array Value} {below : List Frame} {meth : Method} {c : Code} {Q : State → Prop} {r : Int32} {mE : Mem} (C : Cx X p s mi args c RX9 cX9_reads 4) (hq : RetI X p l e (rmD 2) s mi args below meth c cX9_reads .int Q r mE) {fu : Nat} : ∀ (n : Nat) {x1 : Int32} {x2 : Int32} {m : Mem} {H : Heap} {locs : List Loc} {ls : Array Slot}, f_X9_reads_24 fu n x1 x2 m = some (r, mE) → Wd X s m H locs → lv_has ls 4 [(0, .ref (ad X 20 0)), (1, .int x1), (2, .int x2)] → W p l e (rmD 2) s mi args below meth c H locs 0 0 Q (F0 mi 24 ls []) := by
  intro n
  induction n with
  | zero =>
    intro x1 x2 m H locs ls h hW hl
    rw [f_X9_reads_24] at h
    cases h
  | succ n ih =>
    intro x1 x2 m H locs ls h hW hl
    rw [f_X9_reads_24] at h
    refine lv_iload_n C.1 C.2.1 dX9_reads_24 rfl (lv_at hl 2 rfl) ?_
    refine lv_aload_n C.1 C.2.1 dX9_reads_25 rfl (lv_at hl 0 rfl) ?_
    refine zg_X9_sizes C hW id_20 w_1030 dX9_reads_26 ?_
    refine lv_iload_n C.1 C.2.1 dX9_reads_29 rfl (lv_at hl 1 rfl) ?_
    obtain ⟨hb_1, h⟩ := chk_E h
    refine zal_33 C hW id_33 (inb_E hb_1) dX9_reads_30 ?_
    refine lv_icmp_ge (tgt := 79) C.1 C.2.1 dX9_reads_31 (by decide) (fun hc_14 => ?_) (fun hc_14 => ?_)
    · have h := ite_t hc_14 h
      refine lv_ldc C.1 C.2.1 C.2.2.2.1 (C.2.2.2.2.1 _ w_1284) dX9_reads_79 ?_
      exact ret_i h hq rfl hW dX9_reads_81
    · have h := ite_f hc_14 h
      refine lv_aload_n C.1 C.2.1 dX9_reads_34 rfl (lv_at hl 0 rfl) ?_
      refine zg_X9_cells C hW id_20 w_1031 dX9_reads_35 ?_
      refine lv_bipush (v := 24) C.1 C.2.1 dX9_reads_38 rfl ?_
      refine lv_iload_n C.1 C.2.1 dX9_reads_40 rfl (lv_at hl 1 rfl) ?_
      refine lv_imul C.1 C.2.1 dX9_reads_41 ?_
      refine lv_iload_n C.1 C.2.1 dX9_reads_42 rfl (lv_at hl 2 rfl) ?_
      refine lv_iadd C.1 C.2.1 dX9_reads_43 ?_
      obtain ⟨hb_2, h⟩ := chk_E h
      refine zal_34 C hW id_34 (inb_E hb_2) dX9_reads_44 ?_
      obtain ⟨x_3, e_4, h⟩ := seqM_E h
      refine lv_name e_4 ?_
      refine lv_istore_n (lv' := [(3, .int x_3), (0, .ref (ad X 20 0)), (1, .int x1), (2, .int x2)]) C.1 C.2.1 dX9_reads_45 rfl hl (by decide) rfl (fun ls hl => ?_)
      refine lv_iload_n C.1 C.2.1 dX9_reads_46 rfl (lv_at hl 0 rfl) ?_
      refine lv_ldc C.1 C.2.1 C.2.2.2.1 (C.2.2.2.2.1 _ w_1284) dX9_reads_47 ?_
      refine lv_icmp_eq (tgt := 73) C.1 C.2.1 dX9_reads_49 (by decide) (fun hc_13 => ?_) (fun hc_13 => ?_)
      · have h := ite_t hc_13 h
        exact w_X9_reads_73 C hq ih h  hW (lv_sub hl [1, 2, 3] rfl)
      · have h := ite_f hc_13 h
        refine lv_aload_n C.1 C.2.1 dX9_reads_52 rfl (lv_at hl 1 rfl) ?_
        refine lv_iload_n C.1 C.2.1 dX9_reads_53 rfl (lv_at hl 3 rfl) ?_
        obtain ⟨r_7, m_6, hc_5, h⟩ := doI_E h
        refine zr_cVI C hW (c_X9_isVoice (x1 := x2) hc_5 ) k_X9_isVoice (zr_recv C hW id_20 zco_20 rfl) w_1137 ⟨Nat.le_of_ble_eq_true rfl, Nat.le_of_ble_eq_true rfl⟩ ⟨Nat.le_refl 0, Nat.le_refl 0⟩ rfl hl.1 rfl (Nat.le_of_ble_eq_true rfl) dX9_reads_54 (fun H locs hW => ?_)
        refine lv_if_eq (tgt := 71) C.1 C.2.1 dX9_reads_57 (by decide) (fun hc_12 => ?_) (fun hc_12 => ?_)
        · have h := ite_t hc_12 h
          refine lv_iload_n C.1 C.2.1 dX9_reads_71 rfl (lv_at hl 3 rfl) ?_
          exact ret_i h hq rfl hW dX9_reads_72
        · have h := ite_f hc_12 h
          refine lv_iload_n C.1 C.2.1 dX9_reads_60 rfl (lv_at hl 0 rfl) ?_
          refine lv_aload_n C.1 C.2.1 dX9_reads_61 rfl (lv_at hl 1 rfl) ?_
          refine lv_iload_n C.1 C.2.1 dX9_reads_62 rfl (lv_at hl 3 rfl) ?_
          refine lv_bipush (v := 6) C.1 C.2.1 dX9_reads_63 rfl ?_
          obtain ⟨r_10, m_9, hc_8, h⟩ := doI_E h
          refine zr_cVI C hW (c_X9_of (x1 := x2) (x2 := 6) hc_8 ) k_X9_of (zr_recv C hW id_20 zco_20 rfl) w_1141 ⟨Nat.le_of_ble_eq_true rfl, Nat.le_of_ble_eq_true rfl⟩ ⟨Nat.le_refl 0, Nat.le_refl 0⟩ rfl hl.1 rfl (Nat.le_of_ble_eq_true rfl) dX9_reads_65 (fun H locs hW => ?_)
          refine lv_icmp_eq (tgt := 73) C.1 C.2.1 dX9_reads_68 (by decide) (fun hc_11 => ?_) (fun hc_11 => ?_)
          · have h := ite_t hc_11 h
            exact w_X9_reads_73 C hq ih h  hW (lv_sub hl [1, 2, 3] rfl)
          · have h := ite_f hc_11 h
            refine lv_iload_n C.1 C.2.1 dX9_reads_71 rfl (lv_at hl 3 rfl) ?_
            exact ret_i h hq rfl hW dX9_reads_72
def f_X9_reads (fu : Nat)  (x1 : Int32) (m : Mem) : Option (Int32 × Mem) := doI (f_X9_isSheet fu x1 m) (fun r_3 m_2 => if r_3 = 0 then (some ((-1000000001), m_2)) else (chk (inb x1 4) (if 0 ≤ (m_2 (3810 + x1.toNatClampNeg)) then (f_X9_reads_24 fu fu x1 0 m_2) else (some ((-1000000011), m_2)))))
set_option maxHeartbeats 4000000 in
set_option maxRecDepth 100000 in
theorem w_X9_reads {X : TX} {p : Program} {l : Launch} {e : Env} {s : State} {mi : MethodId} {args : Array Value} {below : List Frame} {meth : Method} {c : Code} {Q : State → Prop} {r : Int32} {mE : Mem} (C : Cx X p s mi args c RX9 cX9_reads 4) (hq : RetI X p l e (rmD 2) s mi args below meth c cX9_reads .int Q r mE) {fu : Nat} {x1 : Int32} {m : Mem} {H : Heap} {locs : List Loc} {ls : Array Slot} (h : f_X9_reads fu x1 m = some (r, mE))  (hW : Wd X s m H locs) (hl : lv_has ls 4 [(0, .ref (ad X 20 0)), (1, .int x1)]) : W p l e (rmD 2) s mi args below meth c H locs 0 0 Q (F0 mi 0 ls []) := by
  unfold f_X9_reads at h
  refine lv_iload_n C.1 C.2.1 dX9_reads_0 rfl (lv_at hl 1 rfl) ?_
  obtain ⟨r_3, m_2, hc_1, h⟩ := doI_E h
  refine zr_cSI C hW (c_X9_isSheet (x0 := x1) hc_1 ) k_X9_isSheet w_1320 ⟨Nat.le_of_ble_eq_true rfl, Nat.le_of_ble_eq_true rfl⟩ ⟨Nat.le_refl 0, Nat.le_refl 0⟩ rfl hl.1 rfl (Nat.le_of_ble_eq_true rfl) dX9_reads_1 (fun H locs hW => ?_)
  refine lv_if_ne (tgt := 10) C.1 C.2.1 dX9_reads_4 (by decide) (fun hc_6 => ?_) (fun hc_6 => ?_)
  · have h := ite_f hc_6 h
    refine lv_aload_n C.1 C.2.1 dX9_reads_10 rfl (lv_at hl 0 rfl) ?_
    refine zg_X9_sorts C hW id_20 w_1029 dX9_reads_11 ?_
    refine lv_iload_n C.1 C.2.1 dX9_reads_14 rfl (lv_at hl 1 rfl) ?_
    obtain ⟨hb_4, h⟩ := chk_E h
    refine zal_32 C hW id_32 (inb_E hb_4) dX9_reads_15 ?_
    refine lv_if_ge (tgt := 22) C.1 C.2.1 dX9_reads_16 (by decide) (fun hc_5 => ?_) (fun hc_5 => ?_)
    · have h := ite_t hc_5 h
      refine lv_iconst (v := 0) C.1 C.2.1 dX9_reads_22 rfl ?_
      refine lv_istore_n (lv' := [(2, .int 0), (0, .ref (ad X 20 0)), (1, .int x1)]) C.1 C.2.1 dX9_reads_23 rfl hl (by decide) rfl (fun ls hl => ?_)
      exact w_X9_reads_24 C hq  fu h  hW (lv_sub hl [1, 2, 0] rfl)
    · have h := ite_f hc_5 h
      refine lv_ldc C.1 C.2.1 C.2.2.2.1 (C.2.2.2.2.1 _ w_1323) dX9_reads_19 ?_
      exact ret_i h hq rfl hW dX9_reads_21
  · have h := ite_t hc_6 h
    refine lv_ldc C.1 C.2.1 C.2.2.2.1 (C.2.2.2.2.1 _ w_1123) dX9_reads_7 ?_
    exact ret_i h hq rfl hW dX9_reads_9
theorem c_X9_reads {X : TX} {l : Launch} {fu : Nat} {x1 : Int32} {m mE : Mem} {r : Int32} (h : f_X9_reads fu x1 m = some (r, mE))  : MetI X l yX9_reads cX9_reads 4 .int 2 [.ref (ad X 20 0), .int x1] m r mE :=
  met_I (by decide) (Nat.le_of_ble_eq_true rfl) (fun p e s mi args below meth c ls Q C hq hW hl => w_X9_reads C hq h  hW (lv_sub hl [0, 1] rfl))
theorem k_X9_reads : CalV yX9_reads cX9_reads 4 (some .int) RX9 1 := ⟨w_1412, w_1413, w_70, w_1414, by decide +kernel⟩
